/-! methods, walked -/
def l_338 : List Nat := [21504, 21248]
theorem s_338 {L : Nat} {ρ : Nat → Int} {rc : eQ} {d : Nat} {f : eFr} {F : List eFr} {μ : eM} {g : Nat → Nat} {a0 : Nat} {a1 : Int} (hI : SI g μ) (gA0 : g a0 = 52) (bA1 : 0 ≤ a1 ∧ a1 ≤ 23) (K : ∀ (μ2 : eM) (v : Int), SI g μ2 → Fr l_338 0 0 g μ μ2 → (-2147483648 ≤ v ∧ v ≤ 2147483647) → ex_q (dt_fg L ρ) rc (d + 4, (f.1, f.2.1, f.2.2.1, eI v :: f.2.2.2), F, μ2)) : ex_q (dt_fg L ρ) rc (d + 3, (338, 0, [some (eR a0), some (eI (a1)), none, none, none, none], []), f :: F, μ) := by
  have F0 : Fr l_338 0 0 g μ μ := Fr.r
  refine w_t (np := 1) (l2 := [some (eR a0), some (eI (a1)), none, none, none, none]) (s2 := [eR a0]) rfl (s_an rfl (pos_g hI gA0 (by decide))) rfl ?_
  refine w_t (np := 2) (l2 := [some (eR a0), some (eI (a1)), none, none, none, none]) (s2 := [eI (a1), eR a0]) rfl rfl rfl ?_
  refine w_t (np := 3) (l2 := [some (eR a0), some (eI (a1)), none, none, none, none]) (s2 := [eR a0, eI (a1), eR a0]) rfl (s_an rfl (pos_g hI gA0 (by decide))) rfl ?_
  refine j_gr (np := 6) rfl rfl hI gA0 (by decide) (n := 69) rfl rfl rfl ?_
  intro v1 e2 b3 z4
  have b3 : g v1 = 83 := Nat.eq_of_beq_eq_true b3
  refine w_cw (np := 9) (as := [eI (a1), eR v1]) (l2 := [some (eR a0), some (eI (a1)), some (eR v1), none, none, none, none]) (rest := []) rfl rfl rfl (Nat.ble_eq.mp rfl) rfl rfl rfl (hI.kd gA0 (by decide) (n := 69) rfl) rfl ?_
  refine s_302 (a1 := a1) hI gA0 (by omega) b3 ?_
  intro m5 I6 F7
  have F8 : Fr l_338 0 0 g μ m5 := F0.t F7 rfl
  show ex_q (dt_fg L ρ) rc (d + 3, (338, 9, [some (eR a0), some (eI (a1)), none, none, none, none], []), f :: F, m5)
  refine w_t (np := 10) (l2 := [some (eR a0), some (eI (a1)), none, none, none, none]) (s2 := [eI (0)]) rfl rfl rfl ?_
  refine w_t (np := 11) (l2 := [some (eR a0), some (eI (a1)), some (eI (0)), none, none, none]) (s2 := []) rfl rfl rfl ?_
  refine w_t (np := 12) (l2 := [some (eR a0), some (eI (a1)), some (eI (0)), none, none, none]) (s2 := [eI (0)]) rfl rfl rfl ?_
  refine w_t (np := 13) (l2 := [some (eR a0), some (eI (a1)), some (eI (0)), some (eI (0)), none, none]) (s2 := []) rfl rfl rfl ?_
  have hL13 : ∀ (n9 : Nat) (m17 : eM) (i11 : Int) (i13 : Int) (o15 : Option eV) (o16 : Option eV), SI g m17 → Fr l_338 0 0 g μ m17 → (-2147483648 ≤ i11 ∧ i11 ≤ 2147483647) → (0 ≤ i13 ∧ i13 ≤ 4) → m17.1 a0 47 = ((v1 : Nat) : Int) → n9 = (4 - i13).toNat → ex_q (dt_fg L ρ) rc (d + 3, (338, 13, [some (eR a0), some (eI (a1)), some (eI (i11)), some (eI (i13)), o15, o16], []), f :: F, m17) := by
    intro n9
    induction n9 using Nat.strongRecOn with
    | _ n9 ih10 =>
    intro m17 i11 i13 o15 o16 I18 F19 b12 b14 k20 hn21
    refine w_t (np := 14) (l2 := [some (eR a0), some (eI (a1)), some (eI (i11)), some (eI (i13)), o15, o16]) (s2 := [eI (i13)]) rfl rfl rfl ?_
    refine w_t (np := 15) (l2 := [some (eR a0), some (eI (a1)), some (eI (i11)), some (eI (i13)), o15, o16]) (s2 := [eI (4), eI (i13)]) rfl rfl rfl ?_
    refine b_cge (t1 := 124) (t2 := 18) rfl rfl rfl (ev_w_in (by omega) (by omega)) rfl (fun g22 => ?_) (fun g22 => ?_)
    · have b23 : 4 ≤ i13 ∧ i13 ≤ 4 := by omega
      refine w_t (np := 125) (l2 := [some (eR a0), some (eI (a1)), some (eI (i11)), some (eI (i13)), o15, o16]) (s2 := [eI (i11)]) rfl rfl rfl ?_
      exact b_ri rfl rfl (K m17 (i11) I18 F19 (by omega))
    · have b23 : 0 ≤ i13 ∧ i13 ≤ 3 := by omega
      refine w_t (np := 19) (l2 := [some (eR a0), some (eI (a1)), some (eI (i11)), some (eI (i13)), o15, o16]) (s2 := [eI (0)]) rfl rfl rfl ?_
      refine w_t (np := 21) (l2 := [some (eR a0), some (eI (a1)), some (eI (i11)), some (eI (i13)), some (eI (0)), o16]) (s2 := []) rfl rfl rfl ?_
      refine w_t (np := 22) (l2 := [some (eR a0), some (eI (a1)), some (eI (i11)), some (eI (i13)), some (eI (0)), o16]) (s2 := [eI (0)]) rfl rfl rfl ?_
      refine w_t (np := 24) (l2 := [some (eR a0), some (eI (a1)), some (eI (i11)), some (eI (i13)), some (eI (0)), some (eI (0))]) (s2 := []) rfl rfl rfl ?_
      have hL24 : ∀ (n23 : Nat) (m29 : eM) (i25 : Int) (i27 : Int), SI g m29 → Fr l_338 0 0 g μ m29 → (0 ≤ i25 ∧ i25 ≤ 1) → (0 ≤ i27 ∧ i27 ≤ 24) → m29.1 a0 47 = ((v1 : Nat) : Int) → n23 = (24 - i27).toNat → ex_q (dt_fg L ρ) rc (d + 3, (338, 24, [some (eR a0), some (eI (a1)), some (eI (i11)), some (eI (i13)), some (eI (i25)), some (eI (i27))], []), f :: F, m29) := by
        intro n23
        induction n23 using Nat.strongRecOn with
        | _ n23 ih24 =>
        intro m29 i25 i27 I30 F31 b26 b28 k32 hn33
        refine w_t (np := 26) (l2 := [some (eR a0), some (eI (a1)), some (eI (i11)), some (eI (i13)), some (eI (i25)), some (eI (i27))]) (s2 := [eI (i27)]) rfl rfl rfl ?_
        refine w_t (np := 27) (l2 := [some (eR a0), some (eI (a1)), some (eI (i11)), some (eI (i13)), some (eI (i25)), some (eI (i27))]) (s2 := [eR a0, eI (i27)]) rfl (s_an rfl (pos_g I30 gA0 (by decide))) rfl ?_
        refine j_gi (np := 30) rfl rfl rfl I30 gA0 (by decide) (n := 69) rfl rfl (lo := 0) (hi := 24) rfl ?_
        intro v34 e35 b36
        refine b_cge (t1 := 105) (t2 := 33) rfl rfl rfl (ev_w_in (by omega) (by omega)) (ev_w_in (by omega) (by omega)) (fun g37 => ?_) (fun g37 => ?_)
        · refine w_t (np := 106) (l2 := [some (eR a0), some (eI (a1)), some (eI (i11)), some (eI (i13)), some (eI (i25)), some (eI (i27))]) (s2 := [eI (i11)]) rfl rfl rfl ?_
          refine w_t (np := 108) (l2 := [some (eR a0), some (eI (a1)), some (eI (i11)), some (eI (i13)), some (eI (i25)), some (eI (i27))]) (s2 := [eI (i25), eI (i11)]) rfl rfl rfl ?_
          refine b_ieq (t1 := 115) (t2 := 111) rfl rfl rfl (ev_w_in (by omega) (by omega)) (fun g38 => ?_) (fun g38 => ?_)
          · have b39 : 0 ≤ i25 ∧ i25 ≤ 0 := by omega
            refine w_t (np := 116) (l2 := [some (eR a0), some (eI (a1)), some (eI (i11)), some (eI (i13)), some (eI (i25)), some (eI (i27))]) (s2 := [eI (0), eI (i11)]) rfl rfl rfl ?_
            refine w_t (np := 117) (l2 := [some (eR a0), some (eI (a1)), some (eI (i11)), some (eI (i13)), some (eI (i25)), some (eI (i27))]) (s2 := [eI (i11)]) rfl (b_iadd (by rw [Int.add_zero]; exact ev_w_in (by omega) (by omega))) rfl ?_
            refine w_t (np := 118) (l2 := [some (eR a0), some (eI (a1)), some (eI (i11)), some (eI (i13)), some (eI (i25)), some (eI (i27))]) (s2 := []) rfl rfl rfl ?_
            obtain ⟨v39, e40⟩ : ∃ zz : Int, zz = (i13) + (1) := ⟨_, rfl⟩
            have b41 : 1 ≤ v39 ∧ v39 ≤ 4 := by omega
            refine w_t (np := 121) (l2 := [some (eR a0), some (eI (a1)), some (eI (i11)), some (eI (v39)), some (eI (i25)), some (eI (i27))]) (s2 := []) rfl (b_iinc rfl (by rw [← e40]; exact ev_w_in (by omega) (by omega)) rfl) rfl ?_
            refine w_go (t1 := 13) rfl rfl ?_
            exact ih10 (4 - (v39)).toNat (by omega) m29 (i11) (v39) (some (eI (i25))) (some (eI (i27))) I30 F31 (by omega) (by omega) k32    rfl
          · have b39 : 1 ≤ i25 ∧ i25 ≤ 1 := by omega
            refine w_t (np := 112) (l2 := [some (eR a0), some (eI (a1)), some (eI (i11)), some (eI (i13)), some (eI (i25)), some (eI (i27))]) (s2 := [eI (1), eI (i11)]) rfl rfl rfl ?_
            refine w_go (t1 := 116) rfl rfl ?_
            obtain ⟨v39, e40, b41⟩ : ∃ zz : Int, ev_w ((i11) + (1)) = zz ∧ (-2147483648 ≤ zz ∧ zz ≤ 2147483647) := ⟨_, rfl, hw_bd _⟩
            refine w_t (np := 117) (l2 := [some (eR a0), some (eI (a1)), some (eI (i11)), some (eI (i13)), some (eI (i25)), some (eI (i27))]) (s2 := [eI (v39)]) rfl (b_iadd e40) rfl ?_
            refine w_t (np := 118) (l2 := [some (eR a0), some (eI (a1)), some (eI (v39)), some (eI (i13)), some (eI (i25)), some (eI (i27))]) (s2 := []) rfl rfl rfl ?_
            obtain ⟨v42, e43⟩ : ∃ zz : Int, zz = (i13) + (1) := ⟨_, rfl⟩
            have b44 : 1 ≤ v42 ∧ v42 ≤ 4 := by omega
            refine w_t (np := 121) (l2 := [some (eR a0), some (eI (a1)), some (eI (v39)), some (eI (v42)), some (eI (i25)), some (eI (i27))]) (s2 := []) rfl (b_iinc rfl (by rw [← e43]; exact ev_w_in (by omega) (by omega)) rfl) rfl ?_
            refine w_go (t1 := 13) rfl rfl ?_
            exact ih10 (4 - (v42)).toNat (by omega) m29 (v39) (v42) (some (eI (i25))) (some (eI (i27))) I30 F31 (by omega) (by omega) k32    rfl
        · have b38 : 0 ≤ i27 ∧ i27 ≤ 23 := by omega
          have b39 : 1 ≤ v34 ∧ v34 ≤ 24 := by omega
          refine w_t (np := 35) (l2 := [some (eR a0), some (eI (a1)), some (eI (i11)), some (eI (i13)), some (eI (i25)), some (eI (i27))]) (s2 := [eI (i25)]) rfl rfl rfl ?_
          refine b_ine (t1 := 105) (t2 := 38) rfl rfl rfl (ev_w_in (by omega) (by omega)) (fun g38 => ?_) (fun g38 => ?_)
          · have b39 : 1 ≤ i25 ∧ i25 ≤ 1 := by omega
            refine w_t (np := 106) (l2 := [some (eR a0), some (eI (a1)), some (eI (i11)), some (eI (i13)), some (eI (i25)), some (eI (i27))]) (s2 := [eI (i11)]) rfl rfl rfl ?_
            refine w_t (np := 108) (l2 := [some (eR a0), some (eI (a1)), some (eI (i11)), some (eI (i13)), some (eI (i25)), some (eI (i27))]) (s2 := [eI (i25), eI (i11)]) rfl rfl rfl ?_
            refine b_ieq (t1 := 115) (t2 := 111) rfl rfl rfl (ev_w_in (by omega) (by omega)) (fun g39 => False.elim (by omega)) (fun g39 => ?_)
            refine w_t (np := 112) (l2 := [some (eR a0), some (eI (a1)), some (eI (i11)), some (eI (i13)), some (eI (i25)), some (eI (i27))]) (s2 := [eI (1), eI (i11)]) rfl rfl rfl ?_
            refine w_go (t1 := 116) rfl rfl ?_
            obtain ⟨v40, e41, b42⟩ : ∃ zz : Int, ev_w ((i11) + (1)) = zz ∧ (-2147483648 ≤ zz ∧ zz ≤ 2147483647) := ⟨_, rfl, hw_bd _⟩
            refine w_t (np := 117) (l2 := [some (eR a0), some (eI (a1)), some (eI (i11)), some (eI (i13)), some (eI (i25)), some (eI (i27))]) (s2 := [eI (v40)]) rfl (b_iadd e41) rfl ?_
            refine w_t (np := 118) (l2 := [some (eR a0), some (eI (a1)), some (eI (v40)), some (eI (i13)), some (eI (i25)), some (eI (i27))]) (s2 := []) rfl rfl rfl ?_
            obtain ⟨v43, e44⟩ : ∃ zz : Int, zz = (i13) + (1) := ⟨_, rfl⟩
            have b45 : 1 ≤ v43 ∧ v43 ≤ 4 := by omega
            refine w_t (np := 121) (l2 := [some (eR a0), some (eI (a1)), some (eI (v40)), some (eI (v43)), some (eI (i25)), some (eI (i27))]) (s2 := []) rfl (b_iinc rfl (by rw [← e44]; exact ev_w_in (by omega) (by omega)) rfl) rfl ?_
            refine w_go (t1 := 13) rfl rfl ?_
            exact ih10 (4 - (v43)).toNat (by omega) m29 (v40) (v43) (some (eI (i25))) (some (eI (i27))) I30 F31 (by omega) (by omega) k32    rfl
          · have b39 : 0 ≤ i25 ∧ i25 ≤ 0 := by omega
            refine w_t (np := 40) (l2 := [some (eR a0), some (eI (a1)), some (eI (i11)), some (eI (i13)), some (eI (i25)), some (eI (i27))]) (s2 := [eI (i27)]) rfl rfl rfl ?_
            refine w_t (np := 41) (l2 := [some (eR a0), some (eI (a1)), some (eI (i11)), some (eI (i13)), some (eI (i25)), some (eI (i27))]) (s2 := [eI (a1), eI (i27)]) rfl rfl rfl ?_
            refine b_cne (t1 := 47) (t2 := 44) rfl rfl rfl (ev_w_in (by omega) (by omega)) (ev_w_in (by omega) (by omega)) (fun g39 => ?_) (fun g39 => ?_)
            · refine w_t (np := 48) (l2 := [some (eR a0), some (eI (a1)), some (eI (i11)), some (eI (i13)), some (eI (i25)), some (eI (i27))]) (s2 := [eR a0]) rfl (s_an rfl (pos_g I30 gA0 (by decide))) rfl ?_
              refine w_t (np := 50) (l2 := [some (eR a0), some (eI (a1)), some (eI (i11)), some (eI (i13)), some (eI (i25)), some (eI (i27))]) (s2 := [eI (i27), eR a0]) rfl rfl rfl ?_
              refine w_t (np := 51) (l2 := [some (eR a0), some (eI (a1)), some (eI (i11)), some (eI (i13)), some (eI (i25)), some (eI (i27))]) (s2 := [eR a0, eI (i27), eR a0]) rfl (s_an rfl (pos_g I30 gA0 (by decide))) rfl ?_
              refine j_gr (np := 54) rfl rfl I30 gA0 (by decide) (n := 69) rfl rfl rfl ?_
              intro v40 e41 b42 z43
              have b42 : g v40 = 84 := Nat.eq_of_beq_eq_true b42
              refine w_cw (np := 57) (as := [eI (i27), eR v40]) (l2 := [some (eR a0), some (eI (i27)), some (eR v40), none, none, none, none]) (rest := []) rfl rfl rfl (Nat.ble_eq.mp rfl) rfl rfl rfl (I30.kd gA0 (by decide) (n := 69) rfl) rfl ?_
              refine s_302_2 (a1 := i27) I30 gA0 (by omega) b42 ?_
              intro m44 I45 F46
              have F47 : Fr l_338 0 0 g μ m44 := F31.t F46 rfl
              show ex_q (dt_fg L ρ) rc (d + 3, (338, 57, [some (eR a0), some (eI (a1)), some (eI (i11)), some (eI (i13)), some (eI (i25)), some (eI (i27))], []), f :: F, m44)
              refine w_t (np := 58) (l2 := [some (eR a0), some (eI (a1)), some (eI (i11)), some (eI (i13)), some (eI (i25)), some (eI (i27))]) (s2 := [eR a0]) rfl (s_an rfl (pos_g I45 gA0 (by decide))) rfl ?_
              refine w_t (np := 59) (l2 := [some (eR a0), some (eI (a1)), some (eI (i11)), some (eI (i13)), some (eI (i25)), some (eI (i27))]) (s2 := [eR a0, eR a0]) rfl (s_an rfl (pos_g I45 gA0 (by decide))) rfl ?_
              refine j_gr (np := 62) rfl rfl I45 gA0 (by decide) (n := 69) rfl rfl rfl ?_
              intro v48 e49 b50 z51
              have b50 : g v48 = 79 := Nat.eq_of_beq_eq_true b50
              refine w_t (np := 64) (l2 := [some (eR a0), some (eI (a1)), some (eI (i11)), some (eI (i13)), some (eI (i25)), some (eI (i27))]) (s2 := [eI (7), eR v48, eR a0]) rfl rfl rfl ?_
              refine w_t (np := 65) (l2 := [some (eR a0), some (eI (a1)), some (eI (i11)), some (eI (i13)), some (eI (i25)), some (eI (i27))]) (s2 := [eI (a1), eI (7), eR v48, eR a0]) rfl rfl rfl ?_
              obtain ⟨v52, e53⟩ : ∃ zz : Int, zz = (7) * (a1) := ⟨_, rfl⟩
              have b54 : 0 ≤ v52 ∧ v52 ≤ 161 := by omega
              refine w_t (np := 66) (l2 := [some (eR a0), some (eI (a1)), some (eI (i11)), some (eI (i13)), some (eI (i25)), some (eI (i27))]) (s2 := [eI (v52), eR v48, eR a0]) rfl (b_imul (by rw [← e53]; exact ev_w_in (by omega) (by omega))) rfl ?_
              refine j_al (np := 67) rfl rfl I45 b50 (by decide) (n := 168) rfl rfl (lo := -2147483648) (hi := 2147483647) (fun _ => rfl) (by omega) (by omega) ?_
              intro v55 e56 b57
              refine w_t (np := 68) (l2 := [some (eR a0), some (eI (a1)), some (eI (i11)), some (eI (i13)), some (eI (i25)), some (eI (i27))]) (s2 := [eR a0, eI (v55), eR a0]) rfl (s_an rfl (pos_g I45 gA0 (by decide))) rfl ?_
              refine w_gf (np := 71) (v := eR v1) rfl rfl (I45.kd gA0 (by decide) (n := 69) rfl) (by rw [(F46.k k32 gA0 (by decide) rfl)]; rfl) ?_
              refine w_t (np := 72) (l2 := [some (eR a0), some (eI (a1)), some (eI (i11)), some (eI (i13)), some (eI (i25)), some (eI (i27))]) (s2 := [eI (i13), eR v1, eI (v55), eR a0]) rfl rfl rfl ?_
              refine w_t (np := 73) (l2 := [some (eR a0), some (eI (a1)), some (eI (i11)), some (eI (i13)), some (eI (i25)), some (eI (i27))]) (s2 := [eR a0, eI (i13), eR v1, eI (v55), eR a0]) rfl (s_an rfl (pos_g I45 gA0 (by decide))) rfl ?_
              refine w_gf (np := 76) (v := eR v48) rfl rfl (I45.kd gA0 (by decide) (n := 69) rfl) (by rw [e49]; rfl) ?_
              refine w_t (np := 78) (l2 := [some (eR a0), some (eI (a1)), some (eI (i11)), some (eI (i13)), some (eI (i25)), some (eI (i27))]) (s2 := [eI (7), eR v48, eI (i13), eR v1, eI (v55), eR a0]) rfl rfl rfl ?_
              refine w_t (np := 80) (l2 := [some (eR a0), some (eI (a1)), some (eI (i11)), some (eI (i13)), some (eI (i25)), some (eI (i27))]) (s2 := [eI (i27), eI (7), eR v48, eI (i13), eR v1, eI (v55), eR a0]) rfl rfl rfl ?_
              obtain ⟨v58, e59⟩ : ∃ zz : Int, zz = (7) * (i27) := ⟨_, rfl⟩
              have b60 : 0 ≤ v58 ∧ v58 ≤ 161 := by omega
              refine w_t (np := 81) (l2 := [some (eR a0), some (eI (a1)), some (eI (i11)), some (eI (i13)), some (eI (i25)), some (eI (i27))]) (s2 := [eI (v58), eR v48, eI (i13), eR v1, eI (v55), eR a0]) rfl (b_imul (by rw [← e59]; exact ev_w_in (by omega) (by omega))) rfl ?_
              refine j_al (np := 82) rfl rfl I45 b50 (by decide) (n := 168) rfl rfl (lo := -2147483648) (hi := 2147483647) (fun _ => rfl) (by omega) (by omega) ?_
              intro v61 e62 b63
              refine w_t (np := 83) (l2 := [some (eR a0), some (eI (a1)), some (eI (i11)), some (eI (i13)), some (eI (i25)), some (eI (i27))]) (s2 := [eR a0, eI (v61), eI (i13), eR v1, eI (v55), eR a0]) rfl (s_an rfl (pos_g I45 gA0 (by decide))) rfl ?_
              refine w_gf (np := 86) (v := eR v40) rfl rfl (I45.kd gA0 (by decide) (n := 69) rfl) (by rw [(F46.k e41 gA0 (by decide) rfl)]; rfl) ?_
              refine w_cw (np := 89) (as := [eI (v55), eR v1, eI (i13), eI (v61), eR v40]) (l2 := [some (eR a0), some (eI (v55)), some (eR v1), some (eI (i13)), some (eI (v61)), some (eR v40), none, none, none]) (rest := []) rfl rfl rfl (Nat.ble_eq.mp rfl) rfl rfl rfl (I45.kd gA0 (by decide) (n := 69) rfl) rfl ?_
              refine s_310 (a1 := v55) (a3 := i13) (a4 := v61) I45 gA0 (by omega) b3 (by omega) (by omega) b42 ?_
              intro v64 b65
              show ex_q (dt_fg L ρ) rc (d + 3, (338, 89, [some (eR a0), some (eI (a1)), some (eI (i11)), some (eI (i13)), some (eI (i25)), some (eI (i27))], [eI (v64)]), f :: F, m44)
              refine b_ile (t1 := 96) (t2 := 92) rfl rfl rfl (ev_w_in (by omega) (by omega)) (fun g66 => ?_) (fun g66 => ?_)
              · have b67 : 0 ≤ v64 ∧ v64 ≤ 0 := by omega
                refine w_t (np := 97) (l2 := [some (eR a0), some (eI (a1)), some (eI (i11)), some (eI (i13)), some (eI (i25)), some (eI (i27))]) (s2 := [eI (0)]) rfl rfl rfl ?_
                refine w_t (np := 99) (l2 := [some (eR a0), some (eI (a1)), some (eI (i11)), some (eI (i13)), some (eI (0)), some (eI (i27))]) (s2 := []) rfl rfl rfl ?_
                obtain ⟨v67, e68⟩ : ∃ zz : Int, zz = (i27) + (1) := ⟨_, rfl⟩
                have b69 : 1 ≤ v67 ∧ v67 ≤ 24 := by omega
                refine w_t (np := 102) (l2 := [some (eR a0), some (eI (a1)), some (eI (i11)), some (eI (i13)), some (eI (0)), some (eI (v67))]) (s2 := []) rfl (b_iinc rfl (by rw [← e68]; exact ev_w_in (by omega) (by omega)) rfl) rfl ?_
                refine w_go (t1 := 24) rfl rfl ?_
                exact ih24 (24 - (v67)).toNat (by omega) m44 (0) (v67) I45 F47 (by decide) (by omega) (F46.k k32 gA0 (by decide) rfl)    rfl
              · have b67 : 1 ≤ v64 ∧ v64 ≤ 2 := by omega
                refine w_t (np := 93) (l2 := [some (eR a0), some (eI (a1)), some (eI (i11)), some (eI (i13)), some (eI (i25)), some (eI (i27))]) (s2 := [eI (1)]) rfl rfl rfl ?_
                refine w_go (t1 := 97) rfl rfl ?_
                refine w_t (np := 99) (l2 := [some (eR a0), some (eI (a1)), some (eI (i11)), some (eI (i13)), some (eI (1)), some (eI (i27))]) (s2 := []) rfl rfl rfl ?_
                obtain ⟨v67, e68⟩ : ∃ zz : Int, zz = (i27) + (1) := ⟨_, rfl⟩
                have b69 : 1 ≤ v67 ∧ v67 ≤ 24 := by omega
                refine w_t (np := 102) (l2 := [some (eR a0), some (eI (a1)), some (eI (i11)), some (eI (i13)), some (eI (1)), some (eI (v67))]) (s2 := []) rfl (b_iinc rfl (by rw [← e68]; exact ev_w_in (by omega) (by omega)) rfl) rfl ?_
                refine w_go (t1 := 24) rfl rfl ?_
                exact ih24 (24 - (v67)).toNat (by omega) m44 (1) (v67) I45 F47 (by decide) (by omega) (F46.k k32 gA0 (by decide) rfl)    rfl
            · refine w_go (t1 := 99) rfl rfl ?_
              obtain ⟨v40, e41⟩ : ∃ zz : Int, zz = (i27) + (1) := ⟨_, rfl⟩
              have b42 : 1 ≤ v40 ∧ v40 ≤ 24 := by omega
              refine w_t (np := 102) (l2 := [some (eR a0), some (eI (a1)), some (eI (i11)), some (eI (i13)), some (eI (i25)), some (eI (v40))]) (s2 := []) rfl (b_iinc rfl (by rw [← e41]; exact ev_w_in (by omega) (by omega)) rfl) rfl ?_
              refine w_go (t1 := 24) rfl rfl ?_
              exact ih24 (24 - (v40)).toNat (by omega) m29 (i25) (v40) I30 F31 (by omega) (by omega) k32    rfl
      exact hL24 _ m17 (0) (0) I18 F19 (by decide) (by decide) k20    rfl
  exact hL13 _ m5 (0) (0) (none) (none) I6 F8 (by decide) (by decide) (F7.k e2 gA0 (by decide) rfl)    rfl
def l_339 : List Nat := [13313, 13314, 21504, 21248]
theorem s_339 {L : Nat} {ρ : Nat → Int} {rc : eQ} {d : Nat} {f : eFr} {F : List eFr} {μ : eM} {g : Nat → Nat} {a0 : Nat} {a1 : Int} (hI : SI g μ) (gA0 : g a0 = 52) (bA1 : -2147483648 ≤ a1 ∧ a1 ≤ 2147483647) (K : ∀ (μ2 : eM) (v : Int), SI g μ2 → Fr l_339 0 0 g μ μ2 → (-2147483648 ≤ v ∧ v ≤ 2147483647) → ex_q (dt_fg L ρ) rc (d + 5, (f.1, f.2.1, f.2.2.1, eI v :: f.2.2.2), F, μ2)) : ex_q (dt_fg L ρ) rc (d + 4, (339, 0, [some (eR a0), some (eI (a1))], []), f :: F, μ) := by
  have F0 : Fr l_339 0 0 g μ μ := Fr.r
  refine w_t (np := 1) (l2 := [some (eR a0), some (eI (a1))]) (s2 := [eR a0]) rfl (s_an rfl (pos_g hI gA0 (by decide))) rfl ?_
  refine w_t (np := 2) (l2 := [some (eR a0), some (eI (a1))]) (s2 := [eR a0, eR a0]) rfl (s_an rfl (pos_g hI gA0 (by decide))) rfl ?_
  refine w_t (np := 3) (l2 := [some (eR a0), some (eI (a1))]) (s2 := [eI (a1), eR a0, eR a0]) rfl rfl rfl ?_
  refine w_cw (np := 6) (as := [eI (a1)]) (l2 := [some (eR a0), some (eI (a1))]) (rest := [eR a0]) rfl rfl rfl (Nat.ble_eq.mp rfl) rfl rfl rfl (hI.kd gA0 (by decide) (n := 69) rfl) rfl ?_
  refine w_t (np := 1) (l2 := [some (eR a0), some (eI (a1))]) (s2 := [eI (a1)]) rfl rfl rfl ?_
  refine w_t (np := 2) (l2 := [some (eR a0), some (eI (a1))]) (s2 := [eI (0), eI (a1)]) rfl rfl rfl ?_
  refine w_t (np := 3) (l2 := [some (eR a0), some (eI (a1))]) (s2 := [eR a0, eI (0), eI (a1)]) rfl (s_an rfl (pos_g hI gA0 (by decide))) rfl ?_
  refine j_gi (np := 6) rfl rfl rfl hI gA0 (by decide) (n := 69) rfl rfl (lo := 0) (hi := 24) rfl ?_
  intro v1 e2 b3
  refine w_t (np := 7) (l2 := [some (eR a0), some (eI (a1))]) (s2 := [eI (1), eI (v1), eI (0), eI (a1)]) rfl rfl rfl ?_
  obtain ⟨v4, e5⟩ : ∃ zz : Int, zz = (v1) - (1) := ⟨_, rfl⟩
  have b6 : -1 ≤ v4 ∧ v4 ≤ 23 := by omega
  refine w_t (np := 8) (l2 := [some (eR a0), some (eI (a1))]) (s2 := [eI (v4), eI (0), eI (a1)]) rfl (b_isub (by rw [← e5]; exact ev_w_in (by omega) (by omega))) rfl ?_
  refine w_cu (np := 11) (as := [eI (a1), eI (0), eI (v4)]) (l2 := [some (eI (a1)), some (eI (0)), some (eI (v4))]) (rest := []) rfl rfl rfl (Nat.ble_eq.mp rfl) rfl rfl rfl rfl ?_
  refine w_t (np := 1) (l2 := [some (eI (a1)), some (eI (0)), some (eI (v4))]) (s2 := [eI (a1)]) rfl rfl rfl ?_
  refine w_t (np := 2) (l2 := [some (eI (a1)), some (eI (0)), some (eI (v4))]) (s2 := [eI (0), eI (a1)]) rfl rfl rfl ?_
  refine b_clt (t1 := 14) (t2 := 5) rfl rfl rfl (ev_w_in (by omega) (by omega)) rfl (fun g7 => ?_) (fun g7 => ?_)
  · have b8 : -2147483648 ≤ a1 ∧ a1 ≤ -1 := by omega
    refine w_t (np := 15) (l2 := [some (eI (a1)), some (eI (0)), some (eI (v4))]) (s2 := [eI (0)]) rfl rfl rfl ?_
    refine b_rz rfl rfl (Or.inl rfl) ?_
    show ex_q (dt_fg L ρ) rc (d + 3, (316, 11, [some (eR a0), some (eI (a1))], [eI (0)]), (339, 6, [some (eR a0), some (eI (a1))], [eR a0]) :: f :: F, μ)
    refine b_rz rfl rfl (Or.inl rfl) ?_
    show ex_q (dt_fg L ρ) rc (d + 4, (339, 6, [some (eR a0), some (eI (a1))], [eI (0), eR a0]), f :: F, μ)
    refine b_ieq (t1 := 13) (t2 := 9) rfl rfl rfl rfl (fun g8 => ?_) (fun g8 => absurd g8 (by decide))
    refine w_t (np := 14) (l2 := [some (eR a0), some (eI (a1))]) (s2 := [eI (2), eR a0]) rfl rfl rfl ?_
    refine w_cw (np := 17) (as := [eI (2)]) (l2 := [some (eR a0), some (eI (2))]) (rest := []) rfl rfl rfl (Nat.ble_eq.mp rfl) rfl rfl rfl (hI.kd gA0 (by decide) (n := 69) rfl) rfl ?_
    refine w_t (np := 1) (l2 := [some (eR a0), some (eI (2))]) (s2 := [eR a0]) rfl (s_an rfl (pos_g hI gA0 (by decide))) rfl ?_
    refine w_t (np := 2) (l2 := [some (eR a0), some (eI (2))]) (s2 := [eI (0), eR a0]) rfl rfl rfl ?_
    refine j_pf (np := 5) (w := 0) rfl rfl hI gA0 (by decide) (n := 69) rfl rfl (hO_i (lo := -2147483648) (hi := 2147483647) rfl (by decide)) ?_
    intro m9 I10 W11
    have F12 : Fr l_339 0 0 g μ m9 := F0.w W11 gA0 rfl
    refine w_t (np := 6) (l2 := [some (eR a0), some (eI (2))]) (s2 := [eR a0]) rfl (s_an rfl (pos_g I10 gA0 (by decide))) rfl ?_
    refine w_t (np := 7) (l2 := [some (eR a0), some (eI (2))]) (s2 := [eI (2), eR a0]) rfl rfl rfl ?_
    refine j_pf (np := 10) (w := 2) rfl rfl I10 gA0 (by decide) (n := 69) rfl rfl (hO_i (lo := -2147483648) (hi := 2147483647) rfl (by decide)) ?_
    intro m13 I14 W15
    have F16 : Fr l_339 0 0 g μ m13 := F12.w W15 gA0 rfl
    refine w_t (np := 11) (l2 := [some (eR a0), some (eI (2))]) (s2 := [eI (2)]) rfl rfl rfl ?_
    refine b_ine (t1 := 18) (t2 := 14) rfl rfl rfl rfl (fun g17 => ?_) (fun g17 => absurd g17 (by decide))
    refine w_t (np := 19) (l2 := [some (eR a0), some (eI (2))]) (s2 := [eI (0)]) rfl rfl rfl ?_
    refine b_rz rfl rfl (Or.inl rfl) ?_
    show ex_q (dt_fg L ρ) rc (d + 4, (339, 17, [some (eR a0), some (eI (a1))], [eI (0)]), f :: F, m13)
    refine b_ieq (t1 := 28) (t2 := 20) rfl rfl rfl rfl (fun g18 => ?_) (fun g18 => absurd g18 (by decide))
    refine w_t (np := 29) (l2 := [some (eR a0), some (eI (a1))]) (s2 := [eI (-1)]) rfl rfl rfl ?_
    exact b_ri rfl rfl (K m13 (-1) I14 F16 (by decide))
  · have b8 : 0 ≤ a1 ∧ a1 ≤ 2147483647 := by omega
    refine w_t (np := 6) (l2 := [some (eI (a1)), some (eI (0)), some (eI (v4))]) (s2 := [eI (a1)]) rfl rfl rfl ?_
    refine w_t (np := 7) (l2 := [some (eI (a1)), some (eI (0)), some (eI (v4))]) (s2 := [eI (v4), eI (a1)]) rfl rfl rfl ?_
    refine b_cgt (t1 := 14) (t2 := 10) rfl rfl rfl (ev_w_in (by omega) (by omega)) (ev_w_in (by omega) (by omega)) (fun g8 => ?_) (fun g8 => ?_)
    · refine w_t (np := 15) (l2 := [some (eI (a1)), some (eI (0)), some (eI (v4))]) (s2 := [eI (0)]) rfl rfl rfl ?_
      refine b_rz rfl rfl (Or.inl rfl) ?_
      show ex_q (dt_fg L ρ) rc (d + 3, (316, 11, [some (eR a0), some (eI (a1))], [eI (0)]), (339, 6, [some (eR a0), some (eI (a1))], [eR a0]) :: f :: F, μ)
      refine b_rz rfl rfl (Or.inl rfl) ?_
      show ex_q (dt_fg L ρ) rc (d + 4, (339, 6, [some (eR a0), some (eI (a1))], [eI (0), eR a0]), f :: F, μ)
      refine b_ieq (t1 := 13) (t2 := 9) rfl rfl rfl rfl (fun g9 => ?_) (fun g9 => absurd g9 (by decide))
      refine w_t (np := 14) (l2 := [some (eR a0), some (eI (a1))]) (s2 := [eI (2), eR a0]) rfl rfl rfl ?_
      refine w_cw (np := 17) (as := [eI (2)]) (l2 := [some (eR a0), some (eI (2))]) (rest := []) rfl rfl rfl (Nat.ble_eq.mp rfl) rfl rfl rfl (hI.kd gA0 (by decide) (n := 69) rfl) rfl ?_
      refine w_t (np := 1) (l2 := [some (eR a0), some (eI (2))]) (s2 := [eR a0]) rfl (s_an rfl (pos_g hI gA0 (by decide))) rfl ?_
      refine w_t (np := 2) (l2 := [some (eR a0), some (eI (2))]) (s2 := [eI (0), eR a0]) rfl rfl rfl ?_
      refine j_pf (np := 5) (w := 0) rfl rfl hI gA0 (by decide) (n := 69) rfl rfl (hO_i (lo := -2147483648) (hi := 2147483647) rfl (by decide)) ?_
      intro m10 I11 W12
      have F13 : Fr l_339 0 0 g μ m10 := F0.w W12 gA0 rfl
      refine w_t (np := 6) (l2 := [some (eR a0), some (eI (2))]) (s2 := [eR a0]) rfl (s_an rfl (pos_g I11 gA0 (by decide))) rfl ?_
      refine w_t (np := 7) (l2 := [some (eR a0), some (eI (2))]) (s2 := [eI (2), eR a0]) rfl rfl rfl ?_
      refine j_pf (np := 10) (w := 2) rfl rfl I11 gA0 (by decide) (n := 69) rfl rfl (hO_i (lo := -2147483648) (hi := 2147483647) rfl (by decide)) ?_
      intro m14 I15 W16
      have F17 : Fr l_339 0 0 g μ m14 := F13.w W16 gA0 rfl
      refine w_t (np := 11) (l2 := [some (eR a0), some (eI (2))]) (s2 := [eI (2)]) rfl rfl rfl ?_
      refine b_ine (t1 := 18) (t2 := 14) rfl rfl rfl rfl (fun g18 => ?_) (fun g18 => absurd g18 (by decide))
      refine w_t (np := 19) (l2 := [some (eR a0), some (eI (2))]) (s2 := [eI (0)]) rfl rfl rfl ?_
      refine b_rz rfl rfl (Or.inl rfl) ?_
      show ex_q (dt_fg L ρ) rc (d + 4, (339, 17, [some (eR a0), some (eI (a1))], [eI (0)]), f :: F, m14)
      refine b_ieq (t1 := 28) (t2 := 20) rfl rfl rfl rfl (fun g19 => ?_) (fun g19 => absurd g19 (by decide))
      refine w_t (np := 29) (l2 := [some (eR a0), some (eI (a1))]) (s2 := [eI (-1)]) rfl rfl rfl ?_
      exact b_ri rfl rfl (K m14 (-1) I15 F17 (by decide))
    · have b9 : 0 ≤ a1 ∧ a1 ≤ 23 := by omega
      have b10 : 0 ≤ v4 ∧ v4 ≤ 23 := by omega
      refine w_t (np := 11) (l2 := [some (eI (a1)), some (eI (0)), some (eI (v4))]) (s2 := [eI (1)]) rfl rfl rfl ?_
      refine w_go (t1 := 15) rfl rfl ?_
      refine b_rz rfl rfl (Or.inr rfl) ?_
      show ex_q (dt_fg L ρ) rc (d + 3, (316, 11, [some (eR a0), some (eI (a1))], [eI (1)]), (339, 6, [some (eR a0), some (eI (a1))], [eR a0]) :: f :: F, μ)
      refine b_rz rfl rfl (Or.inr rfl) ?_
      show ex_q (dt_fg L ρ) rc (d + 4, (339, 6, [some (eR a0), some (eI (a1))], [eI (1), eR a0]), f :: F, μ)
      refine b_ieq (t1 := 13) (t2 := 9) rfl rfl rfl rfl (fun g9 => absurd g9 (by decide)) (fun g9 => ?_)
      refine w_t (np := 10) (l2 := [some (eR a0), some (eI (a1))]) (s2 := [eI (0), eR a0]) rfl rfl rfl ?_
      refine w_go (t1 := 14) rfl rfl ?_
      refine w_cw (np := 17) (as := [eI (0)]) (l2 := [some (eR a0), some (eI (0))]) (rest := []) rfl rfl rfl (Nat.ble_eq.mp rfl) rfl rfl rfl (hI.kd gA0 (by decide) (n := 69) rfl) rfl ?_
      refine w_t (np := 1) (l2 := [some (eR a0), some (eI (0))]) (s2 := [eR a0]) rfl (s_an rfl (pos_g hI gA0 (by decide))) rfl ?_
      refine w_t (np := 2) (l2 := [some (eR a0), some (eI (0))]) (s2 := [eI (0), eR a0]) rfl rfl rfl ?_
      refine j_pf (np := 5) (w := 0) rfl rfl hI gA0 (by decide) (n := 69) rfl rfl (hO_i (lo := -2147483648) (hi := 2147483647) rfl (by decide)) ?_
      intro m10 I11 W12
      have F13 : Fr l_339 0 0 g μ m10 := F0.w W12 gA0 rfl
      refine w_t (np := 6) (l2 := [some (eR a0), some (eI (0))]) (s2 := [eR a0]) rfl (s_an rfl (pos_g I11 gA0 (by decide))) rfl ?_
      refine w_t (np := 7) (l2 := [some (eR a0), some (eI (0))]) (s2 := [eI (0), eR a0]) rfl rfl rfl ?_
      refine j_pf (np := 10) (w := 0) rfl rfl I11 gA0 (by decide) (n := 69) rfl rfl (hO_i (lo := -2147483648) (hi := 2147483647) rfl (by decide)) ?_
      intro m14 I15 W16
      have F17 : Fr l_339 0 0 g μ m14 := F13.w W16 gA0 rfl
      refine w_t (np := 11) (l2 := [some (eR a0), some (eI (0))]) (s2 := [eI (0)]) rfl rfl rfl ?_
      refine b_ine (t1 := 18) (t2 := 14) rfl rfl rfl rfl (fun g18 => absurd g18 (by decide)) (fun g18 => ?_)
      refine w_t (np := 15) (l2 := [some (eR a0), some (eI (0))]) (s2 := [eI (1)]) rfl rfl rfl ?_
      refine w_go (t1 := 19) rfl rfl ?_
      refine b_rz rfl rfl (Or.inr rfl) ?_
      show ex_q (dt_fg L ρ) rc (d + 4, (339, 17, [some (eR a0), some (eI (a1))], [eI (1)]), f :: F, m14)
      refine b_ieq (t1 := 28) (t2 := 20) rfl rfl rfl rfl (fun g19 => absurd g19 (by decide)) (fun g19 => ?_)
      refine w_t (np := 21) (l2 := [some (eR a0), some (eI (a1))]) (s2 := [eR a0]) rfl (s_an rfl (pos_g I15 gA0 (by decide))) rfl ?_
      refine w_t (np := 22) (l2 := [some (eR a0), some (eI (a1))]) (s2 := [eI (a1), eR a0]) rfl rfl rfl ?_
      refine w_cw (np := 25) (as := [eI (a1)]) (l2 := [some (eR a0), some (eI (a1)), none, none, none, none]) (rest := []) rfl rfl rfl (Nat.ble_eq.mp rfl) rfl rfl rfl (I15.kd gA0 (by decide) (n := 69) rfl) rfl ?_
      refine s_338 (a1 := a1) I15 gA0 (by omega) ?_
      intro m20 v23 I21 F22 b24
      have F25 : Fr l_339 0 0 g μ m20 := F17.t F22 rfl
      show ex_q (dt_fg L ρ) rc (d + 4, (339, 25, [some (eR a0), some (eI (a1))], [eI (v23)]), f :: F, m20)
      refine w_go (t1 := 29) rfl rfl ?_
      exact b_ri rfl rfl (K m20 (v23) I21 F25 (by omega))
def l_340 : List Nat := [13313, 13314, 21504, 21248]
theorem s_340 {L : Nat} {ρ : Nat → Int} {rc : eQ} {d : Nat} {f : eFr} {F : List eFr} {μ : eM} {g : Nat → Nat} {a0 : Nat} {a1 : Int} (hI : SI g μ) (gA0 : g a0 = 52) (bA1 : -2147483648 ≤ a1 ∧ a1 ≤ 2147483647) (K : ∀ (μ2 : eM) (v : Int), SI g μ2 → Fr l_340 0 0 g μ μ2 → (-2147483648 ≤ v ∧ v ≤ 2147483647) → ex_q (dt_fg L ρ) rc (d + 5, (f.1, f.2.1, f.2.2.1, eI v :: f.2.2.2), F, μ2)) : ex_q (dt_fg L ρ) rc (d + 4, (340, 0, [some (eR a0), some (eI (a1)), none], []), f :: F, μ) := by
  have F0 : Fr l_340 0 0 g μ μ := Fr.r
  refine w_t (np := 1) (l2 := [some (eR a0), some (eI (a1)), none]) (s2 := [eR a0]) rfl (s_an rfl (pos_g hI gA0 (by decide))) rfl ?_
  refine w_t (np := 2) (l2 := [some (eR a0), some (eI (a1)), none]) (s2 := [eI (0), eR a0]) rfl rfl rfl ?_
  refine w_cw (np := 5) (as := [eI (0)]) (l2 := [some (eR a0), some (eI (0))]) (rest := []) rfl rfl rfl (Nat.ble_eq.mp rfl) rfl rfl rfl (hI.kd gA0 (by decide) (n := 69) rfl) rfl ?_
  refine w_t (np := 1) (l2 := [some (eR a0), some (eI (0))]) (s2 := [eR a0]) rfl (s_an rfl (pos_g hI gA0 (by decide))) rfl ?_
  refine w_t (np := 2) (l2 := [some (eR a0), some (eI (0))]) (s2 := [eI (0), eR a0]) rfl rfl rfl ?_
  refine j_pf (np := 5) (w := 0) rfl rfl hI gA0 (by decide) (n := 69) rfl rfl (hO_i (lo := -2147483648) (hi := 2147483647) rfl (by decide)) ?_
  intro m1 I2 W3
  have F4 : Fr l_340 0 0 g μ m1 := F0.w W3 gA0 rfl
  refine w_t (np := 6) (l2 := [some (eR a0), some (eI (0))]) (s2 := [eR a0]) rfl (s_an rfl (pos_g I2 gA0 (by decide))) rfl ?_
  refine w_t (np := 7) (l2 := [some (eR a0), some (eI (0))]) (s2 := [eI (0), eR a0]) rfl rfl rfl ?_
  refine j_pf (np := 10) (w := 0) rfl rfl I2 gA0 (by decide) (n := 69) rfl rfl (hO_i (lo := -2147483648) (hi := 2147483647) rfl (by decide)) ?_
  intro m5 I6 W7
  have F8 : Fr l_340 0 0 g μ m5 := F4.w W7 gA0 rfl
  refine w_t (np := 11) (l2 := [some (eR a0), some (eI (0))]) (s2 := [eI (0)]) rfl rfl rfl ?_
  refine b_ine (t1 := 18) (t2 := 14) rfl rfl rfl rfl (fun g9 => absurd g9 (by decide)) (fun g9 => ?_)
  refine w_t (np := 15) (l2 := [some (eR a0), some (eI (0))]) (s2 := [eI (1)]) rfl rfl rfl ?_
  refine w_go (t1 := 19) rfl rfl ?_
  refine b_rz rfl rfl (Or.inr rfl) ?_
  show ex_q (dt_fg L ρ) rc (d + 4, (340, 5, [some (eR a0), some (eI (a1)), none], [eI (1)]), f :: F, m5)
  refine w_t (np := 6) (l2 := [some (eR a0), some (eI (a1)), none]) (s2 := []) rfl rfl rfl ?_
  refine w_t (np := 7) (l2 := [some (eR a0), some (eI (a1)), none]) (s2 := [eI (0)]) rfl rfl rfl ?_
  refine w_t (np := 8) (l2 := [some (eR a0), some (eI (0)), none]) (s2 := []) rfl rfl rfl ?_
  refine w_t (np := 9) (l2 := [some (eR a0), some (eI (0)), none]) (s2 := [eI (0)]) rfl rfl rfl ?_
  refine w_t (np := 10) (l2 := [some (eR a0), some (eI (0)), some (eI (0))]) (s2 := []) rfl rfl rfl ?_
  have hL10 : ∀ (n10 : Nat) (m16 : eM) (i12 : Int) (i14 : Int), SI g m16 → Fr l_340 0 0 g μ m16 → (-2147483648 ≤ i12 ∧ i12 ≤ 2147483647) → (0 ≤ i14 ∧ i14 ≤ 24) → m16.1 a0 1 = 0 → m16.1 a0 0 = 0 → n10 = (24 - i14).toNat → ex_q (dt_fg L ρ) rc (d + 4, (340, 10, [some (eR a0), some (eI (i12)), some (eI (i14))], []), f :: F, m16) := by
    intro n10
    induction n10 using Nat.strongRecOn with
    | _ n10 ih11 =>
    intro m16 i12 i14 I17 F18 b13 b15 k19 k20 hn21
    refine w_t (np := 11) (l2 := [some (eR a0), some (eI (i12)), some (eI (i14))]) (s2 := [eI (i14)]) rfl rfl rfl ?_
    refine w_t (np := 12) (l2 := [some (eR a0), some (eI (i12)), some (eI (i14))]) (s2 := [eR a0, eI (i14)]) rfl (s_an rfl (pos_g I17 gA0 (by decide))) rfl ?_
    refine j_gi (np := 15) rfl rfl rfl I17 gA0 (by decide) (n := 69) rfl rfl (lo := 0) (hi := 24) rfl ?_
    intro v22 e23 b24
    refine b_cge (t1 := 34) (t2 := 18) rfl rfl rfl (ev_w_in (by omega) (by omega)) (ev_w_in (by omega) (by omega)) (fun g25 => ?_) (fun g25 => ?_)
    · refine w_t (np := 35) (l2 := [some (eR a0), some (eI (i12)), some (eI (i14))]) (s2 := [eI (i12)]) rfl rfl rfl ?_
      exact b_ri rfl rfl (K m16 (i12) I17 F18 (by omega))
    · have b26 : 0 ≤ i14 ∧ i14 ≤ 23 := by omega
      have b27 : 1 ≤ v22 ∧ v22 ≤ 24 := by omega
      refine w_t (np := 19) (l2 := [some (eR a0), some (eI (i12)), some (eI (i14))]) (s2 := [eI (i12)]) rfl rfl rfl ?_
      refine w_t (np := 20) (l2 := [some (eR a0), some (eI (i12)), some (eI (i14))]) (s2 := [eI (4), eI (i12)]) rfl rfl rfl ?_
      refine w_t (np := 21) (l2 := [some (eR a0), some (eI (i12)), some (eI (i14))]) (s2 := [eR a0, eI (4), eI (i12)]) rfl (s_an rfl (pos_g I17 gA0 (by decide))) rfl ?_
      refine w_t (np := 22) (l2 := [some (eR a0), some (eI (i12)), some (eI (i14))]) (s2 := [eI (i14), eR a0, eI (4), eI (i12)]) rfl rfl rfl ?_
      refine w_cw (np := 25) (as := [eI (i14)]) (l2 := [some (eR a0), some (eI (i14)), none, none, none, none]) (rest := [eI (4), eI (i12)]) rfl rfl rfl (Nat.ble_eq.mp rfl) rfl rfl rfl (I17.kd gA0 (by decide) (n := 69) rfl) rfl ?_
      refine s_338 (a1 := i14) I17 gA0 (by omega) ?_
      intro m26 v29 I27 F28 b30
      have F31 : Fr l_340 0 0 g μ m26 := F18.t F28 rfl
      show ex_q (dt_fg L ρ) rc (d + 4, (340, 25, [some (eR a0), some (eI (i12)), some (eI (i14))], [eI (v29), eI (4), eI (i12)]), f :: F, m26)
      obtain ⟨v32, e33, b34⟩ : ∃ zz : Int, ev_w ((4) - (v29)) = zz ∧ (-2147483648 ≤ zz ∧ zz ≤ 2147483647) := ⟨_, rfl, hw_bd _⟩
      refine w_t (np := 26) (l2 := [some (eR a0), some (eI (i12)), some (eI (i14))]) (s2 := [eI (v32), eI (i12)]) rfl (b_isub e33) rfl ?_
      obtain ⟨v35, e36, b37⟩ : ∃ zz : Int, ev_w ((i12) + (v32)) = zz ∧ (-2147483648 ≤ zz ∧ zz ≤ 2147483647) := ⟨_, rfl, hw_bd _⟩
      refine w_t (np := 27) (l2 := [some (eR a0), some (eI (i12)), some (eI (i14))]) (s2 := [eI (v35)]) rfl (b_iadd e36) rfl ?_
      refine w_t (np := 28) (l2 := [some (eR a0), some (eI (v35)), some (eI (i14))]) (s2 := []) rfl rfl rfl ?_
      obtain ⟨v38, e39⟩ : ∃ zz : Int, zz = (i14) + (1) := ⟨_, rfl⟩
      have b40 : 1 ≤ v38 ∧ v38 ≤ 24 := by omega
      refine w_t (np := 31) (l2 := [some (eR a0), some (eI (v35)), some (eI (v38))]) (s2 := []) rfl (b_iinc rfl (by rw [← e39]; exact ev_w_in (by omega) (by omega)) rfl) rfl ?_
      refine w_go (t1 := 10) rfl rfl ?_
      exact ih11 (24 - (v38)).toNat (by omega) m26 (v35) (v38) I27 F31 (by omega) (by omega) (F28.k k19 gA0 (by decide) rfl) (F28.k k20 gA0 (by decide) rfl)    rfl
  exact hL10 _ m5 (0) (0) I6 F8 (by decide) (by decide) (W7.slot W3.at (by decide)) W7.at    rfl
def l_341 : List Nat := [13313, 13314]
theorem s_341 {L : Nat} {ρ : Nat → Int} {rc : eQ} {d : Nat} {f : eFr} {F : List eFr} {μ : eM} {g : Nat → Nat} {a0 : Nat} {a1 : Int} (hI : SI g μ) (gA0 : g a0 = 52) (bA1 : -2147483648 ≤ a1 ∧ a1 ≤ 2147483647) (K : ∀ (μ2 : eM) (v : Int), SI g μ2 → Fr l_341 0 0 g μ μ2 → (-2147483648 ≤ v ∧ v ≤ 2147483647) → ex_q (dt_fg L ρ) rc (d + 2, (f.1, f.2.1, f.2.2.1, eI v :: f.2.2.2), F, μ2)) : ex_q (dt_fg L ρ) rc (d + 1, (341, 0, [some (eR a0), some (eI (a1)), none, none], []), f :: F, μ) := by
  have F0 : Fr l_341 0 0 g μ μ := Fr.r
  refine w_t (np := 1) (l2 := [some (eR a0), some (eI (a1)), none, none]) (s2 := [eR a0]) rfl (s_an rfl (pos_g hI gA0 (by decide))) rfl ?_
  refine w_t (np := 2) (l2 := [some (eR a0), some (eI (a1)), none, none]) (s2 := [eI (a1), eR a0]) rfl rfl rfl ?_
  refine w_t (np := 3) (l2 := [some (eR a0), some (eI (a1)), none, none]) (s2 := [eI (0), eI (a1), eR a0]) rfl rfl rfl ?_
  refine w_t (np := 4) (l2 := [some (eR a0), some (eI (a1)), none, none]) (s2 := [eI (1), eI (0), eI (a1), eR a0]) rfl rfl rfl ?_
  refine w_cu (np := 7) (as := [eI (a1), eI (0), eI (1)]) (l2 := [some (eI (a1)), some (eI (0)), some (eI (1))]) (rest := [eR a0]) rfl rfl rfl (Nat.ble_eq.mp rfl) rfl rfl rfl rfl ?_
  refine w_t (np := 1) (l2 := [some (eI (a1)), some (eI (0)), some (eI (1))]) (s2 := [eI (a1)]) rfl rfl rfl ?_
  refine w_t (np := 2) (l2 := [some (eI (a1)), some (eI (0)), some (eI (1))]) (s2 := [eI (0), eI (a1)]) rfl rfl rfl ?_
  refine b_clt (t1 := 14) (t2 := 5) rfl rfl rfl (ev_w_in (by omega) (by omega)) rfl (fun g1 => ?_) (fun g1 => ?_)
  · have b2 : -2147483648 ≤ a1 ∧ a1 ≤ -1 := by omega
    refine w_t (np := 15) (l2 := [some (eI (a1)), some (eI (0)), some (eI (1))]) (s2 := [eI (0)]) rfl rfl rfl ?_
    refine b_rz rfl rfl (Or.inl rfl) ?_
    show ex_q (dt_fg L ρ) rc (d + 1, (341, 7, [some (eR a0), some (eI (a1)), none, none], [eI (0), eR a0]), f :: F, μ)
    refine b_ieq (t1 := 14) (t2 := 10) rfl rfl rfl rfl (fun g2 => ?_) (fun g2 => absurd g2 (by decide))
    refine w_t (np := 15) (l2 := [some (eR a0), some (eI (a1)), none, none]) (s2 := [eI (1), eR a0]) rfl rfl rfl ?_
    refine w_cw (np := 18) (as := [eI (1)]) (l2 := [some (eR a0), some (eI (1))]) (rest := []) rfl rfl rfl (Nat.ble_eq.mp rfl) rfl rfl rfl (hI.kd gA0 (by decide) (n := 69) rfl) rfl ?_
    refine w_t (np := 1) (l2 := [some (eR a0), some (eI (1))]) (s2 := [eR a0]) rfl (s_an rfl (pos_g hI gA0 (by decide))) rfl ?_
    refine w_t (np := 2) (l2 := [some (eR a0), some (eI (1))]) (s2 := [eI (0), eR a0]) rfl rfl rfl ?_
    refine j_pf (np := 5) (w := 0) rfl rfl hI gA0 (by decide) (n := 69) rfl rfl (hO_i (lo := -2147483648) (hi := 2147483647) rfl (by decide)) ?_
    intro m3 I4 W5
    have F6 : Fr l_341 0 0 g μ m3 := F0.w W5 gA0 rfl
    refine w_t (np := 6) (l2 := [some (eR a0), some (eI (1))]) (s2 := [eR a0]) rfl (s_an rfl (pos_g I4 gA0 (by decide))) rfl ?_
    refine w_t (np := 7) (l2 := [some (eR a0), some (eI (1))]) (s2 := [eI (1), eR a0]) rfl rfl rfl ?_
    refine j_pf (np := 10) (w := 1) rfl rfl I4 gA0 (by decide) (n := 69) rfl rfl (hO_i (lo := -2147483648) (hi := 2147483647) rfl (by decide)) ?_
    intro m7 I8 W9
    have F10 : Fr l_341 0 0 g μ m7 := F6.w W9 gA0 rfl
    refine w_t (np := 11) (l2 := [some (eR a0), some (eI (1))]) (s2 := [eI (1)]) rfl rfl rfl ?_
    refine b_ine (t1 := 18) (t2 := 14) rfl rfl rfl rfl (fun g11 => ?_) (fun g11 => absurd g11 (by decide))
    refine w_t (np := 19) (l2 := [some (eR a0), some (eI (1))]) (s2 := [eI (0)]) rfl rfl rfl ?_
    refine b_rz rfl rfl (Or.inl rfl) ?_
    show ex_q (dt_fg L ρ) rc (d + 1, (341, 18, [some (eR a0), some (eI (a1)), none, none], [eI (0)]), f :: F, m7)
    refine b_ine (t1 := 23) (t2 := 21) rfl rfl rfl rfl (fun g12 => absurd g12 (by decide)) (fun g12 => ?_)
    refine w_t (np := 22) (l2 := [some (eR a0), some (eI (a1)), none, none]) (s2 := [eI (-1)]) rfl rfl rfl ?_
    exact b_ri rfl rfl (K m7 (-1) I8 F10 (by decide))
  · have b2 : 0 ≤ a1 ∧ a1 ≤ 2147483647 := by omega
    refine w_t (np := 6) (l2 := [some (eI (a1)), some (eI (0)), some (eI (1))]) (s2 := [eI (a1)]) rfl rfl rfl ?_
    refine w_t (np := 7) (l2 := [some (eI (a1)), some (eI (0)), some (eI (1))]) (s2 := [eI (1), eI (a1)]) rfl rfl rfl ?_
    refine b_cgt (t1 := 14) (t2 := 10) rfl rfl rfl (ev_w_in (by omega) (by omega)) rfl (fun g2 => ?_) (fun g2 => ?_)
    · have b3 : 2 ≤ a1 ∧ a1 ≤ 2147483647 := by omega
      refine w_t (np := 15) (l2 := [some (eI (a1)), some (eI (0)), some (eI (1))]) (s2 := [eI (0)]) rfl rfl rfl ?_
      refine b_rz rfl rfl (Or.inl rfl) ?_
      show ex_q (dt_fg L ρ) rc (d + 1, (341, 7, [some (eR a0), some (eI (a1)), none, none], [eI (0), eR a0]), f :: F, μ)
      refine b_ieq (t1 := 14) (t2 := 10) rfl rfl rfl rfl (fun g3 => ?_) (fun g3 => absurd g3 (by decide))
      refine w_t (np := 15) (l2 := [some (eR a0), some (eI (a1)), none, none]) (s2 := [eI (1), eR a0]) rfl rfl rfl ?_
      refine w_cw (np := 18) (as := [eI (1)]) (l2 := [some (eR a0), some (eI (1))]) (rest := []) rfl rfl rfl (Nat.ble_eq.mp rfl) rfl rfl rfl (hI.kd gA0 (by decide) (n := 69) rfl) rfl ?_
      refine w_t (np := 1) (l2 := [some (eR a0), some (eI (1))]) (s2 := [eR a0]) rfl (s_an rfl (pos_g hI gA0 (by decide))) rfl ?_
      refine w_t (np := 2) (l2 := [some (eR a0), some (eI (1))]) (s2 := [eI (0), eR a0]) rfl rfl rfl ?_
      refine j_pf (np := 5) (w := 0) rfl rfl hI gA0 (by decide) (n := 69) rfl rfl (hO_i (lo := -2147483648) (hi := 2147483647) rfl (by decide)) ?_
      intro m4 I5 W6
      have F7 : Fr l_341 0 0 g μ m4 := F0.w W6 gA0 rfl
      refine w_t (np := 6) (l2 := [some (eR a0), some (eI (1))]) (s2 := [eR a0]) rfl (s_an rfl (pos_g I5 gA0 (by decide))) rfl ?_
      refine w_t (np := 7) (l2 := [some (eR a0), some (eI (1))]) (s2 := [eI (1), eR a0]) rfl rfl rfl ?_
      refine j_pf (np := 10) (w := 1) rfl rfl I5 gA0 (by decide) (n := 69) rfl rfl (hO_i (lo := -2147483648) (hi := 2147483647) rfl (by decide)) ?_
      intro m8 I9 W10
      have F11 : Fr l_341 0 0 g μ m8 := F7.w W10 gA0 rfl
      refine w_t (np := 11) (l2 := [some (eR a0), some (eI (1))]) (s2 := [eI (1)]) rfl rfl rfl ?_
      refine b_ine (t1 := 18) (t2 := 14) rfl rfl rfl rfl (fun g12 => ?_) (fun g12 => absurd g12 (by decide))
      refine w_t (np := 19) (l2 := [some (eR a0), some (eI (1))]) (s2 := [eI (0)]) rfl rfl rfl ?_
      refine b_rz rfl rfl (Or.inl rfl) ?_
      show ex_q (dt_fg L ρ) rc (d + 1, (341, 18, [some (eR a0), some (eI (a1)), none, none], [eI (0)]), f :: F, m8)
      refine b_ine (t1 := 23) (t2 := 21) rfl rfl rfl rfl (fun g13 => absurd g13 (by decide)) (fun g13 => ?_)
      refine w_t (np := 22) (l2 := [some (eR a0), some (eI (a1)), none, none]) (s2 := [eI (-1)]) rfl rfl rfl ?_
      exact b_ri rfl rfl (K m8 (-1) I9 F11 (by decide))
    · have b3 : 0 ≤ a1 ∧ a1 ≤ 1 := by omega
      refine w_t (np := 11) (l2 := [some (eI (a1)), some (eI (0)), some (eI (1))]) (s2 := [eI (1)]) rfl rfl rfl ?_
      refine w_go (t1 := 15) rfl rfl ?_
      refine b_rz rfl rfl (Or.inr rfl) ?_
      show ex_q (dt_fg L ρ) rc (d + 1, (341, 7, [some (eR a0), some (eI (a1)), none, none], [eI (1), eR a0]), f :: F, μ)
      refine b_ieq (t1 := 14) (t2 := 10) rfl rfl rfl rfl (fun g3 => absurd g3 (by decide)) (fun g3 => ?_)
      refine w_t (np := 11) (l2 := [some (eR a0), some (eI (a1)), none, none]) (s2 := [eI (0), eR a0]) rfl rfl rfl ?_
      refine w_go (t1 := 15) rfl rfl ?_
      refine w_cw (np := 18) (as := [eI (0)]) (l2 := [some (eR a0), some (eI (0))]) (rest := []) rfl rfl rfl (Nat.ble_eq.mp rfl) rfl rfl rfl (hI.kd gA0 (by decide) (n := 69) rfl) rfl ?_
      refine w_t (np := 1) (l2 := [some (eR a0), some (eI (0))]) (s2 := [eR a0]) rfl (s_an rfl (pos_g hI gA0 (by decide))) rfl ?_
      refine w_t (np := 2) (l2 := [some (eR a0), some (eI (0))]) (s2 := [eI (0), eR a0]) rfl rfl rfl ?_
      refine j_pf (np := 5) (w := 0) rfl rfl hI gA0 (by decide) (n := 69) rfl rfl (hO_i (lo := -2147483648) (hi := 2147483647) rfl (by decide)) ?_
      intro m4 I5 W6
      have F7 : Fr l_341 0 0 g μ m4 := F0.w W6 gA0 rfl
      refine w_t (np := 6) (l2 := [some (eR a0), some (eI (0))]) (s2 := [eR a0]) rfl (s_an rfl (pos_g I5 gA0 (by decide))) rfl ?_
      refine w_t (np := 7) (l2 := [some (eR a0), some (eI (0))]) (s2 := [eI (0), eR a0]) rfl rfl rfl ?_
      refine j_pf (np := 10) (w := 0) rfl rfl I5 gA0 (by decide) (n := 69) rfl rfl (hO_i (lo := -2147483648) (hi := 2147483647) rfl (by decide)) ?_
      intro m8 I9 W10
      have F11 : Fr l_341 0 0 g μ m8 := F7.w W10 gA0 rfl
      refine w_t (np := 11) (l2 := [some (eR a0), some (eI (0))]) (s2 := [eI (0)]) rfl rfl rfl ?_
      refine b_ine (t1 := 18) (t2 := 14) rfl rfl rfl rfl (fun g12 => absurd g12 (by decide)) (fun g12 => ?_)
      refine w_t (np := 15) (l2 := [some (eR a0), some (eI (0))]) (s2 := [eI (1)]) rfl rfl rfl ?_
      refine w_go (t1 := 19) rfl rfl ?_
      refine b_rz rfl rfl (Or.inr rfl) ?_
      show ex_q (dt_fg L ρ) rc (d + 1, (341, 18, [some (eR a0), some (eI (a1)), none, none], [eI (1)]), f :: F, m8)
      refine b_ine (t1 := 23) (t2 := 21) rfl rfl rfl rfl (fun g13 => ?_) (fun g13 => absurd g13 (by decide))
      refine w_t (np := 24) (l2 := [some (eR a0), some (eI (a1)), none, none]) (s2 := [eI (0)]) rfl rfl rfl ?_
      refine w_t (np := 25) (l2 := [some (eR a0), some (eI (a1)), some (eI (0)), none]) (s2 := []) rfl rfl rfl ?_
      refine w_t (np := 26) (l2 := [some (eR a0), some (eI (a1)), some (eI (0)), none]) (s2 := [eI (0)]) rfl rfl rfl ?_
      refine w_t (np := 27) (l2 := [some (eR a0), some (eI (a1)), some (eI (0)), some (eI (0))]) (s2 := []) rfl rfl rfl ?_
      have hL27 : ∀ (n14 : Nat) (m20 : eM) (i16 : Int) (i18 : Int), SI g m20 → Fr l_341 0 0 g μ m20 → (-2147483648 ≤ i16 ∧ i16 ≤ 2147483647) → (0 ≤ i18 ∧ i18 ≤ 24) → m20.1 a0 1 = 0 → m20.1 a0 0 = 0 → n14 = (24 - i18).toNat → ex_q (dt_fg L ρ) rc (d + 1, (341, 27, [some (eR a0), some (eI (a1)), some (eI (i16)), some (eI (i18))], []), f :: F, m20) := by
        intro n14
        induction n14 using Nat.strongRecOn with
        | _ n14 ih15 =>
        intro m20 i16 i18 I21 F22 b17 b19 k23 k24 hn25
        refine w_t (np := 28) (l2 := [some (eR a0), some (eI (a1)), some (eI (i16)), some (eI (i18))]) (s2 := [eI (i18)]) rfl rfl rfl ?_
        refine w_t (np := 29) (l2 := [some (eR a0), some (eI (a1)), some (eI (i16)), some (eI (i18))]) (s2 := [eR a0, eI (i18)]) rfl (s_an rfl (pos_g I21 gA0 (by decide))) rfl ?_
        refine j_gi (np := 32) rfl rfl rfl I21 gA0 (by decide) (n := 69) rfl rfl (lo := 0) (hi := 24) rfl ?_
        intro v26 e27 b28
        refine b_cge (t1 := 62) (t2 := 35) rfl rfl rfl (ev_w_in (by omega) (by omega)) (ev_w_in (by omega) (by omega)) (fun g29 => ?_) (fun g29 => ?_)
        · refine w_t (np := 63) (l2 := [some (eR a0), some (eI (a1)), some (eI (i16)), some (eI (i18))]) (s2 := [eI (i16)]) rfl rfl rfl ?_
          exact b_ri rfl rfl (K m20 (i16) I21 F22 (by omega))
        · have b30 : 0 ≤ i18 ∧ i18 ≤ 23 := by omega
          have b31 : 1 ≤ v26 ∧ v26 ≤ 24 := by omega
          refine w_t (np := 36) (l2 := [some (eR a0), some (eI (a1)), some (eI (i16)), some (eI (i18))]) (s2 := [eI (i16)]) rfl rfl rfl ?_
          refine w_t (np := 37) (l2 := [some (eR a0), some (eI (a1)), some (eI (i16)), some (eI (i18))]) (s2 := [eR a0, eI (i16)]) rfl (s_an rfl (pos_g I21 gA0 (by decide))) rfl ?_
          refine j_gr (np := 40) rfl rfl I21 gA0 (by decide) (n := 69) rfl rfl rfl ?_
          intro v30 e31 b32 z33
          have b32 : g v30 = 79 := Nat.eq_of_beq_eq_true b32
          refine w_t (np := 42) (l2 := [some (eR a0), some (eI (a1)), some (eI (i16)), some (eI (i18))]) (s2 := [eI (7), eR v30, eI (i16)]) rfl rfl rfl ?_
          refine w_t (np := 43) (l2 := [some (eR a0), some (eI (a1)), some (eI (i16)), some (eI (i18))]) (s2 := [eI (i18), eI (7), eR v30, eI (i16)]) rfl rfl rfl ?_
          obtain ⟨v34, e35⟩ : ∃ zz : Int, zz = (7) * (i18) := ⟨_, rfl⟩
          have b36 : 0 ≤ v34 ∧ v34 ≤ 161 := by omega
          refine w_t (np := 44) (l2 := [some (eR a0), some (eI (a1)), some (eI (i16)), some (eI (i18))]) (s2 := [eI (v34), eR v30, eI (i16)]) rfl (b_imul (by rw [← e35]; exact ev_w_in (by omega) (by omega))) rfl ?_
          refine j_al (np := 45) rfl rfl I21 b32 (by decide) (n := 168) rfl rfl (lo := -2147483648) (hi := 2147483647) (fun _ => rfl) (by omega) (by omega) ?_
          intro v37 e38 b39
          refine w_t (np := 46) (l2 := [some (eR a0), some (eI (a1)), some (eI (i16)), some (eI (i18))]) (s2 := [eI (a1), eI (v37), eI (i16)]) rfl rfl rfl ?_
          refine b_cne (t1 := 53) (t2 := 49) rfl rfl rfl (ev_w_in (by omega) (by omega)) (ev_w_in (by omega) (by omega)) (fun g40 => ?_) (fun g40 => ?_)
          · refine w_t (np := 54) (l2 := [some (eR a0), some (eI (a1)), some (eI (i16)), some (eI (i18))]) (s2 := [eI (0), eI (i16)]) rfl rfl rfl ?_
            refine w_t (np := 55) (l2 := [some (eR a0), some (eI (a1)), some (eI (i16)), some (eI (i18))]) (s2 := [eI (i16)]) rfl (b_iadd (by rw [Int.add_zero]; exact ev_w_in (by omega) (by omega))) rfl ?_
            refine w_t (np := 56) (l2 := [some (eR a0), some (eI (a1)), some (eI (i16)), some (eI (i18))]) (s2 := []) rfl rfl rfl ?_
            obtain ⟨v41, e42⟩ : ∃ zz : Int, zz = (i18) + (1) := ⟨_, rfl⟩
            have b43 : 1 ≤ v41 ∧ v41 ≤ 24 := by omega
            refine w_t (np := 59) (l2 := [some (eR a0), some (eI (a1)), some (eI (i16)), some (eI (v41))]) (s2 := []) rfl (b_iinc rfl (by rw [← e42]; exact ev_w_in (by omega) (by omega)) rfl) rfl ?_
            refine w_go (t1 := 27) rfl rfl ?_
            exact ih15 (24 - (v41)).toNat (by omega) m20 (i16) (v41) I21 F22 (by omega) (by omega) k23 k24    rfl
          · have b41 : 0 ≤ v37 ∧ v37 ≤ 1 := by omega
            refine w_t (np := 50) (l2 := [some (eR a0), some (eI (a1)), some (eI (i16)), some (eI (i18))]) (s2 := [eI (2), eI (i16)]) rfl rfl rfl ?_
            refine w_go (t1 := 54) rfl rfl ?_
            obtain ⟨v41, e42, b43⟩ : ∃ zz : Int, ev_w ((i16) + (2)) = zz ∧ (-2147483648 ≤ zz ∧ zz ≤ 2147483647) := ⟨_, rfl, hw_bd _⟩
            refine w_t (np := 55) (l2 := [some (eR a0), some (eI (a1)), some (eI (i16)), some (eI (i18))]) (s2 := [eI (v41)]) rfl (b_iadd e42) rfl ?_
            refine w_t (np := 56) (l2 := [some (eR a0), some (eI (a1)), some (eI (v41)), some (eI (i18))]) (s2 := []) rfl rfl rfl ?_
            obtain ⟨v44, e45⟩ : ∃ zz : Int, zz = (i18) + (1) := ⟨_, rfl⟩
            have b46 : 1 ≤ v44 ∧ v44 ≤ 24 := by omega
            refine w_t (np := 59) (l2 := [some (eR a0), some (eI (a1)), some (eI (v41)), some (eI (v44))]) (s2 := []) rfl (b_iinc rfl (by rw [← e45]; exact ev_w_in (by omega) (by omega)) rfl) rfl ?_
            refine w_go (t1 := 27) rfl rfl ?_
            exact ih15 (24 - (v44)).toNat (by omega) m20 (v41) (v44) I21 F22 (by omega) (by omega) k23 k24    rfl
      exact hL27 _ m8 (0) (0) I9 F11 (by decide) (by decide) (W10.slot W6.at (by decide)) W10.at    rfl
def l_342 : List Nat := [13367, 22272]
theorem s_342 {L : Nat} {ρ : Nat → Int} {rc : eQ} {d : Nat} {f : eFr} {F : List eFr} {μ : eM} {g : Nat → Nat} {a0 : Nat} {a1 : Int} {ta : Int} (hI : SI g μ) (gA0 : g a0 = 52) (bA1 : -2147483648 ≤ a1 ∧ a1 ≤ 2147483647) (h_ta : μ.1 a0 54 = ta) (hp0 : ta ≤ 896) (K : ∀ (μ2 : eM) (ta2 : Int), SI g μ2 → Fr l_342 0 0 g μ μ2 → μ2.1 a0 54 = ta2 → (ta2 = ta + 4) → ex_q (dt_fg L ρ) rc (d + 1, (f.1, f.2.1, f.2.2.1, f.2.2.2), F, μ2)) : ex_q (dt_fg L ρ) rc (d, (342, 0, [some (eR a0), some (eI (a1)), none], []), f :: F, μ) := by
  have F0 : Fr l_342 0 0 g μ μ := Fr.r
  have b_ta : 0 ≤ ta ∧ ta ≤ 900 := by
    rw [← h_ta]
    exact hI.int gA0 (by decide) (n := 69) rfl (by decide) rfl
  refine w_t (np := 2) (l2 := [some (eR a0), some (eI (a1)), none]) (s2 := [eI (24)]) rfl rfl rfl ?_
  refine w_t (np := 3) (l2 := [some (eR a0), some (eI (a1)), some (eI (24))]) (s2 := []) rfl rfl rfl ?_
  refine w_t (np := 4) (l2 := [some (eR a0), some (eI (a1)), some (eI (24))]) (s2 := [eI (24)]) rfl rfl rfl ?_
  refine b_ilt (t1 := 36) (t2 := 7) rfl rfl rfl rfl (fun g1 => absurd g1 (by decide)) (fun g1 => ?_)
  refine w_t (np := 8) (l2 := [some (eR a0), some (eI (a1)), some (eI (24))]) (s2 := [eR a0]) rfl (s_an rfl (pos_g hI gA0 (by decide))) rfl ?_
  refine j_gr (np := 11) rfl rfl hI gA0 (by decide) (n := 69) rfl rfl rfl ?_
  intro v2 e3 b4 z5
  have b4 : g v2 = 87 := Nat.eq_of_beq_eq_true b4
  refine w_t (np := 12) (l2 := [some (eR a0), some (eI (a1)), some (eI (24))]) (s2 := [eR a0, eR v2]) rfl (s_an rfl (pos_g hI gA0 (by decide))) rfl ?_
  refine w_gf (np := 15) (v := eI (ta)) rfl rfl (hI.kd gA0 (by decide) (n := 69) rfl) (by rw [h_ta]; rfl) ?_
  refine w_t (np := 16) (l2 := [some (eR a0), some (eI (a1)), some (eI (24))]) (s2 := [eI (a1), eI (ta), eR v2]) rfl rfl rfl ?_
  refine w_t (np := 17) (l2 := [some (eR a0), some (eI (a1)), some (eI (24))]) (s2 := [eI (24), eI (a1), eI (ta), eR v2]) rfl rfl rfl ?_
  obtain ⟨v6, e7, b8⟩ := h_ishr (a1) (24)
  refine w_t (np := 18) (l2 := [some (eR a0), some (eI (a1)), some (eI (24))]) (s2 := [eI (v6), eI (ta), eR v2]) rfl (e7 _ _) rfl ?_
  obtain ⟨v9, e10, b11⟩ := h_i2b (v6)
  refine w_t (np := 19) (l2 := [some (eR a0), some (eI (a1)), some (eI (24))]) (s2 := [eI (v9), eI (ta), eR v2]) rfl (e10 _ _) rfl ?_
  refine j_sb2 (np := 20) rfl rfl hI b4 (by decide) (n := 900) rfl rfl (lo := -128) (hi := 127) (fun _ => rfl) (by omega) (by omega) (by omega) ?_
  intro m12 I13 W14
  have F15 : Fr l_342 0 0 g μ m12 := F0.v W14 b4 rfl rfl
  refine w_t (np := 21) (l2 := [some (eR a0), some (eI (a1)), some (eI (24))]) (s2 := [eR a0]) rfl (s_an rfl (pos_g I13 gA0 (by decide))) rfl ?_
  refine w_t (np := 22) (l2 := [some (eR a0), some (eI (a1)), some (eI (24))]) (s2 := [eR a0, eR a0]) rfl rfl rfl ?_
  refine w_gf (np := 25) (v := eI (ta)) rfl rfl (I13.kd gA0 (by decide) (n := 69) rfl) (by rw [(W14.addr h_ta b4 gA0 (by decide))]; rfl) ?_
  refine w_t (np := 26) (l2 := [some (eR a0), some (eI (a1)), some (eI (24))]) (s2 := [eI (1), eI (ta), eR a0]) rfl rfl rfl ?_
  obtain ⟨v16, e17⟩ : ∃ zz : Int, zz = (ta) + (1) := ⟨_, rfl⟩
  have b18 : 1 ≤ v16 ∧ v16 ≤ 901 := by omega
  refine w_t (np := 27) (l2 := [some (eR a0), some (eI (a1)), some (eI (24))]) (s2 := [eI (v16), eR a0]) rfl (b_iadd (by rw [← e17]; exact ev_w_in (by omega) (by omega))) rfl ?_
  refine j_pf (np := 30) (w := v16) rfl rfl I13 gA0 (by decide) (n := 69) rfl rfl (hO_i (lo := 0) (hi := 900) rfl (by omega)) ?_
  intro m19 I20 W21
  have F22 : Fr l_342 0 0 g μ m19 := F15.w W21 gA0 rfl
  refine w_t (np := 33) (l2 := [some (eR a0), some (eI (a1)), some (eI (16))]) (s2 := []) rfl (b_iinc rfl rfl rfl) rfl ?_
  refine w_go (t1 := 3) rfl rfl ?_
  refine w_t (np := 4) (l2 := [some (eR a0), some (eI (a1)), some (eI (16))]) (s2 := [eI (16)]) rfl rfl rfl ?_
  refine b_ilt (t1 := 36) (t2 := 7) rfl rfl rfl rfl (fun g23 => absurd g23 (by decide)) (fun g23 => ?_)
  refine w_t (np := 8) (l2 := [some (eR a0), some (eI (a1)), some (eI (16))]) (s2 := [eR a0]) rfl (s_an rfl (pos_g I20 gA0 (by decide))) rfl ?_
  refine w_gf (np := 11) (v := eR v2) rfl rfl (I20.kd gA0 (by decide) (n := 69) rfl) (by rw [(W21.slot (W14.addr e3 b4 gA0 (by decide)) (by decide))]; rfl) ?_
  refine w_t (np := 12) (l2 := [some (eR a0), some (eI (a1)), some (eI (16))]) (s2 := [eR a0, eR v2]) rfl (s_an rfl (pos_g I20 gA0 (by decide))) rfl ?_
  refine w_gf (np := 15) (v := eI (v16)) rfl rfl (I20.kd gA0 (by decide) (n := 69) rfl) (by rw [W21.at]; rfl) ?_
  refine w_t (np := 16) (l2 := [some (eR a0), some (eI (a1)), some (eI (16))]) (s2 := [eI (a1), eI (v16), eR v2]) rfl rfl rfl ?_
  refine w_t (np := 17) (l2 := [some (eR a0), some (eI (a1)), some (eI (16))]) (s2 := [eI (16), eI (a1), eI (v16), eR v2]) rfl rfl rfl ?_
  obtain ⟨v24, e25, b26⟩ := h_ishr (a1) (16)
  refine w_t (np := 18) (l2 := [some (eR a0), some (eI (a1)), some (eI (16))]) (s2 := [eI (v24), eI (v16), eR v2]) rfl (e25 _ _) rfl ?_
  obtain ⟨v27, e28, b29⟩ := h_i2b (v24)
  refine w_t (np := 19) (l2 := [some (eR a0), some (eI (a1)), some (eI (16))]) (s2 := [eI (v27), eI (v16), eR v2]) rfl (e28 _ _) rfl ?_
  refine j_sb2 (np := 20) rfl rfl I20 b4 (by decide) (n := 900) rfl rfl (lo := -128) (hi := 127) (fun _ => rfl) (by omega) (by omega) (by omega) ?_
  intro m30 I31 W32
  have F33 : Fr l_342 0 0 g μ m30 := F22.v W32 b4 rfl rfl
  refine w_t (np := 21) (l2 := [some (eR a0), some (eI (a1)), some (eI (16))]) (s2 := [eR a0]) rfl (s_an rfl (pos_g I31 gA0 (by decide))) rfl ?_
  refine w_t (np := 22) (l2 := [some (eR a0), some (eI (a1)), some (eI (16))]) (s2 := [eR a0, eR a0]) rfl rfl rfl ?_
  refine w_gf (np := 25) (v := eI (v16)) rfl rfl (I31.kd gA0 (by decide) (n := 69) rfl) (by rw [(W32.addr W21.at b4 gA0 (by decide))]; rfl) ?_
  refine w_t (np := 26) (l2 := [some (eR a0), some (eI (a1)), some (eI (16))]) (s2 := [eI (1), eI (v16), eR a0]) rfl rfl rfl ?_
  obtain ⟨v34, e35⟩ : ∃ zz : Int, zz = (v16) + (1) := ⟨_, rfl⟩
  have b36 : 2 ≤ v34 ∧ v34 ≤ 902 := by omega
  refine w_t (np := 27) (l2 := [some (eR a0), some (eI (a1)), some (eI (16))]) (s2 := [eI (v34), eR a0]) rfl (b_iadd (by rw [← e35]; exact ev_w_in (by omega) (by omega))) rfl ?_
  refine j_pf (np := 30) (w := v34) rfl rfl I31 gA0 (by decide) (n := 69) rfl rfl (hO_i (lo := 0) (hi := 900) rfl (by omega)) ?_
  intro m37 I38 W39
  have F40 : Fr l_342 0 0 g μ m37 := F33.w W39 gA0 rfl
  refine w_t (np := 33) (l2 := [some (eR a0), some (eI (a1)), some (eI (8))]) (s2 := []) rfl (b_iinc rfl rfl rfl) rfl ?_
  refine w_go (t1 := 3) rfl rfl ?_
  refine w_t (np := 4) (l2 := [some (eR a0), some (eI (a1)), some (eI (8))]) (s2 := [eI (8)]) rfl rfl rfl ?_
  refine b_ilt (t1 := 36) (t2 := 7) rfl rfl rfl rfl (fun g41 => absurd g41 (by decide)) (fun g41 => ?_)
  refine w_t (np := 8) (l2 := [some (eR a0), some (eI (a1)), some (eI (8))]) (s2 := [eR a0]) rfl (s_an rfl (pos_g I38 gA0 (by decide))) rfl ?_
  refine w_gf (np := 11) (v := eR v2) rfl rfl (I38.kd gA0 (by decide) (n := 69) rfl) (by rw [(W39.slot (W32.addr (W21.slot (W14.addr e3 b4 gA0 (by decide)) (by decide)) b4 gA0 (by decide)) (by decide))]; rfl) ?_
  refine w_t (np := 12) (l2 := [some (eR a0), some (eI (a1)), some (eI (8))]) (s2 := [eR a0, eR v2]) rfl (s_an rfl (pos_g I38 gA0 (by decide))) rfl ?_
  refine w_gf (np := 15) (v := eI (v34)) rfl rfl (I38.kd gA0 (by decide) (n := 69) rfl) (by rw [W39.at]; rfl) ?_
  refine w_t (np := 16) (l2 := [some (eR a0), some (eI (a1)), some (eI (8))]) (s2 := [eI (a1), eI (v34), eR v2]) rfl rfl rfl ?_
  refine w_t (np := 17) (l2 := [some (eR a0), some (eI (a1)), some (eI (8))]) (s2 := [eI (8), eI (a1), eI (v34), eR v2]) rfl rfl rfl ?_
  obtain ⟨v42, e43, b44⟩ := h_ishr (a1) (8)
  refine w_t (np := 18) (l2 := [some (eR a0), some (eI (a1)), some (eI (8))]) (s2 := [eI (v42), eI (v34), eR v2]) rfl (e43 _ _) rfl ?_
  obtain ⟨v45, e46, b47⟩ := h_i2b (v42)
  refine w_t (np := 19) (l2 := [some (eR a0), some (eI (a1)), some (eI (8))]) (s2 := [eI (v45), eI (v34), eR v2]) rfl (e46 _ _) rfl ?_
  refine j_sb2 (np := 20) rfl rfl I38 b4 (by decide) (n := 900) rfl rfl (lo := -128) (hi := 127) (fun _ => rfl) (by omega) (by omega) (by omega) ?_
  intro m48 I49 W50
  have F51 : Fr l_342 0 0 g μ m48 := F40.v W50 b4 rfl rfl
  refine w_t (np := 21) (l2 := [some (eR a0), some (eI (a1)), some (eI (8))]) (s2 := [eR a0]) rfl (s_an rfl (pos_g I49 gA0 (by decide))) rfl ?_
  refine w_t (np := 22) (l2 := [some (eR a0), some (eI (a1)), some (eI (8))]) (s2 := [eR a0, eR a0]) rfl rfl rfl ?_
  refine w_gf (np := 25) (v := eI (v34)) rfl rfl (I49.kd gA0 (by decide) (n := 69) rfl) (by rw [(W50.addr W39.at b4 gA0 (by decide))]; rfl) ?_
  refine w_t (np := 26) (l2 := [some (eR a0), some (eI (a1)), some (eI (8))]) (s2 := [eI (1), eI (v34), eR a0]) rfl rfl rfl ?_
  obtain ⟨v52, e53⟩ : ∃ zz : Int, zz = (v34) + (1) := ⟨_, rfl⟩
  have b54 : 3 ≤ v52 ∧ v52 ≤ 903 := by omega
  refine w_t (np := 27) (l2 := [some (eR a0), some (eI (a1)), some (eI (8))]) (s2 := [eI (v52), eR a0]) rfl (b_iadd (by rw [← e53]; exact ev_w_in (by omega) (by omega))) rfl ?_
  refine j_pf (np := 30) (w := v52) rfl rfl I49 gA0 (by decide) (n := 69) rfl rfl (hO_i (lo := 0) (hi := 900) rfl (by omega)) ?_
  intro m55 I56 W57
  have F58 : Fr l_342 0 0 g μ m55 := F51.w W57 gA0 rfl
  refine w_t (np := 33) (l2 := [some (eR a0), some (eI (a1)), some (eI (0))]) (s2 := []) rfl (b_iinc rfl rfl rfl) rfl ?_
  refine w_go (t1 := 3) rfl rfl ?_
  refine w_t (np := 4) (l2 := [some (eR a0), some (eI (a1)), some (eI (0))]) (s2 := [eI (0)]) rfl rfl rfl ?_
  refine b_ilt (t1 := 36) (t2 := 7) rfl rfl rfl rfl (fun g59 => absurd g59 (by decide)) (fun g59 => ?_)
  refine w_t (np := 8) (l2 := [some (eR a0), some (eI (a1)), some (eI (0))]) (s2 := [eR a0]) rfl (s_an rfl (pos_g I56 gA0 (by decide))) rfl ?_
  refine w_gf (np := 11) (v := eR v2) rfl rfl (I56.kd gA0 (by decide) (n := 69) rfl) (by rw [(W57.slot (W50.addr (W39.slot (W32.addr (W21.slot (W14.addr e3 b4 gA0 (by decide)) (by decide)) b4 gA0 (by decide)) (by decide)) b4 gA0 (by decide)) (by decide))]; rfl) ?_
  refine w_t (np := 12) (l2 := [some (eR a0), some (eI (a1)), some (eI (0))]) (s2 := [eR a0, eR v2]) rfl (s_an rfl (pos_g I56 gA0 (by decide))) rfl ?_
  refine w_gf (np := 15) (v := eI (v52)) rfl rfl (I56.kd gA0 (by decide) (n := 69) rfl) (by rw [W57.at]; rfl) ?_
  refine w_t (np := 16) (l2 := [some (eR a0), some (eI (a1)), some (eI (0))]) (s2 := [eI (a1), eI (v52), eR v2]) rfl rfl rfl ?_
  refine w_t (np := 17) (l2 := [some (eR a0), some (eI (a1)), some (eI (0))]) (s2 := [eI (0), eI (a1), eI (v52), eR v2]) rfl rfl rfl ?_
  obtain ⟨v60, e61, b62⟩ := h_ishr (a1) (0)
  refine w_t (np := 18) (l2 := [some (eR a0), some (eI (a1)), some (eI (0))]) (s2 := [eI (v60), eI (v52), eR v2]) rfl (e61 _ _) rfl ?_
  obtain ⟨v63, e64, b65⟩ := h_i2b (v60)
  refine w_t (np := 19) (l2 := [some (eR a0), some (eI (a1)), some (eI (0))]) (s2 := [eI (v63), eI (v52), eR v2]) rfl (e64 _ _) rfl ?_
  refine j_sb2 (np := 20) rfl rfl I56 b4 (by decide) (n := 900) rfl rfl (lo := -128) (hi := 127) (fun _ => rfl) (by omega) (by omega) (by omega) ?_
  intro m66 I67 W68
  have F69 : Fr l_342 0 0 g μ m66 := F58.v W68 b4 rfl rfl
  refine w_t (np := 21) (l2 := [some (eR a0), some (eI (a1)), some (eI (0))]) (s2 := [eR a0]) rfl (s_an rfl (pos_g I67 gA0 (by decide))) rfl ?_
  refine w_t (np := 22) (l2 := [some (eR a0), some (eI (a1)), some (eI (0))]) (s2 := [eR a0, eR a0]) rfl rfl rfl ?_
  refine w_gf (np := 25) (v := eI (v52)) rfl rfl (I67.kd gA0 (by decide) (n := 69) rfl) (by rw [(W68.addr W57.at b4 gA0 (by decide))]; rfl) ?_
  refine w_t (np := 26) (l2 := [some (eR a0), some (eI (a1)), some (eI (0))]) (s2 := [eI (1), eI (v52), eR a0]) rfl rfl rfl ?_
  obtain ⟨v70, e71⟩ : ∃ zz : Int, zz = (v52) + (1) := ⟨_, rfl⟩
  have b72 : 4 ≤ v70 ∧ v70 ≤ 904 := by omega
  refine w_t (np := 27) (l2 := [some (eR a0), some (eI (a1)), some (eI (0))]) (s2 := [eI (v70), eR a0]) rfl (b_iadd (by rw [← e71]; exact ev_w_in (by omega) (by omega))) rfl ?_
  refine j_pf (np := 30) (w := v70) rfl rfl I67 gA0 (by decide) (n := 69) rfl rfl (hO_i (lo := 0) (hi := 900) rfl (by omega)) ?_
  intro m73 I74 W75
  have F76 : Fr l_342 0 0 g μ m73 := F69.w W75 gA0 rfl
  refine w_t (np := 33) (l2 := [some (eR a0), some (eI (a1)), some (eI (-8))]) (s2 := []) rfl (b_iinc rfl rfl rfl) rfl ?_
  refine w_go (t1 := 3) rfl rfl ?_
  refine w_t (np := 4) (l2 := [some (eR a0), some (eI (a1)), some (eI (-8))]) (s2 := [eI (-8)]) rfl rfl rfl ?_
  refine b_ilt (t1 := 36) (t2 := 7) rfl rfl rfl rfl (fun g77 => ?_) (fun g77 => absurd g77 (by decide))
  exact v_rv rfl rfl (K m73 (v70) I74 F76 W75.at (by omega))
def l_343 : List Nat := [13314, 13367, 22272]
theorem s_343 {L : Nat} {ρ : Nat → Int} {rc : eQ} {d : Nat} {f : eFr} {F : List eFr} {μ : eM} {g : Nat → Nat} {a0 : Nat} {a1 : Int} {a2 : Int} {a3 : Int} {a4 : Int} {a5 : Int} (hI : SI g μ) (gA0 : g a0 = 52) (bA1 : -2147483648 ≤ a1 ∧ a1 ≤ 2147483647) (bA2 : -2147483648 ≤ a2 ∧ a2 ≤ 2147483647) (bA3 : -2147483648 ≤ a3 ∧ a3 ≤ 2147483647) (bA4 : -2147483648 ≤ a4 ∧ a4 ≤ 2147483647) (bA5 : -2147483648 ≤ a5 ∧ a5 ≤ 2147483647) (K : ∀ (μ2 : eM) (v : Int), SI g μ2 → Fr l_343 0 0 g μ μ2 → (-2147483648 ≤ v ∧ v ≤ 2147483647) → ex_q (dt_fg L ρ) rc (d + 2, (f.1, f.2.1, f.2.2.1, eI v :: f.2.2.2), F, μ2)) : ex_q (dt_fg L ρ) rc (d + 1, (343, 0, [some (eR a0), some (eI (a1)), some (eI (a2)), some (eI (a3)), some (eI (a4)), some (eI (a5))], []), f :: F, μ) := by
  have F0 : Fr l_343 0 0 g μ μ := Fr.r
  refine w_t (np := 1) (l2 := [some (eR a0), some (eI (a1)), some (eI (a2)), some (eI (a3)), some (eI (a4)), some (eI (a5))]) (s2 := [eR a0]) rfl (s_an rfl (pos_g hI gA0 (by decide))) rfl ?_
  refine w_t (np := 2) (l2 := [some (eR a0), some (eI (a1)), some (eI (a2)), some (eI (a3)), some (eI (a4)), some (eI (a5))]) (s2 := [eI (0), eR a0]) rfl rfl rfl ?_
  refine j_pf (np := 5) (w := 0) rfl rfl hI gA0 (by decide) (n := 69) rfl rfl (hO_i (lo := -2147483648) (hi := 2147483647) rfl (by decide)) ?_
  intro m1 I2 W3
  have F4 : Fr l_343 0 0 g μ m1 := F0.w W3 gA0 rfl
  refine w_t (np := 6) (l2 := [some (eR a0), some (eI (a1)), some (eI (a2)), some (eI (a3)), some (eI (a4)), some (eI (a5))]) (s2 := [eR a0]) rfl (s_an rfl (pos_g I2 gA0 (by decide))) rfl ?_
  refine j_gi (np := 9) rfl rfl rfl I2 gA0 (by decide) (n := 69) rfl rfl (lo := 0) (hi := 900) rfl ?_
  intro v5 e6 b7
  refine w_t (np := 11) (l2 := [some (eR a0), some (eI (a1)), some (eI (a2)), some (eI (a3)), some (eI (a4)), some (eI (a5))]) (s2 := [eI (20), eI (v5)]) rfl rfl rfl ?_
  obtain ⟨v8, e9⟩ : ∃ zz : Int, zz = (v5) + (20) := ⟨_, rfl⟩
  have b10 : 20 ≤ v8 ∧ v8 ≤ 920 := by omega
  refine w_t (np := 12) (l2 := [some (eR a0), some (eI (a1)), some (eI (a2)), some (eI (a3)), some (eI (a4)), some (eI (a5))]) (s2 := [eI (v8)]) rfl (b_iadd (by rw [← e9]; exact ev_w_in (by omega) (by omega))) rfl ?_
  refine w_t (np := 15) (l2 := [some (eR a0), some (eI (a1)), some (eI (a2)), some (eI (a3)), some (eI (a4)), some (eI (a5))]) (s2 := [eI (900), eI (v8)]) rfl rfl rfl ?_
  refine b_cle (t1 := 20) (t2 := 18) rfl rfl rfl (ev_w_in (by omega) (by omega)) rfl (fun g11 => ?_) (fun g11 => ?_)
  · have b12 : 20 ≤ v8 ∧ v8 ≤ 900 := by omega
    refine w_t (np := 21) (l2 := [some (eR a0), some (eI (a1)), some (eI (a2)), some (eI (a3)), some (eI (a4)), some (eI (a5))]) (s2 := [eR a0]) rfl (s_an rfl (pos_g I2 gA0 (by decide))) rfl ?_
    refine w_t (np := 22) (l2 := [some (eR a0), some (eI (a1)), some (eI (a2)), some (eI (a3)), some (eI (a4)), some (eI (a5))]) (s2 := [eI (a1), eR a0]) rfl rfl rfl ?_
    refine w_cw (np := 25) (as := [eI (a1)]) (l2 := [some (eR a0), some (eI (a1)), none]) (rest := []) rfl rfl rfl (Nat.ble_eq.mp rfl) rfl rfl rfl (I2.kd gA0 (by decide) (n := 69) rfl) rfl ?_
    refine s_342 (a1 := a1) I2 gA0 (by omega) e6 (by omega) ?_
    intro m12 v15 I13 F14 e16 h17
    have F18 : Fr l_343 0 0 g μ m12 := F4.t F14 rfl
    have b19 : 0 ≤ v15 ∧ v15 ≤ 900 := by
      rw [← e16]
      exact I13.int gA0 (by decide) (n := 69) rfl (by decide) rfl
    show ex_q (dt_fg L ρ) rc (d + 1, (343, 25, [some (eR a0), some (eI (a1)), some (eI (a2)), some (eI (a3)), some (eI (a4)), some (eI (a5))], []), f :: F, m12)
    refine w_t (np := 26) (l2 := [some (eR a0), some (eI (a1)), some (eI (a2)), some (eI (a3)), some (eI (a4)), some (eI (a5))]) (s2 := [eR a0]) rfl (s_an rfl (pos_g I13 gA0 (by decide))) rfl ?_
    refine w_t (np := 27) (l2 := [some (eR a0), some (eI (a1)), some (eI (a2)), some (eI (a3)), some (eI (a4)), some (eI (a5))]) (s2 := [eI (a2), eR a0]) rfl rfl rfl ?_
    refine w_cw (np := 30) (as := [eI (a2)]) (l2 := [some (eR a0), some (eI (a2)), none]) (rest := []) rfl rfl rfl (Nat.ble_eq.mp rfl) rfl rfl rfl (I13.kd gA0 (by decide) (n := 69) rfl) rfl ?_
    refine s_342 (a1 := a2) I13 gA0 (by omega) e16 (by omega) ?_
    intro m20 v23 I21 F22 e24 h25
    have F26 : Fr l_343 0 0 g μ m20 := F18.t F22 rfl
    have b27 : 0 ≤ v23 ∧ v23 ≤ 900 := by
      rw [← e24]
      exact I21.int gA0 (by decide) (n := 69) rfl (by decide) rfl
    show ex_q (dt_fg L ρ) rc (d + 1, (343, 30, [some (eR a0), some (eI (a1)), some (eI (a2)), some (eI (a3)), some (eI (a4)), some (eI (a5))], []), f :: F, m20)
    refine w_t (np := 31) (l2 := [some (eR a0), some (eI (a1)), some (eI (a2)), some (eI (a3)), some (eI (a4)), some (eI (a5))]) (s2 := [eR a0]) rfl (s_an rfl (pos_g I21 gA0 (by decide))) rfl ?_
    refine w_t (np := 32) (l2 := [some (eR a0), some (eI (a1)), some (eI (a2)), some (eI (a3)), some (eI (a4)), some (eI (a5))]) (s2 := [eI (a3), eR a0]) rfl rfl rfl ?_
    refine w_cw (np := 35) (as := [eI (a3)]) (l2 := [some (eR a0), some (eI (a3)), none]) (rest := []) rfl rfl rfl (Nat.ble_eq.mp rfl) rfl rfl rfl (I21.kd gA0 (by decide) (n := 69) rfl) rfl ?_
    refine s_342 (a1 := a3) I21 gA0 (by omega) e24 (by omega) ?_
    intro m28 v31 I29 F30 e32 h33
    have F34 : Fr l_343 0 0 g μ m28 := F26.t F30 rfl
    have b35 : 0 ≤ v31 ∧ v31 ≤ 900 := by
      rw [← e32]
      exact I29.int gA0 (by decide) (n := 69) rfl (by decide) rfl
    show ex_q (dt_fg L ρ) rc (d + 1, (343, 35, [some (eR a0), some (eI (a1)), some (eI (a2)), some (eI (a3)), some (eI (a4)), some (eI (a5))], []), f :: F, m28)
    refine w_t (np := 36) (l2 := [some (eR a0), some (eI (a1)), some (eI (a2)), some (eI (a3)), some (eI (a4)), some (eI (a5))]) (s2 := [eR a0]) rfl (s_an rfl (pos_g I29 gA0 (by decide))) rfl ?_
    refine w_t (np := 38) (l2 := [some (eR a0), some (eI (a1)), some (eI (a2)), some (eI (a3)), some (eI (a4)), some (eI (a5))]) (s2 := [eI (a4), eR a0]) rfl rfl rfl ?_
    refine w_cw (np := 41) (as := [eI (a4)]) (l2 := [some (eR a0), some (eI (a4)), none]) (rest := []) rfl rfl rfl (Nat.ble_eq.mp rfl) rfl rfl rfl (I29.kd gA0 (by decide) (n := 69) rfl) rfl ?_
    refine s_342 (a1 := a4) I29 gA0 (by omega) e32 (by omega) ?_
    intro m36 v39 I37 F38 e40 h41
    have F42 : Fr l_343 0 0 g μ m36 := F34.t F38 rfl
    have b43 : 0 ≤ v39 ∧ v39 ≤ 900 := by
      rw [← e40]
      exact I37.int gA0 (by decide) (n := 69) rfl (by decide) rfl
    show ex_q (dt_fg L ρ) rc (d + 1, (343, 41, [some (eR a0), some (eI (a1)), some (eI (a2)), some (eI (a3)), some (eI (a4)), some (eI (a5))], []), f :: F, m36)
    refine w_t (np := 42) (l2 := [some (eR a0), some (eI (a1)), some (eI (a2)), some (eI (a3)), some (eI (a4)), some (eI (a5))]) (s2 := [eR a0]) rfl (s_an rfl (pos_g I37 gA0 (by decide))) rfl ?_
    refine w_t (np := 44) (l2 := [some (eR a0), some (eI (a1)), some (eI (a2)), some (eI (a3)), some (eI (a4)), some (eI (a5))]) (s2 := [eI (a5), eR a0]) rfl rfl rfl ?_
    refine w_cw (np := 47) (as := [eI (a5)]) (l2 := [some (eR a0), some (eI (a5)), none]) (rest := []) rfl rfl rfl (Nat.ble_eq.mp rfl) rfl rfl rfl (I37.kd gA0 (by decide) (n := 69) rfl) rfl ?_
    refine s_342 (a1 := a5) I37 gA0 (by omega) e40 (by omega) ?_
    intro m44 v47 I45 F46 e48 h49
    have F50 : Fr l_343 0 0 g μ m44 := F42.t F46 rfl
    have b51 : 0 ≤ v47 ∧ v47 ≤ 900 := by
      rw [← e48]
      exact I45.int gA0 (by decide) (n := 69) rfl (by decide) rfl
    show ex_q (dt_fg L ρ) rc (d + 1, (343, 47, [some (eR a0), some (eI (a1)), some (eI (a2)), some (eI (a3)), some (eI (a4)), some (eI (a5))], []), f :: F, m44)
    refine w_t (np := 48) (l2 := [some (eR a0), some (eI (a1)), some (eI (a2)), some (eI (a3)), some (eI (a4)), some (eI (a5))]) (s2 := [eR a0]) rfl (s_an rfl (pos_g I45 gA0 (by decide))) rfl ?_
    refine w_gf (np := 51) (v := eI (v47)) rfl rfl (I45.kd gA0 (by decide) (n := 69) rfl) (by rw [e48]; rfl) ?_
    exact b_ri rfl rfl (K m44 (v47) I45 F50 (by omega))
  · have b12 : 901 ≤ v8 ∧ v8 ≤ 920 := by omega
    refine w_t (np := 19) (l2 := [some (eR a0), some (eI (a1)), some (eI (a2)), some (eI (a3)), some (eI (a4)), some (eI (a5))]) (s2 := [eI (-1)]) rfl rfl rfl ?_
    exact b_ri rfl rfl (K m1 (-1) I2 F4 (by decide))
def l_345 : List Nat := [13372, 13373, 13374, 13375, 13378]
theorem s_345 {L : Nat} {ρ : Nat → Int} {rc : eQ} {d : Nat} {f : eFr} {F : List eFr} {μ : eM} {g : Nat → Nat} {a0 : Nat} {so : Int} {pl : Int} {th : Int} (hI : SI g μ) (gA0 : g a0 = 52) (h_so : μ.1 a0 61 = so) (h_pl : μ.1 a0 59 = pl) (h_th : μ.1 a0 60 = th) (hp0 : th ≤ 900) (K : ∀ (μ2 : eM) (so2 : Int) (pl2 : Int) (th2 : Int), SI g μ2 → Fr l_345 0 0 g μ μ2 → μ2.1 a0 61 = so2 → μ2.1 a0 59 = pl2 → μ2.1 a0 60 = th2 → (so2 = 0 ∨ so2 = 4 ∨ th2 ≤ 900) → (so2 ≠ 3 ∨ pl2 ≤ 899) → ex_q (dt_fg L ρ) rc (d + 3, (f.1, f.2.1, f.2.2.1, f.2.2.2), F, μ2)) : ex_q (dt_fg L ρ) rc (d + 2, (345, 0, [some (eR a0)], []), f :: F, μ) := by
  have F0 : Fr l_345 0 0 g μ μ := Fr.r
  have b_so : -2147483648 ≤ so ∧ so ≤ 2147483647 := by
    rw [← h_so]
    exact hI.int gA0 (by decide) (n := 69) rfl (by decide) rfl
  have b_pl : 0 ≤ pl ∧ pl ≤ 902 := by
    rw [← h_pl]
    exact hI.int gA0 (by decide) (n := 69) rfl (by decide) rfl
  have b_th : 0 ≤ th ∧ th ≤ 902 := by
    rw [← h_th]
    exact hI.int gA0 (by decide) (n := 69) rfl (by decide) rfl
  refine w_t (np := 1) (l2 := [some (eR a0)]) (s2 := [eR a0]) rfl (s_an rfl (pos_g hI gA0 (by decide))) rfl ?_
  refine w_t (np := 2) (l2 := [some (eR a0)]) (s2 := [eR a0, eR a0]) rfl (s_an rfl (pos_g hI gA0 (by decide))) rfl ?_
  refine w_gf (np := 5) (v := eI (th)) rfl rfl (hI.kd gA0 (by decide) (n := 69) rfl) (by rw [h_th]; rfl) ?_
  refine j_pf (np := 8) (w := th) rfl rfl hI gA0 (by decide) (n := 69) rfl rfl (hO_i (lo := 0) (hi := 902) rfl (by omega)) ?_
  intro m1 I2 W3
  have F4 : Fr l_345 0 0 g μ m1 := F0.w W3 gA0 rfl
  have hL8 : ∀ (n5 : Nat) (m7 : eM) (x10 : Int), SI g m7 → Fr l_345 0 0 g μ m7 → m7.1 a0 61 = so → m7.1 a0 60 = th → m7.1 a0 59 = x10 → (0 ≤ x10 ∧ x10 ≤ 900) → n5 = (900 - x10).toNat → ex_q (dt_fg L ρ) rc (d + 2, (345, 8, [some (eR a0)], []), f :: F, m7) := by
    intro n5
    induction n5 using Nat.strongRecOn with
    | _ n5 ih6 =>
    intro m7 x10 I8 F9 k13 k14 h11 b12 hn15
    refine w_t (np := 9) (l2 := [some (eR a0)]) (s2 := [eR a0]) rfl (s_an rfl (pos_g I8 gA0 (by decide))) rfl ?_
    refine w_t (np := 10) (l2 := [some (eR a0)]) (s2 := [eR a0, eR a0]) rfl (s_an rfl (pos_g I8 gA0 (by decide))) rfl ?_
    refine w_gf (np := 13) (v := eI (x10)) rfl rfl (I8.kd gA0 (by decide) (n := 69) rfl) (by rw [h11]; rfl) ?_
    refine w_t (np := 15) (l2 := [some (eR a0)]) (s2 := [eI (32), eI (x10), eR a0]) rfl rfl rfl ?_
    refine w_t (np := 17) (l2 := [some (eR a0)]) (s2 := [eI (32), eI (32), eI (x10), eR a0]) rfl rfl rfl ?_
    refine w_cw (np := 20) (as := [eI (x10), eI (32), eI (32)]) (l2 := [some (eR a0), some (eI (x10)), some (eI (32)), some (eI (32))]) (rest := []) rfl rfl rfl (Nat.ble_eq.mp rfl) rfl rfl rfl (I8.kd gA0 (by decide) (n := 69) rfl) rfl ?_
    refine w_t (np := 1) (l2 := [some (eR a0), some (eI (x10)), some (eI (32)), some (eI (32))]) (s2 := [eI (x10)]) rfl rfl rfl ?_
    refine w_t (np := 2) (l2 := [some (eR a0), some (eI (x10)), some (eI (32)), some (eI (32))]) (s2 := [eR a0, eI (x10)]) rfl (s_an rfl (pos_g I8 gA0 (by decide))) rfl ?_
    refine j_gi (np := 5) rfl rfl rfl I8 gA0 (by decide) (n := 69) rfl rfl (lo := 0) (hi := 900) rfl ?_
    intro v16 e17 b18
    refine b_cge (t1 := 26) (t2 := 8) rfl rfl rfl (ev_w_in (by omega) (by omega)) (ev_w_in (by omega) (by omega)) (fun g19 => ?_) (fun g19 => ?_)
    · refine w_t (np := 27) (l2 := [some (eR a0), some (eI (x10)), some (eI (32)), some (eI (32))]) (s2 := [eI (0)]) rfl rfl rfl ?_
      refine b_rz rfl rfl (Or.inl rfl) ?_
      show ex_q (dt_fg L ρ) rc (d + 2, (345, 20, [some (eR a0)], [eI (0)]), f :: F, m7)
      refine b_ine (t1 := 38) (t2 := 23) rfl rfl rfl rfl (fun g20 => absurd g20 (by decide)) (fun g20 => ?_)
      refine w_t (np := 24) (l2 := [some (eR a0)]) (s2 := [eR a0]) rfl (s_an rfl (pos_g I8 gA0 (by decide))) rfl ?_
      refine w_t (np := 25) (l2 := [some (eR a0)]) (s2 := [eR a0, eR a0]) rfl (s_an rfl (pos_g I8 gA0 (by decide))) rfl ?_
      refine w_gf (np := 28) (v := eI (x10)) rfl rfl (I8.kd gA0 (by decide) (n := 69) rfl) (by rw [h11]; rfl) ?_
      refine w_t (np := 30) (l2 := [some (eR a0)]) (s2 := [eI (10), eI (x10), eR a0]) rfl rfl rfl ?_
      refine w_t (np := 32) (l2 := [some (eR a0)]) (s2 := [eI (10), eI (10), eI (x10), eR a0]) rfl rfl rfl ?_
      refine w_cw (np := 35) (as := [eI (x10), eI (10), eI (10)]) (l2 := [some (eR a0), some (eI (x10)), some (eI (10)), some (eI (10))]) (rest := []) rfl rfl rfl (Nat.ble_eq.mp rfl) rfl rfl rfl (I8.kd gA0 (by decide) (n := 69) rfl) rfl ?_
      refine w_t (np := 1) (l2 := [some (eR a0), some (eI (x10)), some (eI (10)), some (eI (10))]) (s2 := [eI (x10)]) rfl rfl rfl ?_
      refine w_t (np := 2) (l2 := [some (eR a0), some (eI (x10)), some (eI (10)), some (eI (10))]) (s2 := [eR a0, eI (x10)]) rfl (s_an rfl (pos_g I8 gA0 (by decide))) rfl ?_
      refine w_gf (np := 5) (v := eI (v16)) rfl rfl (I8.kd gA0 (by decide) (n := 69) rfl) (by rw [e17]; rfl) ?_
      refine b_cge (t1 := 26) (t2 := 8) rfl rfl rfl (ev_w_in (by omega) (by omega)) (ev_w_in (by omega) (by omega)) (fun g21 => ?_) (fun g21 => False.elim (by omega))
      refine w_t (np := 27) (l2 := [some (eR a0), some (eI (x10)), some (eI (10)), some (eI (10))]) (s2 := [eI (0)]) rfl rfl rfl ?_
      refine b_rz rfl rfl (Or.inl rfl) ?_
      show ex_q (dt_fg L ρ) rc (d + 2, (345, 35, [some (eR a0)], [eI (0)]), f :: F, m7)
      refine b_ieq (t1 := 51) (t2 := 38) rfl rfl rfl rfl (fun g22 => ?_) (fun g22 => absurd g22 (by decide))
      refine w_t (np := 52) (l2 := [some (eR a0)]) (s2 := [eR a0]) rfl (s_an rfl (pos_g I8 gA0 (by decide))) rfl ?_
      refine w_t (np := 53) (l2 := [some (eR a0)]) (s2 := [eR a0, eR a0]) rfl (s_an rfl (pos_g I8 gA0 (by decide))) rfl ?_
      refine w_gf (np := 56) (v := eI (x10)) rfl rfl (I8.kd gA0 (by decide) (n := 69) rfl) (by rw [h11]; rfl) ?_
      refine w_t (np := 57) (l2 := [some (eR a0)]) (s2 := [eI (1), eI (x10), eR a0]) rfl rfl rfl ?_
      obtain ⟨v23, e24⟩ : ∃ zz : Int, zz = (x10) + (1) := ⟨_, rfl⟩
      have b25 : 1 ≤ v23 ∧ v23 ≤ 901 := by omega
      refine w_t (np := 58) (l2 := [some (eR a0)]) (s2 := [eI (v23), eR a0]) rfl (b_iadd (by rw [← e24]; exact ev_w_in (by omega) (by omega))) rfl ?_
      refine j_pf (np := 61) (w := v23) rfl rfl I8 gA0 (by decide) (n := 69) rfl rfl (hO_i (lo := 0) (hi := 902) rfl (by omega)) ?_
      intro m26 I27 W28
      have F29 : Fr l_345 0 0 g μ m26 := F9.w W28 gA0 rfl
      refine w_t (np := 62) (l2 := [some (eR a0)]) (s2 := [eR a0]) rfl (s_an rfl (pos_g I27 gA0 (by decide))) rfl ?_
      refine w_t (np := 63) (l2 := [some (eR a0)]) (s2 := [eR a0, eR a0]) rfl (s_an rfl (pos_g I27 gA0 (by decide))) rfl ?_
      refine w_gf (np := 66) (v := eI (x10)) rfl rfl (I27.kd gA0 (by decide) (n := 69) rfl) (by rw [(W28.slot h11 (by decide))]; rfl) ?_
      refine w_t (np := 67) (l2 := [some (eR a0)]) (s2 := [eR a0, eI (x10), eR a0]) rfl (s_an rfl (pos_g I27 gA0 (by decide))) rfl ?_
      refine w_gf (np := 70) (v := eI (v16)) rfl rfl (I27.kd gA0 (by decide) (n := 69) rfl) (by rw [(W28.slot e17 (by decide))]; rfl) ?_
      refine b_clt (t1 := 77) (t2 := 73) rfl rfl rfl (ev_w_in (by omega) (by omega)) (ev_w_in (by omega) (by omega)) (fun g30 => False.elim (by omega)) (fun g30 => ?_)
      refine w_t (np := 74) (l2 := [some (eR a0)]) (s2 := [eI (0), eR a0]) rfl rfl rfl ?_
      refine w_go (t1 := 110) rfl rfl ?_
      refine j_pf (np := 113) (w := 0) rfl rfl I27 gA0 (by decide) (n := 69) rfl rfl (hO_i (lo := -2147483648) (hi := 2147483647) rfl (by decide)) ?_
      intro m31 I32 W33
      have F34 : Fr l_345 0 0 g μ m31 := F29.w W33 gA0 rfl
      refine w_t (np := 114) (l2 := [some (eR a0)]) (s2 := [eR a0]) rfl (s_an rfl (pos_g I32 gA0 (by decide))) rfl ?_
      refine w_t (np := 115) (l2 := [some (eR a0)]) (s2 := [eR a0, eR a0]) rfl (s_an rfl (pos_g I32 gA0 (by decide))) rfl ?_
      refine w_gf (np := 118) (v := eI (x10)) rfl rfl (I32.kd gA0 (by decide) (n := 69) rfl) (by rw [(W33.slot (W28.slot h11 (by decide)) (by decide))]; rfl) ?_
      refine w_t (np := 120) (l2 := [some (eR a0)]) (s2 := [eI (97), eI (x10), eR a0]) rfl rfl rfl ?_
      refine w_t (np := 122) (l2 := [some (eR a0)]) (s2 := [eI (122), eI (97), eI (x10), eR a0]) rfl rfl rfl ?_
      refine w_cw (np := 125) (as := [eI (x10), eI (97), eI (122)]) (l2 := [some (eR a0), some (eI (x10)), some (eI (97)), some (eI (122))]) (rest := []) rfl rfl rfl (Nat.ble_eq.mp rfl) rfl rfl rfl (I32.kd gA0 (by decide) (n := 69) rfl) rfl ?_
      refine w_t (np := 1) (l2 := [some (eR a0), some (eI (x10)), some (eI (97)), some (eI (122))]) (s2 := [eI (x10)]) rfl rfl rfl ?_
      refine w_t (np := 2) (l2 := [some (eR a0), some (eI (x10)), some (eI (97)), some (eI (122))]) (s2 := [eR a0, eI (x10)]) rfl (s_an rfl (pos_g I32 gA0 (by decide))) rfl ?_
      refine w_gf (np := 5) (v := eI (v16)) rfl rfl (I32.kd gA0 (by decide) (n := 69) rfl) (by rw [(W33.slot (W28.slot e17 (by decide)) (by decide))]; rfl) ?_
      refine b_cge (t1 := 26) (t2 := 8) rfl rfl rfl (ev_w_in (by omega) (by omega)) (ev_w_in (by omega) (by omega)) (fun g35 => ?_) (fun g35 => False.elim (by omega))
      refine w_t (np := 27) (l2 := [some (eR a0), some (eI (x10)), some (eI (97)), some (eI (122))]) (s2 := [eI (0)]) rfl rfl rfl ?_
      refine b_rz rfl rfl (Or.inl rfl) ?_
      show ex_q (dt_fg L ρ) rc (d + 2, (345, 125, [some (eR a0)], [eI (0)]), f :: F, m31)
      refine b_ieq (t1 := 221) (t2 := 128) rfl rfl rfl rfl (fun g36 => ?_) (fun g36 => absurd g36 (by decide))
      refine w_t (np := 222) (l2 := [some (eR a0)]) (s2 := [eR a0]) rfl (s_an rfl (pos_g I32 gA0 (by decide))) rfl ?_
      refine w_t (np := 223) (l2 := [some (eR a0)]) (s2 := [eR a0, eR a0]) rfl (s_an rfl (pos_g I32 gA0 (by decide))) rfl ?_
      refine w_gf (np := 226) (v := eI (x10)) rfl rfl (I32.kd gA0 (by decide) (n := 69) rfl) (by rw [(W33.slot (W28.slot h11 (by decide)) (by decide))]; rfl) ?_
      refine w_t (np := 228) (l2 := [some (eR a0)]) (s2 := [eI (48), eI (x10), eR a0]) rfl rfl rfl ?_
      refine w_t (np := 230) (l2 := [some (eR a0)]) (s2 := [eI (57), eI (48), eI (x10), eR a0]) rfl rfl rfl ?_
      refine w_cw (np := 233) (as := [eI (x10), eI (48), eI (57)]) (l2 := [some (eR a0), some (eI (x10)), some (eI (48)), some (eI (57))]) (rest := []) rfl rfl rfl (Nat.ble_eq.mp rfl) rfl rfl rfl (I32.kd gA0 (by decide) (n := 69) rfl) rfl ?_
      refine w_t (np := 1) (l2 := [some (eR a0), some (eI (x10)), some (eI (48)), some (eI (57))]) (s2 := [eI (x10)]) rfl rfl rfl ?_
      refine w_t (np := 2) (l2 := [some (eR a0), some (eI (x10)), some (eI (48)), some (eI (57))]) (s2 := [eR a0, eI (x10)]) rfl (s_an rfl (pos_g I32 gA0 (by decide))) rfl ?_
      refine w_gf (np := 5) (v := eI (v16)) rfl rfl (I32.kd gA0 (by decide) (n := 69) rfl) (by rw [(W33.slot (W28.slot e17 (by decide)) (by decide))]; rfl) ?_
      refine b_cge (t1 := 26) (t2 := 8) rfl rfl rfl (ev_w_in (by omega) (by omega)) (ev_w_in (by omega) (by omega)) (fun g37 => ?_) (fun g37 => False.elim (by omega))
      refine w_t (np := 27) (l2 := [some (eR a0), some (eI (x10)), some (eI (48)), some (eI (57))]) (s2 := [eI (0)]) rfl rfl rfl ?_
      refine b_rz rfl rfl (Or.inl rfl) ?_
      show ex_q (dt_fg L ρ) rc (d + 2, (345, 233, [some (eR a0)], [eI (0)]), f :: F, m31)
      refine b_ieq (t1 := 343) (t2 := 236) rfl rfl rfl rfl (fun g38 => ?_) (fun g38 => absurd g38 (by decide))
      exact v_rv rfl rfl (K m31 (0) (x10) (v23) I32 F34 W33.at (W33.slot (W28.slot h11 (by decide)) (by decide)) (W33.slot W28.at (by decide)) (by omega) (by omega))
    · have b20 : 0 ≤ x10 ∧ x10 ≤ 899 := by omega
      have b21 : 1 ≤ v16 ∧ v16 ≤ 900 := by omega
      refine w_t (np := 9) (l2 := [some (eR a0), some (eI (x10)), some (eI (32)), some (eI (32))]) (s2 := [eR a0]) rfl (s_an rfl (pos_g I8 gA0 (by decide))) rfl ?_
      refine j_gr (np := 12) rfl rfl I8 gA0 (by decide) (n := 69) rfl rfl rfl ?_
      intro v20 e21 b22 z23
      have b22 : g v20 = 87 := Nat.eq_of_beq_eq_true b22
      refine w_t (np := 13) (l2 := [some (eR a0), some (eI (x10)), some (eI (32)), some (eI (32))]) (s2 := [eI (x10), eR v20]) rfl rfl rfl ?_
      refine j_b2 (np := 14) rfl rfl I8 b22 (by decide) (n := 900) rfl rfl (lo := -128) (hi := 127) (fun _ => rfl) (by omega) (by omega) ?_
      intro v24 e25 b26
      refine w_t (np := 15) (l2 := [some (eR a0), some (eI (x10)), some (eI (32)), some (eI (32))]) (s2 := [eI (32), eI (v24)]) rfl rfl rfl ?_
      refine w_t (np := 16) (l2 := [some (eR a0), some (eI (x10)), some (eI (32)), some (eI (32))]) (s2 := [eI (32), eI (32), eI (v24)]) rfl rfl rfl ?_
      refine w_cu (np := 19) (as := [eI (v24), eI (32), eI (32)]) (l2 := [some (eI (v24)), some (eI (32)), some (eI (32))]) (rest := []) rfl rfl rfl (Nat.ble_eq.mp rfl) rfl rfl rfl rfl ?_
      refine w_t (np := 1) (l2 := [some (eI (v24)), some (eI (32)), some (eI (32))]) (s2 := [eI (v24)]) rfl rfl rfl ?_
      refine w_t (np := 2) (l2 := [some (eI (v24)), some (eI (32)), some (eI (32))]) (s2 := [eI (32), eI (v24)]) rfl rfl rfl ?_
      refine b_clt (t1 := 14) (t2 := 5) rfl rfl rfl (ev_w_in (by omega) (by omega)) rfl (fun g27 => ?_) (fun g27 => ?_)
      · have b28 : -128 ≤ v24 ∧ v24 ≤ 31 := by omega
        refine w_t (np := 15) (l2 := [some (eI (v24)), some (eI (32)), some (eI (32))]) (s2 := [eI (0)]) rfl rfl rfl ?_
        refine b_rz rfl rfl (Or.inl rfl) ?_
        show ex_q (dt_fg L ρ) rc (d + 1, (344, 19, [some (eR a0), some (eI (x10)), some (eI (32)), some (eI (32))], [eI (0)]), (345, 20, [some (eR a0)], []) :: f :: F, m7)
        refine b_ieq (t1 := 26) (t2 := 22) rfl rfl rfl rfl (fun g28 => ?_) (fun g28 => absurd g28 (by decide))
        refine w_t (np := 27) (l2 := [some (eR a0), some (eI (x10)), some (eI (32)), some (eI (32))]) (s2 := [eI (0)]) rfl rfl rfl ?_
        refine b_rz rfl rfl (Or.inl rfl) ?_
        show ex_q (dt_fg L ρ) rc (d + 2, (345, 20, [some (eR a0)], [eI (0)]), f :: F, m7)
        refine b_ine (t1 := 38) (t2 := 23) rfl rfl rfl rfl (fun g29 => absurd g29 (by decide)) (fun g29 => ?_)
        refine w_t (np := 24) (l2 := [some (eR a0)]) (s2 := [eR a0]) rfl (s_an rfl (pos_g I8 gA0 (by decide))) rfl ?_
        refine w_t (np := 25) (l2 := [some (eR a0)]) (s2 := [eR a0, eR a0]) rfl (s_an rfl (pos_g I8 gA0 (by decide))) rfl ?_
        refine w_gf (np := 28) (v := eI (x10)) rfl rfl (I8.kd gA0 (by decide) (n := 69) rfl) (by rw [h11]; rfl) ?_
        refine w_t (np := 30) (l2 := [some (eR a0)]) (s2 := [eI (10), eI (x10), eR a0]) rfl rfl rfl ?_
        refine w_t (np := 32) (l2 := [some (eR a0)]) (s2 := [eI (10), eI (10), eI (x10), eR a0]) rfl rfl rfl ?_
        refine w_cw (np := 35) (as := [eI (x10), eI (10), eI (10)]) (l2 := [some (eR a0), some (eI (x10)), some (eI (10)), some (eI (10))]) (rest := []) rfl rfl rfl (Nat.ble_eq.mp rfl) rfl rfl rfl (I8.kd gA0 (by decide) (n := 69) rfl) rfl ?_
        refine w_t (np := 1) (l2 := [some (eR a0), some (eI (x10)), some (eI (10)), some (eI (10))]) (s2 := [eI (x10)]) rfl rfl rfl ?_
        refine w_t (np := 2) (l2 := [some (eR a0), some (eI (x10)), some (eI (10)), some (eI (10))]) (s2 := [eR a0, eI (x10)]) rfl (s_an rfl (pos_g I8 gA0 (by decide))) rfl ?_
        refine w_gf (np := 5) (v := eI (v16)) rfl rfl (I8.kd gA0 (by decide) (n := 69) rfl) (by rw [e17]; rfl) ?_
        refine b_cge (t1 := 26) (t2 := 8) rfl rfl rfl (ev_w_in (by omega) (by omega)) (ev_w_in (by omega) (by omega)) (fun g30 => False.elim (by omega)) (fun g30 => ?_)
        refine w_t (np := 9) (l2 := [some (eR a0), some (eI (x10)), some (eI (10)), some (eI (10))]) (s2 := [eR a0]) rfl (s_an rfl (pos_g I8 gA0 (by decide))) rfl ?_
        refine w_gf (np := 12) (v := eR v20) rfl rfl (I8.kd gA0 (by decide) (n := 69) rfl) (by rw [e21]; rfl) ?_
        refine w_t (np := 13) (l2 := [some (eR a0), some (eI (x10)), some (eI (10)), some (eI (10))]) (s2 := [eI (x10), eR v20]) rfl rfl rfl ?_
        refine j_b2 (np := 14) rfl rfl I8 b22 (by decide) (n := 900) rfl rfl (lo := -128) (hi := 127) (fun _ => rfl) (by omega) (by omega) ?_
        intro v31 e32 b33
        have e32 := e32.symm.trans e25
        rw [e32]
        refine w_t (np := 15) (l2 := [some (eR a0), some (eI (x10)), some (eI (10)), some (eI (10))]) (s2 := [eI (10), eI (v24)]) rfl rfl rfl ?_
        refine w_t (np := 16) (l2 := [some (eR a0), some (eI (x10)), some (eI (10)), some (eI (10))]) (s2 := [eI (10), eI (10), eI (v24)]) rfl rfl rfl ?_
        refine w_cu (np := 19) (as := [eI (v24), eI (10), eI (10)]) (l2 := [some (eI (v24)), some (eI (10)), some (eI (10))]) (rest := []) rfl rfl rfl (Nat.ble_eq.mp rfl) rfl rfl rfl rfl ?_
        refine w_t (np := 1) (l2 := [some (eI (v24)), some (eI (10)), some (eI (10))]) (s2 := [eI (v24)]) rfl rfl rfl ?_
        refine w_t (np := 2) (l2 := [some (eI (v24)), some (eI (10)), some (eI (10))]) (s2 := [eI (10), eI (v24)]) rfl rfl rfl ?_
        refine b_clt (t1 := 14) (t2 := 5) rfl rfl rfl (ev_w_in (by omega) (by omega)) rfl (fun g34 => ?_) (fun g34 => ?_)
        · have b35 : -128 ≤ v24 ∧ v24 ≤ 9 := by omega
          refine w_t (np := 15) (l2 := [some (eI (v24)), some (eI (10)), some (eI (10))]) (s2 := [eI (0)]) rfl rfl rfl ?_
          refine b_rz rfl rfl (Or.inl rfl) ?_
          show ex_q (dt_fg L ρ) rc (d + 1, (344, 19, [some (eR a0), some (eI (x10)), some (eI (10)), some (eI (10))], [eI (0)]), (345, 35, [some (eR a0)], []) :: f :: F, m7)
          refine b_ieq (t1 := 26) (t2 := 22) rfl rfl rfl rfl (fun g35 => ?_) (fun g35 => absurd g35 (by decide))
          refine w_t (np := 27) (l2 := [some (eR a0), some (eI (x10)), some (eI (10)), some (eI (10))]) (s2 := [eI (0)]) rfl rfl rfl ?_
          refine b_rz rfl rfl (Or.inl rfl) ?_
          show ex_q (dt_fg L ρ) rc (d + 2, (345, 35, [some (eR a0)], [eI (0)]), f :: F, m7)
          refine b_ieq (t1 := 51) (t2 := 38) rfl rfl rfl rfl (fun g36 => ?_) (fun g36 => absurd g36 (by decide))
          refine w_t (np := 52) (l2 := [some (eR a0)]) (s2 := [eR a0]) rfl (s_an rfl (pos_g I8 gA0 (by decide))) rfl ?_
          refine w_t (np := 53) (l2 := [some (eR a0)]) (s2 := [eR a0, eR a0]) rfl (s_an rfl (pos_g I8 gA0 (by decide))) rfl ?_
          refine w_gf (np := 56) (v := eI (x10)) rfl rfl (I8.kd gA0 (by decide) (n := 69) rfl) (by rw [h11]; rfl) ?_
          refine w_t (np := 57) (l2 := [some (eR a0)]) (s2 := [eI (1), eI (x10), eR a0]) rfl rfl rfl ?_
          obtain ⟨v37, e38⟩ : ∃ zz : Int, zz = (x10) + (1) := ⟨_, rfl⟩
          have b39 : 1 ≤ v37 ∧ v37 ≤ 900 := by omega
          refine w_t (np := 58) (l2 := [some (eR a0)]) (s2 := [eI (v37), eR a0]) rfl (b_iadd (by rw [← e38]; exact ev_w_in (by omega) (by omega))) rfl ?_
          refine j_pf (np := 61) (w := v37) rfl rfl I8 gA0 (by decide) (n := 69) rfl rfl (hO_i (lo := 0) (hi := 902) rfl (by omega)) ?_
          intro m40 I41 W42
          have F43 : Fr l_345 0 0 g μ m40 := F9.w W42 gA0 rfl
          refine w_t (np := 62) (l2 := [some (eR a0)]) (s2 := [eR a0]) rfl (s_an rfl (pos_g I41 gA0 (by decide))) rfl ?_
          refine w_t (np := 63) (l2 := [some (eR a0)]) (s2 := [eR a0, eR a0]) rfl (s_an rfl (pos_g I41 gA0 (by decide))) rfl ?_
          refine w_gf (np := 66) (v := eI (x10)) rfl rfl (I41.kd gA0 (by decide) (n := 69) rfl) (by rw [(W42.slot h11 (by decide))]; rfl) ?_
          refine w_t (np := 67) (l2 := [some (eR a0)]) (s2 := [eR a0, eI (x10), eR a0]) rfl (s_an rfl (pos_g I41 gA0 (by decide))) rfl ?_
          refine w_gf (np := 70) (v := eI (v16)) rfl rfl (I41.kd gA0 (by decide) (n := 69) rfl) (by rw [(W42.slot e17 (by decide))]; rfl) ?_
          refine b_clt (t1 := 77) (t2 := 73) rfl rfl rfl (ev_w_in (by omega) (by omega)) (ev_w_in (by omega) (by omega)) (fun g44 => ?_) (fun g44 => False.elim (by omega))
          refine w_t (np := 78) (l2 := [some (eR a0)]) (s2 := [eR a0, eR a0]) rfl (s_an rfl (pos_g I41 gA0 (by decide))) rfl ?_
          refine w_gf (np := 81) (v := eR v20) rfl rfl (I41.kd gA0 (by decide) (n := 69) rfl) (by rw [(W42.slot e21 (by decide))]; rfl) ?_
          refine w_t (np := 82) (l2 := [some (eR a0)]) (s2 := [eR a0, eR v20, eR a0]) rfl (s_an rfl (pos_g I41 gA0 (by decide))) rfl ?_
          refine w_gf (np := 85) (v := eI (x10)) rfl rfl (I41.kd gA0 (by decide) (n := 69) rfl) (by rw [(W42.slot h11 (by decide))]; rfl) ?_
          refine j_b2 (np := 86) rfl rfl I41 b22 (by decide) (n := 900) rfl rfl (lo := -128) (hi := 127) (fun _ => rfl) (by omega) (by omega) ?_
          intro v45 e46 b47
          have e46 := e46.symm.trans (W42.addr e25 gA0 b22 (by decide))
          rw [e46]
          refine w_t (np := 88) (l2 := [some (eR a0)]) (s2 := [eI (59), eI (v24), eR a0]) rfl rfl rfl ?_
          refine b_ceq (t1 := 105) (t2 := 91) rfl rfl rfl (ev_w_in (by omega) (by omega)) rfl (fun g48 => False.elim (by omega)) (fun g48 => ?_)
          refine w_t (np := 92) (l2 := [some (eR a0)]) (s2 := [eR a0, eR a0]) rfl (s_an rfl (pos_g I41 gA0 (by decide))) rfl ?_
          refine w_gf (np := 95) (v := eR v20) rfl rfl (I41.kd gA0 (by decide) (n := 69) rfl) (by rw [(W42.slot e21 (by decide))]; rfl) ?_
          refine w_t (np := 96) (l2 := [some (eR a0)]) (s2 := [eR a0, eR v20, eR a0]) rfl (s_an rfl (pos_g I41 gA0 (by decide))) rfl ?_
          refine w_gf (np := 99) (v := eI (x10)) rfl rfl (I41.kd gA0 (by decide) (n := 69) rfl) (by rw [(W42.slot h11 (by decide))]; rfl) ?_
          refine j_b2 (np := 100) rfl rfl I41 b22 (by decide) (n := 900) rfl rfl (lo := -128) (hi := 127) (fun _ => rfl) (by omega) (by omega) ?_
          intro v49 e50 b51
          have e50 := e50.symm.trans (W42.addr e25 gA0 b22 (by decide))
          rw [e50]
          refine w_t (np := 102) (l2 := [some (eR a0)]) (s2 := [eI (45), eI (v24), eR a0]) rfl rfl rfl ?_
          refine b_cne (t1 := 109) (t2 := 105) rfl rfl rfl (ev_w_in (by omega) (by omega)) rfl (fun g52 => ?_) (fun g52 => False.elim (by omega))
          refine w_t (np := 110) (l2 := [some (eR a0)]) (s2 := [eI (4), eR a0]) rfl rfl rfl ?_
          refine j_pf (np := 113) (w := 4) rfl rfl I41 gA0 (by decide) (n := 69) rfl rfl (hO_i (lo := -2147483648) (hi := 2147483647) rfl (by decide)) ?_
          intro m53 I54 W55
          have F56 : Fr l_345 0 0 g μ m53 := F43.w W55 gA0 rfl
          refine w_t (np := 114) (l2 := [some (eR a0)]) (s2 := [eR a0]) rfl (s_an rfl (pos_g I54 gA0 (by decide))) rfl ?_
          refine w_t (np := 115) (l2 := [some (eR a0)]) (s2 := [eR a0, eR a0]) rfl (s_an rfl (pos_g I54 gA0 (by decide))) rfl ?_
          refine w_gf (np := 118) (v := eI (x10)) rfl rfl (I54.kd gA0 (by decide) (n := 69) rfl) (by rw [(W55.slot (W42.slot h11 (by decide)) (by decide))]; rfl) ?_
          refine w_t (np := 120) (l2 := [some (eR a0)]) (s2 := [eI (97), eI (x10), eR a0]) rfl rfl rfl ?_
          refine w_t (np := 122) (l2 := [some (eR a0)]) (s2 := [eI (122), eI (97), eI (x10), eR a0]) rfl rfl rfl ?_
          refine w_cw (np := 125) (as := [eI (x10), eI (97), eI (122)]) (l2 := [some (eR a0), some (eI (x10)), some (eI (97)), some (eI (122))]) (rest := []) rfl rfl rfl (Nat.ble_eq.mp rfl) rfl rfl rfl (I54.kd gA0 (by decide) (n := 69) rfl) rfl ?_
          refine w_t (np := 1) (l2 := [some (eR a0), some (eI (x10)), some (eI (97)), some (eI (122))]) (s2 := [eI (x10)]) rfl rfl rfl ?_
          refine w_t (np := 2) (l2 := [some (eR a0), some (eI (x10)), some (eI (97)), some (eI (122))]) (s2 := [eR a0, eI (x10)]) rfl (s_an rfl (pos_g I54 gA0 (by decide))) rfl ?_
          refine w_gf (np := 5) (v := eI (v16)) rfl rfl (I54.kd gA0 (by decide) (n := 69) rfl) (by rw [(W55.slot (W42.slot e17 (by decide)) (by decide))]; rfl) ?_
          refine b_cge (t1 := 26) (t2 := 8) rfl rfl rfl (ev_w_in (by omega) (by omega)) (ev_w_in (by omega) (by omega)) (fun g57 => False.elim (by omega)) (fun g57 => ?_)
          refine w_t (np := 9) (l2 := [some (eR a0), some (eI (x10)), some (eI (97)), some (eI (122))]) (s2 := [eR a0]) rfl (s_an rfl (pos_g I54 gA0 (by decide))) rfl ?_
          refine w_gf (np := 12) (v := eR v20) rfl rfl (I54.kd gA0 (by decide) (n := 69) rfl) (by rw [(W55.slot (W42.slot e21 (by decide)) (by decide))]; rfl) ?_
          refine w_t (np := 13) (l2 := [some (eR a0), some (eI (x10)), some (eI (97)), some (eI (122))]) (s2 := [eI (x10), eR v20]) rfl rfl rfl ?_
          refine j_b2 (np := 14) rfl rfl I54 b22 (by decide) (n := 900) rfl rfl (lo := -128) (hi := 127) (fun _ => rfl) (by omega) (by omega) ?_
          intro v58 e59 b60
          have e59 := e59.symm.trans (W55.addr (W42.addr e25 gA0 b22 (by decide)) gA0 b22 (by decide))
          rw [e59]
          refine w_t (np := 15) (l2 := [some (eR a0), some (eI (x10)), some (eI (97)), some (eI (122))]) (s2 := [eI (97), eI (v24)]) rfl rfl rfl ?_
          refine w_t (np := 16) (l2 := [some (eR a0), some (eI (x10)), some (eI (97)), some (eI (122))]) (s2 := [eI (122), eI (97), eI (v24)]) rfl rfl rfl ?_
          refine w_cu (np := 19) (as := [eI (v24), eI (97), eI (122)]) (l2 := [some (eI (v24)), some (eI (97)), some (eI (122))]) (rest := []) rfl rfl rfl (Nat.ble_eq.mp rfl) rfl rfl rfl rfl ?_
          refine w_t (np := 1) (l2 := [some (eI (v24)), some (eI (97)), some (eI (122))]) (s2 := [eI (v24)]) rfl rfl rfl ?_
          refine w_t (np := 2) (l2 := [some (eI (v24)), some (eI (97)), some (eI (122))]) (s2 := [eI (97), eI (v24)]) rfl rfl rfl ?_
          refine b_clt (t1 := 14) (t2 := 5) rfl rfl rfl (ev_w_in (by omega) (by omega)) rfl (fun g61 => ?_) (fun g61 => False.elim (by omega))
          refine w_t (np := 15) (l2 := [some (eI (v24)), some (eI (97)), some (eI (122))]) (s2 := [eI (0)]) rfl rfl rfl ?_
          refine b_rz rfl rfl (Or.inl rfl) ?_
          show ex_q (dt_fg L ρ) rc (d + 1, (344, 19, [some (eR a0), some (eI (x10)), some (eI (97)), some (eI (122))], [eI (0)]), (345, 125, [some (eR a0)], []) :: f :: F, m53)
          refine b_ieq (t1 := 26) (t2 := 22) rfl rfl rfl rfl (fun g62 => ?_) (fun g62 => absurd g62 (by decide))
          refine w_t (np := 27) (l2 := [some (eR a0), some (eI (x10)), some (eI (97)), some (eI (122))]) (s2 := [eI (0)]) rfl rfl rfl ?_
          refine b_rz rfl rfl (Or.inl rfl) ?_
          show ex_q (dt_fg L ρ) rc (d + 2, (345, 125, [some (eR a0)], [eI (0)]), f :: F, m53)
          refine b_ieq (t1 := 221) (t2 := 128) rfl rfl rfl rfl (fun g63 => ?_) (fun g63 => absurd g63 (by decide))
          refine w_t (np := 222) (l2 := [some (eR a0)]) (s2 := [eR a0]) rfl (s_an rfl (pos_g I54 gA0 (by decide))) rfl ?_
          refine w_t (np := 223) (l2 := [some (eR a0)]) (s2 := [eR a0, eR a0]) rfl (s_an rfl (pos_g I54 gA0 (by decide))) rfl ?_
          refine w_gf (np := 226) (v := eI (x10)) rfl rfl (I54.kd gA0 (by decide) (n := 69) rfl) (by rw [(W55.slot (W42.slot h11 (by decide)) (by decide))]; rfl) ?_
          refine w_t (np := 228) (l2 := [some (eR a0)]) (s2 := [eI (48), eI (x10), eR a0]) rfl rfl rfl ?_
          refine w_t (np := 230) (l2 := [some (eR a0)]) (s2 := [eI (57), eI (48), eI (x10), eR a0]) rfl rfl rfl ?_
          refine w_cw (np := 233) (as := [eI (x10), eI (48), eI (57)]) (l2 := [some (eR a0), some (eI (x10)), some (eI (48)), some (eI (57))]) (rest := []) rfl rfl rfl (Nat.ble_eq.mp rfl) rfl rfl rfl (I54.kd gA0 (by decide) (n := 69) rfl) rfl ?_
          refine w_t (np := 1) (l2 := [some (eR a0), some (eI (x10)), some (eI (48)), some (eI (57))]) (s2 := [eI (x10)]) rfl rfl rfl ?_
          refine w_t (np := 2) (l2 := [some (eR a0), some (eI (x10)), some (eI (48)), some (eI (57))]) (s2 := [eR a0, eI (x10)]) rfl (s_an rfl (pos_g I54 gA0 (by decide))) rfl ?_
          refine w_gf (np := 5) (v := eI (v16)) rfl rfl (I54.kd gA0 (by decide) (n := 69) rfl) (by rw [(W55.slot (W42.slot e17 (by decide)) (by decide))]; rfl) ?_
          refine b_cge (t1 := 26) (t2 := 8) rfl rfl rfl (ev_w_in (by omega) (by omega)) (ev_w_in (by omega) (by omega)) (fun g64 => False.elim (by omega)) (fun g64 => ?_)
          refine w_t (np := 9) (l2 := [some (eR a0), some (eI (x10)), some (eI (48)), some (eI (57))]) (s2 := [eR a0]) rfl (s_an rfl (pos_g I54 gA0 (by decide))) rfl ?_
          refine w_gf (np := 12) (v := eR v20) rfl rfl (I54.kd gA0 (by decide) (n := 69) rfl) (by rw [(W55.slot (W42.slot e21 (by decide)) (by decide))]; rfl) ?_
          refine w_t (np := 13) (l2 := [some (eR a0), some (eI (x10)), some (eI (48)), some (eI (57))]) (s2 := [eI (x10), eR v20]) rfl rfl rfl ?_
          refine j_b2 (np := 14) rfl rfl I54 b22 (by decide) (n := 900) rfl rfl (lo := -128) (hi := 127) (fun _ => rfl) (by omega) (by omega) ?_
          intro v65 e66 b67
          have e66 := e66.symm.trans (W55.addr (W42.addr e25 gA0 b22 (by decide)) gA0 b22 (by decide))
          rw [e66]
          refine w_t (np := 15) (l2 := [some (eR a0), some (eI (x10)), some (eI (48)), some (eI (57))]) (s2 := [eI (48), eI (v24)]) rfl rfl rfl ?_
          refine w_t (np := 16) (l2 := [some (eR a0), some (eI (x10)), some (eI (48)), some (eI (57))]) (s2 := [eI (57), eI (48), eI (v24)]) rfl rfl rfl ?_
          refine w_cu (np := 19) (as := [eI (v24), eI (48), eI (57)]) (l2 := [some (eI (v24)), some (eI (48)), some (eI (57))]) (rest := []) rfl rfl rfl (Nat.ble_eq.mp rfl) rfl rfl rfl rfl ?_
          refine w_t (np := 1) (l2 := [some (eI (v24)), some (eI (48)), some (eI (57))]) (s2 := [eI (v24)]) rfl rfl rfl ?_
          refine w_t (np := 2) (l2 := [some (eI (v24)), some (eI (48)), some (eI (57))]) (s2 := [eI (48), eI (v24)]) rfl rfl rfl ?_
          refine b_clt (t1 := 14) (t2 := 5) rfl rfl rfl (ev_w_in (by omega) (by omega)) rfl (fun g68 => ?_) (fun g68 => False.elim (by omega))
          refine w_t (np := 15) (l2 := [some (eI (v24)), some (eI (48)), some (eI (57))]) (s2 := [eI (0)]) rfl rfl rfl ?_
          refine b_rz rfl rfl (Or.inl rfl) ?_
          show ex_q (dt_fg L ρ) rc (d + 1, (344, 19, [some (eR a0), some (eI (x10)), some (eI (48)), some (eI (57))], [eI (0)]), (345, 233, [some (eR a0)], []) :: f :: F, m53)
          refine b_ieq (t1 := 26) (t2 := 22) rfl rfl rfl rfl (fun g69 => ?_) (fun g69 => absurd g69 (by decide))
          refine w_t (np := 27) (l2 := [some (eR a0), some (eI (x10)), some (eI (48)), some (eI (57))]) (s2 := [eI (0)]) rfl rfl rfl ?_
          refine b_rz rfl rfl (Or.inl rfl) ?_
          show ex_q (dt_fg L ρ) rc (d + 2, (345, 233, [some (eR a0)], [eI (0)]), f :: F, m53)
          refine b_ieq (t1 := 343) (t2 := 236) rfl rfl rfl rfl (fun g70 => ?_) (fun g70 => absurd g70 (by decide))
          exact v_rv rfl rfl (K m53 (4) (x10) (v37) I54 F56 W55.at (W55.slot (W42.slot h11 (by decide)) (by decide)) (W55.slot W42.at (by decide)) (by omega) (by omega))
        · have b35 : 10 ≤ v24 ∧ v24 ≤ 31 := by omega
          refine w_t (np := 6) (l2 := [some (eI (v24)), some (eI (10)), some (eI (10))]) (s2 := [eI (v24)]) rfl rfl rfl ?_
          refine w_t (np := 7) (l2 := [some (eI (v24)), some (eI (10)), some (eI (10))]) (s2 := [eI (10), eI (v24)]) rfl rfl rfl ?_
          refine b_cgt (t1 := 14) (t2 := 10) rfl rfl rfl (ev_w_in (by omega) (by omega)) rfl (fun g35 => ?_) (fun g35 => ?_)
          · have b36 : 11 ≤ v24 ∧ v24 ≤ 31 := by omega
            refine w_t (np := 15) (l2 := [some (eI (v24)), some (eI (10)), some (eI (10))]) (s2 := [eI (0)]) rfl rfl rfl ?_
            refine b_rz rfl rfl (Or.inl rfl) ?_
            show ex_q (dt_fg L ρ) rc (d + 1, (344, 19, [some (eR a0), some (eI (x10)), some (eI (10)), some (eI (10))], [eI (0)]), (345, 35, [some (eR a0)], []) :: f :: F, m7)
            refine b_ieq (t1 := 26) (t2 := 22) rfl rfl rfl rfl (fun g36 => ?_) (fun g36 => absurd g36 (by decide))
            refine w_t (np := 27) (l2 := [some (eR a0), some (eI (x10)), some (eI (10)), some (eI (10))]) (s2 := [eI (0)]) rfl rfl rfl ?_
            refine b_rz rfl rfl (Or.inl rfl) ?_
            show ex_q (dt_fg L ρ) rc (d + 2, (345, 35, [some (eR a0)], [eI (0)]), f :: F, m7)
            refine b_ieq (t1 := 51) (t2 := 38) rfl rfl rfl rfl (fun g37 => ?_) (fun g37 => absurd g37 (by decide))
            refine w_t (np := 52) (l2 := [some (eR a0)]) (s2 := [eR a0]) rfl (s_an rfl (pos_g I8 gA0 (by decide))) rfl ?_
            refine w_t (np := 53) (l2 := [some (eR a0)]) (s2 := [eR a0, eR a0]) rfl (s_an rfl (pos_g I8 gA0 (by decide))) rfl ?_
            refine w_gf (np := 56) (v := eI (x10)) rfl rfl (I8.kd gA0 (by decide) (n := 69) rfl) (by rw [h11]; rfl) ?_
            refine w_t (np := 57) (l2 := [some (eR a0)]) (s2 := [eI (1), eI (x10), eR a0]) rfl rfl rfl ?_
            obtain ⟨v38, e39⟩ : ∃ zz : Int, zz = (x10) + (1) := ⟨_, rfl⟩
            have b40 : 1 ≤ v38 ∧ v38 ≤ 900 := by omega
            refine w_t (np := 58) (l2 := [some (eR a0)]) (s2 := [eI (v38), eR a0]) rfl (b_iadd (by rw [← e39]; exact ev_w_in (by omega) (by omega))) rfl ?_
            refine j_pf (np := 61) (w := v38) rfl rfl I8 gA0 (by decide) (n := 69) rfl rfl (hO_i (lo := 0) (hi := 902) rfl (by omega)) ?_
            intro m41 I42 W43
            have F44 : Fr l_345 0 0 g μ m41 := F9.w W43 gA0 rfl
            refine w_t (np := 62) (l2 := [some (eR a0)]) (s2 := [eR a0]) rfl (s_an rfl (pos_g I42 gA0 (by decide))) rfl ?_
            refine w_t (np := 63) (l2 := [some (eR a0)]) (s2 := [eR a0, eR a0]) rfl (s_an rfl (pos_g I42 gA0 (by decide))) rfl ?_
            refine w_gf (np := 66) (v := eI (x10)) rfl rfl (I42.kd gA0 (by decide) (n := 69) rfl) (by rw [(W43.slot h11 (by decide))]; rfl) ?_
            refine w_t (np := 67) (l2 := [some (eR a0)]) (s2 := [eR a0, eI (x10), eR a0]) rfl (s_an rfl (pos_g I42 gA0 (by decide))) rfl ?_
            refine w_gf (np := 70) (v := eI (v16)) rfl rfl (I42.kd gA0 (by decide) (n := 69) rfl) (by rw [(W43.slot e17 (by decide))]; rfl) ?_
            refine b_clt (t1 := 77) (t2 := 73) rfl rfl rfl (ev_w_in (by omega) (by omega)) (ev_w_in (by omega) (by omega)) (fun g45 => ?_) (fun g45 => False.elim (by omega))
            refine w_t (np := 78) (l2 := [some (eR a0)]) (s2 := [eR a0, eR a0]) rfl (s_an rfl (pos_g I42 gA0 (by decide))) rfl ?_
            refine w_gf (np := 81) (v := eR v20) rfl rfl (I42.kd gA0 (by decide) (n := 69) rfl) (by rw [(W43.slot e21 (by decide))]; rfl) ?_
            refine w_t (np := 82) (l2 := [some (eR a0)]) (s2 := [eR a0, eR v20, eR a0]) rfl (s_an rfl (pos_g I42 gA0 (by decide))) rfl ?_
            refine w_gf (np := 85) (v := eI (x10)) rfl rfl (I42.kd gA0 (by decide) (n := 69) rfl) (by rw [(W43.slot h11 (by decide))]; rfl) ?_
            refine j_b2 (np := 86) rfl rfl I42 b22 (by decide) (n := 900) rfl rfl (lo := -128) (hi := 127) (fun _ => rfl) (by omega) (by omega) ?_
            intro v46 e47 b48
            have e47 := e47.symm.trans (W43.addr e25 gA0 b22 (by decide))
            rw [e47]
            refine w_t (np := 88) (l2 := [some (eR a0)]) (s2 := [eI (59), eI (v24), eR a0]) rfl rfl rfl ?_
            refine b_ceq (t1 := 105) (t2 := 91) rfl rfl rfl (ev_w_in (by omega) (by omega)) rfl (fun g49 => False.elim (by omega)) (fun g49 => ?_)
            refine w_t (np := 92) (l2 := [some (eR a0)]) (s2 := [eR a0, eR a0]) rfl (s_an rfl (pos_g I42 gA0 (by decide))) rfl ?_
            refine w_gf (np := 95) (v := eR v20) rfl rfl (I42.kd gA0 (by decide) (n := 69) rfl) (by rw [(W43.slot e21 (by decide))]; rfl) ?_
            refine w_t (np := 96) (l2 := [some (eR a0)]) (s2 := [eR a0, eR v20, eR a0]) rfl (s_an rfl (pos_g I42 gA0 (by decide))) rfl ?_
            refine w_gf (np := 99) (v := eI (x10)) rfl rfl (I42.kd gA0 (by decide) (n := 69) rfl) (by rw [(W43.slot h11 (by decide))]; rfl) ?_
            refine j_b2 (np := 100) rfl rfl I42 b22 (by decide) (n := 900) rfl rfl (lo := -128) (hi := 127) (fun _ => rfl) (by omega) (by omega) ?_
            intro v50 e51 b52
            have e51 := e51.symm.trans (W43.addr e25 gA0 b22 (by decide))
            rw [e51]
            refine w_t (np := 102) (l2 := [some (eR a0)]) (s2 := [eI (45), eI (v24), eR a0]) rfl rfl rfl ?_
            refine b_cne (t1 := 109) (t2 := 105) rfl rfl rfl (ev_w_in (by omega) (by omega)) rfl (fun g53 => ?_) (fun g53 => False.elim (by omega))
            refine w_t (np := 110) (l2 := [some (eR a0)]) (s2 := [eI (4), eR a0]) rfl rfl rfl ?_
            refine j_pf (np := 113) (w := 4) rfl rfl I42 gA0 (by decide) (n := 69) rfl rfl (hO_i (lo := -2147483648) (hi := 2147483647) rfl (by decide)) ?_
            intro m54 I55 W56
            have F57 : Fr l_345 0 0 g μ m54 := F44.w W56 gA0 rfl
            refine w_t (np := 114) (l2 := [some (eR a0)]) (s2 := [eR a0]) rfl (s_an rfl (pos_g I55 gA0 (by decide))) rfl ?_
            refine w_t (np := 115) (l2 := [some (eR a0)]) (s2 := [eR a0, eR a0]) rfl (s_an rfl (pos_g I55 gA0 (by decide))) rfl ?_
            refine w_gf (np := 118) (v := eI (x10)) rfl rfl (I55.kd gA0 (by decide) (n := 69) rfl) (by rw [(W56.slot (W43.slot h11 (by decide)) (by decide))]; rfl) ?_
            refine w_t (np := 120) (l2 := [some (eR a0)]) (s2 := [eI (97), eI (x10), eR a0]) rfl rfl rfl ?_
            refine w_t (np := 122) (l2 := [some (eR a0)]) (s2 := [eI (122), eI (97), eI (x10), eR a0]) rfl rfl rfl ?_
            refine w_cw (np := 125) (as := [eI (x10), eI (97), eI (122)]) (l2 := [some (eR a0), some (eI (x10)), some (eI (97)), some (eI (122))]) (rest := []) rfl rfl rfl (Nat.ble_eq.mp rfl) rfl rfl rfl (I55.kd gA0 (by decide) (n := 69) rfl) rfl ?_
            refine w_t (np := 1) (l2 := [some (eR a0), some (eI (x10)), some (eI (97)), some (eI (122))]) (s2 := [eI (x10)]) rfl rfl rfl ?_
            refine w_t (np := 2) (l2 := [some (eR a0), some (eI (x10)), some (eI (97)), some (eI (122))]) (s2 := [eR a0, eI (x10)]) rfl (s_an rfl (pos_g I55 gA0 (by decide))) rfl ?_
            refine w_gf (np := 5) (v := eI (v16)) rfl rfl (I55.kd gA0 (by decide) (n := 69) rfl) (by rw [(W56.slot (W43.slot e17 (by decide)) (by decide))]; rfl) ?_
            refine b_cge (t1 := 26) (t2 := 8) rfl rfl rfl (ev_w_in (by omega) (by omega)) (ev_w_in (by omega) (by omega)) (fun g58 => False.elim (by omega)) (fun g58 => ?_)
            refine w_t (np := 9) (l2 := [some (eR a0), some (eI (x10)), some (eI (97)), some (eI (122))]) (s2 := [eR a0]) rfl (s_an rfl (pos_g I55 gA0 (by decide))) rfl ?_
            refine w_gf (np := 12) (v := eR v20) rfl rfl (I55.kd gA0 (by decide) (n := 69) rfl) (by rw [(W56.slot (W43.slot e21 (by decide)) (by decide))]; rfl) ?_
            refine w_t (np := 13) (l2 := [some (eR a0), some (eI (x10)), some (eI (97)), some (eI (122))]) (s2 := [eI (x10), eR v20]) rfl rfl rfl ?_
            refine j_b2 (np := 14) rfl rfl I55 b22 (by decide) (n := 900) rfl rfl (lo := -128) (hi := 127) (fun _ => rfl) (by omega) (by omega) ?_
            intro v59 e60 b61
            have e60 := e60.symm.trans (W56.addr (W43.addr e25 gA0 b22 (by decide)) gA0 b22 (by decide))
            rw [e60]
            refine w_t (np := 15) (l2 := [some (eR a0), some (eI (x10)), some (eI (97)), some (eI (122))]) (s2 := [eI (97), eI (v24)]) rfl rfl rfl ?_
            refine w_t (np := 16) (l2 := [some (eR a0), some (eI (x10)), some (eI (97)), some (eI (122))]) (s2 := [eI (122), eI (97), eI (v24)]) rfl rfl rfl ?_
            refine w_cu (np := 19) (as := [eI (v24), eI (97), eI (122)]) (l2 := [some (eI (v24)), some (eI (97)), some (eI (122))]) (rest := []) rfl rfl rfl (Nat.ble_eq.mp rfl) rfl rfl rfl rfl ?_
            refine w_t (np := 1) (l2 := [some (eI (v24)), some (eI (97)), some (eI (122))]) (s2 := [eI (v24)]) rfl rfl rfl ?_
            refine w_t (np := 2) (l2 := [some (eI (v24)), some (eI (97)), some (eI (122))]) (s2 := [eI (97), eI (v24)]) rfl rfl rfl ?_
            refine b_clt (t1 := 14) (t2 := 5) rfl rfl rfl (ev_w_in (by omega) (by omega)) rfl (fun g62 => ?_) (fun g62 => False.elim (by omega))
            refine w_t (np := 15) (l2 := [some (eI (v24)), some (eI (97)), some (eI (122))]) (s2 := [eI (0)]) rfl rfl rfl ?_
            refine b_rz rfl rfl (Or.inl rfl) ?_
            show ex_q (dt_fg L ρ) rc (d + 1, (344, 19, [some (eR a0), some (eI (x10)), some (eI (97)), some (eI (122))], [eI (0)]), (345, 125, [some (eR a0)], []) :: f :: F, m54)
            refine b_ieq (t1 := 26) (t2 := 22) rfl rfl rfl rfl (fun g63 => ?_) (fun g63 => absurd g63 (by decide))
            refine w_t (np := 27) (l2 := [some (eR a0), some (eI (x10)), some (eI (97)), some (eI (122))]) (s2 := [eI (0)]) rfl rfl rfl ?_
            refine b_rz rfl rfl (Or.inl rfl) ?_
            show ex_q (dt_fg L ρ) rc (d + 2, (345, 125, [some (eR a0)], [eI (0)]), f :: F, m54)
            refine b_ieq (t1 := 221) (t2 := 128) rfl rfl rfl rfl (fun g64 => ?_) (fun g64 => absurd g64 (by decide))
            refine w_t (np := 222) (l2 := [some (eR a0)]) (s2 := [eR a0]) rfl (s_an rfl (pos_g I55 gA0 (by decide))) rfl ?_
            refine w_t (np := 223) (l2 := [some (eR a0)]) (s2 := [eR a0, eR a0]) rfl (s_an rfl (pos_g I55 gA0 (by decide))) rfl ?_
            refine w_gf (np := 226) (v := eI (x10)) rfl rfl (I55.kd gA0 (by decide) (n := 69) rfl) (by rw [(W56.slot (W43.slot h11 (by decide)) (by decide))]; rfl) ?_
            refine w_t (np := 228) (l2 := [some (eR a0)]) (s2 := [eI (48), eI (x10), eR a0]) rfl rfl rfl ?_
            refine w_t (np := 230) (l2 := [some (eR a0)]) (s2 := [eI (57), eI (48), eI (x10), eR a0]) rfl rfl rfl ?_
            refine w_cw (np := 233) (as := [eI (x10), eI (48), eI (57)]) (l2 := [some (eR a0), some (eI (x10)), some (eI (48)), some (eI (57))]) (rest := []) rfl rfl rfl (Nat.ble_eq.mp rfl) rfl rfl rfl (I55.kd gA0 (by decide) (n := 69) rfl) rfl ?_
            refine w_t (np := 1) (l2 := [some (eR a0), some (eI (x10)), some (eI (48)), some (eI (57))]) (s2 := [eI (x10)]) rfl rfl rfl ?_
            refine w_t (np := 2) (l2 := [some (eR a0), some (eI (x10)), some (eI (48)), some (eI (57))]) (s2 := [eR a0, eI (x10)]) rfl (s_an rfl (pos_g I55 gA0 (by decide))) rfl ?_
            refine w_gf (np := 5) (v := eI (v16)) rfl rfl (I55.kd gA0 (by decide) (n := 69) rfl) (by rw [(W56.slot (W43.slot e17 (by decide)) (by decide))]; rfl) ?_
            refine b_cge (t1 := 26) (t2 := 8) rfl rfl rfl (ev_w_in (by omega) (by omega)) (ev_w_in (by omega) (by omega)) (fun g65 => False.elim (by omega)) (fun g65 => ?_)
            refine w_t (np := 9) (l2 := [some (eR a0), some (eI (x10)), some (eI (48)), some (eI (57))]) (s2 := [eR a0]) rfl (s_an rfl (pos_g I55 gA0 (by decide))) rfl ?_
            refine w_gf (np := 12) (v := eR v20) rfl rfl (I55.kd gA0 (by decide) (n := 69) rfl) (by rw [(W56.slot (W43.slot e21 (by decide)) (by decide))]; rfl) ?_
            refine w_t (np := 13) (l2 := [some (eR a0), some (eI (x10)), some (eI (48)), some (eI (57))]) (s2 := [eI (x10), eR v20]) rfl rfl rfl ?_
            refine j_b2 (np := 14) rfl rfl I55 b22 (by decide) (n := 900) rfl rfl (lo := -128) (hi := 127) (fun _ => rfl) (by omega) (by omega) ?_
            intro v66 e67 b68
            have e67 := e67.symm.trans (W56.addr (W43.addr e25 gA0 b22 (by decide)) gA0 b22 (by decide))
            rw [e67]
            refine w_t (np := 15) (l2 := [some (eR a0), some (eI (x10)), some (eI (48)), some (eI (57))]) (s2 := [eI (48), eI (v24)]) rfl rfl rfl ?_
            refine w_t (np := 16) (l2 := [some (eR a0), some (eI (x10)), some (eI (48)), some (eI (57))]) (s2 := [eI (57), eI (48), eI (v24)]) rfl rfl rfl ?_
            refine w_cu (np := 19) (as := [eI (v24), eI (48), eI (57)]) (l2 := [some (eI (v24)), some (eI (48)), some (eI (57))]) (rest := []) rfl rfl rfl (Nat.ble_eq.mp rfl) rfl rfl rfl rfl ?_
            refine w_t (np := 1) (l2 := [some (eI (v24)), some (eI (48)), some (eI (57))]) (s2 := [eI (v24)]) rfl rfl rfl ?_
            refine w_t (np := 2) (l2 := [some (eI (v24)), some (eI (48)), some (eI (57))]) (s2 := [eI (48), eI (v24)]) rfl rfl rfl ?_
            refine b_clt (t1 := 14) (t2 := 5) rfl rfl rfl (ev_w_in (by omega) (by omega)) rfl (fun g69 => ?_) (fun g69 => False.elim (by omega))
            refine w_t (np := 15) (l2 := [some (eI (v24)), some (eI (48)), some (eI (57))]) (s2 := [eI (0)]) rfl rfl rfl ?_
            refine b_rz rfl rfl (Or.inl rfl) ?_
            show ex_q (dt_fg L ρ) rc (d + 1, (344, 19, [some (eR a0), some (eI (x10)), some (eI (48)), some (eI (57))], [eI (0)]), (345, 233, [some (eR a0)], []) :: f :: F, m54)
            refine b_ieq (t1 := 26) (t2 := 22) rfl rfl rfl rfl (fun g70 => ?_) (fun g70 => absurd g70 (by decide))
            refine w_t (np := 27) (l2 := [some (eR a0), some (eI (x10)), some (eI (48)), some (eI (57))]) (s2 := [eI (0)]) rfl rfl rfl ?_
            refine b_rz rfl rfl (Or.inl rfl) ?_
            show ex_q (dt_fg L ρ) rc (d + 2, (345, 233, [some (eR a0)], [eI (0)]), f :: F, m54)
            refine b_ieq (t1 := 343) (t2 := 236) rfl rfl rfl rfl (fun g71 => ?_) (fun g71 => absurd g71 (by decide))
            exact v_rv rfl rfl (K m54 (4) (x10) (v38) I55 F57 W56.at (W56.slot (W43.slot h11 (by decide)) (by decide)) (W56.slot W43.at (by decide)) (by omega) (by omega))
          · have b36 : 10 ≤ v24 ∧ v24 ≤ 10 := by omega
            refine w_t (np := 11) (l2 := [some (eI (v24)), some (eI (10)), some (eI (10))]) (s2 := [eI (1)]) rfl rfl rfl ?_
            refine w_go (t1 := 15) rfl rfl ?_
            refine b_rz rfl rfl (Or.inr rfl) ?_
            show ex_q (dt_fg L ρ) rc (d + 1, (344, 19, [some (eR a0), some (eI (x10)), some (eI (10)), some (eI (10))], [eI (1)]), (345, 35, [some (eR a0)], []) :: f :: F, m7)
            refine b_ieq (t1 := 26) (t2 := 22) rfl rfl rfl rfl (fun g36 => absurd g36 (by decide)) (fun g36 => ?_)
            refine w_t (np := 23) (l2 := [some (eR a0), some (eI (x10)), some (eI (10)), some (eI (10))]) (s2 := [eI (1)]) rfl rfl rfl ?_
            refine w_go (t1 := 27) rfl rfl ?_
            refine b_rz rfl rfl (Or.inr rfl) ?_
            show ex_q (dt_fg L ρ) rc (d + 2, (345, 35, [some (eR a0)], [eI (1)]), f :: F, m7)
            refine b_ieq (t1 := 51) (t2 := 38) rfl rfl rfl rfl (fun g37 => absurd g37 (by decide)) (fun g37 => ?_)
            refine w_t (np := 39) (l2 := [some (eR a0)]) (s2 := [eR a0]) rfl (s_an rfl (pos_g I8 gA0 (by decide))) rfl ?_
            refine w_t (np := 40) (l2 := [some (eR a0)]) (s2 := [eR a0, eR a0]) rfl rfl rfl ?_
            refine w_gf (np := 43) (v := eI (x10)) rfl rfl (I8.kd gA0 (by decide) (n := 69) rfl) (by rw [h11]; rfl) ?_
            refine w_t (np := 44) (l2 := [some (eR a0)]) (s2 := [eI (1), eI (x10), eR a0]) rfl rfl rfl ?_
            obtain ⟨v38, e39⟩ : ∃ zz : Int, zz = (x10) + (1) := ⟨_, rfl⟩
            have b40 : 1 ≤ v38 ∧ v38 ≤ 900 := by omega
            refine w_t (np := 45) (l2 := [some (eR a0)]) (s2 := [eI (v38), eR a0]) rfl (b_iadd (by rw [← e39]; exact ev_w_in (by omega) (by omega))) rfl ?_
            refine j_pf (np := 48) (w := v38) rfl rfl I8 gA0 (by decide) (n := 69) rfl rfl (hO_i (lo := 0) (hi := 902) rfl (by omega)) ?_
            intro m41 I42 W43
            have F44 : Fr l_345 0 0 g μ m41 := F9.w W43 gA0 rfl
            refine w_go (t1 := 8) rfl rfl ?_
            exact ih6 (900 - (v38)).toNat (by omega) m41  (v38) I42 F44  (W43.slot k13 (by decide)) (W43.slot k14 (by decide)) W43.at (by omega)   rfl
      · have b28 : 32 ≤ v24 ∧ v24 ≤ 127 := by omega
        refine w_t (np := 6) (l2 := [some (eI (v24)), some (eI (32)), some (eI (32))]) (s2 := [eI (v24)]) rfl rfl rfl ?_
        refine w_t (np := 7) (l2 := [some (eI (v24)), some (eI (32)), some (eI (32))]) (s2 := [eI (32), eI (v24)]) rfl rfl rfl ?_
        refine b_cgt (t1 := 14) (t2 := 10) rfl rfl rfl (ev_w_in (by omega) (by omega)) rfl (fun g28 => ?_) (fun g28 => ?_)
        · have b29 : 33 ≤ v24 ∧ v24 ≤ 127 := by omega
          refine w_t (np := 15) (l2 := [some (eI (v24)), some (eI (32)), some (eI (32))]) (s2 := [eI (0)]) rfl rfl rfl ?_
          refine b_rz rfl rfl (Or.inl rfl) ?_
          show ex_q (dt_fg L ρ) rc (d + 1, (344, 19, [some (eR a0), some (eI (x10)), some (eI (32)), some (eI (32))], [eI (0)]), (345, 20, [some (eR a0)], []) :: f :: F, m7)
          refine b_ieq (t1 := 26) (t2 := 22) rfl rfl rfl rfl (fun g29 => ?_) (fun g29 => absurd g29 (by decide))
          refine w_t (np := 27) (l2 := [some (eR a0), some (eI (x10)), some (eI (32)), some (eI (32))]) (s2 := [eI (0)]) rfl rfl rfl ?_
          refine b_rz rfl rfl (Or.inl rfl) ?_
          show ex_q (dt_fg L ρ) rc (d + 2, (345, 20, [some (eR a0)], [eI (0)]), f :: F, m7)
          refine b_ine (t1 := 38) (t2 := 23) rfl rfl rfl rfl (fun g30 => absurd g30 (by decide)) (fun g30 => ?_)
          refine w_t (np := 24) (l2 := [some (eR a0)]) (s2 := [eR a0]) rfl (s_an rfl (pos_g I8 gA0 (by decide))) rfl ?_
          refine w_t (np := 25) (l2 := [some (eR a0)]) (s2 := [eR a0, eR a0]) rfl (s_an rfl (pos_g I8 gA0 (by decide))) rfl ?_
          refine w_gf (np := 28) (v := eI (x10)) rfl rfl (I8.kd gA0 (by decide) (n := 69) rfl) (by rw [h11]; rfl) ?_
          refine w_t (np := 30) (l2 := [some (eR a0)]) (s2 := [eI (10), eI (x10), eR a0]) rfl rfl rfl ?_
          refine w_t (np := 32) (l2 := [some (eR a0)]) (s2 := [eI (10), eI (10), eI (x10), eR a0]) rfl rfl rfl ?_
          refine w_cw (np := 35) (as := [eI (x10), eI (10), eI (10)]) (l2 := [some (eR a0), some (eI (x10)), some (eI (10)), some (eI (10))]) (rest := []) rfl rfl rfl (Nat.ble_eq.mp rfl) rfl rfl rfl (I8.kd gA0 (by decide) (n := 69) rfl) rfl ?_
          refine w_t (np := 1) (l2 := [some (eR a0), some (eI (x10)), some (eI (10)), some (eI (10))]) (s2 := [eI (x10)]) rfl rfl rfl ?_
          refine w_t (np := 2) (l2 := [some (eR a0), some (eI (x10)), some (eI (10)), some (eI (10))]) (s2 := [eR a0, eI (x10)]) rfl (s_an rfl (pos_g I8 gA0 (by decide))) rfl ?_
          refine w_gf (np := 5) (v := eI (v16)) rfl rfl (I8.kd gA0 (by decide) (n := 69) rfl) (by rw [e17]; rfl) ?_
          refine b_cge (t1 := 26) (t2 := 8) rfl rfl rfl (ev_w_in (by omega) (by omega)) (ev_w_in (by omega) (by omega)) (fun g31 => False.elim (by omega)) (fun g31 => ?_)
          refine w_t (np := 9) (l2 := [some (eR a0), some (eI (x10)), some (eI (10)), some (eI (10))]) (s2 := [eR a0]) rfl (s_an rfl (pos_g I8 gA0 (by decide))) rfl ?_
          refine w_gf (np := 12) (v := eR v20) rfl rfl (I8.kd gA0 (by decide) (n := 69) rfl) (by rw [e21]; rfl) ?_
          refine w_t (np := 13) (l2 := [some (eR a0), some (eI (x10)), some (eI (10)), some (eI (10))]) (s2 := [eI (x10), eR v20]) rfl rfl rfl ?_
          refine j_b2 (np := 14) rfl rfl I8 b22 (by decide) (n := 900) rfl rfl (lo := -128) (hi := 127) (fun _ => rfl) (by omega) (by omega) ?_
          intro v32 e33 b34
          have e33 := e33.symm.trans e25
          rw [e33]
          refine w_t (np := 15) (l2 := [some (eR a0), some (eI (x10)), some (eI (10)), some (eI (10))]) (s2 := [eI (10), eI (v24)]) rfl rfl rfl ?_
          refine w_t (np := 16) (l2 := [some (eR a0), some (eI (x10)), some (eI (10)), some (eI (10))]) (s2 := [eI (10), eI (10), eI (v24)]) rfl rfl rfl ?_
          refine w_cu (np := 19) (as := [eI (v24), eI (10), eI (10)]) (l2 := [some (eI (v24)), some (eI (10)), some (eI (10))]) (rest := []) rfl rfl rfl (Nat.ble_eq.mp rfl) rfl rfl rfl rfl ?_
          refine w_t (np := 1) (l2 := [some (eI (v24)), some (eI (10)), some (eI (10))]) (s2 := [eI (v24)]) rfl rfl rfl ?_
          refine w_t (np := 2) (l2 := [some (eI (v24)), some (eI (10)), some (eI (10))]) (s2 := [eI (10), eI (v24)]) rfl rfl rfl ?_
          refine b_clt (t1 := 14) (t2 := 5) rfl rfl rfl (ev_w_in (by omega) (by omega)) rfl (fun g35 => False.elim (by omega)) (fun g35 => ?_)
          refine w_t (np := 6) (l2 := [some (eI (v24)), some (eI (10)), some (eI (10))]) (s2 := [eI (v24)]) rfl rfl rfl ?_
          refine w_t (np := 7) (l2 := [some (eI (v24)), some (eI (10)), some (eI (10))]) (s2 := [eI (10), eI (v24)]) rfl rfl rfl ?_
          refine b_cgt (t1 := 14) (t2 := 10) rfl rfl rfl (ev_w_in (by omega) (by omega)) rfl (fun g36 => ?_) (fun g36 => False.elim (by omega))
          refine w_t (np := 15) (l2 := [some (eI (v24)), some (eI (10)), some (eI (10))]) (s2 := [eI (0)]) rfl rfl rfl ?_
          refine b_rz rfl rfl (Or.inl rfl) ?_
          show ex_q (dt_fg L ρ) rc (d + 1, (344, 19, [some (eR a0), some (eI (x10)), some (eI (10)), some (eI (10))], [eI (0)]), (345, 35, [some (eR a0)], []) :: f :: F, m7)
          refine b_ieq (t1 := 26) (t2 := 22) rfl rfl rfl rfl (fun g37 => ?_) (fun g37 => absurd g37 (by decide))
          refine w_t (np := 27) (l2 := [some (eR a0), some (eI (x10)), some (eI (10)), some (eI (10))]) (s2 := [eI (0)]) rfl rfl rfl ?_
          refine b_rz rfl rfl (Or.inl rfl) ?_
          show ex_q (dt_fg L ρ) rc (d + 2, (345, 35, [some (eR a0)], [eI (0)]), f :: F, m7)
          refine b_ieq (t1 := 51) (t2 := 38) rfl rfl rfl rfl (fun g38 => ?_) (fun g38 => absurd g38 (by decide))
          refine w_t (np := 52) (l2 := [some (eR a0)]) (s2 := [eR a0]) rfl (s_an rfl (pos_g I8 gA0 (by decide))) rfl ?_
          refine w_t (np := 53) (l2 := [some (eR a0)]) (s2 := [eR a0, eR a0]) rfl (s_an rfl (pos_g I8 gA0 (by decide))) rfl ?_
          refine w_gf (np := 56) (v := eI (x10)) rfl rfl (I8.kd gA0 (by decide) (n := 69) rfl) (by rw [h11]; rfl) ?_
          refine w_t (np := 57) (l2 := [some (eR a0)]) (s2 := [eI (1), eI (x10), eR a0]) rfl rfl rfl ?_
          obtain ⟨v39, e40⟩ : ∃ zz : Int, zz = (x10) + (1) := ⟨_, rfl⟩
          have b41 : 1 ≤ v39 ∧ v39 ≤ 900 := by omega
          refine w_t (np := 58) (l2 := [some (eR a0)]) (s2 := [eI (v39), eR a0]) rfl (b_iadd (by rw [← e40]; exact ev_w_in (by omega) (by omega))) rfl ?_
          refine j_pf (np := 61) (w := v39) rfl rfl I8 gA0 (by decide) (n := 69) rfl rfl (hO_i (lo := 0) (hi := 902) rfl (by omega)) ?_
          intro m42 I43 W44
          have F45 : Fr l_345 0 0 g μ m42 := F9.w W44 gA0 rfl
          refine w_t (np := 62) (l2 := [some (eR a0)]) (s2 := [eR a0]) rfl (s_an rfl (pos_g I43 gA0 (by decide))) rfl ?_
          refine w_t (np := 63) (l2 := [some (eR a0)]) (s2 := [eR a0, eR a0]) rfl (s_an rfl (pos_g I43 gA0 (by decide))) rfl ?_
          refine w_gf (np := 66) (v := eI (x10)) rfl rfl (I43.kd gA0 (by decide) (n := 69) rfl) (by rw [(W44.slot h11 (by decide))]; rfl) ?_
          refine w_t (np := 67) (l2 := [some (eR a0)]) (s2 := [eR a0, eI (x10), eR a0]) rfl (s_an rfl (pos_g I43 gA0 (by decide))) rfl ?_
          refine w_gf (np := 70) (v := eI (v16)) rfl rfl (I43.kd gA0 (by decide) (n := 69) rfl) (by rw [(W44.slot e17 (by decide))]; rfl) ?_
          refine b_clt (t1 := 77) (t2 := 73) rfl rfl rfl (ev_w_in (by omega) (by omega)) (ev_w_in (by omega) (by omega)) (fun g46 => ?_) (fun g46 => False.elim (by omega))
          refine w_t (np := 78) (l2 := [some (eR a0)]) (s2 := [eR a0, eR a0]) rfl (s_an rfl (pos_g I43 gA0 (by decide))) rfl ?_
          refine w_gf (np := 81) (v := eR v20) rfl rfl (I43.kd gA0 (by decide) (n := 69) rfl) (by rw [(W44.slot e21 (by decide))]; rfl) ?_
          refine w_t (np := 82) (l2 := [some (eR a0)]) (s2 := [eR a0, eR v20, eR a0]) rfl (s_an rfl (pos_g I43 gA0 (by decide))) rfl ?_
          refine w_gf (np := 85) (v := eI (x10)) rfl rfl (I43.kd gA0 (by decide) (n := 69) rfl) (by rw [(W44.slot h11 (by decide))]; rfl) ?_
          refine j_b2 (np := 86) rfl rfl I43 b22 (by decide) (n := 900) rfl rfl (lo := -128) (hi := 127) (fun _ => rfl) (by omega) (by omega) ?_
          intro v47 e48 b49
          have e48 := e48.symm.trans (W44.addr e25 gA0 b22 (by decide))
          rw [e48]
          refine w_t (np := 88) (l2 := [some (eR a0)]) (s2 := [eI (59), eI (v24), eR a0]) rfl rfl rfl ?_
          refine b_ceq (t1 := 105) (t2 := 91) rfl rfl rfl (ev_w_in (by omega) (by omega)) rfl (fun g50 => ?_) (fun g50 => ?_)
          · have b51 : 59 ≤ v24 ∧ v24 ≤ 59 := by omega
            refine w_t (np := 106) (l2 := [some (eR a0)]) (s2 := [eI (3), eR a0]) rfl rfl rfl ?_
            refine w_go (t1 := 110) rfl rfl ?_
            refine j_pf (np := 113) (w := 3) rfl rfl I43 gA0 (by decide) (n := 69) rfl rfl (hO_i (lo := -2147483648) (hi := 2147483647) rfl (by decide)) ?_
            intro m51 I52 W53
            have F54 : Fr l_345 0 0 g μ m51 := F45.w W53 gA0 rfl
            refine w_t (np := 114) (l2 := [some (eR a0)]) (s2 := [eR a0]) rfl (s_an rfl (pos_g I52 gA0 (by decide))) rfl ?_
            refine w_t (np := 115) (l2 := [some (eR a0)]) (s2 := [eR a0, eR a0]) rfl (s_an rfl (pos_g I52 gA0 (by decide))) rfl ?_
            refine w_gf (np := 118) (v := eI (x10)) rfl rfl (I52.kd gA0 (by decide) (n := 69) rfl) (by rw [(W53.slot (W44.slot h11 (by decide)) (by decide))]; rfl) ?_
            refine w_t (np := 120) (l2 := [some (eR a0)]) (s2 := [eI (97), eI (x10), eR a0]) rfl rfl rfl ?_
            refine w_t (np := 122) (l2 := [some (eR a0)]) (s2 := [eI (122), eI (97), eI (x10), eR a0]) rfl rfl rfl ?_
            refine w_cw (np := 125) (as := [eI (x10), eI (97), eI (122)]) (l2 := [some (eR a0), some (eI (x10)), some (eI (97)), some (eI (122))]) (rest := []) rfl rfl rfl (Nat.ble_eq.mp rfl) rfl rfl rfl (I52.kd gA0 (by decide) (n := 69) rfl) rfl ?_
            refine w_t (np := 1) (l2 := [some (eR a0), some (eI (x10)), some (eI (97)), some (eI (122))]) (s2 := [eI (x10)]) rfl rfl rfl ?_
            refine w_t (np := 2) (l2 := [some (eR a0), some (eI (x10)), some (eI (97)), some (eI (122))]) (s2 := [eR a0, eI (x10)]) rfl (s_an rfl (pos_g I52 gA0 (by decide))) rfl ?_
            refine w_gf (np := 5) (v := eI (v16)) rfl rfl (I52.kd gA0 (by decide) (n := 69) rfl) (by rw [(W53.slot (W44.slot e17 (by decide)) (by decide))]; rfl) ?_
            refine b_cge (t1 := 26) (t2 := 8) rfl rfl rfl (ev_w_in (by omega) (by omega)) (ev_w_in (by omega) (by omega)) (fun g55 => False.elim (by omega)) (fun g55 => ?_)
            refine w_t (np := 9) (l2 := [some (eR a0), some (eI (x10)), some (eI (97)), some (eI (122))]) (s2 := [eR a0]) rfl (s_an rfl (pos_g I52 gA0 (by decide))) rfl ?_
            refine w_gf (np := 12) (v := eR v20) rfl rfl (I52.kd gA0 (by decide) (n := 69) rfl) (by rw [(W53.slot (W44.slot e21 (by decide)) (by decide))]; rfl) ?_
            refine w_t (np := 13) (l2 := [some (eR a0), some (eI (x10)), some (eI (97)), some (eI (122))]) (s2 := [eI (x10), eR v20]) rfl rfl rfl ?_
            refine j_b2 (np := 14) rfl rfl I52 b22 (by decide) (n := 900) rfl rfl (lo := -128) (hi := 127) (fun _ => rfl) (by omega) (by omega) ?_
            intro v56 e57 b58
            have e57 := e57.symm.trans (W53.addr (W44.addr e25 gA0 b22 (by decide)) gA0 b22 (by decide))
            rw [e57]
            refine w_t (np := 15) (l2 := [some (eR a0), some (eI (x10)), some (eI (97)), some (eI (122))]) (s2 := [eI (97), eI (v24)]) rfl rfl rfl ?_
            refine w_t (np := 16) (l2 := [some (eR a0), some (eI (x10)), some (eI (97)), some (eI (122))]) (s2 := [eI (122), eI (97), eI (v24)]) rfl rfl rfl ?_
            refine w_cu (np := 19) (as := [eI (v24), eI (97), eI (122)]) (l2 := [some (eI (v24)), some (eI (97)), some (eI (122))]) (rest := []) rfl rfl rfl (Nat.ble_eq.mp rfl) rfl rfl rfl rfl ?_
            refine w_t (np := 1) (l2 := [some (eI (v24)), some (eI (97)), some (eI (122))]) (s2 := [eI (v24)]) rfl rfl rfl ?_
            refine w_t (np := 2) (l2 := [some (eI (v24)), some (eI (97)), some (eI (122))]) (s2 := [eI (97), eI (v24)]) rfl rfl rfl ?_
            refine b_clt (t1 := 14) (t2 := 5) rfl rfl rfl (ev_w_in (by omega) (by omega)) rfl (fun g59 => ?_) (fun g59 => False.elim (by omega))
            refine w_t (np := 15) (l2 := [some (eI (v24)), some (eI (97)), some (eI (122))]) (s2 := [eI (0)]) rfl rfl rfl ?_
            refine b_rz rfl rfl (Or.inl rfl) ?_
            show ex_q (dt_fg L ρ) rc (d + 1, (344, 19, [some (eR a0), some (eI (x10)), some (eI (97)), some (eI (122))], [eI (0)]), (345, 125, [some (eR a0)], []) :: f :: F, m51)
            refine b_ieq (t1 := 26) (t2 := 22) rfl rfl rfl rfl (fun g60 => ?_) (fun g60 => absurd g60 (by decide))
            refine w_t (np := 27) (l2 := [some (eR a0), some (eI (x10)), some (eI (97)), some (eI (122))]) (s2 := [eI (0)]) rfl rfl rfl ?_
            refine b_rz rfl rfl (Or.inl rfl) ?_
            show ex_q (dt_fg L ρ) rc (d + 2, (345, 125, [some (eR a0)], [eI (0)]), f :: F, m51)
            refine b_ieq (t1 := 221) (t2 := 128) rfl rfl rfl rfl (fun g61 => ?_) (fun g61 => absurd g61 (by decide))
            refine w_t (np := 222) (l2 := [some (eR a0)]) (s2 := [eR a0]) rfl (s_an rfl (pos_g I52 gA0 (by decide))) rfl ?_
            refine w_t (np := 223) (l2 := [some (eR a0)]) (s2 := [eR a0, eR a0]) rfl (s_an rfl (pos_g I52 gA0 (by decide))) rfl ?_
            refine w_gf (np := 226) (v := eI (x10)) rfl rfl (I52.kd gA0 (by decide) (n := 69) rfl) (by rw [(W53.slot (W44.slot h11 (by decide)) (by decide))]; rfl) ?_
            refine w_t (np := 228) (l2 := [some (eR a0)]) (s2 := [eI (48), eI (x10), eR a0]) rfl rfl rfl ?_
            refine w_t (np := 230) (l2 := [some (eR a0)]) (s2 := [eI (57), eI (48), eI (x10), eR a0]) rfl rfl rfl ?_
            refine w_cw (np := 233) (as := [eI (x10), eI (48), eI (57)]) (l2 := [some (eR a0), some (eI (x10)), some (eI (48)), some (eI (57))]) (rest := []) rfl rfl rfl (Nat.ble_eq.mp rfl) rfl rfl rfl (I52.kd gA0 (by decide) (n := 69) rfl) rfl ?_
            refine w_t (np := 1) (l2 := [some (eR a0), some (eI (x10)), some (eI (48)), some (eI (57))]) (s2 := [eI (x10)]) rfl rfl rfl ?_
            refine w_t (np := 2) (l2 := [some (eR a0), some (eI (x10)), some (eI (48)), some (eI (57))]) (s2 := [eR a0, eI (x10)]) rfl (s_an rfl (pos_g I52 gA0 (by decide))) rfl ?_
            refine w_gf (np := 5) (v := eI (v16)) rfl rfl (I52.kd gA0 (by decide) (n := 69) rfl) (by rw [(W53.slot (W44.slot e17 (by decide)) (by decide))]; rfl) ?_
            refine b_cge (t1 := 26) (t2 := 8) rfl rfl rfl (ev_w_in (by omega) (by omega)) (ev_w_in (by omega) (by omega)) (fun g62 => False.elim (by omega)) (fun g62 => ?_)
            refine w_t (np := 9) (l2 := [some (eR a0), some (eI (x10)), some (eI (48)), some (eI (57))]) (s2 := [eR a0]) rfl (s_an rfl (pos_g I52 gA0 (by decide))) rfl ?_
            refine w_gf (np := 12) (v := eR v20) rfl rfl (I52.kd gA0 (by decide) (n := 69) rfl) (by rw [(W53.slot (W44.slot e21 (by decide)) (by decide))]; rfl) ?_
            refine w_t (np := 13) (l2 := [some (eR a0), some (eI (x10)), some (eI (48)), some (eI (57))]) (s2 := [eI (x10), eR v20]) rfl rfl rfl ?_
            refine j_b2 (np := 14) rfl rfl I52 b22 (by decide) (n := 900) rfl rfl (lo := -128) (hi := 127) (fun _ => rfl) (by omega) (by omega) ?_
            intro v63 e64 b65
            have e64 := e64.symm.trans (W53.addr (W44.addr e25 gA0 b22 (by decide)) gA0 b22 (by decide))
            rw [e64]
            refine w_t (np := 15) (l2 := [some (eR a0), some (eI (x10)), some (eI (48)), some (eI (57))]) (s2 := [eI (48), eI (v24)]) rfl rfl rfl ?_
            refine w_t (np := 16) (l2 := [some (eR a0), some (eI (x10)), some (eI (48)), some (eI (57))]) (s2 := [eI (57), eI (48), eI (v24)]) rfl rfl rfl ?_
            refine w_cu (np := 19) (as := [eI (v24), eI (48), eI (57)]) (l2 := [some (eI (v24)), some (eI (48)), some (eI (57))]) (rest := []) rfl rfl rfl (Nat.ble_eq.mp rfl) rfl rfl rfl rfl ?_
            refine w_t (np := 1) (l2 := [some (eI (v24)), some (eI (48)), some (eI (57))]) (s2 := [eI (v24)]) rfl rfl rfl ?_
            refine w_t (np := 2) (l2 := [some (eI (v24)), some (eI (48)), some (eI (57))]) (s2 := [eI (48), eI (v24)]) rfl rfl rfl ?_
            refine b_clt (t1 := 14) (t2 := 5) rfl rfl rfl (ev_w_in (by omega) (by omega)) rfl (fun g66 => False.elim (by omega)) (fun g66 => ?_)
            refine w_t (np := 6) (l2 := [some (eI (v24)), some (eI (48)), some (eI (57))]) (s2 := [eI (v24)]) rfl rfl rfl ?_
            refine w_t (np := 7) (l2 := [some (eI (v24)), some (eI (48)), some (eI (57))]) (s2 := [eI (57), eI (v24)]) rfl rfl rfl ?_
            refine b_cgt (t1 := 14) (t2 := 10) rfl rfl rfl (ev_w_in (by omega) (by omega)) rfl (fun g67 => ?_) (fun g67 => False.elim (by omega))
            refine w_t (np := 15) (l2 := [some (eI (v24)), some (eI (48)), some (eI (57))]) (s2 := [eI (0)]) rfl rfl rfl ?_
            refine b_rz rfl rfl (Or.inl rfl) ?_
            show ex_q (dt_fg L ρ) rc (d + 1, (344, 19, [some (eR a0), some (eI (x10)), some (eI (48)), some (eI (57))], [eI (0)]), (345, 233, [some (eR a0)], []) :: f :: F, m51)
            refine b_ieq (t1 := 26) (t2 := 22) rfl rfl rfl rfl (fun g68 => ?_) (fun g68 => absurd g68 (by decide))
            refine w_t (np := 27) (l2 := [some (eR a0), some (eI (x10)), some (eI (48)), some (eI (57))]) (s2 := [eI (0)]) rfl rfl rfl ?_
            refine b_rz rfl rfl (Or.inl rfl) ?_
            show ex_q (dt_fg L ρ) rc (d + 2, (345, 233, [some (eR a0)], [eI (0)]), f :: F, m51)
            refine b_ieq (t1 := 343) (t2 := 236) rfl rfl rfl rfl (fun g69 => ?_) (fun g69 => absurd g69 (by decide))
            exact v_rv rfl rfl (K m51 (3) (x10) (v39) I52 F54 W53.at (W53.slot (W44.slot h11 (by decide)) (by decide)) (W53.slot W44.at (by decide)) (by omega) (by omega))
          · refine w_t (np := 92) (l2 := [some (eR a0)]) (s2 := [eR a0, eR a0]) rfl (s_an rfl (pos_g I43 gA0 (by decide))) rfl ?_
            refine w_gf (np := 95) (v := eR v20) rfl rfl (I43.kd gA0 (by decide) (n := 69) rfl) (by rw [(W44.slot e21 (by decide))]; rfl) ?_
            refine w_t (np := 96) (l2 := [some (eR a0)]) (s2 := [eR a0, eR v20, eR a0]) rfl (s_an rfl (pos_g I43 gA0 (by decide))) rfl ?_
            refine w_gf (np := 99) (v := eI (x10)) rfl rfl (I43.kd gA0 (by decide) (n := 69) rfl) (by rw [(W44.slot h11 (by decide))]; rfl) ?_
            refine j_b2 (np := 100) rfl rfl I43 b22 (by decide) (n := 900) rfl rfl (lo := -128) (hi := 127) (fun _ => rfl) (by omega) (by omega) ?_
            intro v51 e52 b53
            have e52 := e52.symm.trans (W44.addr e25 gA0 b22 (by decide))
            rw [e52]
            refine w_t (np := 102) (l2 := [some (eR a0)]) (s2 := [eI (45), eI (v24), eR a0]) rfl rfl rfl ?_
            refine b_cne (t1 := 109) (t2 := 105) rfl rfl rfl (ev_w_in (by omega) (by omega)) rfl (fun g54 => ?_) (fun g54 => ?_)
            · refine w_t (np := 110) (l2 := [some (eR a0)]) (s2 := [eI (4), eR a0]) rfl rfl rfl ?_
              refine j_pf (np := 113) (w := 4) rfl rfl I43 gA0 (by decide) (n := 69) rfl rfl (hO_i (lo := -2147483648) (hi := 2147483647) rfl (by decide)) ?_
              intro m55 I56 W57
              have F58 : Fr l_345 0 0 g μ m55 := F45.w W57 gA0 rfl
              refine w_t (np := 114) (l2 := [some (eR a0)]) (s2 := [eR a0]) rfl (s_an rfl (pos_g I56 gA0 (by decide))) rfl ?_
              refine w_t (np := 115) (l2 := [some (eR a0)]) (s2 := [eR a0, eR a0]) rfl (s_an rfl (pos_g I56 gA0 (by decide))) rfl ?_
              refine w_gf (np := 118) (v := eI (x10)) rfl rfl (I56.kd gA0 (by decide) (n := 69) rfl) (by rw [(W57.slot (W44.slot h11 (by decide)) (by decide))]; rfl) ?_
              refine w_t (np := 120) (l2 := [some (eR a0)]) (s2 := [eI (97), eI (x10), eR a0]) rfl rfl rfl ?_
              refine w_t (np := 122) (l2 := [some (eR a0)]) (s2 := [eI (122), eI (97), eI (x10), eR a0]) rfl rfl rfl ?_
              refine w_cw (np := 125) (as := [eI (x10), eI (97), eI (122)]) (l2 := [some (eR a0), some (eI (x10)), some (eI (97)), some (eI (122))]) (rest := []) rfl rfl rfl (Nat.ble_eq.mp rfl) rfl rfl rfl (I56.kd gA0 (by decide) (n := 69) rfl) rfl ?_
              refine w_t (np := 1) (l2 := [some (eR a0), some (eI (x10)), some (eI (97)), some (eI (122))]) (s2 := [eI (x10)]) rfl rfl rfl ?_
              refine w_t (np := 2) (l2 := [some (eR a0), some (eI (x10)), some (eI (97)), some (eI (122))]) (s2 := [eR a0, eI (x10)]) rfl (s_an rfl (pos_g I56 gA0 (by decide))) rfl ?_
              refine w_gf (np := 5) (v := eI (v16)) rfl rfl (I56.kd gA0 (by decide) (n := 69) rfl) (by rw [(W57.slot (W44.slot e17 (by decide)) (by decide))]; rfl) ?_
              refine b_cge (t1 := 26) (t2 := 8) rfl rfl rfl (ev_w_in (by omega) (by omega)) (ev_w_in (by omega) (by omega)) (fun g59 => False.elim (by omega)) (fun g59 => ?_)
              refine w_t (np := 9) (l2 := [some (eR a0), some (eI (x10)), some (eI (97)), some (eI (122))]) (s2 := [eR a0]) rfl (s_an rfl (pos_g I56 gA0 (by decide))) rfl ?_
              refine w_gf (np := 12) (v := eR v20) rfl rfl (I56.kd gA0 (by decide) (n := 69) rfl) (by rw [(W57.slot (W44.slot e21 (by decide)) (by decide))]; rfl) ?_
              refine w_t (np := 13) (l2 := [some (eR a0), some (eI (x10)), some (eI (97)), some (eI (122))]) (s2 := [eI (x10), eR v20]) rfl rfl rfl ?_
              refine j_b2 (np := 14) rfl rfl I56 b22 (by decide) (n := 900) rfl rfl (lo := -128) (hi := 127) (fun _ => rfl) (by omega) (by omega) ?_
              intro v60 e61 b62
              have e61 := e61.symm.trans (W57.addr (W44.addr e25 gA0 b22 (by decide)) gA0 b22 (by decide))
              rw [e61]
              refine w_t (np := 15) (l2 := [some (eR a0), some (eI (x10)), some (eI (97)), some (eI (122))]) (s2 := [eI (97), eI (v24)]) rfl rfl rfl ?_
              refine w_t (np := 16) (l2 := [some (eR a0), some (eI (x10)), some (eI (97)), some (eI (122))]) (s2 := [eI (122), eI (97), eI (v24)]) rfl rfl rfl ?_
              refine w_cu (np := 19) (as := [eI (v24), eI (97), eI (122)]) (l2 := [some (eI (v24)), some (eI (97)), some (eI (122))]) (rest := []) rfl rfl rfl (Nat.ble_eq.mp rfl) rfl rfl rfl rfl ?_
              refine w_t (np := 1) (l2 := [some (eI (v24)), some (eI (97)), some (eI (122))]) (s2 := [eI (v24)]) rfl rfl rfl ?_
              refine w_t (np := 2) (l2 := [some (eI (v24)), some (eI (97)), some (eI (122))]) (s2 := [eI (97), eI (v24)]) rfl rfl rfl ?_
              refine b_clt (t1 := 14) (t2 := 5) rfl rfl rfl (ev_w_in (by omega) (by omega)) rfl (fun g63 => ?_) (fun g63 => ?_)
              · have b64 : 33 ≤ v24 ∧ v24 ≤ 96 := by omega
                refine w_t (np := 15) (l2 := [some (eI (v24)), some (eI (97)), some (eI (122))]) (s2 := [eI (0)]) rfl rfl rfl ?_
                refine b_rz rfl rfl (Or.inl rfl) ?_
                show ex_q (dt_fg L ρ) rc (d + 1, (344, 19, [some (eR a0), some (eI (x10)), some (eI (97)), some (eI (122))], [eI (0)]), (345, 125, [some (eR a0)], []) :: f :: F, m55)
                refine b_ieq (t1 := 26) (t2 := 22) rfl rfl rfl rfl (fun g64 => ?_) (fun g64 => absurd g64 (by decide))
                refine w_t (np := 27) (l2 := [some (eR a0), some (eI (x10)), some (eI (97)), some (eI (122))]) (s2 := [eI (0)]) rfl rfl rfl ?_
                refine b_rz rfl rfl (Or.inl rfl) ?_
                show ex_q (dt_fg L ρ) rc (d + 2, (345, 125, [some (eR a0)], [eI (0)]), f :: F, m55)
                refine b_ieq (t1 := 221) (t2 := 128) rfl rfl rfl rfl (fun g65 => ?_) (fun g65 => absurd g65 (by decide))
                refine w_t (np := 222) (l2 := [some (eR a0)]) (s2 := [eR a0]) rfl (s_an rfl (pos_g I56 gA0 (by decide))) rfl ?_
                refine w_t (np := 223) (l2 := [some (eR a0)]) (s2 := [eR a0, eR a0]) rfl (s_an rfl (pos_g I56 gA0 (by decide))) rfl ?_
                refine w_gf (np := 226) (v := eI (x10)) rfl rfl (I56.kd gA0 (by decide) (n := 69) rfl) (by rw [(W57.slot (W44.slot h11 (by decide)) (by decide))]; rfl) ?_
                refine w_t (np := 228) (l2 := [some (eR a0)]) (s2 := [eI (48), eI (x10), eR a0]) rfl rfl rfl ?_
                refine w_t (np := 230) (l2 := [some (eR a0)]) (s2 := [eI (57), eI (48), eI (x10), eR a0]) rfl rfl rfl ?_
                refine w_cw (np := 233) (as := [eI (x10), eI (48), eI (57)]) (l2 := [some (eR a0), some (eI (x10)), some (eI (48)), some (eI (57))]) (rest := []) rfl rfl rfl (Nat.ble_eq.mp rfl) rfl rfl rfl (I56.kd gA0 (by decide) (n := 69) rfl) rfl ?_
                refine w_t (np := 1) (l2 := [some (eR a0), some (eI (x10)), some (eI (48)), some (eI (57))]) (s2 := [eI (x10)]) rfl rfl rfl ?_
                refine w_t (np := 2) (l2 := [some (eR a0), some (eI (x10)), some (eI (48)), some (eI (57))]) (s2 := [eR a0, eI (x10)]) rfl (s_an rfl (pos_g I56 gA0 (by decide))) rfl ?_
                refine w_gf (np := 5) (v := eI (v16)) rfl rfl (I56.kd gA0 (by decide) (n := 69) rfl) (by rw [(W57.slot (W44.slot e17 (by decide)) (by decide))]; rfl) ?_
                refine b_cge (t1 := 26) (t2 := 8) rfl rfl rfl (ev_w_in (by omega) (by omega)) (ev_w_in (by omega) (by omega)) (fun g66 => False.elim (by omega)) (fun g66 => ?_)
                refine w_t (np := 9) (l2 := [some (eR a0), some (eI (x10)), some (eI (48)), some (eI (57))]) (s2 := [eR a0]) rfl (s_an rfl (pos_g I56 gA0 (by decide))) rfl ?_
                refine w_gf (np := 12) (v := eR v20) rfl rfl (I56.kd gA0 (by decide) (n := 69) rfl) (by rw [(W57.slot (W44.slot e21 (by decide)) (by decide))]; rfl) ?_
                refine w_t (np := 13) (l2 := [some (eR a0), some (eI (x10)), some (eI (48)), some (eI (57))]) (s2 := [eI (x10), eR v20]) rfl rfl rfl ?_
                refine j_b2 (np := 14) rfl rfl I56 b22 (by decide) (n := 900) rfl rfl (lo := -128) (hi := 127) (fun _ => rfl) (by omega) (by omega) ?_
                intro v67 e68 b69
                have e68 := e68.symm.trans (W57.addr (W44.addr e25 gA0 b22 (by decide)) gA0 b22 (by decide))
                rw [e68]
                refine w_t (np := 15) (l2 := [some (eR a0), some (eI (x10)), some (eI (48)), some (eI (57))]) (s2 := [eI (48), eI (v24)]) rfl rfl rfl ?_
                refine w_t (np := 16) (l2 := [some (eR a0), some (eI (x10)), some (eI (48)), some (eI (57))]) (s2 := [eI (57), eI (48), eI (v24)]) rfl rfl rfl ?_
                refine w_cu (np := 19) (as := [eI (v24), eI (48), eI (57)]) (l2 := [some (eI (v24)), some (eI (48)), some (eI (57))]) (rest := []) rfl rfl rfl (Nat.ble_eq.mp rfl) rfl rfl rfl rfl ?_
                refine w_t (np := 1) (l2 := [some (eI (v24)), some (eI (48)), some (eI (57))]) (s2 := [eI (v24)]) rfl rfl rfl ?_
                refine w_t (np := 2) (l2 := [some (eI (v24)), some (eI (48)), some (eI (57))]) (s2 := [eI (48), eI (v24)]) rfl rfl rfl ?_
                refine b_clt (t1 := 14) (t2 := 5) rfl rfl rfl (ev_w_in (by omega) (by omega)) rfl (fun g70 => ?_) (fun g70 => ?_)
                · have b71 : 33 ≤ v24 ∧ v24 ≤ 47 := by omega
                  refine w_t (np := 15) (l2 := [some (eI (v24)), some (eI (48)), some (eI (57))]) (s2 := [eI (0)]) rfl rfl rfl ?_
                  refine b_rz rfl rfl (Or.inl rfl) ?_
                  show ex_q (dt_fg L ρ) rc (d + 1, (344, 19, [some (eR a0), some (eI (x10)), some (eI (48)), some (eI (57))], [eI (0)]), (345, 233, [some (eR a0)], []) :: f :: F, m55)
                  refine b_ieq (t1 := 26) (t2 := 22) rfl rfl rfl rfl (fun g71 => ?_) (fun g71 => absurd g71 (by decide))
                  refine w_t (np := 27) (l2 := [some (eR a0), some (eI (x10)), some (eI (48)), some (eI (57))]) (s2 := [eI (0)]) rfl rfl rfl ?_
                  refine b_rz rfl rfl (Or.inl rfl) ?_
                  show ex_q (dt_fg L ρ) rc (d + 2, (345, 233, [some (eR a0)], [eI (0)]), f :: F, m55)
                  refine b_ieq (t1 := 343) (t2 := 236) rfl rfl rfl rfl (fun g72 => ?_) (fun g72 => absurd g72 (by decide))
                  exact v_rv rfl rfl (K m55 (4) (x10) (v39) I56 F58 W57.at (W57.slot (W44.slot h11 (by decide)) (by decide)) (W57.slot W44.at (by decide)) (by omega) (by omega))
                · have b71 : 48 ≤ v24 ∧ v24 ≤ 96 := by omega
                  refine w_t (np := 6) (l2 := [some (eI (v24)), some (eI (48)), some (eI (57))]) (s2 := [eI (v24)]) rfl rfl rfl ?_
                  refine w_t (np := 7) (l2 := [some (eI (v24)), some (eI (48)), some (eI (57))]) (s2 := [eI (57), eI (v24)]) rfl rfl rfl ?_
                  refine b_cgt (t1 := 14) (t2 := 10) rfl rfl rfl (ev_w_in (by omega) (by omega)) rfl (fun g71 => ?_) (fun g71 => ?_)
                  · have b72 : 58 ≤ v24 ∧ v24 ≤ 96 := by omega
                    refine w_t (np := 15) (l2 := [some (eI (v24)), some (eI (48)), some (eI (57))]) (s2 := [eI (0)]) rfl rfl rfl ?_
                    refine b_rz rfl rfl (Or.inl rfl) ?_
                    show ex_q (dt_fg L ρ) rc (d + 1, (344, 19, [some (eR a0), some (eI (x10)), some (eI (48)), some (eI (57))], [eI (0)]), (345, 233, [some (eR a0)], []) :: f :: F, m55)
                    refine b_ieq (t1 := 26) (t2 := 22) rfl rfl rfl rfl (fun g72 => ?_) (fun g72 => absurd g72 (by decide))
                    refine w_t (np := 27) (l2 := [some (eR a0), some (eI (x10)), some (eI (48)), some (eI (57))]) (s2 := [eI (0)]) rfl rfl rfl ?_
                    refine b_rz rfl rfl (Or.inl rfl) ?_
                    show ex_q (dt_fg L ρ) rc (d + 2, (345, 233, [some (eR a0)], [eI (0)]), f :: F, m55)
                    refine b_ieq (t1 := 343) (t2 := 236) rfl rfl rfl rfl (fun g73 => ?_) (fun g73 => absurd g73 (by decide))
                    exact v_rv rfl rfl (K m55 (4) (x10) (v39) I56 F58 W57.at (W57.slot (W44.slot h11 (by decide)) (by decide)) (W57.slot W44.at (by decide)) (by omega) (by omega))
                  · have b72 : 48 ≤ v24 ∧ v24 ≤ 57 := by omega
                    refine w_t (np := 11) (l2 := [some (eI (v24)), some (eI (48)), some (eI (57))]) (s2 := [eI (1)]) rfl rfl rfl ?_
                    refine w_go (t1 := 15) rfl rfl ?_
                    refine b_rz rfl rfl (Or.inr rfl) ?_
                    show ex_q (dt_fg L ρ) rc (d + 1, (344, 19, [some (eR a0), some (eI (x10)), some (eI (48)), some (eI (57))], [eI (1)]), (345, 233, [some (eR a0)], []) :: f :: F, m55)
                    refine b_ieq (t1 := 26) (t2 := 22) rfl rfl rfl rfl (fun g72 => absurd g72 (by decide)) (fun g72 => ?_)
                    refine w_t (np := 23) (l2 := [some (eR a0), some (eI (x10)), some (eI (48)), some (eI (57))]) (s2 := [eI (1)]) rfl rfl rfl ?_
                    refine w_go (t1 := 27) rfl rfl ?_
                    refine b_rz rfl rfl (Or.inr rfl) ?_
                    show ex_q (dt_fg L ρ) rc (d + 2, (345, 233, [some (eR a0)], [eI (1)]), f :: F, m55)
                    refine b_ieq (t1 := 343) (t2 := 236) rfl rfl rfl rfl (fun g73 => absurd g73 (by decide)) (fun g73 => ?_)
                    refine w_t (np := 237) (l2 := [some (eR a0)]) (s2 := [eR a0]) rfl (s_an rfl (pos_g I56 gA0 (by decide))) rfl ?_
                    refine w_t (np := 238) (l2 := [some (eR a0)]) (s2 := [eI (0), eR a0]) rfl rfl rfl ?_
                    refine j_pf (np := 241) (w := 0) rfl rfl I56 gA0 (by decide) (n := 69) rfl rfl (hO_i (lo := -2147483648) (hi := 2147483647) rfl (by decide)) ?_
                    intro m74 I75 W76
                    have F77 : Fr l_345 0 0 g μ m74 := F58.w W76 gA0 rfl
                    refine w_t (np := 242) (l2 := [some (eR a0)]) (s2 := [eR a0]) rfl (s_an rfl (pos_g I75 gA0 (by decide))) rfl ?_
                    refine w_t (np := 243) (l2 := [some (eR a0)]) (s2 := [eR a0, eR a0]) rfl (s_an rfl (pos_g I75 gA0 (by decide))) rfl ?_
                    refine w_gf (np := 246) (v := eI (x10)) rfl rfl (I75.kd gA0 (by decide) (n := 69) rfl) (by rw [(W76.slot (W57.slot (W44.slot h11 (by decide)) (by decide)) (by decide))]; rfl) ?_
                    refine j_pf (np := 249) (w := x10) rfl rfl I75 gA0 (by decide) (n := 69) rfl rfl (hO_i (lo := 0) (hi := 902) rfl (by omega)) ?_
                    intro m78 I79 W80
                    have F81 : Fr l_345 0 0 g μ m78 := F77.w W80 gA0 rfl
                    have hL249 : ∀ (n82 : Nat) (m84 : eM) (x87 : Int), SI g m84 → Fr l_345 0 0 g μ m84 → m84.1 a0 59 = x10 → m84.1 a0 63 = v16 → m84.1 a0 53 = ((v20 : Nat) : Int) → m84.1 v20 (x10).toNat = v24 → m84.1 a0 61 = 4 → m84.1 a0 60 = x87 → (0 ≤ x87 ∧ x87 ≤ 900) → n82 = (900 - x87).toNat → ex_q (dt_fg L ρ) rc (d + 2, (345, 249, [some (eR a0)], []), f :: F, m84) := by
                      intro n82
                      induction n82 using Nat.strongRecOn with
                      | _ n82 ih83 =>
                      intro m84 x87 I85 F86 k90 k91 k92 k93 k94 h88 b89 hn95
                      refine w_t (np := 250) (l2 := [some (eR a0)]) (s2 := [eR a0]) rfl (s_an rfl (pos_g I85 gA0 (by decide))) rfl ?_
                      refine w_t (np := 251) (l2 := [some (eR a0)]) (s2 := [eR a0, eR a0]) rfl (s_an rfl (pos_g I85 gA0 (by decide))) rfl ?_
                      refine w_gf (np := 254) (v := eI (x87)) rfl rfl (I85.kd gA0 (by decide) (n := 69) rfl) (by rw [h88]; rfl) ?_
                      refine w_t (np := 256) (l2 := [some (eR a0)]) (s2 := [eI (48), eI (x87), eR a0]) rfl rfl rfl ?_
                      refine w_t (np := 258) (l2 := [some (eR a0)]) (s2 := [eI (57), eI (48), eI (x87), eR a0]) rfl rfl rfl ?_
                      refine w_cw (np := 261) (as := [eI (x87), eI (48), eI (57)]) (l2 := [some (eR a0), some (eI (x87)), some (eI (48)), some (eI (57))]) (rest := []) rfl rfl rfl (Nat.ble_eq.mp rfl) rfl rfl rfl (I85.kd gA0 (by decide) (n := 69) rfl) rfl ?_
                      refine w_t (np := 1) (l2 := [some (eR a0), some (eI (x87)), some (eI (48)), some (eI (57))]) (s2 := [eI (x87)]) rfl rfl rfl ?_
                      refine w_t (np := 2) (l2 := [some (eR a0), some (eI (x87)), some (eI (48)), some (eI (57))]) (s2 := [eR a0, eI (x87)]) rfl (s_an rfl (pos_g I85 gA0 (by decide))) rfl ?_
                      refine w_gf (np := 5) (v := eI (v16)) rfl rfl (I85.kd gA0 (by decide) (n := 69) rfl) (by rw [k91]; rfl) ?_
                      refine b_cge (t1 := 26) (t2 := 8) rfl rfl rfl (ev_w_in (by omega) (by omega)) (ev_w_in (by omega) (by omega)) (fun g96 => ?_) (fun g96 => ?_)
                      · have b97 : 1 ≤ x87 ∧ x87 ≤ 900 := by omega
                        refine w_t (np := 27) (l2 := [some (eR a0), some (eI (x87)), some (eI (48)), some (eI (57))]) (s2 := [eI (0)]) rfl rfl rfl ?_
                        refine b_rz rfl rfl (Or.inl rfl) ?_
                        show ex_q (dt_fg L ρ) rc (d + 2, (345, 261, [some (eR a0)], [eI (0)]), f :: F, m84)
                        refine b_ieq (t1 := 321) (t2 := 264) rfl rfl rfl rfl (fun g97 => ?_) (fun g97 => absurd g97 (by decide))
                        refine w_t (np := 322) (l2 := [some (eR a0)]) (s2 := [eR a0]) rfl (s_an rfl (pos_g I85 gA0 (by decide))) rfl ?_
                        refine w_t (np := 323) (l2 := [some (eR a0)]) (s2 := [eR a0, eR a0]) rfl (s_an rfl (pos_g I85 gA0 (by decide))) rfl ?_
                        refine w_gf (np := 326) (v := eI (x87)) rfl rfl (I85.kd gA0 (by decide) (n := 69) rfl) (by rw [h88]; rfl) ?_
                        refine w_t (np := 327) (l2 := [some (eR a0)]) (s2 := [eR a0, eI (x87), eR a0]) rfl (s_an rfl (pos_g I85 gA0 (by decide))) rfl ?_
                        refine w_gf (np := 330) (v := eI (x10)) rfl rfl (I85.kd gA0 (by decide) (n := 69) rfl) (by rw [k90]; rfl) ?_
                        obtain ⟨v98, e99⟩ : ∃ zz : Int, zz = (x87) - (x10) := ⟨_, rfl⟩
                        have b100 : -898 ≤ v98 ∧ v98 ≤ 900 := by omega
                        refine w_t (np := 331) (l2 := [some (eR a0)]) (s2 := [eI (v98), eR a0]) rfl (b_isub (by rw [← e99]; exact ev_w_in (by omega) (by omega))) rfl ?_
                        refine w_t (np := 332) (l2 := [some (eR a0)]) (s2 := [eI (3), eI (v98), eR a0]) rfl rfl rfl ?_
                        refine b_cle (t1 := 339) (t2 := 335) rfl rfl rfl (ev_w_in (by omega) (by omega)) rfl (fun g101 => ?_) (fun g101 => ?_)
                        · have b102 : -898 ≤ v98 ∧ v98 ≤ 3 := by omega
                          refine w_t (np := 340) (l2 := [some (eR a0)]) (s2 := [eI (2), eR a0]) rfl rfl rfl ?_
                          refine j_pf (np := 343) (w := 2) rfl rfl I85 gA0 (by decide) (n := 69) rfl rfl (hO_i (lo := -2147483648) (hi := 2147483647) rfl (by decide)) ?_
                          intro m102 I103 W104
                          have F105 : Fr l_345 0 0 g μ m102 := F86.w W104 gA0 rfl
                          exact v_rv rfl rfl (K m102 (2) (x10) (x87) I103 F105 W104.at (W104.slot k90 (by decide)) (W104.slot h88 (by decide)) (by omega) (by omega))
                        · have b102 : 4 ≤ v98 ∧ v98 ≤ 900 := by omega
                          refine w_t (np := 336) (l2 := [some (eR a0)]) (s2 := [eI (4), eR a0]) rfl rfl rfl ?_
                          refine w_go (t1 := 340) rfl rfl ?_
                          refine j_pf (np := 343) (w := 4) rfl rfl I85 gA0 (by decide) (n := 69) rfl rfl (hO_i (lo := -2147483648) (hi := 2147483647) rfl (by decide)) ?_
                          intro m102 I103 W104
                          have F105 : Fr l_345 0 0 g μ m102 := F86.w W104 gA0 rfl
                          exact v_rv rfl rfl (K m102 (4) (x10) (x87) I103 F105 W104.at (W104.slot k90 (by decide)) (W104.slot h88 (by decide)) (by omega) (by omega))
                      · have b97 : 0 ≤ x87 ∧ x87 ≤ 899 := by omega
                        refine w_t (np := 9) (l2 := [some (eR a0), some (eI (x87)), some (eI (48)), some (eI (57))]) (s2 := [eR a0]) rfl (s_an rfl (pos_g I85 gA0 (by decide))) rfl ?_
                        refine w_gf (np := 12) (v := eR v20) rfl rfl (I85.kd gA0 (by decide) (n := 69) rfl) (by rw [k92]; rfl) ?_
                        refine w_t (np := 13) (l2 := [some (eR a0), some (eI (x87)), some (eI (48)), some (eI (57))]) (s2 := [eI (x87), eR v20]) rfl rfl rfl ?_
                        refine j_b2 (np := 14) rfl rfl I85 b22 (by decide) (n := 900) rfl rfl (lo := -128) (hi := 127) (fun _ => rfl) (by omega) (by omega) ?_
                        intro v97 e98 b99
                        refine w_t (np := 15) (l2 := [some (eR a0), some (eI (x87)), some (eI (48)), some (eI (57))]) (s2 := [eI (48), eI (v97)]) rfl rfl rfl ?_
                        refine w_t (np := 16) (l2 := [some (eR a0), some (eI (x87)), some (eI (48)), some (eI (57))]) (s2 := [eI (57), eI (48), eI (v97)]) rfl rfl rfl ?_
                        refine w_cu (np := 19) (as := [eI (v97), eI (48), eI (57)]) (l2 := [some (eI (v97)), some (eI (48)), some (eI (57))]) (rest := []) rfl rfl rfl (Nat.ble_eq.mp rfl) rfl rfl rfl rfl ?_
                        refine w_t (np := 1) (l2 := [some (eI (v97)), some (eI (48)), some (eI (57))]) (s2 := [eI (v97)]) rfl rfl rfl ?_
                        refine w_t (np := 2) (l2 := [some (eI (v97)), some (eI (48)), some (eI (57))]) (s2 := [eI (48), eI (v97)]) rfl rfl rfl ?_
                        refine b_clt (t1 := 14) (t2 := 5) rfl rfl rfl (ev_w_in (by omega) (by omega)) rfl (fun g100 => ?_) (fun g100 => ?_)
                        · have b101 : -128 ≤ v97 ∧ v97 ≤ 47 := by omega
                          refine w_t (np := 15) (l2 := [some (eI (v97)), some (eI (48)), some (eI (57))]) (s2 := [eI (0)]) rfl rfl rfl ?_
                          refine b_rz rfl rfl (Or.inl rfl) ?_
                          show ex_q (dt_fg L ρ) rc (d + 1, (344, 19, [some (eR a0), some (eI (x87)), some (eI (48)), some (eI (57))], [eI (0)]), (345, 261, [some (eR a0)], []) :: f :: F, m84)
                          refine b_ieq (t1 := 26) (t2 := 22) rfl rfl rfl rfl (fun g101 => ?_) (fun g101 => absurd g101 (by decide))
                          refine w_t (np := 27) (l2 := [some (eR a0), some (eI (x87)), some (eI (48)), some (eI (57))]) (s2 := [eI (0)]) rfl rfl rfl ?_
                          refine b_rz rfl rfl (Or.inl rfl) ?_
                          show ex_q (dt_fg L ρ) rc (d + 2, (345, 261, [some (eR a0)], [eI (0)]), f :: F, m84)
                          refine b_ieq (t1 := 321) (t2 := 264) rfl rfl rfl rfl (fun g102 => ?_) (fun g102 => absurd g102 (by decide))
                          refine w_t (np := 322) (l2 := [some (eR a0)]) (s2 := [eR a0]) rfl (s_an rfl (pos_g I85 gA0 (by decide))) rfl ?_
                          refine w_t (np := 323) (l2 := [some (eR a0)]) (s2 := [eR a0, eR a0]) rfl (s_an rfl (pos_g I85 gA0 (by decide))) rfl ?_
                          refine w_gf (np := 326) (v := eI (x87)) rfl rfl (I85.kd gA0 (by decide) (n := 69) rfl) (by rw [h88]; rfl) ?_
                          refine w_t (np := 327) (l2 := [some (eR a0)]) (s2 := [eR a0, eI (x87), eR a0]) rfl (s_an rfl (pos_g I85 gA0 (by decide))) rfl ?_
                          refine w_gf (np := 330) (v := eI (x10)) rfl rfl (I85.kd gA0 (by decide) (n := 69) rfl) (by rw [k90]; rfl) ?_
                          obtain ⟨v103, e104⟩ : ∃ zz : Int, zz = (x87) - (x10) := ⟨_, rfl⟩
                          have b105 : -899 ≤ v103 ∧ v103 ≤ 899 := by omega
                          refine w_t (np := 331) (l2 := [some (eR a0)]) (s2 := [eI (v103), eR a0]) rfl (b_isub (by rw [← e104]; exact ev_w_in (by omega) (by omega))) rfl ?_
                          refine w_t (np := 332) (l2 := [some (eR a0)]) (s2 := [eI (3), eI (v103), eR a0]) rfl rfl rfl ?_
                          refine b_cle (t1 := 339) (t2 := 335) rfl rfl rfl (ev_w_in (by omega) (by omega)) rfl (fun g106 => ?_) (fun g106 => ?_)
                          · have b107 : -899 ≤ v103 ∧ v103 ≤ 3 := by omega
                            refine w_t (np := 340) (l2 := [some (eR a0)]) (s2 := [eI (2), eR a0]) rfl rfl rfl ?_
                            refine j_pf (np := 343) (w := 2) rfl rfl I85 gA0 (by decide) (n := 69) rfl rfl (hO_i (lo := -2147483648) (hi := 2147483647) rfl (by decide)) ?_
                            intro m107 I108 W109
                            have F110 : Fr l_345 0 0 g μ m107 := F86.w W109 gA0 rfl
                            exact v_rv rfl rfl (K m107 (2) (x10) (x87) I108 F110 W109.at (W109.slot k90 (by decide)) (W109.slot h88 (by decide)) (by omega) (by omega))
                          · have b107 : 4 ≤ v103 ∧ v103 ≤ 899 := by omega
                            refine w_t (np := 336) (l2 := [some (eR a0)]) (s2 := [eI (4), eR a0]) rfl rfl rfl ?_
                            refine w_go (t1 := 340) rfl rfl ?_
                            refine j_pf (np := 343) (w := 4) rfl rfl I85 gA0 (by decide) (n := 69) rfl rfl (hO_i (lo := -2147483648) (hi := 2147483647) rfl (by decide)) ?_
                            intro m107 I108 W109
                            have F110 : Fr l_345 0 0 g μ m107 := F86.w W109 gA0 rfl
                            exact v_rv rfl rfl (K m107 (4) (x10) (x87) I108 F110 W109.at (W109.slot k90 (by decide)) (W109.slot h88 (by decide)) (by omega) (by omega))
                        · have b101 : 48 ≤ v97 ∧ v97 ≤ 127 := by omega
                          refine w_t (np := 6) (l2 := [some (eI (v97)), some (eI (48)), some (eI (57))]) (s2 := [eI (v97)]) rfl rfl rfl ?_
                          refine w_t (np := 7) (l2 := [some (eI (v97)), some (eI (48)), some (eI (57))]) (s2 := [eI (57), eI (v97)]) rfl rfl rfl ?_
                          refine b_cgt (t1 := 14) (t2 := 10) rfl rfl rfl (ev_w_in (by omega) (by omega)) rfl (fun g101 => ?_) (fun g101 => ?_)
                          · have b102 : 58 ≤ v97 ∧ v97 ≤ 127 := by omega
                            refine w_t (np := 15) (l2 := [some (eI (v97)), some (eI (48)), some (eI (57))]) (s2 := [eI (0)]) rfl rfl rfl ?_
                            refine b_rz rfl rfl (Or.inl rfl) ?_
                            show ex_q (dt_fg L ρ) rc (d + 1, (344, 19, [some (eR a0), some (eI (x87)), some (eI (48)), some (eI (57))], [eI (0)]), (345, 261, [some (eR a0)], []) :: f :: F, m84)
                            refine b_ieq (t1 := 26) (t2 := 22) rfl rfl rfl rfl (fun g102 => ?_) (fun g102 => absurd g102 (by decide))
                            refine w_t (np := 27) (l2 := [some (eR a0), some (eI (x87)), some (eI (48)), some (eI (57))]) (s2 := [eI (0)]) rfl rfl rfl ?_
                            refine b_rz rfl rfl (Or.inl rfl) ?_
                            show ex_q (dt_fg L ρ) rc (d + 2, (345, 261, [some (eR a0)], [eI (0)]), f :: F, m84)
                            refine b_ieq (t1 := 321) (t2 := 264) rfl rfl rfl rfl (fun g103 => ?_) (fun g103 => absurd g103 (by decide))
                            refine w_t (np := 322) (l2 := [some (eR a0)]) (s2 := [eR a0]) rfl (s_an rfl (pos_g I85 gA0 (by decide))) rfl ?_
                            refine w_t (np := 323) (l2 := [some (eR a0)]) (s2 := [eR a0, eR a0]) rfl (s_an rfl (pos_g I85 gA0 (by decide))) rfl ?_
                            refine w_gf (np := 326) (v := eI (x87)) rfl rfl (I85.kd gA0 (by decide) (n := 69) rfl) (by rw [h88]; rfl) ?_
                            refine w_t (np := 327) (l2 := [some (eR a0)]) (s2 := [eR a0, eI (x87), eR a0]) rfl (s_an rfl (pos_g I85 gA0 (by decide))) rfl ?_
                            refine w_gf (np := 330) (v := eI (x10)) rfl rfl (I85.kd gA0 (by decide) (n := 69) rfl) (by rw [k90]; rfl) ?_
                            obtain ⟨v104, e105⟩ : ∃ zz : Int, zz = (x87) - (x10) := ⟨_, rfl⟩
                            have b106 : -899 ≤ v104 ∧ v104 ≤ 899 := by omega
                            refine w_t (np := 331) (l2 := [some (eR a0)]) (s2 := [eI (v104), eR a0]) rfl (b_isub (by rw [← e105]; exact ev_w_in (by omega) (by omega))) rfl ?_
                            refine w_t (np := 332) (l2 := [some (eR a0)]) (s2 := [eI (3), eI (v104), eR a0]) rfl rfl rfl ?_
                            refine b_cle (t1 := 339) (t2 := 335) rfl rfl rfl (ev_w_in (by omega) (by omega)) rfl (fun g107 => ?_) (fun g107 => ?_)
                            · have b108 : -899 ≤ v104 ∧ v104 ≤ 3 := by omega
                              refine w_t (np := 340) (l2 := [some (eR a0)]) (s2 := [eI (2), eR a0]) rfl rfl rfl ?_
                              refine j_pf (np := 343) (w := 2) rfl rfl I85 gA0 (by decide) (n := 69) rfl rfl (hO_i (lo := -2147483648) (hi := 2147483647) rfl (by decide)) ?_
                              intro m108 I109 W110
                              have F111 : Fr l_345 0 0 g μ m108 := F86.w W110 gA0 rfl
                              exact v_rv rfl rfl (K m108 (2) (x10) (x87) I109 F111 W110.at (W110.slot k90 (by decide)) (W110.slot h88 (by decide)) (by omega) (by omega))
                            · have b108 : 4 ≤ v104 ∧ v104 ≤ 899 := by omega
                              refine w_t (np := 336) (l2 := [some (eR a0)]) (s2 := [eI (4), eR a0]) rfl rfl rfl ?_
                              refine w_go (t1 := 340) rfl rfl ?_
                              refine j_pf (np := 343) (w := 4) rfl rfl I85 gA0 (by decide) (n := 69) rfl rfl (hO_i (lo := -2147483648) (hi := 2147483647) rfl (by decide)) ?_
                              intro m108 I109 W110
                              have F111 : Fr l_345 0 0 g μ m108 := F86.w W110 gA0 rfl
                              exact v_rv rfl rfl (K m108 (4) (x10) (x87) I109 F111 W110.at (W110.slot k90 (by decide)) (W110.slot h88 (by decide)) (by omega) (by omega))
                          · have b102 : 48 ≤ v97 ∧ v97 ≤ 57 := by omega
                            refine w_t (np := 11) (l2 := [some (eI (v97)), some (eI (48)), some (eI (57))]) (s2 := [eI (1)]) rfl rfl rfl ?_
                            refine w_go (t1 := 15) rfl rfl ?_
                            refine b_rz rfl rfl (Or.inr rfl) ?_
                            show ex_q (dt_fg L ρ) rc (d + 1, (344, 19, [some (eR a0), some (eI (x87)), some (eI (48)), some (eI (57))], [eI (1)]), (345, 261, [some (eR a0)], []) :: f :: F, m84)
                            refine b_ieq (t1 := 26) (t2 := 22) rfl rfl rfl rfl (fun g102 => absurd g102 (by decide)) (fun g102 => ?_)
                            refine w_t (np := 23) (l2 := [some (eR a0), some (eI (x87)), some (eI (48)), some (eI (57))]) (s2 := [eI (1)]) rfl rfl rfl ?_
                            refine w_go (t1 := 27) rfl rfl ?_
                            refine b_rz rfl rfl (Or.inr rfl) ?_
                            show ex_q (dt_fg L ρ) rc (d + 2, (345, 261, [some (eR a0)], [eI (1)]), f :: F, m84)
                            refine b_ieq (t1 := 321) (t2 := 264) rfl rfl rfl rfl (fun g103 => absurd g103 (by decide)) (fun g103 => ?_)
                            refine w_t (np := 265) (l2 := [some (eR a0)]) (s2 := [eR a0]) rfl (s_an rfl (pos_g I85 gA0 (by decide))) rfl ?_
                            refine w_t (np := 266) (l2 := [some (eR a0)]) (s2 := [eR a0, eR a0]) rfl (s_an rfl (pos_g I85 gA0 (by decide))) rfl ?_
                            refine w_gf (np := 269) (v := eI (x87)) rfl rfl (I85.kd gA0 (by decide) (n := 69) rfl) (by rw [h88]; rfl) ?_
                            refine w_t (np := 270) (l2 := [some (eR a0)]) (s2 := [eR a0, eI (x87), eR a0]) rfl (s_an rfl (pos_g I85 gA0 (by decide))) rfl ?_
                            refine w_gf (np := 273) (v := eI (x10)) rfl rfl (I85.kd gA0 (by decide) (n := 69) rfl) (by rw [k90]; rfl) ?_
                            obtain ⟨v104, e105⟩ : ∃ zz : Int, zz = (x87) - (x10) := ⟨_, rfl⟩
                            have b106 : -899 ≤ v104 ∧ v104 ≤ 899 := by omega
                            refine w_t (np := 274) (l2 := [some (eR a0)]) (s2 := [eI (v104), eR a0]) rfl (b_isub (by rw [← e105]; exact ev_w_in (by omega) (by omega))) rfl ?_
                            refine w_t (np := 275) (l2 := [some (eR a0)]) (s2 := [eI (3), eI (v104), eR a0]) rfl rfl rfl ?_
                            refine b_cge (t1 := 301) (t2 := 278) rfl rfl rfl (ev_w_in (by omega) (by omega)) rfl (fun g107 => ?_) (fun g107 => ?_)
                            · have b108 : 3 ≤ v104 ∧ v104 ≤ 899 := by omega
                              refine w_t (np := 302) (l2 := [some (eR a0)]) (s2 := [eR a0, eR a0]) rfl (s_an rfl (pos_g I85 gA0 (by decide))) rfl ?_
                              refine j_gi (np := 305) rfl rfl rfl I85 gA0 (by decide) (n := 69) rfl rfl (lo := -2147483648) (hi := 2147483647) rfl ?_
                              intro v108 e109 b110
                              refine j_pf (np := 308) (w := v108) rfl rfl I85 gA0 (by decide) (n := 69) rfl rfl (hO_i (lo := -2147483648) (hi := 2147483647) rfl (by omega)) ?_
                              intro m111 I112 W113
                              have F114 : Fr l_345 0 0 g μ m111 := F86.w W113 gA0 rfl
                              refine w_t (np := 309) (l2 := [some (eR a0)]) (s2 := [eR a0]) rfl (s_an rfl (pos_g I112 gA0 (by decide))) rfl ?_
                              refine w_t (np := 310) (l2 := [some (eR a0)]) (s2 := [eR a0, eR a0]) rfl rfl rfl ?_
                              refine w_gf (np := 313) (v := eI (x87)) rfl rfl (I112.kd gA0 (by decide) (n := 69) rfl) (by rw [(W113.slot h88 (by decide))]; rfl) ?_
                              refine w_t (np := 314) (l2 := [some (eR a0)]) (s2 := [eI (1), eI (x87), eR a0]) rfl rfl rfl ?_
                              obtain ⟨v115, e116⟩ : ∃ zz : Int, zz = (x87) + (1) := ⟨_, rfl⟩
                              have b117 : 1 ≤ v115 ∧ v115 ≤ 900 := by omega
                              refine w_t (np := 315) (l2 := [some (eR a0)]) (s2 := [eI (v115), eR a0]) rfl (b_iadd (by rw [← e116]; exact ev_w_in (by omega) (by omega))) rfl ?_
                              refine j_pf (np := 318) (w := v115) rfl rfl I112 gA0 (by decide) (n := 69) rfl rfl (hO_i (lo := 0) (hi := 902) rfl (by omega)) ?_
                              intro m118 I119 W120
                              have F121 : Fr l_345 0 0 g μ m118 := F114.w W120 gA0 rfl
                              refine w_go (t1 := 249) rfl rfl ?_
                              exact ih83 (900 - (v115)).toNat (by omega) m118  (v115) I119 F121  (W120.slot (W113.slot k90 (by decide)) (by decide)) (W120.slot (W113.slot k91 (by decide)) (by decide)) (W120.slot (W113.slot k92 (by decide)) (by decide)) (W120.addr (W113.addr k93 gA0 b22 (by decide)) gA0 b22 (by decide)) (W120.slot (W113.slot k94 (by decide)) (by decide)) W120.at (by omega)   rfl
                            · have b108 : -899 ≤ v104 ∧ v104 ≤ 2 := by omega
                              refine w_t (np := 280) (l2 := [some (eR a0)]) (s2 := [eI (10), eR a0]) rfl rfl rfl ?_
                              refine w_t (np := 281) (l2 := [some (eR a0)]) (s2 := [eR a0, eI (10), eR a0]) rfl (s_an rfl (pos_g I85 gA0 (by decide))) rfl ?_
                              refine j_gi (np := 284) rfl rfl rfl I85 gA0 (by decide) (n := 69) rfl rfl (lo := -2147483648) (hi := 2147483647) rfl ?_
                              intro v108 e109 b110
                              obtain ⟨v111, e112, b113⟩ : ∃ zz : Int, ev_w ((10) * (v108)) = zz ∧ (-2147483648 ≤ zz ∧ zz ≤ 2147483647) := ⟨_, rfl, hw_bd _⟩
                              refine w_t (np := 285) (l2 := [some (eR a0)]) (s2 := [eI (v111), eR a0]) rfl (b_imul e112) rfl ?_
                              refine w_t (np := 286) (l2 := [some (eR a0)]) (s2 := [eR a0, eI (v111), eR a0]) rfl (s_an rfl (pos_g I85 gA0 (by decide))) rfl ?_
                              refine w_gf (np := 289) (v := eR v20) rfl rfl (I85.kd gA0 (by decide) (n := 69) rfl) (by rw [k92]; rfl) ?_
                              refine w_t (np := 290) (l2 := [some (eR a0)]) (s2 := [eR a0, eR v20, eI (v111), eR a0]) rfl (s_an rfl (pos_g I85 gA0 (by decide))) rfl ?_
                              refine w_gf (np := 293) (v := eI (x87)) rfl rfl (I85.kd gA0 (by decide) (n := 69) rfl) (by rw [h88]; rfl) ?_
                              refine j_b2 (np := 294) rfl rfl I85 b22 (by decide) (n := 900) rfl rfl (lo := -128) (hi := 127) (fun _ => rfl) (by omega) (by omega) ?_
                              intro v114 e115 b116
                              have e115 := e115.symm.trans e98
                              rw [e115]
                              obtain ⟨v117, e118, b119⟩ : ∃ zz : Int, ev_w ((v111) + (v97)) = zz ∧ (-2147483648 ≤ zz ∧ zz ≤ 2147483647) := ⟨_, rfl, hw_bd _⟩
                              refine w_t (np := 295) (l2 := [some (eR a0)]) (s2 := [eI (v117), eR a0]) rfl (b_iadd e118) rfl ?_
                              refine w_t (np := 297) (l2 := [some (eR a0)]) (s2 := [eI (48), eI (v117), eR a0]) rfl rfl rfl ?_
                              obtain ⟨v120, e121, b122⟩ : ∃ zz : Int, ev_w ((v117) - (48)) = zz ∧ (-2147483648 ≤ zz ∧ zz ≤ 2147483647) := ⟨_, rfl, hw_bd _⟩
                              refine w_t (np := 298) (l2 := [some (eR a0)]) (s2 := [eI (v120), eR a0]) rfl (b_isub e121) rfl ?_
                              refine w_go (t1 := 305) rfl rfl ?_
                              refine j_pf (np := 308) (w := v120) rfl rfl I85 gA0 (by decide) (n := 69) rfl rfl (hO_i (lo := -2147483648) (hi := 2147483647) rfl (by omega)) ?_
                              intro m123 I124 W125
                              have F126 : Fr l_345 0 0 g μ m123 := F86.w W125 gA0 rfl
                              refine w_t (np := 309) (l2 := [some (eR a0)]) (s2 := [eR a0]) rfl (s_an rfl (pos_g I124 gA0 (by decide))) rfl ?_
                              refine w_t (np := 310) (l2 := [some (eR a0)]) (s2 := [eR a0, eR a0]) rfl rfl rfl ?_
                              refine w_gf (np := 313) (v := eI (x87)) rfl rfl (I124.kd gA0 (by decide) (n := 69) rfl) (by rw [(W125.slot h88 (by decide))]; rfl) ?_
                              refine w_t (np := 314) (l2 := [some (eR a0)]) (s2 := [eI (1), eI (x87), eR a0]) rfl rfl rfl ?_
                              obtain ⟨v127, e128⟩ : ∃ zz : Int, zz = (x87) + (1) := ⟨_, rfl⟩
                              have b129 : 1 ≤ v127 ∧ v127 ≤ 900 := by omega
                              refine w_t (np := 315) (l2 := [some (eR a0)]) (s2 := [eI (v127), eR a0]) rfl (b_iadd (by rw [← e128]; exact ev_w_in (by omega) (by omega))) rfl ?_
                              refine j_pf (np := 318) (w := v127) rfl rfl I124 gA0 (by decide) (n := 69) rfl rfl (hO_i (lo := 0) (hi := 902) rfl (by omega)) ?_
                              intro m130 I131 W132
                              have F133 : Fr l_345 0 0 g μ m130 := F126.w W132 gA0 rfl
                              refine w_go (t1 := 249) rfl rfl ?_
                              exact ih83 (900 - (v127)).toNat (by omega) m130  (v127) I131 F133  (W132.slot (W125.slot k90 (by decide)) (by decide)) (W132.slot (W125.slot k91 (by decide)) (by decide)) (W132.slot (W125.slot k92 (by decide)) (by decide)) (W132.addr (W125.addr k93 gA0 b22 (by decide)) gA0 b22 (by decide)) (W132.slot (W125.slot k94 (by decide)) (by decide)) W132.at (by omega)   rfl
                    exact hL249 _ m78  (x10) I79 F81  (W80.slot (W76.slot (W57.slot (W44.slot h11 (by decide)) (by decide)) (by decide)) (by decide)) (W80.slot (W76.slot (W57.slot (W44.slot e17 (by decide)) (by decide)) (by decide)) (by decide)) (W80.slot (W76.slot (W57.slot (W44.slot e21 (by decide)) (by decide)) (by decide)) (by decide)) (W80.addr (W76.addr (W57.addr (W44.addr e25 gA0 b22 (by decide)) gA0 b22 (by decide)) gA0 b22 (by decide)) gA0 b22 (by decide)) (W80.slot (W76.slot W57.at (by decide)) (by decide)) W80.at (by omega)   rfl
              · have b64 : 97 ≤ v24 ∧ v24 ≤ 127 := by omega
                refine w_t (np := 6) (l2 := [some (eI (v24)), some (eI (97)), some (eI (122))]) (s2 := [eI (v24)]) rfl rfl rfl ?_
                refine w_t (np := 7) (l2 := [some (eI (v24)), some (eI (97)), some (eI (122))]) (s2 := [eI (122), eI (v24)]) rfl rfl rfl ?_
                refine b_cgt (t1 := 14) (t2 := 10) rfl rfl rfl (ev_w_in (by omega) (by omega)) rfl (fun g64 => ?_) (fun g64 => ?_)
                · have b65 : 123 ≤ v24 ∧ v24 ≤ 127 := by omega
                  refine w_t (np := 15) (l2 := [some (eI (v24)), some (eI (97)), some (eI (122))]) (s2 := [eI (0)]) rfl rfl rfl ?_
                  refine b_rz rfl rfl (Or.inl rfl) ?_
                  show ex_q (dt_fg L ρ) rc (d + 1, (344, 19, [some (eR a0), some (eI (x10)), some (eI (97)), some (eI (122))], [eI (0)]), (345, 125, [some (eR a0)], []) :: f :: F, m55)
                  refine b_ieq (t1 := 26) (t2 := 22) rfl rfl rfl rfl (fun g65 => ?_) (fun g65 => absurd g65 (by decide))
                  refine w_t (np := 27) (l2 := [some (eR a0), some (eI (x10)), some (eI (97)), some (eI (122))]) (s2 := [eI (0)]) rfl rfl rfl ?_
                  refine b_rz rfl rfl (Or.inl rfl) ?_
                  show ex_q (dt_fg L ρ) rc (d + 2, (345, 125, [some (eR a0)], [eI (0)]), f :: F, m55)
                  refine b_ieq (t1 := 221) (t2 := 128) rfl rfl rfl rfl (fun g66 => ?_) (fun g66 => absurd g66 (by decide))
                  refine w_t (np := 222) (l2 := [some (eR a0)]) (s2 := [eR a0]) rfl (s_an rfl (pos_g I56 gA0 (by decide))) rfl ?_
                  refine w_t (np := 223) (l2 := [some (eR a0)]) (s2 := [eR a0, eR a0]) rfl (s_an rfl (pos_g I56 gA0 (by decide))) rfl ?_
                  refine w_gf (np := 226) (v := eI (x10)) rfl rfl (I56.kd gA0 (by decide) (n := 69) rfl) (by rw [(W57.slot (W44.slot h11 (by decide)) (by decide))]; rfl) ?_
                  refine w_t (np := 228) (l2 := [some (eR a0)]) (s2 := [eI (48), eI (x10), eR a0]) rfl rfl rfl ?_
                  refine w_t (np := 230) (l2 := [some (eR a0)]) (s2 := [eI (57), eI (48), eI (x10), eR a0]) rfl rfl rfl ?_
                  refine w_cw (np := 233) (as := [eI (x10), eI (48), eI (57)]) (l2 := [some (eR a0), some (eI (x10)), some (eI (48)), some (eI (57))]) (rest := []) rfl rfl rfl (Nat.ble_eq.mp rfl) rfl rfl rfl (I56.kd gA0 (by decide) (n := 69) rfl) rfl ?_
                  refine w_t (np := 1) (l2 := [some (eR a0), some (eI (x10)), some (eI (48)), some (eI (57))]) (s2 := [eI (x10)]) rfl rfl rfl ?_
                  refine w_t (np := 2) (l2 := [some (eR a0), some (eI (x10)), some (eI (48)), some (eI (57))]) (s2 := [eR a0, eI (x10)]) rfl (s_an rfl (pos_g I56 gA0 (by decide))) rfl ?_
                  refine w_gf (np := 5) (v := eI (v16)) rfl rfl (I56.kd gA0 (by decide) (n := 69) rfl) (by rw [(W57.slot (W44.slot e17 (by decide)) (by decide))]; rfl) ?_
                  refine b_cge (t1 := 26) (t2 := 8) rfl rfl rfl (ev_w_in (by omega) (by omega)) (ev_w_in (by omega) (by omega)) (fun g67 => False.elim (by omega)) (fun g67 => ?_)
                  refine w_t (np := 9) (l2 := [some (eR a0), some (eI (x10)), some (eI (48)), some (eI (57))]) (s2 := [eR a0]) rfl (s_an rfl (pos_g I56 gA0 (by decide))) rfl ?_
                  refine w_gf (np := 12) (v := eR v20) rfl rfl (I56.kd gA0 (by decide) (n := 69) rfl) (by rw [(W57.slot (W44.slot e21 (by decide)) (by decide))]; rfl) ?_
                  refine w_t (np := 13) (l2 := [some (eR a0), some (eI (x10)), some (eI (48)), some (eI (57))]) (s2 := [eI (x10), eR v20]) rfl rfl rfl ?_
                  refine j_b2 (np := 14) rfl rfl I56 b22 (by decide) (n := 900) rfl rfl (lo := -128) (hi := 127) (fun _ => rfl) (by omega) (by omega) ?_
                  intro v68 e69 b70
                  have e69 := e69.symm.trans (W57.addr (W44.addr e25 gA0 b22 (by decide)) gA0 b22 (by decide))
                  rw [e69]
                  refine w_t (np := 15) (l2 := [some (eR a0), some (eI (x10)), some (eI (48)), some (eI (57))]) (s2 := [eI (48), eI (v24)]) rfl rfl rfl ?_
                  refine w_t (np := 16) (l2 := [some (eR a0), some (eI (x10)), some (eI (48)), some (eI (57))]) (s2 := [eI (57), eI (48), eI (v24)]) rfl rfl rfl ?_
                  refine w_cu (np := 19) (as := [eI (v24), eI (48), eI (57)]) (l2 := [some (eI (v24)), some (eI (48)), some (eI (57))]) (rest := []) rfl rfl rfl (Nat.ble_eq.mp rfl) rfl rfl rfl rfl ?_
                  refine w_t (np := 1) (l2 := [some (eI (v24)), some (eI (48)), some (eI (57))]) (s2 := [eI (v24)]) rfl rfl rfl ?_
                  refine w_t (np := 2) (l2 := [some (eI (v24)), some (eI (48)), some (eI (57))]) (s2 := [eI (48), eI (v24)]) rfl rfl rfl ?_
                  refine b_clt (t1 := 14) (t2 := 5) rfl rfl rfl (ev_w_in (by omega) (by omega)) rfl (fun g71 => False.elim (by omega)) (fun g71 => ?_)
                  refine w_t (np := 6) (l2 := [some (eI (v24)), some (eI (48)), some (eI (57))]) (s2 := [eI (v24)]) rfl rfl rfl ?_
                  refine w_t (np := 7) (l2 := [some (eI (v24)), some (eI (48)), some (eI (57))]) (s2 := [eI (57), eI (v24)]) rfl rfl rfl ?_
                  refine b_cgt (t1 := 14) (t2 := 10) rfl rfl rfl (ev_w_in (by omega) (by omega)) rfl (fun g72 => ?_) (fun g72 => False.elim (by omega))
                  refine w_t (np := 15) (l2 := [some (eI (v24)), some (eI (48)), some (eI (57))]) (s2 := [eI (0)]) rfl rfl rfl ?_
                  refine b_rz rfl rfl (Or.inl rfl) ?_
                  show ex_q (dt_fg L ρ) rc (d + 1, (344, 19, [some (eR a0), some (eI (x10)), some (eI (48)), some (eI (57))], [eI (0)]), (345, 233, [some (eR a0)], []) :: f :: F, m55)
                  refine b_ieq (t1 := 26) (t2 := 22) rfl rfl rfl rfl (fun g73 => ?_) (fun g73 => absurd g73 (by decide))
                  refine w_t (np := 27) (l2 := [some (eR a0), some (eI (x10)), some (eI (48)), some (eI (57))]) (s2 := [eI (0)]) rfl rfl rfl ?_
                  refine b_rz rfl rfl (Or.inl rfl) ?_
                  show ex_q (dt_fg L ρ) rc (d + 2, (345, 233, [some (eR a0)], [eI (0)]), f :: F, m55)
                  refine b_ieq (t1 := 343) (t2 := 236) rfl rfl rfl rfl (fun g74 => ?_) (fun g74 => absurd g74 (by decide))
                  exact v_rv rfl rfl (K m55 (4) (x10) (v39) I56 F58 W57.at (W57.slot (W44.slot h11 (by decide)) (by decide)) (W57.slot W44.at (by decide)) (by omega) (by omega))
                · have b65 : 97 ≤ v24 ∧ v24 ≤ 122 := by omega
                  refine w_t (np := 11) (l2 := [some (eI (v24)), some (eI (97)), some (eI (122))]) (s2 := [eI (1)]) rfl rfl rfl ?_
                  refine w_go (t1 := 15) rfl rfl ?_
                  refine b_rz rfl rfl (Or.inr rfl) ?_
                  show ex_q (dt_fg L ρ) rc (d + 1, (344, 19, [some (eR a0), some (eI (x10)), some (eI (97)), some (eI (122))], [eI (1)]), (345, 125, [some (eR a0)], []) :: f :: F, m55)
                  refine b_ieq (t1 := 26) (t2 := 22) rfl rfl rfl rfl (fun g65 => absurd g65 (by decide)) (fun g65 => ?_)
                  refine w_t (np := 23) (l2 := [some (eR a0), some (eI (x10)), some (eI (97)), some (eI (122))]) (s2 := [eI (1)]) rfl rfl rfl ?_
                  refine w_go (t1 := 27) rfl rfl ?_
                  refine b_rz rfl rfl (Or.inr rfl) ?_
                  show ex_q (dt_fg L ρ) rc (d + 2, (345, 125, [some (eR a0)], [eI (1)]), f :: F, m55)
                  refine b_ieq (t1 := 221) (t2 := 128) rfl rfl rfl rfl (fun g66 => absurd g66 (by decide)) (fun g66 => ?_)
                  refine w_t (np := 129) (l2 := [some (eR a0)]) (s2 := [eR a0]) rfl (s_an rfl (pos_g I56 gA0 (by decide))) rfl ?_
                  refine w_t (np := 130) (l2 := [some (eR a0)]) (s2 := [eI (1), eR a0]) rfl rfl rfl ?_
                  refine j_pf (np := 133) (w := 1) rfl rfl I56 gA0 (by decide) (n := 69) rfl rfl (hO_i (lo := -2147483648) (hi := 2147483647) rfl (by decide)) ?_
                  intro m67 I68 W69
                  have F70 : Fr l_345 0 0 g μ m67 := F58.w W69 gA0 rfl
                  refine w_t (np := 134) (l2 := [some (eR a0)]) (s2 := [eR a0]) rfl (s_an rfl (pos_g I68 gA0 (by decide))) rfl ?_
                  refine w_t (np := 135) (l2 := [some (eR a0)]) (s2 := [eJ (0), eR a0]) rfl rfl rfl ?_
                  refine j_pf (np := 138) (w := 0) rfl rfl I68 gA0 (by decide) (n := 69) rfl rfl (hO_i (lo := -9223372036854775808) (hi := 9223372036854775807) rfl (by decide)) ?_
                  intro m71 I72 W73
                  have F74 : Fr l_345 0 0 g μ m71 := F70.w W73 gA0 rfl
                  refine w_t (np := 139) (l2 := [some (eR a0)]) (s2 := [eR a0]) rfl (s_an rfl (pos_g I72 gA0 (by decide))) rfl ?_
                  refine w_t (np := 140) (l2 := [some (eR a0)]) (s2 := [eR a0, eR a0]) rfl (s_an rfl (pos_g I72 gA0 (by decide))) rfl ?_
                  refine w_gf (np := 143) (v := eI (x10)) rfl rfl (I72.kd gA0 (by decide) (n := 69) rfl) (by rw [(W73.slot (W69.slot (W57.slot (W44.slot h11 (by decide)) (by decide)) (by decide)) (by decide))]; rfl) ?_
                  refine j_pf (np := 146) (w := x10) rfl rfl I72 gA0 (by decide) (n := 69) rfl rfl (hO_i (lo := 0) (hi := 902) rfl (by omega)) ?_
                  intro m75 I76 W77
                  have F78 : Fr l_345 0 0 g μ m75 := F74.w W77 gA0 rfl
                  have hL146 : ∀ (n79 : Nat) (m81 : eM) (x84 : Int), SI g m81 → Fr l_345 0 0 g μ m81 → m81.1 a0 59 = x10 → m81.1 a0 63 = v16 → m81.1 a0 53 = ((v20 : Nat) : Int) → m81.1 v20 (x10).toNat = v24 → m81.1 a0 61 = 1 → m81.1 a0 60 = x84 → (0 ≤ x84 ∧ x84 ≤ 900) → n79 = (900 - x84).toNat → ex_q (dt_fg L ρ) rc (d + 2, (345, 146, [some (eR a0)], []), f :: F, m81) := by
                    intro n79
                    induction n79 using Nat.strongRecOn with
                    | _ n79 ih80 =>
                    intro m81 x84 I82 F83 k87 k88 k89 k90 k91 h85 b86 hn92
                    refine w_t (np := 147) (l2 := [some (eR a0)]) (s2 := [eR a0]) rfl (s_an rfl (pos_g I82 gA0 (by decide))) rfl ?_
                    refine w_t (np := 148) (l2 := [some (eR a0)]) (s2 := [eR a0, eR a0]) rfl (s_an rfl (pos_g I82 gA0 (by decide))) rfl ?_
                    refine w_gf (np := 151) (v := eI (x84)) rfl rfl (I82.kd gA0 (by decide) (n := 69) rfl) (by rw [h85]; rfl) ?_
                    refine w_t (np := 153) (l2 := [some (eR a0)]) (s2 := [eI (97), eI (x84), eR a0]) rfl rfl rfl ?_
                    refine w_t (np := 155) (l2 := [some (eR a0)]) (s2 := [eI (122), eI (97), eI (x84), eR a0]) rfl rfl rfl ?_
                    refine w_cw (np := 158) (as := [eI (x84), eI (97), eI (122)]) (l2 := [some (eR a0), some (eI (x84)), some (eI (97)), some (eI (122))]) (rest := []) rfl rfl rfl (Nat.ble_eq.mp rfl) rfl rfl rfl (I82.kd gA0 (by decide) (n := 69) rfl) rfl ?_
                    refine w_t (np := 1) (l2 := [some (eR a0), some (eI (x84)), some (eI (97)), some (eI (122))]) (s2 := [eI (x84)]) rfl rfl rfl ?_
                    refine w_t (np := 2) (l2 := [some (eR a0), some (eI (x84)), some (eI (97)), some (eI (122))]) (s2 := [eR a0, eI (x84)]) rfl (s_an rfl (pos_g I82 gA0 (by decide))) rfl ?_
                    refine w_gf (np := 5) (v := eI (v16)) rfl rfl (I82.kd gA0 (by decide) (n := 69) rfl) (by rw [k88]; rfl) ?_
                    refine b_cge (t1 := 26) (t2 := 8) rfl rfl rfl (ev_w_in (by omega) (by omega)) (ev_w_in (by omega) (by omega)) (fun g93 => ?_) (fun g93 => ?_)
                    · have b94 : 1 ≤ x84 ∧ x84 ≤ 900 := by omega
                      refine w_t (np := 27) (l2 := [some (eR a0), some (eI (x84)), some (eI (97)), some (eI (122))]) (s2 := [eI (0)]) rfl rfl rfl ?_
                      refine b_rz rfl rfl (Or.inl rfl) ?_
                      show ex_q (dt_fg L ρ) rc (d + 2, (345, 158, [some (eR a0)], [eI (0)]), f :: F, m81)
                      refine b_ieq (t1 := 343) (t2 := 161) rfl rfl rfl rfl (fun g94 => ?_) (fun g94 => absurd g94 (by decide))
                      exact v_rv rfl rfl (K m81 (1) (x10) (x84) I82 F83 k91 k87 h85 (by omega) (by omega))
                    · have b94 : 0 ≤ x84 ∧ x84 ≤ 899 := by omega
                      refine w_t (np := 9) (l2 := [some (eR a0), some (eI (x84)), some (eI (97)), some (eI (122))]) (s2 := [eR a0]) rfl (s_an rfl (pos_g I82 gA0 (by decide))) rfl ?_
                      refine w_gf (np := 12) (v := eR v20) rfl rfl (I82.kd gA0 (by decide) (n := 69) rfl) (by rw [k89]; rfl) ?_
                      refine w_t (np := 13) (l2 := [some (eR a0), some (eI (x84)), some (eI (97)), some (eI (122))]) (s2 := [eI (x84), eR v20]) rfl rfl rfl ?_
                      refine j_b2 (np := 14) rfl rfl I82 b22 (by decide) (n := 900) rfl rfl (lo := -128) (hi := 127) (fun _ => rfl) (by omega) (by omega) ?_
                      intro v94 e95 b96
                      refine w_t (np := 15) (l2 := [some (eR a0), some (eI (x84)), some (eI (97)), some (eI (122))]) (s2 := [eI (97), eI (v94)]) rfl rfl rfl ?_
                      refine w_t (np := 16) (l2 := [some (eR a0), some (eI (x84)), some (eI (97)), some (eI (122))]) (s2 := [eI (122), eI (97), eI (v94)]) rfl rfl rfl ?_
                      refine w_cu (np := 19) (as := [eI (v94), eI (97), eI (122)]) (l2 := [some (eI (v94)), some (eI (97)), some (eI (122))]) (rest := []) rfl rfl rfl (Nat.ble_eq.mp rfl) rfl rfl rfl rfl ?_
                      refine w_t (np := 1) (l2 := [some (eI (v94)), some (eI (97)), some (eI (122))]) (s2 := [eI (v94)]) rfl rfl rfl ?_
                      refine w_t (np := 2) (l2 := [some (eI (v94)), some (eI (97)), some (eI (122))]) (s2 := [eI (97), eI (v94)]) rfl rfl rfl ?_
                      refine b_clt (t1 := 14) (t2 := 5) rfl rfl rfl (ev_w_in (by omega) (by omega)) rfl (fun g97 => ?_) (fun g97 => ?_)
                      · have b98 : -128 ≤ v94 ∧ v94 ≤ 96 := by omega
                        refine w_t (np := 15) (l2 := [some (eI (v94)), some (eI (97)), some (eI (122))]) (s2 := [eI (0)]) rfl rfl rfl ?_
                        refine b_rz rfl rfl (Or.inl rfl) ?_
                        show ex_q (dt_fg L ρ) rc (d + 1, (344, 19, [some (eR a0), some (eI (x84)), some (eI (97)), some (eI (122))], [eI (0)]), (345, 158, [some (eR a0)], []) :: f :: F, m81)
                        refine b_ieq (t1 := 26) (t2 := 22) rfl rfl rfl rfl (fun g98 => ?_) (fun g98 => absurd g98 (by decide))
                        refine w_t (np := 27) (l2 := [some (eR a0), some (eI (x84)), some (eI (97)), some (eI (122))]) (s2 := [eI (0)]) rfl rfl rfl ?_
                        refine b_rz rfl rfl (Or.inl rfl) ?_
                        show ex_q (dt_fg L ρ) rc (d + 2, (345, 158, [some (eR a0)], [eI (0)]), f :: F, m81)
                        refine b_ieq (t1 := 343) (t2 := 161) rfl rfl rfl rfl (fun g99 => ?_) (fun g99 => absurd g99 (by decide))
                        exact v_rv rfl rfl (K m81 (1) (x10) (x84) I82 F83 k91 k87 h85 (by omega) (by omega))
                      · have b98 : 97 ≤ v94 ∧ v94 ≤ 127 := by omega
                        refine w_t (np := 6) (l2 := [some (eI (v94)), some (eI (97)), some (eI (122))]) (s2 := [eI (v94)]) rfl rfl rfl ?_
                        refine w_t (np := 7) (l2 := [some (eI (v94)), some (eI (97)), some (eI (122))]) (s2 := [eI (122), eI (v94)]) rfl rfl rfl ?_
                        refine b_cgt (t1 := 14) (t2 := 10) rfl rfl rfl (ev_w_in (by omega) (by omega)) rfl (fun g98 => ?_) (fun g98 => ?_)
                        · have b99 : 123 ≤ v94 ∧ v94 ≤ 127 := by omega
                          refine w_t (np := 15) (l2 := [some (eI (v94)), some (eI (97)), some (eI (122))]) (s2 := [eI (0)]) rfl rfl rfl ?_
                          refine b_rz rfl rfl (Or.inl rfl) ?_
                          show ex_q (dt_fg L ρ) rc (d + 1, (344, 19, [some (eR a0), some (eI (x84)), some (eI (97)), some (eI (122))], [eI (0)]), (345, 158, [some (eR a0)], []) :: f :: F, m81)
                          refine b_ieq (t1 := 26) (t2 := 22) rfl rfl rfl rfl (fun g99 => ?_) (fun g99 => absurd g99 (by decide))
                          refine w_t (np := 27) (l2 := [some (eR a0), some (eI (x84)), some (eI (97)), some (eI (122))]) (s2 := [eI (0)]) rfl rfl rfl ?_
                          refine b_rz rfl rfl (Or.inl rfl) ?_
                          show ex_q (dt_fg L ρ) rc (d + 2, (345, 158, [some (eR a0)], [eI (0)]), f :: F, m81)
                          refine b_ieq (t1 := 343) (t2 := 161) rfl rfl rfl rfl (fun g100 => ?_) (fun g100 => absurd g100 (by decide))
                          exact v_rv rfl rfl (K m81 (1) (x10) (x84) I82 F83 k91 k87 h85 (by omega) (by omega))
                        · have b99 : 97 ≤ v94 ∧ v94 ≤ 122 := by omega
                          refine w_t (np := 11) (l2 := [some (eI (v94)), some (eI (97)), some (eI (122))]) (s2 := [eI (1)]) rfl rfl rfl ?_
                          refine w_go (t1 := 15) rfl rfl ?_
                          refine b_rz rfl rfl (Or.inr rfl) ?_
                          show ex_q (dt_fg L ρ) rc (d + 1, (344, 19, [some (eR a0), some (eI (x84)), some (eI (97)), some (eI (122))], [eI (1)]), (345, 158, [some (eR a0)], []) :: f :: F, m81)
                          refine b_ieq (t1 := 26) (t2 := 22) rfl rfl rfl rfl (fun g99 => absurd g99 (by decide)) (fun g99 => ?_)
                          refine w_t (np := 23) (l2 := [some (eR a0), some (eI (x84)), some (eI (97)), some (eI (122))]) (s2 := [eI (1)]) rfl rfl rfl ?_
                          refine w_go (t1 := 27) rfl rfl ?_
                          refine b_rz rfl rfl (Or.inr rfl) ?_
                          show ex_q (dt_fg L ρ) rc (d + 2, (345, 158, [some (eR a0)], [eI (1)]), f :: F, m81)
                          refine b_ieq (t1 := 343) (t2 := 161) rfl rfl rfl rfl (fun g100 => absurd g100 (by decide)) (fun g100 => ?_)
                          refine w_t (np := 162) (l2 := [some (eR a0)]) (s2 := [eR a0]) rfl (s_an rfl (pos_g I82 gA0 (by decide))) rfl ?_
                          refine w_t (np := 163) (l2 := [some (eR a0)]) (s2 := [eR a0, eR a0]) rfl (s_an rfl (pos_g I82 gA0 (by decide))) rfl ?_
                          refine w_gf (np := 166) (v := eI (x84)) rfl rfl (I82.kd gA0 (by decide) (n := 69) rfl) (by rw [h85]; rfl) ?_
                          refine w_t (np := 167) (l2 := [some (eR a0)]) (s2 := [eR a0, eI (x84), eR a0]) rfl (s_an rfl (pos_g I82 gA0 (by decide))) rfl ?_
                          refine w_gf (np := 170) (v := eI (x10)) rfl rfl (I82.kd gA0 (by decide) (n := 69) rfl) (by rw [k87]; rfl) ?_
                          obtain ⟨v101, e102⟩ : ∃ zz : Int, zz = (x84) - (x10) := ⟨_, rfl⟩
                          have b103 : -899 ≤ v101 ∧ v101 ≤ 899 := by omega
                          refine w_t (np := 171) (l2 := [some (eR a0)]) (s2 := [eI (v101), eR a0]) rfl (b_isub (by rw [← e102]; exact ev_w_in (by omega) (by omega))) rfl ?_
                          refine w_t (np := 173) (l2 := [some (eR a0)]) (s2 := [eI (8), eI (v101), eR a0]) rfl rfl rfl ?_
                          refine b_cge (t1 := 202) (t2 := 176) rfl rfl rfl (ev_w_in (by omega) (by omega)) rfl (fun g104 => ?_) (fun g104 => ?_)
                          · have b105 : 8 ≤ v101 ∧ v101 ≤ 899 := by omega
                            refine v_l2 (np := 205) (c := 18446744073709551615) rfl rfl (by decide) ?_
                            rw [show zJ 18446744073709551615 = -1 by decide]
                            refine j_pf (np := 208) (w := -1) rfl rfl I82 gA0 (by decide) (n := 69) rfl rfl (hO_i (lo := -9223372036854775808) (hi := 9223372036854775807) rfl (by decide)) ?_
                            intro m105 I106 W107
                            have F108 : Fr l_345 0 0 g μ m105 := F83.w W107 gA0 rfl
                            refine w_t (np := 209) (l2 := [some (eR a0)]) (s2 := [eR a0]) rfl (s_an rfl (pos_g I106 gA0 (by decide))) rfl ?_
                            refine w_t (np := 210) (l2 := [some (eR a0)]) (s2 := [eR a0, eR a0]) rfl rfl rfl ?_
                            refine w_gf (np := 213) (v := eI (x84)) rfl rfl (I106.kd gA0 (by decide) (n := 69) rfl) (by rw [(W107.slot h85 (by decide))]; rfl) ?_
                            refine w_t (np := 214) (l2 := [some (eR a0)]) (s2 := [eI (1), eI (x84), eR a0]) rfl rfl rfl ?_
                            obtain ⟨v109, e110⟩ : ∃ zz : Int, zz = (x84) + (1) := ⟨_, rfl⟩
                            have b111 : 1 ≤ v109 ∧ v109 ≤ 900 := by omega
                            refine w_t (np := 215) (l2 := [some (eR a0)]) (s2 := [eI (v109), eR a0]) rfl (b_iadd (by rw [← e110]; exact ev_w_in (by omega) (by omega))) rfl ?_
                            refine j_pf (np := 218) (w := v109) rfl rfl I106 gA0 (by decide) (n := 69) rfl rfl (hO_i (lo := 0) (hi := 902) rfl (by omega)) ?_
                            intro m112 I113 W114
                            have F115 : Fr l_345 0 0 g μ m112 := F108.w W114 gA0 rfl
                            refine w_go (t1 := 146) rfl rfl ?_
                            exact ih80 (900 - (v109)).toNat (by omega) m112  (v109) I113 F115  (W114.slot (W107.slot k87 (by decide)) (by decide)) (W114.slot (W107.slot k88 (by decide)) (by decide)) (W114.slot (W107.slot k89 (by decide)) (by decide)) (W114.addr (W107.addr k90 gA0 b22 (by decide)) gA0 b22 (by decide)) (W114.slot (W107.slot k91 (by decide)) (by decide)) W114.at (by omega)   rfl
                          · have b105 : -899 ≤ v101 ∧ v101 ≤ 7 := by omega
                            refine v_l2 (np := 179) (c := 27) rfl rfl (by decide) ?_
                            rw [show zJ 27 = 27 by decide]
                            refine w_t (np := 180) (l2 := [some (eR a0)]) (s2 := [eR a0, eJ (27), eR a0]) rfl (s_an rfl (pos_g I82 gA0 (by decide))) rfl ?_
                            refine j_gj (np := 183) rfl rfl I82 gA0 (by decide) (n := 69) rfl rfl (lo := -9223372036854775808) (hi := 9223372036854775807) rfl ?_
                            intro v105 e106 b107
                            obtain ⟨v108, e109, b110⟩ : ∃ zz : Int, ev_W ((27) * (v105)) = zz ∧ (-9223372036854775808 ≤ zz ∧ zz ≤ 9223372036854775807) := ⟨_, rfl, hW_bd _⟩
                            refine w_t (np := 184) (l2 := [some (eR a0)]) (s2 := [eJ (v108), eR a0]) rfl (b_lmul e109) rfl ?_
                            refine w_t (np := 185) (l2 := [some (eR a0)]) (s2 := [eR a0, eJ (v108), eR a0]) rfl (s_an rfl (pos_g I82 gA0 (by decide))) rfl ?_
                            refine w_gf (np := 188) (v := eR v20) rfl rfl (I82.kd gA0 (by decide) (n := 69) rfl) (by rw [k89]; rfl) ?_
                            refine w_t (np := 189) (l2 := [some (eR a0)]) (s2 := [eR a0, eR v20, eJ (v108), eR a0]) rfl (s_an rfl (pos_g I82 gA0 (by decide))) rfl ?_
                            refine w_gf (np := 192) (v := eI (x84)) rfl rfl (I82.kd gA0 (by decide) (n := 69) rfl) (by rw [h85]; rfl) ?_
                            refine j_b2 (np := 193) rfl rfl I82 b22 (by decide) (n := 900) rfl rfl (lo := -128) (hi := 127) (fun _ => rfl) (by omega) (by omega) ?_
                            intro v111 e112 b113
                            have e112 := e112.symm.trans e95
                            rw [e112]
                            refine w_t (np := 194) (l2 := [some (eR a0)]) (s2 := [eJ (v94), eJ (v108), eR a0]) rfl (b_i2l (ev_w_in (by omega) (by omega))) rfl ?_
                            obtain ⟨v114, e115, b116⟩ : ∃ zz : Int, ev_W ((v108) + (v94)) = zz ∧ (-9223372036854775808 ≤ zz ∧ zz ≤ 9223372036854775807) := ⟨_, rfl, hW_bd _⟩
                            refine w_t (np := 195) (l2 := [some (eR a0)]) (s2 := [eJ (v114), eR a0]) rfl (b_ladd e115) rfl ?_
                            refine v_l2 (np := 198) (c := 96) rfl rfl (by decide) ?_
                            rw [show zJ 96 = 96 by decide]
                            obtain ⟨v117, e118, b119⟩ : ∃ zz : Int, ev_W ((v114) - (96)) = zz ∧ (-9223372036854775808 ≤ zz ∧ zz ≤ 9223372036854775807) := ⟨_, rfl, hW_bd _⟩
                            refine w_t (np := 199) (l2 := [some (eR a0)]) (s2 := [eJ (v117), eR a0]) rfl (b_lsub e118) rfl ?_
                            refine w_go (t1 := 205) rfl rfl ?_
                            refine j_pf (np := 208) (w := v117) rfl rfl I82 gA0 (by decide) (n := 69) rfl rfl (hO_i (lo := -9223372036854775808) (hi := 9223372036854775807) rfl (by omega)) ?_
                            intro m120 I121 W122
                            have F123 : Fr l_345 0 0 g μ m120 := F83.w W122 gA0 rfl
                            refine w_t (np := 209) (l2 := [some (eR a0)]) (s2 := [eR a0]) rfl (s_an rfl (pos_g I121 gA0 (by decide))) rfl ?_
                            refine w_t (np := 210) (l2 := [some (eR a0)]) (s2 := [eR a0, eR a0]) rfl rfl rfl ?_
                            refine w_gf (np := 213) (v := eI (x84)) rfl rfl (I121.kd gA0 (by decide) (n := 69) rfl) (by rw [(W122.slot h85 (by decide))]; rfl) ?_
                            refine w_t (np := 214) (l2 := [some (eR a0)]) (s2 := [eI (1), eI (x84), eR a0]) rfl rfl rfl ?_
                            obtain ⟨v124, e125⟩ : ∃ zz : Int, zz = (x84) + (1) := ⟨_, rfl⟩
                            have b126 : 1 ≤ v124 ∧ v124 ≤ 900 := by omega
                            refine w_t (np := 215) (l2 := [some (eR a0)]) (s2 := [eI (v124), eR a0]) rfl (b_iadd (by rw [← e125]; exact ev_w_in (by omega) (by omega))) rfl ?_
                            refine j_pf (np := 218) (w := v124) rfl rfl I121 gA0 (by decide) (n := 69) rfl rfl (hO_i (lo := 0) (hi := 902) rfl (by omega)) ?_
                            intro m127 I128 W129
                            have F130 : Fr l_345 0 0 g μ m127 := F123.w W129 gA0 rfl
                            refine w_go (t1 := 146) rfl rfl ?_
                            exact ih80 (900 - (v124)).toNat (by omega) m127  (v124) I128 F130  (W129.slot (W122.slot k87 (by decide)) (by decide)) (W129.slot (W122.slot k88 (by decide)) (by decide)) (W129.slot (W122.slot k89 (by decide)) (by decide)) (W129.addr (W122.addr k90 gA0 b22 (by decide)) gA0 b22 (by decide)) (W129.slot (W122.slot k91 (by decide)) (by decide)) W129.at (by omega)   rfl
                  exact hL146 _ m75  (x10) I76 F78  (W77.slot (W73.slot (W69.slot (W57.slot (W44.slot h11 (by decide)) (by decide)) (by decide)) (by decide)) (by decide)) (W77.slot (W73.slot (W69.slot (W57.slot (W44.slot e17 (by decide)) (by decide)) (by decide)) (by decide)) (by decide)) (W77.slot (W73.slot (W69.slot (W57.slot (W44.slot e21 (by decide)) (by decide)) (by decide)) (by decide)) (by decide)) (W77.addr (W73.addr (W69.addr (W57.addr (W44.addr e25 gA0 b22 (by decide)) gA0 b22 (by decide)) gA0 b22 (by decide)) gA0 b22 (by decide)) gA0 b22 (by decide)) (W77.slot (W73.slot W69.at (by decide)) (by decide)) W77.at (by omega)   rfl
            · have b55 : 45 ≤ v24 ∧ v24 ≤ 45 := by omega
              refine w_t (np := 106) (l2 := [some (eR a0)]) (s2 := [eI (3), eR a0]) rfl rfl rfl ?_
              refine w_go (t1 := 110) rfl rfl ?_
              refine j_pf (np := 113) (w := 3) rfl rfl I43 gA0 (by decide) (n := 69) rfl rfl (hO_i (lo := -2147483648) (hi := 2147483647) rfl (by decide)) ?_
              intro m55 I56 W57
              have F58 : Fr l_345 0 0 g μ m55 := F45.w W57 gA0 rfl
              refine w_t (np := 114) (l2 := [some (eR a0)]) (s2 := [eR a0]) rfl (s_an rfl (pos_g I56 gA0 (by decide))) rfl ?_
              refine w_t (np := 115) (l2 := [some (eR a0)]) (s2 := [eR a0, eR a0]) rfl (s_an rfl (pos_g I56 gA0 (by decide))) rfl ?_
              refine w_gf (np := 118) (v := eI (x10)) rfl rfl (I56.kd gA0 (by decide) (n := 69) rfl) (by rw [(W57.slot (W44.slot h11 (by decide)) (by decide))]; rfl) ?_
              refine w_t (np := 120) (l2 := [some (eR a0)]) (s2 := [eI (97), eI (x10), eR a0]) rfl rfl rfl ?_
              refine w_t (np := 122) (l2 := [some (eR a0)]) (s2 := [eI (122), eI (97), eI (x10), eR a0]) rfl rfl rfl ?_
              refine w_cw (np := 125) (as := [eI (x10), eI (97), eI (122)]) (l2 := [some (eR a0), some (eI (x10)), some (eI (97)), some (eI (122))]) (rest := []) rfl rfl rfl (Nat.ble_eq.mp rfl) rfl rfl rfl (I56.kd gA0 (by decide) (n := 69) rfl) rfl ?_
              refine w_t (np := 1) (l2 := [some (eR a0), some (eI (x10)), some (eI (97)), some (eI (122))]) (s2 := [eI (x10)]) rfl rfl rfl ?_
              refine w_t (np := 2) (l2 := [some (eR a0), some (eI (x10)), some (eI (97)), some (eI (122))]) (s2 := [eR a0, eI (x10)]) rfl (s_an rfl (pos_g I56 gA0 (by decide))) rfl ?_
              refine w_gf (np := 5) (v := eI (v16)) rfl rfl (I56.kd gA0 (by decide) (n := 69) rfl) (by rw [(W57.slot (W44.slot e17 (by decide)) (by decide))]; rfl) ?_
              refine b_cge (t1 := 26) (t2 := 8) rfl rfl rfl (ev_w_in (by omega) (by omega)) (ev_w_in (by omega) (by omega)) (fun g59 => False.elim (by omega)) (fun g59 => ?_)
              refine w_t (np := 9) (l2 := [some (eR a0), some (eI (x10)), some (eI (97)), some (eI (122))]) (s2 := [eR a0]) rfl (s_an rfl (pos_g I56 gA0 (by decide))) rfl ?_
              refine w_gf (np := 12) (v := eR v20) rfl rfl (I56.kd gA0 (by decide) (n := 69) rfl) (by rw [(W57.slot (W44.slot e21 (by decide)) (by decide))]; rfl) ?_
              refine w_t (np := 13) (l2 := [some (eR a0), some (eI (x10)), some (eI (97)), some (eI (122))]) (s2 := [eI (x10), eR v20]) rfl rfl rfl ?_
              refine j_b2 (np := 14) rfl rfl I56 b22 (by decide) (n := 900) rfl rfl (lo := -128) (hi := 127) (fun _ => rfl) (by omega) (by omega) ?_
              intro v60 e61 b62
              have e61 := e61.symm.trans (W57.addr (W44.addr e25 gA0 b22 (by decide)) gA0 b22 (by decide))
              rw [e61]
              refine w_t (np := 15) (l2 := [some (eR a0), some (eI (x10)), some (eI (97)), some (eI (122))]) (s2 := [eI (97), eI (v24)]) rfl rfl rfl ?_
              refine w_t (np := 16) (l2 := [some (eR a0), some (eI (x10)), some (eI (97)), some (eI (122))]) (s2 := [eI (122), eI (97), eI (v24)]) rfl rfl rfl ?_
              refine w_cu (np := 19) (as := [eI (v24), eI (97), eI (122)]) (l2 := [some (eI (v24)), some (eI (97)), some (eI (122))]) (rest := []) rfl rfl rfl (Nat.ble_eq.mp rfl) rfl rfl rfl rfl ?_
              refine w_t (np := 1) (l2 := [some (eI (v24)), some (eI (97)), some (eI (122))]) (s2 := [eI (v24)]) rfl rfl rfl ?_
              refine w_t (np := 2) (l2 := [some (eI (v24)), some (eI (97)), some (eI (122))]) (s2 := [eI (97), eI (v24)]) rfl rfl rfl ?_
              refine b_clt (t1 := 14) (t2 := 5) rfl rfl rfl (ev_w_in (by omega) (by omega)) rfl (fun g63 => ?_) (fun g63 => False.elim (by omega))
              refine w_t (np := 15) (l2 := [some (eI (v24)), some (eI (97)), some (eI (122))]) (s2 := [eI (0)]) rfl rfl rfl ?_
              refine b_rz rfl rfl (Or.inl rfl) ?_
              show ex_q (dt_fg L ρ) rc (d + 1, (344, 19, [some (eR a0), some (eI (x10)), some (eI (97)), some (eI (122))], [eI (0)]), (345, 125, [some (eR a0)], []) :: f :: F, m55)
              refine b_ieq (t1 := 26) (t2 := 22) rfl rfl rfl rfl (fun g64 => ?_) (fun g64 => absurd g64 (by decide))
              refine w_t (np := 27) (l2 := [some (eR a0), some (eI (x10)), some (eI (97)), some (eI (122))]) (s2 := [eI (0)]) rfl rfl rfl ?_
              refine b_rz rfl rfl (Or.inl rfl) ?_
              show ex_q (dt_fg L ρ) rc (d + 2, (345, 125, [some (eR a0)], [eI (0)]), f :: F, m55)
              refine b_ieq (t1 := 221) (t2 := 128) rfl rfl rfl rfl (fun g65 => ?_) (fun g65 => absurd g65 (by decide))
              refine w_t (np := 222) (l2 := [some (eR a0)]) (s2 := [eR a0]) rfl (s_an rfl (pos_g I56 gA0 (by decide))) rfl ?_
              refine w_t (np := 223) (l2 := [some (eR a0)]) (s2 := [eR a0, eR a0]) rfl (s_an rfl (pos_g I56 gA0 (by decide))) rfl ?_
              refine w_gf (np := 226) (v := eI (x10)) rfl rfl (I56.kd gA0 (by decide) (n := 69) rfl) (by rw [(W57.slot (W44.slot h11 (by decide)) (by decide))]; rfl) ?_
              refine w_t (np := 228) (l2 := [some (eR a0)]) (s2 := [eI (48), eI (x10), eR a0]) rfl rfl rfl ?_
              refine w_t (np := 230) (l2 := [some (eR a0)]) (s2 := [eI (57), eI (48), eI (x10), eR a0]) rfl rfl rfl ?_
              refine w_cw (np := 233) (as := [eI (x10), eI (48), eI (57)]) (l2 := [some (eR a0), some (eI (x10)), some (eI (48)), some (eI (57))]) (rest := []) rfl rfl rfl (Nat.ble_eq.mp rfl) rfl rfl rfl (I56.kd gA0 (by decide) (n := 69) rfl) rfl ?_
              refine w_t (np := 1) (l2 := [some (eR a0), some (eI (x10)), some (eI (48)), some (eI (57))]) (s2 := [eI (x10)]) rfl rfl rfl ?_
              refine w_t (np := 2) (l2 := [some (eR a0), some (eI (x10)), some (eI (48)), some (eI (57))]) (s2 := [eR a0, eI (x10)]) rfl (s_an rfl (pos_g I56 gA0 (by decide))) rfl ?_
              refine w_gf (np := 5) (v := eI (v16)) rfl rfl (I56.kd gA0 (by decide) (n := 69) rfl) (by rw [(W57.slot (W44.slot e17 (by decide)) (by decide))]; rfl) ?_
              refine b_cge (t1 := 26) (t2 := 8) rfl rfl rfl (ev_w_in (by omega) (by omega)) (ev_w_in (by omega) (by omega)) (fun g66 => False.elim (by omega)) (fun g66 => ?_)
              refine w_t (np := 9) (l2 := [some (eR a0), some (eI (x10)), some (eI (48)), some (eI (57))]) (s2 := [eR a0]) rfl (s_an rfl (pos_g I56 gA0 (by decide))) rfl ?_
              refine w_gf (np := 12) (v := eR v20) rfl rfl (I56.kd gA0 (by decide) (n := 69) rfl) (by rw [(W57.slot (W44.slot e21 (by decide)) (by decide))]; rfl) ?_
              refine w_t (np := 13) (l2 := [some (eR a0), some (eI (x10)), some (eI (48)), some (eI (57))]) (s2 := [eI (x10), eR v20]) rfl rfl rfl ?_
              refine j_b2 (np := 14) rfl rfl I56 b22 (by decide) (n := 900) rfl rfl (lo := -128) (hi := 127) (fun _ => rfl) (by omega) (by omega) ?_
              intro v67 e68 b69
              have e68 := e68.symm.trans (W57.addr (W44.addr e25 gA0 b22 (by decide)) gA0 b22 (by decide))
              rw [e68]
              refine w_t (np := 15) (l2 := [some (eR a0), some (eI (x10)), some (eI (48)), some (eI (57))]) (s2 := [eI (48), eI (v24)]) rfl rfl rfl ?_
              refine w_t (np := 16) (l2 := [some (eR a0), some (eI (x10)), some (eI (48)), some (eI (57))]) (s2 := [eI (57), eI (48), eI (v24)]) rfl rfl rfl ?_
              refine w_cu (np := 19) (as := [eI (v24), eI (48), eI (57)]) (l2 := [some (eI (v24)), some (eI (48)), some (eI (57))]) (rest := []) rfl rfl rfl (Nat.ble_eq.mp rfl) rfl rfl rfl rfl ?_
              refine w_t (np := 1) (l2 := [some (eI (v24)), some (eI (48)), some (eI (57))]) (s2 := [eI (v24)]) rfl rfl rfl ?_
              refine w_t (np := 2) (l2 := [some (eI (v24)), some (eI (48)), some (eI (57))]) (s2 := [eI (48), eI (v24)]) rfl rfl rfl ?_
              refine b_clt (t1 := 14) (t2 := 5) rfl rfl rfl (ev_w_in (by omega) (by omega)) rfl (fun g70 => ?_) (fun g70 => False.elim (by omega))
              refine w_t (np := 15) (l2 := [some (eI (v24)), some (eI (48)), some (eI (57))]) (s2 := [eI (0)]) rfl rfl rfl ?_
              refine b_rz rfl rfl (Or.inl rfl) ?_
              show ex_q (dt_fg L ρ) rc (d + 1, (344, 19, [some (eR a0), some (eI (x10)), some (eI (48)), some (eI (57))], [eI (0)]), (345, 233, [some (eR a0)], []) :: f :: F, m55)
              refine b_ieq (t1 := 26) (t2 := 22) rfl rfl rfl rfl (fun g71 => ?_) (fun g71 => absurd g71 (by decide))
              refine w_t (np := 27) (l2 := [some (eR a0), some (eI (x10)), some (eI (48)), some (eI (57))]) (s2 := [eI (0)]) rfl rfl rfl ?_
              refine b_rz rfl rfl (Or.inl rfl) ?_
              show ex_q (dt_fg L ρ) rc (d + 2, (345, 233, [some (eR a0)], [eI (0)]), f :: F, m55)
              refine b_ieq (t1 := 343) (t2 := 236) rfl rfl rfl rfl (fun g72 => ?_) (fun g72 => absurd g72 (by decide))
              exact v_rv rfl rfl (K m55 (3) (x10) (v39) I56 F58 W57.at (W57.slot (W44.slot h11 (by decide)) (by decide)) (W57.slot W44.at (by decide)) (by omega) (by omega))
        · have b29 : 32 ≤ v24 ∧ v24 ≤ 32 := by omega
          refine w_t (np := 11) (l2 := [some (eI (v24)), some (eI (32)), some (eI (32))]) (s2 := [eI (1)]) rfl rfl rfl ?_
          refine w_go (t1 := 15) rfl rfl ?_
          refine b_rz rfl rfl (Or.inr rfl) ?_
          show ex_q (dt_fg L ρ) rc (d + 1, (344, 19, [some (eR a0), some (eI (x10)), some (eI (32)), some (eI (32))], [eI (1)]), (345, 20, [some (eR a0)], []) :: f :: F, m7)
          refine b_ieq (t1 := 26) (t2 := 22) rfl rfl rfl rfl (fun g29 => absurd g29 (by decide)) (fun g29 => ?_)
          refine w_t (np := 23) (l2 := [some (eR a0), some (eI (x10)), some (eI (32)), some (eI (32))]) (s2 := [eI (1)]) rfl rfl rfl ?_
          refine w_go (t1 := 27) rfl rfl ?_
          refine b_rz rfl rfl (Or.inr rfl) ?_
          show ex_q (dt_fg L ρ) rc (d + 2, (345, 20, [some (eR a0)], [eI (1)]), f :: F, m7)
          refine b_ine (t1 := 38) (t2 := 23) rfl rfl rfl rfl (fun g30 => ?_) (fun g30 => absurd g30 (by decide))
          refine w_t (np := 39) (l2 := [some (eR a0)]) (s2 := [eR a0]) rfl (s_an rfl (pos_g I8 gA0 (by decide))) rfl ?_
          refine w_t (np := 40) (l2 := [some (eR a0)]) (s2 := [eR a0, eR a0]) rfl rfl rfl ?_
          refine w_gf (np := 43) (v := eI (x10)) rfl rfl (I8.kd gA0 (by decide) (n := 69) rfl) (by rw [h11]; rfl) ?_
          refine w_t (np := 44) (l2 := [some (eR a0)]) (s2 := [eI (1), eI (x10), eR a0]) rfl rfl rfl ?_
          obtain ⟨v31, e32⟩ : ∃ zz : Int, zz = (x10) + (1) := ⟨_, rfl⟩
          have b33 : 1 ≤ v31 ∧ v31 ≤ 900 := by omega
          refine w_t (np := 45) (l2 := [some (eR a0)]) (s2 := [eI (v31), eR a0]) rfl (b_iadd (by rw [← e32]; exact ev_w_in (by omega) (by omega))) rfl ?_
          refine j_pf (np := 48) (w := v31) rfl rfl I8 gA0 (by decide) (n := 69) rfl rfl (hO_i (lo := 0) (hi := 902) rfl (by omega)) ?_
          intro m34 I35 W36
          have F37 : Fr l_345 0 0 g μ m34 := F9.w W36 gA0 rfl
          refine w_go (t1 := 8) rfl rfl ?_
          exact ih6 (900 - (v31)).toNat (by omega) m34  (v31) I35 F37  (W36.slot k13 (by decide)) (W36.slot k14 (by decide)) W36.at (by omega)   rfl
  exact hL8 _ m1  (th) I2 F4  (W3.slot h_so (by decide)) (W3.slot h_th (by decide)) W3.at (by omega)   rfl
