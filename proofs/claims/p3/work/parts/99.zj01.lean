/-! methods, walked -/
theorem s_330e {L : Nat} {ρ : Nat → Int} {rc : eQ} {d : Nat} {f : eFr} {F : List eFr} {μ : eM} {g : Nat → Nat} {a0 : Nat} (hI : SI g μ) (gA0 : g a0 = 52) (K : ∀ (v : Int), (-2147483648 ≤ v ∧ v ≤ 2147483647) → (v = wA (μ.1 (μ.1 a0 51).toNat) (μ.1 (μ.1 a0 52).toNat) 10) → ex_q (dt_fg L ρ) rc (d + 11, (f.1, f.2.1, f.2.2.1, eI v :: f.2.2.2), F, μ)) : ex_q (dt_fg L ρ) rc (d + 10, (330, 0, [some (eR a0), none, none, none], []), f :: F, μ) := by
  obtain ⟨v1, e2, b3, z4⟩ := hI.ref (k := 51) gA0 (by decide) (n := 69) rfl (by decide) rfl
  have b3 : g v1 = 85 := Nat.eq_of_beq_eq_true b3
  obtain ⟨v5, e6, b7, z8⟩ := hI.ref (k := 52) gA0 (by decide) (n := 69) rfl (by decide) rfl
  have b7 : g v5 = 86 := Nat.eq_of_beq_eq_true b7
  refine w_t (np := 1) (l2 := [some (eR a0), none, none, none]) (s2 := [eI (1)]) rfl rfl rfl ?_
  refine w_t (np := 2) (l2 := [some (eR a0), some (eI (1)), none, none]) (s2 := []) rfl rfl rfl ?_
  refine w_t (np := 3) (l2 := [some (eR a0), some (eI (1)), none, none]) (s2 := [eI (0)]) rfl rfl rfl ?_
  refine w_t (np := 4) (l2 := [some (eR a0), some (eI (1)), some (eI (0)), none]) (s2 := []) rfl rfl rfl ?_
  have hL4 : ∀ (n9 : Nat) (i11 : Int) (i13 : Int) (o15 : Option eV), (-2147483648 ≤ i11 ∧ i11 ≤ 2147483647) → (0 ≤ i13 ∧ i13 ≤ 10) → i11 = wA (μ.1 v1) (μ.1 v5) (i13).toNat → n9 = (10 - i13).toNat → ex_q (dt_fg L ρ) rc (d + 10, (330, 4, [some (eR a0), some (eI (i11)), some (eI (i13)), o15], []), f :: F, μ) := by
    intro n9
    induction n9 using Nat.strongRecOn with
    | _ n9 ih10 =>
    intro i11 i13 o15 b12 b14 r16 hn17
    refine w_t (np := 5) (l2 := [some (eR a0), some (eI (i11)), some (eI (i13)), o15]) (s2 := [eI (i13)]) rfl rfl rfl ?_
    refine w_t (np := 7) (l2 := [some (eR a0), some (eI (i11)), some (eI (i13)), o15]) (s2 := [eI (10), eI (i13)]) rfl rfl rfl ?_
    refine b_cge (t1 := 51) (t2 := 10) rfl rfl rfl (ev_w_in (by omega) (by omega)) rfl (fun g18 => ?_) (fun g18 => ?_)
    · have b19 : 10 ≤ i13 ∧ i13 ≤ 10 := by omega
      refine w_t (np := 52) (l2 := [some (eR a0), some (eI (i11)), some (eI (i13)), o15]) (s2 := [eI (i11)]) rfl rfl rfl ?_
      exact b_ri rfl rfl (K (i11) (by omega) (wA_e r16 e2 e6 (show i13 = 10 by omega)))
    · have b19 : 0 ≤ i13 ∧ i13 ≤ 9 := by omega
      refine w_t (np := 11) (l2 := [some (eR a0), some (eI (i11)), some (eI (i13)), o15]) (s2 := [eR a0]) rfl (s_an rfl (pos_g hI gA0 (by decide))) rfl ?_
      refine w_t (np := 12) (l2 := [some (eR a0), some (eI (i11)), some (eI (i13)), o15]) (s2 := [eI (i13), eR a0]) rfl rfl rfl ?_
      refine w_cw (np := 15) (as := [eI (i13)]) (l2 := [some (eR a0), some (eI (i13)), none]) (rest := []) rfl rfl rfl (Nat.ble_eq.mp rfl) rfl rfl rfl (hI.kd gA0 (by decide) (n := 69) rfl) rfl ?_
      refine s_327e (a1 := i13) hI gA0 (by omega) ?_
      intro v19 b20 h21
      show ex_q (dt_fg L ρ) rc (d + 10, (330, 15, [some (eR a0), some (eI (i11)), some (eI (i13)), o15], [eI (v19)]), f :: F, μ)
      refine w_t (np := 16) (l2 := [some (eR a0), some (eI (i11)), some (eI (i13)), some (eI (v19))]) (s2 := []) rfl rfl rfl ?_
      refine w_t (np := 17) (l2 := [some (eR a0), some (eI (i11)), some (eI (i13)), some (eI (v19))]) (s2 := [eI (v19)]) rfl rfl rfl ?_
      refine b_ile (t1 := 45) (t2 := 20) rfl rfl rfl (ev_w_in (by omega) (by omega)) (fun g22 => ?_) (fun g22 => ?_)
      · have b23 : 0 ≤ v19 ∧ v19 ≤ 0 := by omega
        obtain ⟨v23, e24⟩ : ∃ zz : Int, zz = (i13) + (1) := ⟨_, rfl⟩
        have b25 : 1 ≤ v23 ∧ v23 ≤ 10 := by omega
        refine w_t (np := 48) (l2 := [some (eR a0), some (eI (i11)), some (eI (v23)), some (eI (v19))]) (s2 := []) rfl (b_iinc rfl (by rw [← e24]; exact ev_w_in (by omega) (by omega)) rfl) rfl ?_
        refine w_go (t1 := 4) rfl rfl ?_
        exact ih10 (10 - (v23)).toNat (by omega) (i11) (v23) (some (eI (v19))) (by omega) (by omega)    (wA_n (by omega) (by omega) (gG_r h21 e2) r16 (by omega)) rfl
      · have b23 : 1 ≤ v19 ∧ v19 ≤ 9 := by omega
        refine w_t (np := 21) (l2 := [some (eR a0), some (eI (i11)), some (eI (i13)), some (eI (v19))]) (s2 := [eI (i11)]) rfl rfl rfl ?_
        refine w_t (np := 22) (l2 := [some (eR a0), some (eI (i11)), some (eI (i13)), some (eI (v19))]) (s2 := [eR a0, eI (i11)]) rfl (s_an rfl (pos_g hI gA0 (by decide))) rfl ?_
        refine w_t (np := 23) (l2 := [some (eR a0), some (eI (i11)), some (eI (i13)), some (eI (v19))]) (s2 := [eI (v19), eR a0, eI (i11)]) rfl rfl rfl ?_
        refine w_t (np := 24) (l2 := [some (eR a0), some (eI (i11)), some (eI (i13)), some (eI (v19))]) (s2 := [eR a0, eI (v19), eR a0, eI (i11)]) rfl (s_an rfl (pos_g hI gA0 (by decide))) rfl ?_
        refine w_gf (np := 27) (v := eR v5) rfl rfl (hI.kd gA0 (by decide) (n := 69) rfl) (by rw [e6]; rfl) ?_
        refine w_t (np := 28) (l2 := [some (eR a0), some (eI (i11)), some (eI (i13)), some (eI (v19))]) (s2 := [eI (i13), eR v5, eI (v19), eR a0, eI (i11)]) rfl rfl rfl ?_
        refine j_al (np := 29) rfl rfl hI b7 (by decide) (n := 10) rfl rfl (lo := -1) (hi := 3) (fun _ => rfl) (by omega) (by omega) ?_
        intro v23 e24 b25
        refine w_t (np := 30) (l2 := [some (eR a0), some (eI (i11)), some (eI (i13)), some (eI (v19))]) (s2 := [eR a0, eI (v23), eI (v19), eR a0, eI (i11)]) rfl (s_an rfl (pos_g hI gA0 (by decide))) rfl ?_
        refine w_gf (np := 33) (v := eR v5) rfl rfl (hI.kd gA0 (by decide) (n := 69) rfl) (by rw [e6]; rfl) ?_
        refine w_t (np := 34) (l2 := [some (eR a0), some (eI (i11)), some (eI (i13)), some (eI (v19))]) (s2 := [eI (i13), eR v5, eI (v23), eI (v19), eR a0, eI (i11)]) rfl rfl rfl ?_
        refine w_t (np := 35) (l2 := [some (eR a0), some (eI (i11)), some (eI (i13)), some (eI (v19))]) (s2 := [eI (v19), eI (i13), eR v5, eI (v23), eI (v19), eR a0, eI (i11)]) rfl rfl rfl ?_
        obtain ⟨v26, e27⟩ : ∃ zz : Int, zz = (i13) + (v19) := ⟨_, rfl⟩
        have b28 : 1 ≤ v26 ∧ v26 ≤ 18 := by omega
        refine w_t (np := 36) (l2 := [some (eR a0), some (eI (i11)), some (eI (i13)), some (eI (v19))]) (s2 := [eI (v26), eR v5, eI (v23), eI (v19), eR a0, eI (i11)]) rfl (b_iadd (by rw [← e27]; exact ev_w_in (by omega) (by omega))) rfl ?_
        refine w_cu (np := 39) (as := [eI (v26)]) (l2 := [some (eI (v26))]) (rest := [eR v5, eI (v23), eI (v19), eR a0, eI (i11)]) rfl rfl rfl (Nat.ble_eq.mp rfl) rfl rfl rfl rfl ?_
        refine s_217e (a0 := v26) hI (by omega) ?_
        intro v29 b30 h31
        show ex_q (dt_fg L ρ) rc (d + 10, (330, 39, [some (eR a0), some (eI (i11)), some (eI (i13)), some (eI (v19))], [eI (v29), eR v5, eI (v23), eI (v19), eR a0, eI (i11)]), f :: F, μ)
        refine j_al (np := 40) rfl rfl hI b7 (by decide) (n := 10) rfl rfl (lo := -1) (hi := 3) (fun _ => rfl) (by omega) (by omega) ?_
        intro v32 e33 b34
        refine w_cw (np := 43) (as := [eI (v19), eI (v23), eI (v32)]) (l2 := [some (eR a0), some (eI (v19)), some (eI (v23)), some (eI (v32)), none, none]) (rest := [eI (i11)]) rfl rfl rfl (Nat.ble_eq.mp rfl) rfl rfl rfl (hI.kd gA0 (by decide) (n := 69) rfl) rfl ?_
        refine s_329 9 (a1 := v19) (a2 := v23) (a3 := v32) hI gA0 (by omega) (by omega) (by omega) (by omega) ?_
        intro v35 b36 e37
        show ex_q (dt_fg L ρ) rc (d + 10, (330, 43, [some (eR a0), some (eI (i11)), some (eI (i13)), some (eI (v19))], [eI (v35), eI (i11)]), f :: F, μ)
        obtain ⟨v38, e39, b40⟩ : ∃ zz : Int, ev_w ((i11) * (v35)) = zz ∧ (-2147483648 ≤ zz ∧ zz ≤ 2147483647) := ⟨_, rfl, hw_bd _⟩
        refine w_t (np := 44) (l2 := [some (eR a0), some (eI (i11)), some (eI (i13)), some (eI (v19))]) (s2 := [eI (v38)]) rfl (b_imul e39) rfl ?_
        refine w_t (np := 45) (l2 := [some (eR a0), some (eI (v38)), some (eI (i13)), some (eI (v19))]) (s2 := []) rfl rfl rfl ?_
        obtain ⟨v41, e42⟩ : ∃ zz : Int, zz = (i13) + (1) := ⟨_, rfl⟩
        have b43 : 1 ≤ v41 ∧ v41 ≤ 10 := by omega
        refine w_t (np := 48) (l2 := [some (eR a0), some (eI (v38)), some (eI (v41)), some (eI (v19))]) (s2 := []) rfl (b_iinc rfl (by rw [← e42]; exact ev_w_in (by omega) (by omega)) rfl) rfl ?_
        refine w_go (t1 := 4) rfl rfl ?_
        exact ih10 (10 - (v41)).toNat (by omega) (v38) (v41) (some (eI (v19))) (by omega) (by omega)    (wA_y (j := v29) (by omega) (by omega) (gG_r h21 e2) r16 (by omega) e24 (by omega) e33 e37 e39) rfl
  exact hL4 _ (1) (0) (none) (by decide) (by decide)    rfl rfl
