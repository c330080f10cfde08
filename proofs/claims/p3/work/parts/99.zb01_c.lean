theorem s_329 {L : Nat} {ρ : Nat → Int} {rc : eQ} : ∀ (n : Nat) {d : Nat} {f : eFr} {F : List eFr} {μ : eM} {g : Nat → Nat} {a0 : Nat} {a1 a2 a3 : Int} (hI : SI g μ) (gA0 : g a0 = 52) (bA1 : 0 ≤ a1 ∧ a1 ≤ 9) (bA2 : -2147483648 ≤ a2 ∧ a2 ≤ 2147483647) (bA3 : -2147483648 ≤ a3 ∧ a3 ≤ 2147483647) (hn : a1 ≤ n) (K : ∀ (v : Int), (-2147483648 ≤ v ∧ v ≤ 2147483647) → v = wW n a1 a2 a3 → ex_q (dt_fg L ρ) rc (d + n + 1, (f.1, f.2.1, f.2.2.1, eI v :: f.2.2.2), F, μ)), ex_q (dt_fg L ρ) rc (d + n, (329, 0, [some (eR a0), some (eI (a1)), some (eI (a2)), some (eI (a3)), none, none], []), f :: F, μ) := by
  intro n
  induction n with
  | zero =>
    intro d f F μ g a0 a1 a2 a3 hI gA0 bA1 bA2 bA3 hn K
    have bA1 : 0 ≤ a1 ∧ a1 ≤ 0 := by omega
    refine w_t (np := 1) (l2 := [some (eR a0), some (eI (a1)), some (eI (a2)), some (eI (a3)), none, none]) (s2 := [eI (a1)]) rfl rfl rfl ?_
    refine b_ine (t1 := 15) (t2 := 4) rfl rfl rfl (ev_w_in (by omega) (by omega)) (fun g1 => False.elim (by omega)) (fun g1 => ?_)
    refine w_t (np := 5) (l2 := [some (eR a0), some (eI (a1)), some (eI (a2)), some (eI (a3)), none, none]) (s2 := [eI (a2)]) rfl rfl rfl ?_
    refine w_t (np := 6) (l2 := [some (eR a0), some (eI (a1)), some (eI (a2)), some (eI (a3)), none, none]) (s2 := [eI (a3), eI (a2)]) rfl rfl rfl ?_
    refine b_cne (t1 := 13) (t2 := 9) rfl rfl rfl (ev_w_in (by omega) (by omega)) (ev_w_in (by omega) (by omega)) (fun g2 => ?_) (fun g2 => ?_)
    · refine w_t (np := 14) (l2 := [some (eR a0), some (eI (a1)), some (eI (a2)), some (eI (a3)), none, none]) (s2 := [eI (0)]) rfl rfl rfl ?_
      exact b_ri rfl rfl (K (0) (by decide) (wW_z (by omega) (by rw [if_neg (by omega)])))
    · refine w_t (np := 10) (l2 := [some (eR a0), some (eI (a1)), some (eI (a2)), some (eI (a3)), none, none]) (s2 := [eI (1)]) rfl rfl rfl ?_
      refine w_go (t1 := 14) rfl rfl ?_
      exact b_ri rfl rfl (K (1) (by decide) (wW_z (by omega) (by rw [if_pos (by omega)])))
  | succ m ih =>
    intro d f F μ g a0 a1 a2 a3 hI gA0 bA1 bA2 bA3 hn K
    have hn : a1 ≤ m + 1 := hn
    refine w_t (np := 1) (l2 := [some (eR a0), some (eI (a1)), some (eI (a2)), some (eI (a3)), none, none]) (s2 := [eI (a1)]) rfl rfl rfl ?_
    refine b_ine (t1 := 15) (t2 := 4) rfl rfl rfl (ev_w_in (by omega) (by omega)) (fun g1 => ?_) (fun g1 => ?_)
    · have b2 : 1 ≤ a1 ∧ a1 ≤ 9 := by omega
      refine w_t (np := 16) (l2 := [some (eR a0), some (eI (a1)), some (eI (a2)), some (eI (a3)), none, none]) (s2 := [eI (0)]) rfl rfl rfl ?_
      refine w_t (np := 18) (l2 := [some (eR a0), some (eI (a1)), some (eI (a2)), some (eI (a3)), some (eI (0)), none]) (s2 := []) rfl rfl rfl ?_
      refine w_t (np := 19) (l2 := [some (eR a0), some (eI (a1)), some (eI (a2)), some (eI (a3)), some (eI (0)), none]) (s2 := [eI (0)]) rfl rfl rfl ?_
      refine w_t (np := 21) (l2 := [some (eR a0), some (eI (a1)), some (eI (a2)), some (eI (a3)), some (eI (0)), some (eI (0))]) (s2 := []) rfl rfl rfl ?_
      have hL21 : ∀ (n2 : Nat) (i4 : Int) (i6 : Int), (-2147483648 ≤ i4 ∧ i4 ≤ 2147483647) → (0 ≤ i6 ∧ i6 ≤ 8) → i4 = wT (wW m) a1 a2 a3 (i6).toNat → n2 = (8 - i6).toNat → ex_q (dt_fg L ρ) rc (d + m + 1, (329, 21, [some (eR a0), some (eI (a1)), some (eI (a2)), some (eI (a3)), some (eI (i4)), some (eI (i6))], []), f :: F, μ) := by
        intro n2
        induction n2 using Nat.strongRecOn with
        | _ n2 ih3 =>
        intro i4 i6 b5 b7 r8 hn9
        refine w_t (np := 23) (l2 := [some (eR a0), some (eI (a1)), some (eI (a2)), some (eI (a3)), some (eI (i4)), some (eI (i6))]) (s2 := [eI (i6)]) rfl rfl rfl ?_
        refine w_t (np := 25) (l2 := [some (eR a0), some (eI (a1)), some (eI (a2)), some (eI (a3)), some (eI (i4)), some (eI (i6))]) (s2 := [eI (8), eI (i6)]) rfl rfl rfl ?_
        refine b_cge (t1 := 78) (t2 := 28) rfl rfl rfl (ev_w_in (by omega) (by omega)) rfl (fun g10 => ?_) (fun g10 => ?_)
        · have b11 : 8 ≤ i6 ∧ i6 ≤ 8 := by omega
          refine w_t (np := 80) (l2 := [some (eR a0), some (eI (a1)), some (eI (a2)), some (eI (a3)), some (eI (i4)), some (eI (i6))]) (s2 := [eI (i4)]) rfl rfl rfl ?_
          exact b_ri rfl rfl (K (i4) (by omega) (wW_n (by omega) (show i6 = 8 by omega) r8))
        · have b11 : 0 ≤ i6 ∧ i6 ≤ 7 := by omega
          refine v_gs (np := 31) rfl rfl ?_
          refine w_t (np := 33) (l2 := [some (eR a0), some (eI (a1)), some (eI (a2)), some (eI (a3)), some (eI (i4)), some (eI (i6))]) (s2 := [eI (i6), eR 22]) rfl rfl rfl ?_
          refine j_sx (np := 34) (n := 8) (lo := 1) (hi := 4) rfl rfl rfl (by decide) (by decide) (by decide) rfl rfl (by decide) (by omega) (by omega) ?_
          intro v11 e12 b13
          refine w_t (np := 35) (l2 := [some (eR a0), some (eI (a1)), some (eI (a2)), some (eI (a3)), some (eI (i4)), some (eI (i6))]) (s2 := [eI (a1), eI (v11)]) rfl rfl rfl ?_
          refine b_cgt (t1 := 72) (t2 := 38) rfl rfl rfl (ev_w_in (by omega) (by omega)) (ev_w_in (by omega) (by omega)) (fun g14 => ?_) (fun g14 => ?_)
          · have b15 : 2 ≤ v11 ∧ v11 ≤ 4 := by omega
            have b16 : 1 ≤ a1 ∧ a1 ≤ 3 := by omega
            obtain ⟨v15, e16⟩ : ∃ zz : Int, zz = (i6) + (1) := ⟨_, rfl⟩
            have b17 : 1 ≤ v15 ∧ v15 ≤ 8 := by omega
            refine w_t (np := 75) (l2 := [some (eR a0), some (eI (a1)), some (eI (a2)), some (eI (a3)), some (eI (i4)), some (eI (v15))]) (s2 := []) rfl (b_iinc rfl (by rw [← e16]; exact ev_w_in (by omega) (by omega)) rfl) rfl ?_
            refine w_go (t1 := 21) rfl rfl ?_
            exact ih3 (8 - (v15)).toNat (by omega) (i4) (v15) (by omega) (by omega)    (wT_b1 (by omega) (by omega) r8 e12 (by omega)) rfl
          · refine v_gs (np := 41) rfl rfl ?_
            refine w_t (np := 43) (l2 := [some (eR a0), some (eI (a1)), some (eI (a2)), some (eI (a3)), some (eI (i4)), some (eI (i6))]) (s2 := [eI (i6), eR 23]) rfl rfl rfl ?_
            refine j_sx (np := 44) (n := 8) (lo := 0) (hi := 3) rfl rfl rfl (by decide) (by decide) (by decide) rfl rfl (by decide) (by omega) (by omega) ?_
            intro v15 e16 b17
            refine w_t (np := 45) (l2 := [some (eR a0), some (eI (a1)), some (eI (a2)), some (eI (a3)), some (eI (i4)), some (eI (i6))]) (s2 := [eI (a2), eI (v15)]) rfl rfl rfl ?_
            refine b_cne (t1 := 72) (t2 := 48) rfl rfl rfl (ev_w_in (by omega) (by omega)) (ev_w_in (by omega) (by omega)) (fun g18 => ?_) (fun g18 => ?_)
            · obtain ⟨v19, e20⟩ : ∃ zz : Int, zz = (i6) + (1) := ⟨_, rfl⟩
              have b21 : 1 ≤ v19 ∧ v19 ≤ 8 := by omega
              refine w_t (np := 75) (l2 := [some (eR a0), some (eI (a1)), some (eI (a2)), some (eI (a3)), some (eI (i4)), some (eI (v19))]) (s2 := []) rfl (b_iinc rfl (by rw [← e20]; exact ev_w_in (by omega) (by omega)) rfl) rfl ?_
              refine w_go (t1 := 21) rfl rfl ?_
              exact ih3 (8 - (v19)).toNat (by omega) (i4) (v19) (by omega) (by omega)    (wT_b2 (by omega) (by omega) r8 e16 (by omega)) rfl
            · have b19 : 0 ≤ a2 ∧ a2 ≤ 3 := by omega
              refine w_t (np := 50) (l2 := [some (eR a0), some (eI (a1)), some (eI (a2)), some (eI (a3)), some (eI (i4)), some (eI (i6))]) (s2 := [eI (i4)]) rfl rfl rfl ?_
              refine w_t (np := 51) (l2 := [some (eR a0), some (eI (a1)), some (eI (a2)), some (eI (a3)), some (eI (i4)), some (eI (i6))]) (s2 := [eR a0, eI (i4)]) rfl (s_an rfl (pos_g hI gA0 (by decide))) rfl ?_
              refine w_t (np := 52) (l2 := [some (eR a0), some (eI (a1)), some (eI (a2)), some (eI (a3)), some (eI (i4)), some (eI (i6))]) (s2 := [eI (a1), eR a0, eI (i4)]) rfl rfl rfl ?_
              refine v_gs (np := 55) rfl rfl ?_
              refine w_t (np := 57) (l2 := [some (eR a0), some (eI (a1)), some (eI (a2)), some (eI (a3)), some (eI (i4)), some (eI (i6))]) (s2 := [eI (i6), eR 22, eI (a1), eR a0, eI (i4)]) rfl rfl rfl ?_
              refine j_sx (np := 58) (n := 8) (lo := 1) (hi := 4) rfl rfl rfl (by decide) (by decide) (by decide) rfl rfl (by decide) (by omega) (by omega) ?_
              intro v19 e20 b21
              rw [e20.trans e12.symm]
              obtain ⟨v22, e23⟩ : ∃ zz : Int, zz = (a1) - (v11) := ⟨_, rfl⟩
              have b24 : -3 ≤ v22 ∧ v22 ≤ 8 := by omega
              refine w_t (np := 59) (l2 := [some (eR a0), some (eI (a1)), some (eI (a2)), some (eI (a3)), some (eI (i4)), some (eI (i6))]) (s2 := [eI (v22), eR a0, eI (i4)]) rfl (b_isub (by rw [← e23]; exact ev_w_in (by omega) (by omega))) rfl ?_
              refine v_gs (np := 62) rfl rfl ?_
              refine w_t (np := 64) (l2 := [some (eR a0), some (eI (a1)), some (eI (a2)), some (eI (a3)), some (eI (i4)), some (eI (i6))]) (s2 := [eI (i6), eR 24, eI (v22), eR a0, eI (i4)]) rfl rfl rfl ?_
              refine j_sx (np := 65) (n := 8) (lo := 0) (hi := 3) rfl rfl rfl (by decide) (by decide) (by decide) rfl rfl (by decide) (by omega) (by omega) ?_
              intro v25 e26 b27
              refine w_t (np := 66) (l2 := [some (eR a0), some (eI (a1)), some (eI (a2)), some (eI (a3)), some (eI (i4)), some (eI (i6))]) (s2 := [eI (a3), eI (v25), eI (v22), eR a0, eI (i4)]) rfl rfl rfl ?_
              refine w_cw (np := 69) (as := [eI (v22), eI (v25), eI (a3)]) (l2 := [some (eR a0), some (eI (v22)), some (eI (v25)), some (eI (a3)), none, none]) (rest := [eI (i4)]) rfl rfl rfl (Nat.ble_eq.mp rfl) rfl rfl rfl (hI.kd gA0 (by decide) (n := 69) rfl) rfl ?_
              refine ih (a1 := v22) (a2 := v25) (a3 := a3) hI gA0 (by omega) (by omega) (by omega) (by omega) ?_
              intro v28 b29 e30
              show ex_q (dt_fg L ρ) rc (d + m + 1, (329, 69, [some (eR a0), some (eI (a1)), some (eI (a2)), some (eI (a3)), some (eI (i4)), some (eI (i6))], [eI (v28), eI (i4)]), f :: F, μ)
              obtain ⟨v31, e32, b33⟩ : ∃ zz : Int, ev_w ((i4) + (v28)) = zz ∧ (-2147483648 ≤ zz ∧ zz ≤ 2147483647) := ⟨_, rfl, hw_bd _⟩
              refine w_t (np := 70) (l2 := [some (eR a0), some (eI (a1)), some (eI (a2)), some (eI (a3)), some (eI (i4)), some (eI (i6))]) (s2 := [eI (v31)]) rfl (b_iadd e32) rfl ?_
              refine w_t (np := 72) (l2 := [some (eR a0), some (eI (a1)), some (eI (a2)), some (eI (a3)), some (eI (v31)), some (eI (i6))]) (s2 := []) rfl rfl rfl ?_
              obtain ⟨v34, e35⟩ : ∃ zz : Int, zz = (i6) + (1) := ⟨_, rfl⟩
              have b36 : 1 ≤ v34 ∧ v34 ≤ 8 := by omega
              refine w_t (np := 75) (l2 := [some (eR a0), some (eI (a1)), some (eI (a2)), some (eI (a3)), some (eI (v31)), some (eI (v34))]) (s2 := []) rfl (b_iinc rfl (by rw [← e35]; exact ev_w_in (by omega) (by omega)) rfl) rfl ?_
              refine w_go (t1 := 21) rfl rfl ?_
              exact ih3 (8 - (v34)).toNat (by omega) (v31) (v34) (by omega) (by omega)    (wT_b3 (by omega) (by omega) r8 e12 (by omega) e16 (by omega) e26 (by omega) e30 (by assumption)) rfl
      exact hL21 _ (0) (0) (by decide) (by decide)    rfl rfl
    · have b2 : 0 ≤ a1 ∧ a1 ≤ 0 := by omega
      refine w_t (np := 5) (l2 := [some (eR a0), some (eI (a1)), some (eI (a2)), some (eI (a3)), none, none]) (s2 := [eI (a2)]) rfl rfl rfl ?_
      refine w_t (np := 6) (l2 := [some (eR a0), some (eI (a1)), some (eI (a2)), some (eI (a3)), none, none]) (s2 := [eI (a3), eI (a2)]) rfl rfl rfl ?_
      refine b_cne (t1 := 13) (t2 := 9) rfl rfl rfl (ev_w_in (by omega) (by omega)) (ev_w_in (by omega) (by omega)) (fun g2 => ?_) (fun g2 => ?_)
      · refine w_t (np := 14) (l2 := [some (eR a0), some (eI (a1)), some (eI (a2)), some (eI (a3)), none, none]) (s2 := [eI (0)]) rfl rfl rfl ?_
        exact b_ri rfl rfl (K (0) (by decide) (wW_z (by omega) (by rw [if_neg (by omega)])))
      · refine w_t (np := 10) (l2 := [some (eR a0), some (eI (a1)), some (eI (a2)), some (eI (a3)), none, none]) (s2 := [eI (1)]) rfl rfl rfl ?_
        refine w_go (t1 := 14) rfl rfl ?_
        exact b_ri rfl rfl (K (1) (by decide) (wW_z (by omega) (by rw [if_pos (by omega)])))
theorem s_330 {L : Nat} {ρ : Nat → Int} {rc : eQ} {d : Nat} {f : eFr} {F : List eFr} {μ : eM} {g : Nat → Nat} {a0 : Nat} (hI : SI g μ) (gA0 : g a0 = 52) (K : ∀ (v : Int), (-2147483648 ≤ v ∧ v ≤ 2147483647) → ex_q (dt_fg L ρ) rc (d + 11, (f.1, f.2.1, f.2.2.1, eI v :: f.2.2.2), F, μ)) : ex_q (dt_fg L ρ) rc (d + 10, (330, 0, [some (eR a0), none, none, none], []), f :: F, μ) := by
  refine w_t (np := 1) (l2 := [some (eR a0), none, none, none]) (s2 := [eI (1)]) rfl rfl rfl ?_
  refine w_t (np := 2) (l2 := [some (eR a0), some (eI (1)), none, none]) (s2 := []) rfl rfl rfl ?_
  refine w_t (np := 3) (l2 := [some (eR a0), some (eI (1)), none, none]) (s2 := [eI (0)]) rfl rfl rfl ?_
  refine w_t (np := 4) (l2 := [some (eR a0), some (eI (1)), some (eI (0)), none]) (s2 := []) rfl rfl rfl ?_
  have hL4 : ∀ (n1 : Nat) (i3 : Int) (i5 : Int) (o7 : Option eV), (-2147483648 ≤ i3 ∧ i3 ≤ 2147483647) → (0 ≤ i5 ∧ i5 ≤ 10) → n1 = (10 - i5).toNat → ex_q (dt_fg L ρ) rc (d + 10, (330, 4, [some (eR a0), some (eI (i3)), some (eI (i5)), o7], []), f :: F, μ) := by
    intro n1
    induction n1 using Nat.strongRecOn with
    | _ n1 ih2 =>
    intro i3 i5 o7 b4 b6 hn8
    refine w_t (np := 5) (l2 := [some (eR a0), some (eI (i3)), some (eI (i5)), o7]) (s2 := [eI (i5)]) rfl rfl rfl ?_
    refine w_t (np := 7) (l2 := [some (eR a0), some (eI (i3)), some (eI (i5)), o7]) (s2 := [eI (10), eI (i5)]) rfl rfl rfl ?_
    refine b_cge (t1 := 51) (t2 := 10) rfl rfl rfl (ev_w_in (by omega) (by omega)) rfl (fun g9 => ?_) (fun g9 => ?_)
    · have b10 : 10 ≤ i5 ∧ i5 ≤ 10 := by omega
      refine w_t (np := 52) (l2 := [some (eR a0), some (eI (i3)), some (eI (i5)), o7]) (s2 := [eI (i3)]) rfl rfl rfl ?_
      exact b_ri rfl rfl (K (i3) (by omega))
    · have b10 : 0 ≤ i5 ∧ i5 ≤ 9 := by omega
      refine w_t (np := 11) (l2 := [some (eR a0), some (eI (i3)), some (eI (i5)), o7]) (s2 := [eR a0]) rfl (s_an rfl (pos_g hI gA0 (by decide))) rfl ?_
      refine w_t (np := 12) (l2 := [some (eR a0), some (eI (i3)), some (eI (i5)), o7]) (s2 := [eI (i5), eR a0]) rfl rfl rfl ?_
      refine w_cw (np := 15) (as := [eI (i5)]) (l2 := [some (eR a0), some (eI (i5)), none]) (rest := []) rfl rfl rfl (Nat.ble_eq.mp rfl) rfl rfl rfl (hI.kd gA0 (by decide) (n := 69) rfl) rfl ?_
      refine s_327 (a1 := i5) hI gA0 (by omega) ?_
      intro v10 b11
      show ex_q (dt_fg L ρ) rc (d + 10, (330, 15, [some (eR a0), some (eI (i3)), some (eI (i5)), o7], [eI (v10)]), f :: F, μ)
      refine w_t (np := 16) (l2 := [some (eR a0), some (eI (i3)), some (eI (i5)), some (eI (v10))]) (s2 := []) rfl rfl rfl ?_
      refine w_t (np := 17) (l2 := [some (eR a0), some (eI (i3)), some (eI (i5)), some (eI (v10))]) (s2 := [eI (v10)]) rfl rfl rfl ?_
      refine b_ile (t1 := 45) (t2 := 20) rfl rfl rfl (ev_w_in (by omega) (by omega)) (fun g12 => ?_) (fun g12 => ?_)
      · have b13 : 0 ≤ v10 ∧ v10 ≤ 0 := by omega
        obtain ⟨v13, e14⟩ : ∃ zz : Int, zz = (i5) + (1) := ⟨_, rfl⟩
        have b15 : 1 ≤ v13 ∧ v13 ≤ 10 := by omega
        refine w_t (np := 48) (l2 := [some (eR a0), some (eI (i3)), some (eI (v13)), some (eI (v10))]) (s2 := []) rfl (b_iinc rfl (by rw [← e14]; exact ev_w_in (by omega) (by omega)) rfl) rfl ?_
        refine w_go (t1 := 4) rfl rfl ?_
        exact ih2 (10 - (v13)).toNat (by omega) (i3) (v13) (some (eI (v10))) (by omega) (by omega)     rfl
      · have b13 : 1 ≤ v10 ∧ v10 ≤ 9 := by omega
        refine w_t (np := 21) (l2 := [some (eR a0), some (eI (i3)), some (eI (i5)), some (eI (v10))]) (s2 := [eI (i3)]) rfl rfl rfl ?_
        refine w_t (np := 22) (l2 := [some (eR a0), some (eI (i3)), some (eI (i5)), some (eI (v10))]) (s2 := [eR a0, eI (i3)]) rfl (s_an rfl (pos_g hI gA0 (by decide))) rfl ?_
        refine w_t (np := 23) (l2 := [some (eR a0), some (eI (i3)), some (eI (i5)), some (eI (v10))]) (s2 := [eI (v10), eR a0, eI (i3)]) rfl rfl rfl ?_
        refine w_t (np := 24) (l2 := [some (eR a0), some (eI (i3)), some (eI (i5)), some (eI (v10))]) (s2 := [eR a0, eI (v10), eR a0, eI (i3)]) rfl (s_an rfl (pos_g hI gA0 (by decide))) rfl ?_
        refine j_gr (np := 27) rfl rfl hI gA0 (by decide) (n := 69) rfl rfl rfl ?_
        intro v13 e14 b15 z16
        have b15 : g v13 = 86 := Nat.eq_of_beq_eq_true b15
        refine w_t (np := 28) (l2 := [some (eR a0), some (eI (i3)), some (eI (i5)), some (eI (v10))]) (s2 := [eI (i5), eR v13, eI (v10), eR a0, eI (i3)]) rfl rfl rfl ?_
        refine j_al (np := 29) rfl rfl hI b15 (by decide) (n := 10) rfl rfl (lo := -1) (hi := 3) (fun _ => rfl) (by omega) (by omega) ?_
        intro v17 e18 b19
        refine w_t (np := 30) (l2 := [some (eR a0), some (eI (i3)), some (eI (i5)), some (eI (v10))]) (s2 := [eR a0, eI (v17), eI (v10), eR a0, eI (i3)]) rfl (s_an rfl (pos_g hI gA0 (by decide))) rfl ?_
        refine w_gf (np := 33) (v := eR v13) rfl rfl (hI.kd gA0 (by decide) (n := 69) rfl) (by rw [e14]; rfl) ?_
        refine w_t (np := 34) (l2 := [some (eR a0), some (eI (i3)), some (eI (i5)), some (eI (v10))]) (s2 := [eI (i5), eR v13, eI (v17), eI (v10), eR a0, eI (i3)]) rfl rfl rfl ?_
        refine w_t (np := 35) (l2 := [some (eR a0), some (eI (i3)), some (eI (i5)), some (eI (v10))]) (s2 := [eI (v10), eI (i5), eR v13, eI (v17), eI (v10), eR a0, eI (i3)]) rfl rfl rfl ?_
        obtain ⟨v20, e21⟩ : ∃ zz : Int, zz = (i5) + (v10) := ⟨_, rfl⟩
        have b22 : 1 ≤ v20 ∧ v20 ≤ 18 := by omega
        refine w_t (np := 36) (l2 := [some (eR a0), some (eI (i3)), some (eI (i5)), some (eI (v10))]) (s2 := [eI (v20), eR v13, eI (v17), eI (v10), eR a0, eI (i3)]) rfl (b_iadd (by rw [← e21]; exact ev_w_in (by omega) (by omega))) rfl ?_
        refine w_cu (np := 39) (as := [eI (v20)]) (l2 := [some (eI (v20))]) (rest := [eR v13, eI (v17), eI (v10), eR a0, eI (i3)]) rfl rfl rfl (Nat.ble_eq.mp rfl) rfl rfl rfl rfl ?_
        refine s_217e (a0 := v20) hI (by omega) ?_
        intro v23 b24 h25
        show ex_q (dt_fg L ρ) rc (d + 10, (330, 39, [some (eR a0), some (eI (i3)), some (eI (i5)), some (eI (v10))], [eI (v23), eR v13, eI (v17), eI (v10), eR a0, eI (i3)]), f :: F, μ)
        refine j_al (np := 40) rfl rfl hI b15 (by decide) (n := 10) rfl rfl (lo := -1) (hi := 3) (fun _ => rfl) (by omega) (by omega) ?_
        intro v26 e27 b28
        refine w_cw (np := 43) (as := [eI (v10), eI (v17), eI (v26)]) (l2 := [some (eR a0), some (eI (v10)), some (eI (v17)), some (eI (v26)), none, none]) (rest := [eI (i3)]) rfl rfl rfl (Nat.ble_eq.mp rfl) rfl rfl rfl (hI.kd gA0 (by decide) (n := 69) rfl) rfl ?_
        refine s_329 9 (a1 := v10) (a2 := v17) (a3 := v26) hI gA0 (by omega) (by omega) (by omega) (by omega) ?_
        intro v29 b30 e31
        show ex_q (dt_fg L ρ) rc (d + 10, (330, 43, [some (eR a0), some (eI (i3)), some (eI (i5)), some (eI (v10))], [eI (v29), eI (i3)]), f :: F, μ)
        obtain ⟨v32, e33, b34⟩ : ∃ zz : Int, ev_w ((i3) * (v29)) = zz ∧ (-2147483648 ≤ zz ∧ zz ≤ 2147483647) := ⟨_, rfl, hw_bd _⟩
        refine w_t (np := 44) (l2 := [some (eR a0), some (eI (i3)), some (eI (i5)), some (eI (v10))]) (s2 := [eI (v32)]) rfl (b_imul e33) rfl ?_
        refine w_t (np := 45) (l2 := [some (eR a0), some (eI (v32)), some (eI (i5)), some (eI (v10))]) (s2 := []) rfl rfl rfl ?_
        obtain ⟨v35, e36⟩ : ∃ zz : Int, zz = (i5) + (1) := ⟨_, rfl⟩
        have b37 : 1 ≤ v35 ∧ v35 ≤ 10 := by omega
        refine w_t (np := 48) (l2 := [some (eR a0), some (eI (v32)), some (eI (v35)), some (eI (v10))]) (s2 := []) rfl (b_iinc rfl (by rw [← e36]; exact ev_w_in (by omega) (by omega)) rfl) rfl ?_
        refine w_go (t1 := 4) rfl rfl ?_
        exact ih2 (10 - (v35)).toNat (by omega) (v32) (v35) (some (eI (v10))) (by omega) (by omega)     rfl
  exact hL4 _ (1) (0) (none) (by decide) (by decide)     rfl
def l_326 : List Nat := [13313, 13314, 13363, 22016, 21760, 21248, 20992, 20736]
theorem s_326 {L : Nat} {ρ : Nat → Int} {rc : eQ} {d : Nat} {f : eFr} {F : List eFr} {μ : eM} {g : Nat → Nat} {a0 : Nat} {a1 : Int} (hI : SI g μ) (gA0 : g a0 = 52) (bA1 : -2147483648 ≤ a1 ∧ a1 ≤ 2147483647) (K : ∀ (μ2 : eM) (v : Int), SI g μ2 → Fr l_326 0 0 g μ μ2 → (-2147483648 ≤ v ∧ v ≤ 2147483647) → ex_q (dt_fg L ρ) rc (d + 6, (f.1, f.2.1, f.2.2.1, eI v :: f.2.2.2), F, μ2)) : ex_q (dt_fg L ρ) rc (d + 5, (326, 0, [some (eR a0), some (eI (a1))], []), f :: F, μ) := by
  have F0 : Fr l_326 0 0 g μ μ := Fr.r
  refine w_t (np := 1) (l2 := [some (eR a0), some (eI (a1))]) (s2 := [eR a0]) rfl (s_an rfl (pos_g hI gA0 (by decide))) rfl ?_
  refine w_t (np := 2) (l2 := [some (eR a0), some (eI (a1))]) (s2 := [eR a0, eR a0]) rfl (s_an rfl (pos_g hI gA0 (by decide))) rfl ?_
  refine w_t (np := 3) (l2 := [some (eR a0), some (eI (a1))]) (s2 := [eI (a1), eR a0, eR a0]) rfl rfl rfl ?_
  refine w_cw (np := 6) (as := [eI (a1)]) (l2 := [some (eR a0), some (eI (a1))]) (rest := [eR a0]) rfl rfl rfl (Nat.ble_eq.mp rfl) rfl rfl rfl (hI.kd gA0 (by decide) (n := 69) rfl) rfl ?_
  refine s_325 (a1 := a1) hI gA0 (by omega) ?_
  intro m1 v4 I2 F3 b5
  have F6 : Fr l_326 0 0 g μ m1 := F0.t F3 rfl
  show ex_q (dt_fg L ρ) rc (d + 5, (326, 6, [some (eR a0), some (eI (a1))], [eI (v4), eR a0]), f :: F, m1)
  refine b_ieq (t1 := 13) (t2 := 9) rfl rfl rfl (ev_w_in (by omega) (by omega)) (fun g7 => ?_) (fun g7 => ?_)
  · have b8 : 0 ≤ v4 ∧ v4 ≤ 0 := by omega
    refine w_t (np := 14) (l2 := [some (eR a0), some (eI (a1))]) (s2 := [eI (2), eR a0]) rfl rfl rfl ?_
    refine w_cw (np := 17) (as := [eI (2)]) (l2 := [some (eR a0), some (eI (2))]) (rest := []) rfl rfl rfl (Nat.ble_eq.mp rfl) rfl rfl rfl (I2.kd gA0 (by decide) (n := 69) rfl) rfl ?_
    refine w_t (np := 1) (l2 := [some (eR a0), some (eI (2))]) (s2 := [eR a0]) rfl (s_an rfl (pos_g I2 gA0 (by decide))) rfl ?_
    refine w_t (np := 2) (l2 := [some (eR a0), some (eI (2))]) (s2 := [eI (0), eR a0]) rfl rfl rfl ?_
    refine j_pf (np := 5) (w := 0) rfl rfl I2 gA0 (by decide) (n := 69) rfl rfl (hO_i (lo := -2147483648) (hi := 2147483647) rfl (by decide)) ?_
    intro m8 I9 W10
    have F11 : Fr l_326 0 0 g μ m8 := F6.w W10 gA0 rfl
    refine w_t (np := 6) (l2 := [some (eR a0), some (eI (2))]) (s2 := [eR a0]) rfl (s_an rfl (pos_g I9 gA0 (by decide))) rfl ?_
    refine w_t (np := 7) (l2 := [some (eR a0), some (eI (2))]) (s2 := [eI (2), eR a0]) rfl rfl rfl ?_
    refine j_pf (np := 10) (w := 2) rfl rfl I9 gA0 (by decide) (n := 69) rfl rfl (hO_i (lo := -2147483648) (hi := 2147483647) rfl (by decide)) ?_
    intro m12 I13 W14
    have F15 : Fr l_326 0 0 g μ m12 := F11.w W14 gA0 rfl
    refine w_t (np := 11) (l2 := [some (eR a0), some (eI (2))]) (s2 := [eI (2)]) rfl rfl rfl ?_
    refine b_ine (t1 := 18) (t2 := 14) rfl rfl rfl rfl (fun g16 => ?_) (fun g16 => absurd g16 (by decide))
    refine w_t (np := 19) (l2 := [some (eR a0), some (eI (2))]) (s2 := [eI (0)]) rfl rfl rfl ?_
    refine b_rz rfl rfl (Or.inl rfl) ?_
    show ex_q (dt_fg L ρ) rc (d + 5, (326, 17, [some (eR a0), some (eI (a1))], [eI (0)]), f :: F, m12)
    refine b_ine (t1 := 22) (t2 := 20) rfl rfl rfl rfl (fun g17 => absurd g17 (by decide)) (fun g17 => ?_)
    refine w_t (np := 21) (l2 := [some (eR a0), some (eI (a1))]) (s2 := [eI (-1)]) rfl rfl rfl ?_
    exact b_ri rfl rfl (K m12 (-1) I13 F15 (by decide))
  · have b8 : 1 ≤ v4 ∧ v4 ≤ 1 := by omega
    refine w_t (np := 10) (l2 := [some (eR a0), some (eI (a1))]) (s2 := [eI (0), eR a0]) rfl rfl rfl ?_
    refine w_go (t1 := 14) rfl rfl ?_
    refine w_cw (np := 17) (as := [eI (0)]) (l2 := [some (eR a0), some (eI (0))]) (rest := []) rfl rfl rfl (Nat.ble_eq.mp rfl) rfl rfl rfl (I2.kd gA0 (by decide) (n := 69) rfl) rfl ?_
    refine w_t (np := 1) (l2 := [some (eR a0), some (eI (0))]) (s2 := [eR a0]) rfl (s_an rfl (pos_g I2 gA0 (by decide))) rfl ?_
    refine w_t (np := 2) (l2 := [some (eR a0), some (eI (0))]) (s2 := [eI (0), eR a0]) rfl rfl rfl ?_
    refine j_pf (np := 5) (w := 0) rfl rfl I2 gA0 (by decide) (n := 69) rfl rfl (hO_i (lo := -2147483648) (hi := 2147483647) rfl (by decide)) ?_
    intro m8 I9 W10
    have F11 : Fr l_326 0 0 g μ m8 := F6.w W10 gA0 rfl
    refine w_t (np := 6) (l2 := [some (eR a0), some (eI (0))]) (s2 := [eR a0]) rfl (s_an rfl (pos_g I9 gA0 (by decide))) rfl ?_
    refine w_t (np := 7) (l2 := [some (eR a0), some (eI (0))]) (s2 := [eI (0), eR a0]) rfl rfl rfl ?_
    refine j_pf (np := 10) (w := 0) rfl rfl I9 gA0 (by decide) (n := 69) rfl rfl (hO_i (lo := -2147483648) (hi := 2147483647) rfl (by decide)) ?_
    intro m12 I13 W14
    have F15 : Fr l_326 0 0 g μ m12 := F11.w W14 gA0 rfl
    refine w_t (np := 11) (l2 := [some (eR a0), some (eI (0))]) (s2 := [eI (0)]) rfl rfl rfl ?_
    refine b_ine (t1 := 18) (t2 := 14) rfl rfl rfl rfl (fun g16 => absurd g16 (by decide)) (fun g16 => ?_)
    refine w_t (np := 15) (l2 := [some (eR a0), some (eI (0))]) (s2 := [eI (1)]) rfl rfl rfl ?_
    refine w_go (t1 := 19) rfl rfl ?_
    refine b_rz rfl rfl (Or.inr rfl) ?_
    show ex_q (dt_fg L ρ) rc (d + 5, (326, 17, [some (eR a0), some (eI (a1))], [eI (1)]), f :: F, m12)
    refine b_ine (t1 := 22) (t2 := 20) rfl rfl rfl rfl (fun g17 => ?_) (fun g17 => absurd g17 (by decide))
    refine w_t (np := 23) (l2 := [some (eR a0), some (eI (a1))]) (s2 := [eR a0]) rfl (s_an rfl (pos_g I13 gA0 (by decide))) rfl ?_
    refine w_t (np := 24) (l2 := [some (eR a0), some (eI (a1))]) (s2 := [eI (a1), eR a0]) rfl rfl rfl ?_
    refine w_cw (np := 27) (as := [eI (a1)]) (l2 := [some (eR a0), some (eI (a1)), none, none, none, none, none, none, none, none, none]) (rest := []) rfl rfl rfl (Nat.ble_eq.mp rfl) rfl rfl rfl (I13.kd gA0 (by decide) (n := 69) rfl) rfl ?_
    refine s_323 (a1 := a1) I13 gA0 (by omega) ?_
    intro m18 I19 F20
    have F21 : Fr l_326 0 0 g μ m18 := F15.t F20 rfl
    show ex_q (dt_fg L ρ) rc (d + 5, (326, 27, [some (eR a0), some (eI (a1))], []), f :: F, m18)
    refine w_t (np := 28) (l2 := [some (eR a0), some (eI (a1))]) (s2 := [eR a0]) rfl (s_an rfl (pos_g I19 gA0 (by decide))) rfl ?_
    refine w_cw (np := 31) (as := []) (l2 := [some (eR a0), none, none]) (rest := []) rfl rfl rfl (Nat.ble_eq.mp rfl) rfl rfl rfl (I19.kd gA0 (by decide) (n := 69) rfl) rfl ?_
    refine s_324 I19 gA0 ?_
    intro v22 b23
    show ex_q (dt_fg L ρ) rc (d + 5, (326, 31, [some (eR a0), some (eI (a1))], [eI (v22)]), f :: F, m18)
    exact b_ri rfl rfl (K m18 (v22) I19 F21 (by omega))
def l_328 : List Nat := [13313, 13314, 13363, 22016, 21760, 21248, 20992, 20736]
theorem s_328 {L : Nat} {ρ : Nat → Int} {rc : eQ} {d : Nat} {f : eFr} {F : List eFr} {μ : eM} {g : Nat → Nat} {a0 : Nat} {a1 : Int} {a2 : Int} (hI : SI g μ) (gA0 : g a0 = 52) (bA1 : -2147483648 ≤ a1 ∧ a1 ≤ 2147483647) (bA2 : -2147483648 ≤ a2 ∧ a2 ≤ 2147483647) (K : ∀ (μ2 : eM) (v : Int), SI g μ2 → Fr l_328 0 0 g μ μ2 → (-2147483648 ≤ v ∧ v ≤ 2147483647) → ex_q (dt_fg L ρ) rc (d + 6, (f.1, f.2.1, f.2.2.1, eI v :: f.2.2.2), F, μ2)) : ex_q (dt_fg L ρ) rc (d + 5, (328, 0, [some (eR a0), some (eI (a1)), some (eI (a2)), none, none, none, none], []), f :: F, μ) := by
  have F0 : Fr l_328 0 0 g μ μ := Fr.r
  refine w_t (np := 1) (l2 := [some (eR a0), some (eI (a1)), some (eI (a2)), none, none, none, none]) (s2 := [eR a0]) rfl (s_an rfl (pos_g hI gA0 (by decide))) rfl ?_
  refine w_t (np := 2) (l2 := [some (eR a0), some (eI (a1)), some (eI (a2)), none, none, none, none]) (s2 := [eI (a2), eR a0]) rfl rfl rfl ?_
  refine w_t (np := 3) (l2 := [some (eR a0), some (eI (a1)), some (eI (a2)), none, none, none, none]) (s2 := [eI (0), eI (a2), eR a0]) rfl rfl rfl ?_
  refine w_t (np := 4) (l2 := [some (eR a0), some (eI (a1)), some (eI (a2)), none, none, none, none]) (s2 := [eI (1), eI (0), eI (a2), eR a0]) rfl rfl rfl ?_
  refine w_cu (np := 7) (as := [eI (a2), eI (0), eI (1)]) (l2 := [some (eI (a2)), some (eI (0)), some (eI (1))]) (rest := [eR a0]) rfl rfl rfl (Nat.ble_eq.mp rfl) rfl rfl rfl rfl ?_
  refine w_t (np := 1) (l2 := [some (eI (a2)), some (eI (0)), some (eI (1))]) (s2 := [eI (a2)]) rfl rfl rfl ?_
  refine w_t (np := 2) (l2 := [some (eI (a2)), some (eI (0)), some (eI (1))]) (s2 := [eI (0), eI (a2)]) rfl rfl rfl ?_
  refine b_clt (t1 := 14) (t2 := 5) rfl rfl rfl (ev_w_in (by omega) (by omega)) rfl (fun g1 => ?_) (fun g1 => ?_)
  · have b2 : -2147483648 ≤ a2 ∧ a2 ≤ -1 := by omega
    refine w_t (np := 15) (l2 := [some (eI (a2)), some (eI (0)), some (eI (1))]) (s2 := [eI (0)]) rfl rfl rfl ?_
    refine b_rz rfl rfl (Or.inl rfl) ?_
    show ex_q (dt_fg L ρ) rc (d + 5, (328, 7, [some (eR a0), some (eI (a1)), some (eI (a2)), none, none, none, none], [eI (0), eR a0]), f :: F, μ)
    refine b_ine (t1 := 14) (t2 := 10) rfl rfl rfl rfl (fun g2 => absurd g2 (by decide)) (fun g2 => ?_)
    refine w_t (np := 11) (l2 := [some (eR a0), some (eI (a1)), some (eI (a2)), none, none, none, none]) (s2 := [eI (1), eR a0]) rfl rfl rfl ?_
    refine w_go (t1 := 27) rfl rfl ?_
    refine w_cw (np := 30) (as := [eI (1)]) (l2 := [some (eR a0), some (eI (1))]) (rest := []) rfl rfl rfl (Nat.ble_eq.mp rfl) rfl rfl rfl (hI.kd gA0 (by decide) (n := 69) rfl) rfl ?_
    refine w_t (np := 1) (l2 := [some (eR a0), some (eI (1))]) (s2 := [eR a0]) rfl (s_an rfl (pos_g hI gA0 (by decide))) rfl ?_
    refine w_t (np := 2) (l2 := [some (eR a0), some (eI (1))]) (s2 := [eI (0), eR a0]) rfl rfl rfl ?_
    refine j_pf (np := 5) (w := 0) rfl rfl hI gA0 (by decide) (n := 69) rfl rfl (hO_i (lo := -2147483648) (hi := 2147483647) rfl (by decide)) ?_
    intro m3 I4 W5
    have F6 : Fr l_328 0 0 g μ m3 := F0.w W5 gA0 rfl
    refine w_t (np := 6) (l2 := [some (eR a0), some (eI (1))]) (s2 := [eR a0]) rfl (s_an rfl (pos_g I4 gA0 (by decide))) rfl ?_
    refine w_t (np := 7) (l2 := [some (eR a0), some (eI (1))]) (s2 := [eI (1), eR a0]) rfl rfl rfl ?_
    refine j_pf (np := 10) (w := 1) rfl rfl I4 gA0 (by decide) (n := 69) rfl rfl (hO_i (lo := -2147483648) (hi := 2147483647) rfl (by decide)) ?_
    intro m7 I8 W9
    have F10 : Fr l_328 0 0 g μ m7 := F6.w W9 gA0 rfl
    refine w_t (np := 11) (l2 := [some (eR a0), some (eI (1))]) (s2 := [eI (1)]) rfl rfl rfl ?_
    refine b_ine (t1 := 18) (t2 := 14) rfl rfl rfl rfl (fun g11 => ?_) (fun g11 => absurd g11 (by decide))
    refine w_t (np := 19) (l2 := [some (eR a0), some (eI (1))]) (s2 := [eI (0)]) rfl rfl rfl ?_
    refine b_rz rfl rfl (Or.inl rfl) ?_
    show ex_q (dt_fg L ρ) rc (d + 5, (328, 30, [some (eR a0), some (eI (a1)), some (eI (a2)), none, none, none, none], [eI (0)]), f :: F, m7)
    refine b_ine (t1 := 35) (t2 := 33) rfl rfl rfl rfl (fun g12 => absurd g12 (by decide)) (fun g12 => ?_)
    refine w_t (np := 34) (l2 := [some (eR a0), some (eI (a1)), some (eI (a2)), none, none, none, none]) (s2 := [eI (-1)]) rfl rfl rfl ?_
    exact b_ri rfl rfl (K m7 (-1) I8 F10 (by decide))
  · have b2 : 0 ≤ a2 ∧ a2 ≤ 2147483647 := by omega
    refine w_t (np := 6) (l2 := [some (eI (a2)), some (eI (0)), some (eI (1))]) (s2 := [eI (a2)]) rfl rfl rfl ?_
    refine w_t (np := 7) (l2 := [some (eI (a2)), some (eI (0)), some (eI (1))]) (s2 := [eI (1), eI (a2)]) rfl rfl rfl ?_
    refine b_cgt (t1 := 14) (t2 := 10) rfl rfl rfl (ev_w_in (by omega) (by omega)) rfl (fun g2 => ?_) (fun g2 => ?_)
    · have b3 : 2 ≤ a2 ∧ a2 ≤ 2147483647 := by omega
      refine w_t (np := 15) (l2 := [some (eI (a2)), some (eI (0)), some (eI (1))]) (s2 := [eI (0)]) rfl rfl rfl ?_
      refine b_rz rfl rfl (Or.inl rfl) ?_
      show ex_q (dt_fg L ρ) rc (d + 5, (328, 7, [some (eR a0), some (eI (a1)), some (eI (a2)), none, none, none, none], [eI (0), eR a0]), f :: F, μ)
      refine b_ine (t1 := 14) (t2 := 10) rfl rfl rfl rfl (fun g3 => absurd g3 (by decide)) (fun g3 => ?_)
      refine w_t (np := 11) (l2 := [some (eR a0), some (eI (a1)), some (eI (a2)), none, none, none, none]) (s2 := [eI (1), eR a0]) rfl rfl rfl ?_
      refine w_go (t1 := 27) rfl rfl ?_
      refine w_cw (np := 30) (as := [eI (1)]) (l2 := [some (eR a0), some (eI (1))]) (rest := []) rfl rfl rfl (Nat.ble_eq.mp rfl) rfl rfl rfl (hI.kd gA0 (by decide) (n := 69) rfl) rfl ?_
      refine w_t (np := 1) (l2 := [some (eR a0), some (eI (1))]) (s2 := [eR a0]) rfl (s_an rfl (pos_g hI gA0 (by decide))) rfl ?_
      refine w_t (np := 2) (l2 := [some (eR a0), some (eI (1))]) (s2 := [eI (0), eR a0]) rfl rfl rfl ?_
      refine j_pf (np := 5) (w := 0) rfl rfl hI gA0 (by decide) (n := 69) rfl rfl (hO_i (lo := -2147483648) (hi := 2147483647) rfl (by decide)) ?_
      intro m4 I5 W6
      have F7 : Fr l_328 0 0 g μ m4 := F0.w W6 gA0 rfl
      refine w_t (np := 6) (l2 := [some (eR a0), some (eI (1))]) (s2 := [eR a0]) rfl (s_an rfl (pos_g I5 gA0 (by decide))) rfl ?_
      refine w_t (np := 7) (l2 := [some (eR a0), some (eI (1))]) (s2 := [eI (1), eR a0]) rfl rfl rfl ?_
      refine j_pf (np := 10) (w := 1) rfl rfl I5 gA0 (by decide) (n := 69) rfl rfl (hO_i (lo := -2147483648) (hi := 2147483647) rfl (by decide)) ?_
      intro m8 I9 W10
      have F11 : Fr l_328 0 0 g μ m8 := F7.w W10 gA0 rfl
      refine w_t (np := 11) (l2 := [some (eR a0), some (eI (1))]) (s2 := [eI (1)]) rfl rfl rfl ?_
      refine b_ine (t1 := 18) (t2 := 14) rfl rfl rfl rfl (fun g12 => ?_) (fun g12 => absurd g12 (by decide))
      refine w_t (np := 19) (l2 := [some (eR a0), some (eI (1))]) (s2 := [eI (0)]) rfl rfl rfl ?_
      refine b_rz rfl rfl (Or.inl rfl) ?_
      show ex_q (dt_fg L ρ) rc (d + 5, (328, 30, [some (eR a0), some (eI (a1)), some (eI (a2)), none, none, none, none], [eI (0)]), f :: F, m8)
      refine b_ine (t1 := 35) (t2 := 33) rfl rfl rfl rfl (fun g13 => absurd g13 (by decide)) (fun g13 => ?_)
      refine w_t (np := 34) (l2 := [some (eR a0), some (eI (a1)), some (eI (a2)), none, none, none, none]) (s2 := [eI (-1)]) rfl rfl rfl ?_
      exact b_ri rfl rfl (K m8 (-1) I9 F11 (by decide))
    · have b3 : 0 ≤ a2 ∧ a2 ≤ 1 := by omega
      refine w_t (np := 11) (l2 := [some (eI (a2)), some (eI (0)), some (eI (1))]) (s2 := [eI (1)]) rfl rfl rfl ?_
      refine w_go (t1 := 15) rfl rfl ?_
      refine b_rz rfl rfl (Or.inr rfl) ?_
      show ex_q (dt_fg L ρ) rc (d + 5, (328, 7, [some (eR a0), some (eI (a1)), some (eI (a2)), none, none, none, none], [eI (1), eR a0]), f :: F, μ)
      refine b_ine (t1 := 14) (t2 := 10) rfl rfl rfl rfl (fun g3 => ?_) (fun g3 => absurd g3 (by decide))
      refine w_t (np := 15) (l2 := [some (eR a0), some (eI (a1)), some (eI (a2)), none, none, none, none]) (s2 := [eR a0, eR a0]) rfl (s_an rfl (pos_g hI gA0 (by decide))) rfl ?_
      refine w_t (np := 16) (l2 := [some (eR a0), some (eI (a1)), some (eI (a2)), none, none, none, none]) (s2 := [eI (a1), eR a0, eR a0]) rfl rfl rfl ?_
      refine w_cw (np := 19) (as := [eI (a1)]) (l2 := [some (eR a0), some (eI (a1))]) (rest := [eR a0]) rfl rfl rfl (Nat.ble_eq.mp rfl) rfl rfl rfl (hI.kd gA0 (by decide) (n := 69) rfl) rfl ?_
      refine s_325 (a1 := a1) hI gA0 (by omega) ?_
      intro m4 v7 I5 F6 b8
      have F9 : Fr l_328 0 0 g μ m4 := F0.t F6 rfl
      show ex_q (dt_fg L ρ) rc (d + 5, (328, 19, [some (eR a0), some (eI (a1)), some (eI (a2)), none, none, none, none], [eI (v7), eR a0]), f :: F, m4)
      refine b_ieq (t1 := 26) (t2 := 22) rfl rfl rfl (ev_w_in (by omega) (by omega)) (fun g10 => ?_) (fun g10 => ?_)
      · have b11 : 0 ≤ v7 ∧ v7 ≤ 0 := by omega
        refine w_t (np := 27) (l2 := [some (eR a0), some (eI (a1)), some (eI (a2)), none, none, none, none]) (s2 := [eI (2), eR a0]) rfl rfl rfl ?_
        refine w_cw (np := 30) (as := [eI (2)]) (l2 := [some (eR a0), some (eI (2))]) (rest := []) rfl rfl rfl (Nat.ble_eq.mp rfl) rfl rfl rfl (I5.kd gA0 (by decide) (n := 69) rfl) rfl ?_
        refine w_t (np := 1) (l2 := [some (eR a0), some (eI (2))]) (s2 := [eR a0]) rfl (s_an rfl (pos_g I5 gA0 (by decide))) rfl ?_
        refine w_t (np := 2) (l2 := [some (eR a0), some (eI (2))]) (s2 := [eI (0), eR a0]) rfl rfl rfl ?_
        refine j_pf (np := 5) (w := 0) rfl rfl I5 gA0 (by decide) (n := 69) rfl rfl (hO_i (lo := -2147483648) (hi := 2147483647) rfl (by decide)) ?_
        intro m11 I12 W13
        have F14 : Fr l_328 0 0 g μ m11 := F9.w W13 gA0 rfl
        refine w_t (np := 6) (l2 := [some (eR a0), some (eI (2))]) (s2 := [eR a0]) rfl (s_an rfl (pos_g I12 gA0 (by decide))) rfl ?_
        refine w_t (np := 7) (l2 := [some (eR a0), some (eI (2))]) (s2 := [eI (2), eR a0]) rfl rfl rfl ?_
        refine j_pf (np := 10) (w := 2) rfl rfl I12 gA0 (by decide) (n := 69) rfl rfl (hO_i (lo := -2147483648) (hi := 2147483647) rfl (by decide)) ?_
        intro m15 I16 W17
        have F18 : Fr l_328 0 0 g μ m15 := F14.w W17 gA0 rfl
        refine w_t (np := 11) (l2 := [some (eR a0), some (eI (2))]) (s2 := [eI (2)]) rfl rfl rfl ?_
        refine b_ine (t1 := 18) (t2 := 14) rfl rfl rfl rfl (fun g19 => ?_) (fun g19 => absurd g19 (by decide))
        refine w_t (np := 19) (l2 := [some (eR a0), some (eI (2))]) (s2 := [eI (0)]) rfl rfl rfl ?_
        refine b_rz rfl rfl (Or.inl rfl) ?_
        show ex_q (dt_fg L ρ) rc (d + 5, (328, 30, [some (eR a0), some (eI (a1)), some (eI (a2)), none, none, none, none], [eI (0)]), f :: F, m15)
        refine b_ine (t1 := 35) (t2 := 33) rfl rfl rfl rfl (fun g20 => absurd g20 (by decide)) (fun g20 => ?_)
        refine w_t (np := 34) (l2 := [some (eR a0), some (eI (a1)), some (eI (a2)), none, none, none, none]) (s2 := [eI (-1)]) rfl rfl rfl ?_
        exact b_ri rfl rfl (K m15 (-1) I16 F18 (by decide))
      · have b11 : 1 ≤ v7 ∧ v7 ≤ 1 := by omega
        refine w_t (np := 23) (l2 := [some (eR a0), some (eI (a1)), some (eI (a2)), none, none, none, none]) (s2 := [eI (0), eR a0]) rfl rfl rfl ?_
        refine w_go (t1 := 27) rfl rfl ?_
        refine w_cw (np := 30) (as := [eI (0)]) (l2 := [some (eR a0), some (eI (0))]) (rest := []) rfl rfl rfl (Nat.ble_eq.mp rfl) rfl rfl rfl (I5.kd gA0 (by decide) (n := 69) rfl) rfl ?_
        refine w_t (np := 1) (l2 := [some (eR a0), some (eI (0))]) (s2 := [eR a0]) rfl (s_an rfl (pos_g I5 gA0 (by decide))) rfl ?_
        refine w_t (np := 2) (l2 := [some (eR a0), some (eI (0))]) (s2 := [eI (0), eR a0]) rfl rfl rfl ?_
        refine j_pf (np := 5) (w := 0) rfl rfl I5 gA0 (by decide) (n := 69) rfl rfl (hO_i (lo := -2147483648) (hi := 2147483647) rfl (by decide)) ?_
        intro m11 I12 W13
        have F14 : Fr l_328 0 0 g μ m11 := F9.w W13 gA0 rfl
        refine w_t (np := 6) (l2 := [some (eR a0), some (eI (0))]) (s2 := [eR a0]) rfl (s_an rfl (pos_g I12 gA0 (by decide))) rfl ?_
        refine w_t (np := 7) (l2 := [some (eR a0), some (eI (0))]) (s2 := [eI (0), eR a0]) rfl rfl rfl ?_
        refine j_pf (np := 10) (w := 0) rfl rfl I12 gA0 (by decide) (n := 69) rfl rfl (hO_i (lo := -2147483648) (hi := 2147483647) rfl (by decide)) ?_
        intro m15 I16 W17
        have F18 : Fr l_328 0 0 g μ m15 := F14.w W17 gA0 rfl
        refine w_t (np := 11) (l2 := [some (eR a0), some (eI (0))]) (s2 := [eI (0)]) rfl rfl rfl ?_
        refine b_ine (t1 := 18) (t2 := 14) rfl rfl rfl rfl (fun g19 => absurd g19 (by decide)) (fun g19 => ?_)
        refine w_t (np := 15) (l2 := [some (eR a0), some (eI (0))]) (s2 := [eI (1)]) rfl rfl rfl ?_
        refine w_go (t1 := 19) rfl rfl ?_
        refine b_rz rfl rfl (Or.inr rfl) ?_
        show ex_q (dt_fg L ρ) rc (d + 5, (328, 30, [some (eR a0), some (eI (a1)), some (eI (a2)), none, none, none, none], [eI (1)]), f :: F, m15)
        refine b_ine (t1 := 35) (t2 := 33) rfl rfl rfl rfl (fun g20 => ?_) (fun g20 => absurd g20 (by decide))
        refine w_t (np := 36) (l2 := [some (eR a0), some (eI (a1)), some (eI (a2)), none, none, none, none]) (s2 := [eR a0]) rfl (s_an rfl (pos_g I16 gA0 (by decide))) rfl ?_
        refine w_t (np := 37) (l2 := [some (eR a0), some (eI (a1)), some (eI (a2)), none, none, none, none]) (s2 := [eI (a1), eR a0]) rfl rfl rfl ?_
        refine w_cw (np := 40) (as := [eI (a1)]) (l2 := [some (eR a0), some (eI (a1)), none, none, none, none, none, none, none, none, none]) (rest := []) rfl rfl rfl (Nat.ble_eq.mp rfl) rfl rfl rfl (I16.kd gA0 (by decide) (n := 69) rfl) rfl ?_
        refine s_323 (a1 := a1) I16 gA0 (by omega) ?_
        intro m21 I22 F23
        have F24 : Fr l_328 0 0 g μ m21 := F18.t F23 rfl
        show ex_q (dt_fg L ρ) rc (d + 5, (328, 40, [some (eR a0), some (eI (a1)), some (eI (a2)), none, none, none, none], []), f :: F, m21)
        refine w_t (np := 41) (l2 := [some (eR a0), some (eI (a1)), some (eI (a2)), none, none, none, none]) (s2 := [eI (0)]) rfl rfl rfl ?_
        refine w_t (np := 42) (l2 := [some (eR a0), some (eI (a1)), some (eI (a2)), some (eI (0)), none, none, none]) (s2 := []) rfl rfl rfl ?_
        refine w_t (np := 43) (l2 := [some (eR a0), some (eI (a1)), some (eI (a2)), some (eI (0)), none, none, none]) (s2 := [eI (0)]) rfl rfl rfl ?_
        refine w_t (np := 45) (l2 := [some (eR a0), some (eI (a1)), some (eI (a2)), some (eI (0)), some (eI (0)), none, none]) (s2 := []) rfl rfl rfl ?_
        refine w_t (np := 46) (l2 := [some (eR a0), some (eI (a1)), some (eI (a2)), some (eI (0)), some (eI (0)), none, none]) (s2 := [eI (0)]) rfl rfl rfl ?_
        refine w_t (np := 48) (l2 := [some (eR a0), some (eI (a1)), some (eI (a2)), some (eI (0)), some (eI (0)), some (eI (0)), none]) (s2 := []) rfl rfl rfl ?_
        have hL48 : ∀ (n25 : Nat) (m34 : eM) (i27 : Int) (i29 : Int) (i31 : Int) (o33 : Option eV), SI g m34 → Fr l_328 0 0 g μ m34 → (-2147483648 ≤ i27 ∧ i27 ≤ 2147483647) → (0 ≤ i29 ∧ i29 ≤ 2147483647) → (0 ≤ i31 ∧ i31 ≤ 10) → m34.1 a0 1 = 0 → m34.1 a0 0 = 0 → n25 = (10 - i31).toNat → ex_q (dt_fg L ρ) rc (d + 5, (328, 48, [some (eR a0), some (eI (a1)), some (eI (a2)), some (eI (i27)), some (eI (i29)), some (eI (i31)), o33], []), f :: F, m34) := by
          intro n25
          induction n25 using Nat.strongRecOn with
          | _ n25 ih26 =>
          intro m34 i27 i29 i31 o33 I35 F36 b28 b30 b32 k37 k38 hn39
          refine w_t (np := 50) (l2 := [some (eR a0), some (eI (a1)), some (eI (a2)), some (eI (i27)), some (eI (i29)), some (eI (i31)), o33]) (s2 := [eI (i31)]) rfl rfl rfl ?_
          refine w_t (np := 52) (l2 := [some (eR a0), some (eI (a1)), some (eI (a2)), some (eI (i27)), some (eI (i29)), some (eI (i31)), o33]) (s2 := [eI (10), eI (i31)]) rfl rfl rfl ?_
          refine b_cge (t1 := 98) (t2 := 55) rfl rfl rfl (ev_w_in (by omega) (by omega)) rfl (fun g40 => ?_) (fun g40 => ?_)
          · have b41 : 10 ≤ i31 ∧ i31 ≤ 10 := by omega
            refine w_t (np := 99) (l2 := [some (eR a0), some (eI (a1)), some (eI (a2)), some (eI (i27)), some (eI (i29)), some (eI (i31)), o33]) (s2 := [eI (a2)]) rfl rfl rfl ?_
            refine b_ine (t1 := 106) (t2 := 102) rfl rfl rfl (ev_w_in (by omega) (by omega)) (fun g41 => ?_) (fun g41 => ?_)
            · have b42 : 1 ≤ a2 ∧ a2 ≤ 1 := by omega
              refine w_t (np := 108) (l2 := [some (eR a0), some (eI (a1)), some (eI (a2)), some (eI (i27)), some (eI (i29)), some (eI (i31)), o33]) (s2 := [eI (i29)]) rfl rfl rfl ?_
              exact b_ri rfl rfl (K m34 (i29) I35 F36 (by omega))
            · have b42 : 0 ≤ a2 ∧ a2 ≤ 0 := by omega
              refine w_t (np := 103) (l2 := [some (eR a0), some (eI (a1)), some (eI (a2)), some (eI (i27)), some (eI (i29)), some (eI (i31)), o33]) (s2 := [eI (i27)]) rfl rfl rfl ?_
              refine w_go (t1 := 108) rfl rfl ?_
              exact b_ri rfl rfl (K m34 (i27) I35 F36 (by omega))
          · have b41 : 0 ≤ i31 ∧ i31 ≤ 9 := by omega
            refine w_t (np := 56) (l2 := [some (eR a0), some (eI (a1)), some (eI (a2)), some (eI (i27)), some (eI (i29)), some (eI (i31)), o33]) (s2 := [eR a0]) rfl (s_an rfl (pos_g I35 gA0 (by decide))) rfl ?_
            refine w_t (np := 58) (l2 := [some (eR a0), some (eI (a1)), some (eI (a2)), some (eI (i27)), some (eI (i29)), some (eI (i31)), o33]) (s2 := [eI (i31), eR a0]) rfl rfl rfl ?_
            refine w_cw (np := 61) (as := [eI (i31)]) (l2 := [some (eR a0), some (eI (i31)), none]) (rest := []) rfl rfl rfl (Nat.ble_eq.mp rfl) rfl rfl rfl (I35.kd gA0 (by decide) (n := 69) rfl) rfl ?_
            refine s_327 (a1 := i31) I35 gA0 (by omega) ?_
            intro v41 b42
            show ex_q (dt_fg L ρ) rc (d + 5, (328, 61, [some (eR a0), some (eI (a1)), some (eI (a2)), some (eI (i27)), some (eI (i29)), some (eI (i31)), o33], [eI (v41)]), f :: F, m34)
            refine w_t (np := 63) (l2 := [some (eR a0), some (eI (a1)), some (eI (a2)), some (eI (i27)), some (eI (i29)), some (eI (i31)), some (eI (v41))]) (s2 := []) rfl rfl rfl ?_
            refine w_t (np := 64) (l2 := [some (eR a0), some (eI (a1)), some (eI (a2)), some (eI (i27)), some (eI (i29)), some (eI (i31)), some (eI (v41))]) (s2 := [eI (i27)]) rfl rfl rfl ?_
            refine w_t (np := 66) (l2 := [some (eR a0), some (eI (a1)), some (eI (a2)), some (eI (i27)), some (eI (i29)), some (eI (i31)), some (eI (v41))]) (s2 := [eI (v41), eI (i27)]) rfl rfl rfl ?_
            refine b_ile (t1 := 73) (t2 := 69) rfl rfl rfl (ev_w_in (by omega) (by omega)) (fun g43 => ?_) (fun g43 => ?_)
            · have b44 : 0 ≤ v41 ∧ v41 ≤ 0 := by omega
              refine w_t (np := 74) (l2 := [some (eR a0), some (eI (a1)), some (eI (a2)), some (eI (i27)), some (eI (i29)), some (eI (i31)), some (eI (v41))]) (s2 := [eI (0), eI (i27)]) rfl rfl rfl ?_
              refine w_t (np := 75) (l2 := [some (eR a0), some (eI (a1)), some (eI (a2)), some (eI (i27)), some (eI (i29)), some (eI (i31)), some (eI (v41))]) (s2 := [eI (i27)]) rfl (b_iadd (by rw [Int.add_zero]; exact ev_w_in (by omega) (by omega))) rfl ?_
              refine w_t (np := 76) (l2 := [some (eR a0), some (eI (a1)), some (eI (a2)), some (eI (i27)), some (eI (i29)), some (eI (i31)), some (eI (v41))]) (s2 := []) rfl rfl rfl ?_
              refine w_t (np := 78) (l2 := [some (eR a0), some (eI (a1)), some (eI (a2)), some (eI (i27)), some (eI (i29)), some (eI (i31)), some (eI (v41))]) (s2 := [eI (v41)]) rfl rfl rfl ?_
              refine w_t (np := 80) (l2 := [some (eR a0), some (eI (a1)), some (eI (a2)), some (eI (i27)), some (eI (i29)), some (eI (i31)), some (eI (v41))]) (s2 := [eI (i29), eI (v41)]) rfl rfl rfl ?_
              refine b_cle (t1 := 88) (t2 := 83) rfl rfl rfl (ev_w_in (by omega) (by omega)) (ev_w_in (by omega) (by omega)) (fun g44 => ?_) (fun g44 => False.elim (by omega))
              refine w_t (np := 90) (l2 := [some (eR a0), some (eI (a1)), some (eI (a2)), some (eI (i27)), some (eI (i29)), some (eI (i31)), some (eI (v41))]) (s2 := [eI (i29)]) rfl rfl rfl ?_
              refine w_t (np := 92) (l2 := [some (eR a0), some (eI (a1)), some (eI (a2)), some (eI (i27)), some (eI (i29)), some (eI (i31)), some (eI (v41))]) (s2 := []) rfl rfl rfl ?_
              obtain ⟨v45, e46⟩ : ∃ zz : Int, zz = (i31) + (1) := ⟨_, rfl⟩
              have b47 : 1 ≤ v45 ∧ v45 ≤ 10 := by omega
              refine w_t (np := 95) (l2 := [some (eR a0), some (eI (a1)), some (eI (a2)), some (eI (i27)), some (eI (i29)), some (eI (v45)), some (eI (v41))]) (s2 := []) rfl (b_iinc rfl (by rw [← e46]; exact ev_w_in (by omega) (by omega)) rfl) rfl ?_
              refine w_go (t1 := 48) rfl rfl ?_
              exact ih26 (10 - (v45)).toNat (by omega) m34 (i27) (i29) (v45) (some (eI (v41))) I35 F36 (by omega) (by omega) (by omega) k37 k38    rfl
            · have b44 : 1 ≤ v41 ∧ v41 ≤ 9 := by omega
              refine w_t (np := 70) (l2 := [some (eR a0), some (eI (a1)), some (eI (a2)), some (eI (i27)), some (eI (i29)), some (eI (i31)), some (eI (v41))]) (s2 := [eI (1), eI (i27)]) rfl rfl rfl ?_
              refine w_go (t1 := 74) rfl rfl ?_
              obtain ⟨v44, e45, b46⟩ : ∃ zz : Int, ev_w ((i27) + (1)) = zz ∧ (-2147483648 ≤ zz ∧ zz ≤ 2147483647) := ⟨_, rfl, hw_bd _⟩
              refine w_t (np := 75) (l2 := [some (eR a0), some (eI (a1)), some (eI (a2)), some (eI (i27)), some (eI (i29)), some (eI (i31)), some (eI (v41))]) (s2 := [eI (v44)]) rfl (b_iadd e45) rfl ?_
              refine w_t (np := 76) (l2 := [some (eR a0), some (eI (a1)), some (eI (a2)), some (eI (v44)), some (eI (i29)), some (eI (i31)), some (eI (v41))]) (s2 := []) rfl rfl rfl ?_
              refine w_t (np := 78) (l2 := [some (eR a0), some (eI (a1)), some (eI (a2)), some (eI (v44)), some (eI (i29)), some (eI (i31)), some (eI (v41))]) (s2 := [eI (v41)]) rfl rfl rfl ?_
              refine w_t (np := 80) (l2 := [some (eR a0), some (eI (a1)), some (eI (a2)), some (eI (v44)), some (eI (i29)), some (eI (i31)), some (eI (v41))]) (s2 := [eI (i29), eI (v41)]) rfl rfl rfl ?_
              refine b_cle (t1 := 88) (t2 := 83) rfl rfl rfl (ev_w_in (by omega) (by omega)) (ev_w_in (by omega) (by omega)) (fun g47 => ?_) (fun g47 => ?_)
              · have b48 : 1 ≤ i29 ∧ i29 ≤ 2147483647 := by omega
                refine w_t (np := 90) (l2 := [some (eR a0), some (eI (a1)), some (eI (a2)), some (eI (v44)), some (eI (i29)), some (eI (i31)), some (eI (v41))]) (s2 := [eI (i29)]) rfl rfl rfl ?_
                refine w_t (np := 92) (l2 := [some (eR a0), some (eI (a1)), some (eI (a2)), some (eI (v44)), some (eI (i29)), some (eI (i31)), some (eI (v41))]) (s2 := []) rfl rfl rfl ?_
                obtain ⟨v48, e49⟩ : ∃ zz : Int, zz = (i31) + (1) := ⟨_, rfl⟩
                have b50 : 1 ≤ v48 ∧ v48 ≤ 10 := by omega
                refine w_t (np := 95) (l2 := [some (eR a0), some (eI (a1)), some (eI (a2)), some (eI (v44)), some (eI (i29)), some (eI (v48)), some (eI (v41))]) (s2 := []) rfl (b_iinc rfl (by rw [← e49]; exact ev_w_in (by omega) (by omega)) rfl) rfl ?_
                refine w_go (t1 := 48) rfl rfl ?_
                exact ih26 (10 - (v48)).toNat (by omega) m34 (v44) (i29) (v48) (some (eI (v41))) I35 F36 (by omega) (by omega) (by omega) k37 k38    rfl
              · have b48 : 0 ≤ i29 ∧ i29 ≤ 8 := by omega
                refine w_t (np := 85) (l2 := [some (eR a0), some (eI (a1)), some (eI (a2)), some (eI (v44)), some (eI (i29)), some (eI (i31)), some (eI (v41))]) (s2 := [eI (v41)]) rfl rfl rfl ?_
                refine w_go (t1 := 90) rfl rfl ?_
                refine w_t (np := 92) (l2 := [some (eR a0), some (eI (a1)), some (eI (a2)), some (eI (v44)), some (eI (v41)), some (eI (i31)), some (eI (v41))]) (s2 := []) rfl rfl rfl ?_
                obtain ⟨v48, e49⟩ : ∃ zz : Int, zz = (i31) + (1) := ⟨_, rfl⟩
                have b50 : 1 ≤ v48 ∧ v48 ≤ 10 := by omega
                refine w_t (np := 95) (l2 := [some (eR a0), some (eI (a1)), some (eI (a2)), some (eI (v44)), some (eI (v41)), some (eI (v48)), some (eI (v41))]) (s2 := []) rfl (b_iinc rfl (by rw [← e49]; exact ev_w_in (by omega) (by omega)) rfl) rfl ?_
                refine w_go (t1 := 48) rfl rfl ?_
                exact ih26 (10 - (v48)).toNat (by omega) m34 (v44) (v41) (v48) (some (eI (v41))) I35 F36 (by omega) (by omega) (by omega) k37 k38    rfl
        exact hL48 _ m21 (0) (0) (0) (none) I22 F24 (by decide) (by decide) (by decide) (F23.k (W17.slot W13.at (by decide)) gA0 (by decide) rfl) (F23.k W17.at gA0 (by decide) rfl)    rfl
def l_331 : List Nat := [13313, 13314, 13363, 22016, 21760, 21248, 20992, 20736]
theorem s_331 {L : Nat} {ρ : Nat → Int} {rc : eQ} {d : Nat} {f : eFr} {F : List eFr} {μ : eM} {g : Nat → Nat} {a0 : Nat} {a1 : Int} (hI : SI g μ) (gA0 : g a0 = 52) (bA1 : -2147483648 ≤ a1 ∧ a1 ≤ 2147483647) (K : ∀ (μ2 : eM) (v : Int), SI g μ2 → Fr l_331 0 0 g μ μ2 → (-2147483648 ≤ v ∧ v ≤ 2147483647) → ex_q (dt_fg L ρ) rc (d + 12, (f.1, f.2.1, f.2.2.1, eI v :: f.2.2.2), F, μ2)) : ex_q (dt_fg L ρ) rc (d + 11, (331, 0, [some (eR a0), some (eI (a1))], []), f :: F, μ) := by
  have F0 : Fr l_331 0 0 g μ μ := Fr.r
  refine w_t (np := 1) (l2 := [some (eR a0), some (eI (a1))]) (s2 := [eR a0]) rfl (s_an rfl (pos_g hI gA0 (by decide))) rfl ?_
  refine w_t (np := 2) (l2 := [some (eR a0), some (eI (a1))]) (s2 := [eR a0, eR a0]) rfl (s_an rfl (pos_g hI gA0 (by decide))) rfl ?_
  refine w_t (np := 3) (l2 := [some (eR a0), some (eI (a1))]) (s2 := [eI (a1), eR a0, eR a0]) rfl rfl rfl ?_
  refine w_cw (np := 6) (as := [eI (a1)]) (l2 := [some (eR a0), some (eI (a1))]) (rest := [eR a0]) rfl rfl rfl (Nat.ble_eq.mp rfl) rfl rfl rfl (hI.kd gA0 (by decide) (n := 69) rfl) rfl ?_
  refine s_325 (a1 := a1) hI gA0 (by omega) ?_
  intro m1 v4 I2 F3 b5
  have F6 : Fr l_331 0 0 g μ m1 := F0.t F3 rfl
  show ex_q (dt_fg L ρ) rc (d + 11, (331, 6, [some (eR a0), some (eI (a1))], [eI (v4), eR a0]), f :: F, m1)
  refine b_ieq (t1 := 13) (t2 := 9) rfl rfl rfl (ev_w_in (by omega) (by omega)) (fun g7 => ?_) (fun g7 => ?_)
  · have b8 : 0 ≤ v4 ∧ v4 ≤ 0 := by omega
    refine w_t (np := 14) (l2 := [some (eR a0), some (eI (a1))]) (s2 := [eI (2), eR a0]) rfl rfl rfl ?_
    refine w_cw (np := 17) (as := [eI (2)]) (l2 := [some (eR a0), some (eI (2))]) (rest := []) rfl rfl rfl (Nat.ble_eq.mp rfl) rfl rfl rfl (I2.kd gA0 (by decide) (n := 69) rfl) rfl ?_
    refine w_t (np := 1) (l2 := [some (eR a0), some (eI (2))]) (s2 := [eR a0]) rfl (s_an rfl (pos_g I2 gA0 (by decide))) rfl ?_
    refine w_t (np := 2) (l2 := [some (eR a0), some (eI (2))]) (s2 := [eI (0), eR a0]) rfl rfl rfl ?_
    refine j_pf (np := 5) (w := 0) rfl rfl I2 gA0 (by decide) (n := 69) rfl rfl (hO_i (lo := -2147483648) (hi := 2147483647) rfl (by decide)) ?_
    intro m8 I9 W10
    have F11 : Fr l_331 0 0 g μ m8 := F6.w W10 gA0 rfl
    refine w_t (np := 6) (l2 := [some (eR a0), some (eI (2))]) (s2 := [eR a0]) rfl (s_an rfl (pos_g I9 gA0 (by decide))) rfl ?_
    refine w_t (np := 7) (l2 := [some (eR a0), some (eI (2))]) (s2 := [eI (2), eR a0]) rfl rfl rfl ?_
    refine j_pf (np := 10) (w := 2) rfl rfl I9 gA0 (by decide) (n := 69) rfl rfl (hO_i (lo := -2147483648) (hi := 2147483647) rfl (by decide)) ?_
    intro m12 I13 W14
    have F15 : Fr l_331 0 0 g μ m12 := F11.w W14 gA0 rfl
    refine w_t (np := 11) (l2 := [some (eR a0), some (eI (2))]) (s2 := [eI (2)]) rfl rfl rfl ?_
    refine b_ine (t1 := 18) (t2 := 14) rfl rfl rfl rfl (fun g16 => ?_) (fun g16 => absurd g16 (by decide))
    refine w_t (np := 19) (l2 := [some (eR a0), some (eI (2))]) (s2 := [eI (0)]) rfl rfl rfl ?_
    refine b_rz rfl rfl (Or.inl rfl) ?_
    show ex_q (dt_fg L ρ) rc (d + 11, (331, 17, [some (eR a0), some (eI (a1))], [eI (0)]), f :: F, m12)
    refine b_ine (t1 := 22) (t2 := 20) rfl rfl rfl rfl (fun g17 => absurd g17 (by decide)) (fun g17 => ?_)
    refine w_t (np := 21) (l2 := [some (eR a0), some (eI (a1))]) (s2 := [eI (-1)]) rfl rfl rfl ?_
    exact b_ri rfl rfl (K m12 (-1) I13 F15 (by decide))
  · have b8 : 1 ≤ v4 ∧ v4 ≤ 1 := by omega
    refine w_t (np := 10) (l2 := [some (eR a0), some (eI (a1))]) (s2 := [eI (0), eR a0]) rfl rfl rfl ?_
    refine w_go (t1 := 14) rfl rfl ?_
    refine w_cw (np := 17) (as := [eI (0)]) (l2 := [some (eR a0), some (eI (0))]) (rest := []) rfl rfl rfl (Nat.ble_eq.mp rfl) rfl rfl rfl (I2.kd gA0 (by decide) (n := 69) rfl) rfl ?_
    refine w_t (np := 1) (l2 := [some (eR a0), some (eI (0))]) (s2 := [eR a0]) rfl (s_an rfl (pos_g I2 gA0 (by decide))) rfl ?_
    refine w_t (np := 2) (l2 := [some (eR a0), some (eI (0))]) (s2 := [eI (0), eR a0]) rfl rfl rfl ?_
    refine j_pf (np := 5) (w := 0) rfl rfl I2 gA0 (by decide) (n := 69) rfl rfl (hO_i (lo := -2147483648) (hi := 2147483647) rfl (by decide)) ?_
    intro m8 I9 W10
    have F11 : Fr l_331 0 0 g μ m8 := F6.w W10 gA0 rfl
    refine w_t (np := 6) (l2 := [some (eR a0), some (eI (0))]) (s2 := [eR a0]) rfl (s_an rfl (pos_g I9 gA0 (by decide))) rfl ?_
    refine w_t (np := 7) (l2 := [some (eR a0), some (eI (0))]) (s2 := [eI (0), eR a0]) rfl rfl rfl ?_
    refine j_pf (np := 10) (w := 0) rfl rfl I9 gA0 (by decide) (n := 69) rfl rfl (hO_i (lo := -2147483648) (hi := 2147483647) rfl (by decide)) ?_
    intro m12 I13 W14
    have F15 : Fr l_331 0 0 g μ m12 := F11.w W14 gA0 rfl
    refine w_t (np := 11) (l2 := [some (eR a0), some (eI (0))]) (s2 := [eI (0)]) rfl rfl rfl ?_
    refine b_ine (t1 := 18) (t2 := 14) rfl rfl rfl rfl (fun g16 => absurd g16 (by decide)) (fun g16 => ?_)
    refine w_t (np := 15) (l2 := [some (eR a0), some (eI (0))]) (s2 := [eI (1)]) rfl rfl rfl ?_
    refine w_go (t1 := 19) rfl rfl ?_
    refine b_rz rfl rfl (Or.inr rfl) ?_
    show ex_q (dt_fg L ρ) rc (d + 11, (331, 17, [some (eR a0), some (eI (a1))], [eI (1)]), f :: F, m12)
    refine b_ine (t1 := 22) (t2 := 20) rfl rfl rfl rfl (fun g17 => ?_) (fun g17 => absurd g17 (by decide))
    refine w_t (np := 23) (l2 := [some (eR a0), some (eI (a1))]) (s2 := [eR a0]) rfl (s_an rfl (pos_g I13 gA0 (by decide))) rfl ?_
    refine w_t (np := 24) (l2 := [some (eR a0), some (eI (a1))]) (s2 := [eI (a1), eR a0]) rfl rfl rfl ?_
    refine w_cw (np := 27) (as := [eI (a1)]) (l2 := [some (eR a0), some (eI (a1)), none, none, none, none, none, none, none, none, none]) (rest := []) rfl rfl rfl (Nat.ble_eq.mp rfl) rfl rfl rfl (I13.kd gA0 (by decide) (n := 69) rfl) rfl ?_
    refine s_323 (a1 := a1) I13 gA0 (by omega) ?_
    intro m18 I19 F20
    have F21 : Fr l_331 0 0 g μ m18 := F15.t F20 rfl
    show ex_q (dt_fg L ρ) rc (d + 11, (331, 27, [some (eR a0), some (eI (a1))], []), f :: F, m18)
    refine w_t (np := 28) (l2 := [some (eR a0), some (eI (a1))]) (s2 := [eR a0]) rfl (s_an rfl (pos_g I19 gA0 (by decide))) rfl ?_
    refine w_cw (np := 31) (as := []) (l2 := [some (eR a0), none, none, none]) (rest := []) rfl rfl rfl (Nat.ble_eq.mp rfl) rfl rfl rfl (I19.kd gA0 (by decide) (n := 69) rfl) rfl ?_
    refine s_330 I19 gA0 ?_
    intro v22 b23
    show ex_q (dt_fg L ρ) rc (d + 11, (331, 31, [some (eR a0), some (eI (a1))], [eI (v22)]), f :: F, m18)
    exact b_ri rfl rfl (K m18 (v22) I19 F21 (by omega))
def l_332 : List Nat := [22016, 21760, 21248]
theorem s_332 {L : Nat} {ρ : Nat → Int} {rc : eQ} {d : Nat} {f : eFr} {F : List eFr} {μ : eM} {g : Nat → Nat} {a0 : Nat} {a1 : Int} (hI : SI g μ) (gA0 : g a0 = 52) (bA1 : -2147483648 ≤ a1 ∧ a1 ≤ 2147483647) (K : ∀ (μ2 : eM) (v : Int), SI g μ2 → Fr l_332 0 0 g μ μ2 → (0 ≤ v ∧ v ≤ 3) → ex_q (dt_fg L ρ) rc (d + 12, (f.1, f.2.1, f.2.2.1, eI v :: f.2.2.2), F, μ2)) : ex_q (dt_fg L ρ) rc (d + 11, (332, 0, [some (eR a0), some (eI (a1)), none], []), f :: F, μ) := by
  have F0 : Fr l_332 0 0 g μ μ := Fr.r
  refine w_t (np := 1) (l2 := [some (eR a0), some (eI (a1)), none]) (s2 := [eR a0]) rfl (s_an rfl (pos_g hI gA0 (by decide))) rfl ?_
  refine w_t (np := 2) (l2 := [some (eR a0), some (eI (a1)), none]) (s2 := [eI (a1), eR a0]) rfl rfl rfl ?_
  refine w_cw (np := 5) (as := [eI (a1)]) (l2 := [some (eR a0), some (eI (a1)), none, none, none, none, none, none, none, none, none]) (rest := []) rfl rfl rfl (Nat.ble_eq.mp rfl) rfl rfl rfl (hI.kd gA0 (by decide) (n := 69) rfl) rfl ?_
  refine s_323 (a1 := a1) hI gA0 (by omega) ?_
  intro m1 I2 F3
  have F4 : Fr l_332 0 0 g μ m1 := F0.t F3 rfl
  show ex_q (dt_fg L ρ) rc (d + 11, (332, 5, [some (eR a0), some (eI (a1)), none], []), f :: F, m1)
  refine w_t (np := 6) (l2 := [some (eR a0), some (eI (a1)), none]) (s2 := [eR a0]) rfl (s_an rfl (pos_g I2 gA0 (by decide))) rfl ?_
  refine w_cw (np := 9) (as := []) (l2 := [some (eR a0), none, none]) (rest := []) rfl rfl rfl (Nat.ble_eq.mp rfl) rfl rfl rfl (I2.kd gA0 (by decide) (n := 69) rfl) rfl ?_
  refine s_324 I2 gA0 ?_
  intro v5 b6
  show ex_q (dt_fg L ρ) rc (d + 11, (332, 9, [some (eR a0), some (eI (a1)), none], [eI (v5)]), f :: F, m1)
  refine w_t (np := 11) (l2 := [some (eR a0), some (eI (a1)), none]) (s2 := [eI (10), eI (v5)]) rfl rfl rfl ?_
  refine b_cne (t1 := 16) (t2 := 14) rfl rfl rfl (ev_w_in (by omega) (by omega)) rfl (fun g7 => ?_) (fun g7 => ?_)
  · refine w_t (np := 17) (l2 := [some (eR a0), some (eI (a1)), none]) (s2 := [eR a0]) rfl (s_an rfl (pos_g I2 gA0 (by decide))) rfl ?_
    refine w_cw (np := 20) (as := []) (l2 := [some (eR a0), none, none, none]) (rest := []) rfl rfl rfl (Nat.ble_eq.mp rfl) rfl rfl rfl (I2.kd gA0 (by decide) (n := 69) rfl) rfl ?_
    refine s_330 I2 gA0 ?_
    intro v8 b9
    show ex_q (dt_fg L ρ) rc (d + 11, (332, 20, [some (eR a0), some (eI (a1)), none], [eI (v8)]), f :: F, m1)
    refine w_t (np := 21) (l2 := [some (eR a0), some (eI (a1)), some (eI (v8))]) (s2 := []) rfl rfl rfl ?_
    refine w_t (np := 22) (l2 := [some (eR a0), some (eI (a1)), some (eI (v8))]) (s2 := [eI (v8)]) rfl rfl rfl ?_
    refine b_ine (t1 := 29) (t2 := 25) rfl rfl rfl (ev_w_in (by omega) (by omega)) (fun g10 => ?_) (fun g10 => ?_)
    · refine w_t (np := 30) (l2 := [some (eR a0), some (eI (a1)), some (eI (v8))]) (s2 := [eI (v8)]) rfl rfl rfl ?_
      refine w_t (np := 31) (l2 := [some (eR a0), some (eI (a1)), some (eI (v8))]) (s2 := [eI (1), eI (v8)]) rfl rfl rfl ?_
      refine b_cne (t1 := 38) (t2 := 34) rfl rfl rfl (ev_w_in (by omega) (by omega)) rfl (fun g11 => ?_) (fun g11 => ?_)
      · refine w_t (np := 39) (l2 := [some (eR a0), some (eI (a1)), some (eI (v8))]) (s2 := [eI (3)]) rfl rfl rfl ?_
        exact b_ri rfl rfl (K m1 (3) I2 F4 (by decide))
      · have b12 : 1 ≤ v8 ∧ v8 ≤ 1 := by omega
        refine w_t (np := 35) (l2 := [some (eR a0), some (eI (a1)), some (eI (v8))]) (s2 := [eI (1)]) rfl rfl rfl ?_
        refine w_go (t1 := 39) rfl rfl ?_
        exact b_ri rfl rfl (K m1 (1) I2 F4 (by decide))
    · have b11 : 0 ≤ v8 ∧ v8 ≤ 0 := by omega
      refine w_t (np := 26) (l2 := [some (eR a0), some (eI (a1)), some (eI (v8))]) (s2 := [eI (2)]) rfl rfl rfl ?_
      refine w_go (t1 := 39) rfl rfl ?_
      exact b_ri rfl rfl (K m1 (2) I2 F4 (by decide))
  · have b8 : 10 ≤ v5 ∧ v5 ≤ 10 := by omega
    refine w_t (np := 15) (l2 := [some (eR a0), some (eI (a1)), none]) (s2 := [eI (0)]) rfl rfl rfl ?_
    exact b_ri rfl rfl (K m1 (0) I2 F4 (by decide))
def l_333 : List Nat := [13363, 22016, 21760, 21248, 20992, 20736]
theorem s_333 {L : Nat} {ρ : Nat → Int} {rc : eQ} {d : Nat} {f : eFr} {F : List eFr} {μ : eM} {g : Nat → Nat} {a0 : Nat} {a1 : Int} (hI : SI g μ) (gA0 : g a0 = 52) (bA1 : -2147483648 ≤ a1 ∧ a1 ≤ 2147483647) (K : ∀ (μ2 : eM) (v : Int), SI g μ2 → Fr l_333 0 0 g μ μ2 → (-1 ≤ v ∧ v ≤ 95) → ex_q (dt_fg L ρ) rc (d + 13, (f.1, f.2.1, f.2.2.1, eI v :: f.2.2.2), F, μ2)) : ex_q (dt_fg L ρ) rc (d + 12, (333, 0, [some (eR a0), some (eI (a1)), none], []), f :: F, μ) := by
  have F0 : Fr l_333 0 0 g μ μ := Fr.r
  refine w_t (np := 1) (l2 := [some (eR a0), some (eI (a1)), none]) (s2 := [eR a0]) rfl (s_an rfl (pos_g hI gA0 (by decide))) rfl ?_
  refine w_cw (np := 4) (as := []) (l2 := [some (eR a0), none, none, none, none]) (rest := []) rfl rfl rfl (Nat.ble_eq.mp rfl) rfl rfl rfl (hI.kd gA0 (by decide) (n := 69) rfl) rfl ?_
  refine s_304 hI gA0 ?_
  intro m1 I2 F3
  have F4 : Fr l_333 0 0 g μ m1 := F0.t F3 rfl
  show ex_q (dt_fg L ρ) rc (d + 12, (333, 4, [some (eR a0), some (eI (a1)), none], []), f :: F, m1)
  refine w_t (np := 5) (l2 := [some (eR a0), some (eI (a1)), none]) (s2 := [eI (0)]) rfl rfl rfl ?_
  refine w_t (np := 6) (l2 := [some (eR a0), some (eI (a1)), some (eI (0))]) (s2 := []) rfl rfl rfl ?_
  have hL6 : ∀ (n5 : Nat) (m9 : eM) (i7 : Int), SI g m9 → Fr l_333 0 0 g μ m9 → (0 ≤ i7 ∧ i7 ≤ 96) → n5 = (96 - i7).toNat → ex_q (dt_fg L ρ) rc (d + 12, (333, 6, [some (eR a0), some (eI (a1)), some (eI (i7))], []), f :: F, m9) := by
    intro n5
    induction n5 using Nat.strongRecOn with
    | _ n5 ih6 =>
    intro m9 i7 I10 F11 b8 hn12
    refine w_t (np := 7) (l2 := [some (eR a0), some (eI (a1)), some (eI (i7))]) (s2 := [eI (i7)]) rfl rfl rfl ?_
    refine w_t (np := 8) (l2 := [some (eR a0), some (eI (a1)), some (eI (i7))]) (s2 := [eR a0, eI (i7)]) rfl (s_an rfl (pos_g I10 gA0 (by decide))) rfl ?_
    refine j_gi (np := 11) rfl rfl rfl I10 gA0 (by decide) (n := 69) rfl rfl (lo := 0) (hi := 96) rfl ?_
    intro v13 e14 b15
    refine b_cge (t1 := 31) (t2 := 14) rfl rfl rfl (ev_w_in (by omega) (by omega)) (ev_w_in (by omega) (by omega)) (fun g16 => ?_) (fun g16 => ?_)
    · refine w_t (np := 32) (l2 := [some (eR a0), some (eI (a1)), some (eI (i7))]) (s2 := [eI (-1)]) rfl rfl rfl ?_
      exact b_ri rfl rfl (K m9 (-1) I10 F11 (by decide))
    · have b17 : 0 ≤ i7 ∧ i7 ≤ 95 := by omega
      have b18 : 1 ≤ v13 ∧ v13 ≤ 96 := by omega
      refine w_t (np := 15) (l2 := [some (eR a0), some (eI (a1)), some (eI (i7))]) (s2 := [eR a0]) rfl (s_an rfl (pos_g I10 gA0 (by decide))) rfl ?_
      refine w_t (np := 16) (l2 := [some (eR a0), some (eI (a1)), some (eI (i7))]) (s2 := [eI (i7), eR a0]) rfl rfl rfl ?_
      refine w_cw (np := 19) (as := [eI (i7)]) (l2 := [some (eR a0), some (eI (i7)), none]) (rest := []) rfl rfl rfl (Nat.ble_eq.mp rfl) rfl rfl rfl (I10.kd gA0 (by decide) (n := 69) rfl) rfl ?_
      refine s_332 (a1 := i7) I10 gA0 (by omega) ?_
      intro m17 v20 I18 F19 b21
      have F22 : Fr l_333 0 0 g μ m17 := F11.t F19 rfl
      show ex_q (dt_fg L ρ) rc (d + 12, (333, 19, [some (eR a0), some (eI (a1)), some (eI (i7))], [eI (v20)]), f :: F, m17)
      refine w_t (np := 20) (l2 := [some (eR a0), some (eI (a1)), some (eI (i7))]) (s2 := [eI (a1), eI (v20)]) rfl rfl rfl ?_
      refine b_cne (t1 := 25) (t2 := 23) rfl rfl rfl (ev_w_in (by omega) (by omega)) (ev_w_in (by omega) (by omega)) (fun g23 => ?_) (fun g23 => ?_)
      · obtain ⟨v24, e25⟩ : ∃ zz : Int, zz = (i7) + (1) := ⟨_, rfl⟩
        have b26 : 1 ≤ v24 ∧ v24 ≤ 96 := by omega
        refine w_t (np := 28) (l2 := [some (eR a0), some (eI (a1)), some (eI (v24))]) (s2 := []) rfl (b_iinc rfl (by rw [← e25]; exact ev_w_in (by omega) (by omega)) rfl) rfl ?_
        refine w_go (t1 := 6) rfl rfl ?_
        exact ih6 (96 - (v24)).toNat (by omega) m17 (v24) I18 F22 (by omega)     rfl
      · have b24 : 0 ≤ a1 ∧ a1 ≤ 3 := by omega
        refine w_t (np := 24) (l2 := [some (eR a0), some (eI (a1)), some (eI (i7))]) (s2 := [eI (i7)]) rfl rfl rfl ?_
        exact b_ri rfl rfl (K m17 (i7) I18 F22 (by omega))
  exact hL6 _ m1 (0) I2 F4 (by decide)     rfl
