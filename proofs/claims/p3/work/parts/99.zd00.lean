/-! methods, walked -/
theorem s_249 {L : Nat} {ρ : Nat → Int} {rc : eQ} {d : Nat} {f : eFr} {F : List eFr} {μ : eM} {g : Nat → Nat} {D : Int} {a0 : Nat} {a1 : Int} {a2 : Int} (hI : SI g μ) (gA0 : g a0 = 52) (bA1 : 0 ≤ a1 ∧ a1 ≤ 2669) (bA2 : 0 ≤ a2 ∧ a2 ≤ 2669) (hD : ∀ ap : Nat, g ap = 65 → DM (μ.1 ap) (4 * a1) (4 * a2) D) (K : ∀ (v : Int), (0 ≤ v ∧ v ≤ 9) → ex_q (dt_fg L ρ) rc (d + 3, (f.1, f.2.1, f.2.2.1, eI v :: f.2.2.2), F, μ)) : ex_q (dt_fg L ρ) rc (d + 2, (249, 0, [some (eR a0), some (eI (a1)), some (eI (a2)), none], []), f :: F, μ) := by
  obtain ⟨v1, e2, b3, z4⟩ := hI.ref (k := 23) gA0 (by decide) (n := 69) rfl (by decide) rfl
  have b3 : g v1 = 65 := Nat.eq_of_beq_eq_true b3
  have hDr := hD v1 b3
  have bD := hDr.1
  refine w_t (np := 1) (l2 := [some (eR a0), some (eI (a1)), some (eI (a2)), none]) (s2 := [eI (0)]) rfl rfl rfl ?_
  refine w_t (np := 2) (l2 := [some (eR a0), some (eI (a1)), some (eI (a2)), some (eI (0))]) (s2 := []) rfl rfl rfl ?_
  have hL2 : ∀ (n5 : Nat) (i7 : Int), (0 ≤ i7 ∧ i7 ≤ 9) → i7 ≤ D → n5 = (10 - i7).toNat → ex_q (dt_fg L ρ) rc (d + 2, (249, 2, [some (eR a0), some (eI (a1)), some (eI (a2)), some (eI (i7))], []), f :: F, μ) := by
    intro n5
    induction n5 using Nat.strongRecOn with
    | _ n5 ih6 =>
    intro i7 b8 r9 hn10
    refine w_t (np := 3) (l2 := [some (eR a0), some (eI (a1)), some (eI (a2)), some (eI (i7))]) (s2 := [eR a0]) rfl (s_an rfl (pos_g hI gA0 (by decide))) rfl ?_
    refine w_gf (np := 6) (v := eR v1) rfl rfl (hI.kd gA0 (by decide) (n := 69) rfl) (by rw [e2]; rfl) ?_
    refine w_t (np := 7) (l2 := [some (eR a0), some (eI (a1)), some (eI (a2)), some (eI (i7))]) (s2 := [eI (4), eR v1]) rfl rfl rfl ?_
    refine w_t (np := 8) (l2 := [some (eR a0), some (eI (a1)), some (eI (a2)), some (eI (i7))]) (s2 := [eI (a2), eI (4), eR v1]) rfl rfl rfl ?_
    obtain ⟨v11, e12⟩ : ∃ zz : Int, zz = (4) * (a2) := ⟨_, rfl⟩
    have b13 : 0 ≤ v11 ∧ v11 ≤ 10676 := by omega
    refine w_t (np := 9) (l2 := [some (eR a0), some (eI (a1)), some (eI (a2)), some (eI (i7))]) (s2 := [eI (v11), eR v1]) rfl (b_imul (by rw [← e12]; exact ev_w_in (by omega) (by omega))) rfl ?_
    refine j_al (np := 10) rfl rfl hI b3 (by decide) (n := 10680) rfl rfl (lo := -2147483648) (hi := 2147483647) (fun _ => rfl) (by omega) (by omega) ?_
    intro v14 e15 b16
    refine w_t (np := 11) (l2 := [some (eR a0), some (eI (a1)), some (eI (a2)), some (eI (i7))]) (s2 := [eR a0, eI (v14)]) rfl (s_an rfl (pos_g hI gA0 (by decide))) rfl ?_
    refine w_gf (np := 14) (v := eR v1) rfl rfl (hI.kd gA0 (by decide) (n := 69) rfl) (by rw [e2]; rfl) ?_
    refine w_t (np := 15) (l2 := [some (eR a0), some (eI (a1)), some (eI (a2)), some (eI (i7))]) (s2 := [eI (4), eR v1, eI (v14)]) rfl rfl rfl ?_
    refine w_t (np := 16) (l2 := [some (eR a0), some (eI (a1)), some (eI (a2)), some (eI (i7))]) (s2 := [eI (a1), eI (4), eR v1, eI (v14)]) rfl rfl rfl ?_
    obtain ⟨v17, e18⟩ : ∃ zz : Int, zz = (4) * (a1) := ⟨_, rfl⟩
    have b19 : 0 ≤ v17 ∧ v17 ≤ 10676 := by omega
    refine w_t (np := 17) (l2 := [some (eR a0), some (eI (a1)), some (eI (a2)), some (eI (i7))]) (s2 := [eI (v17), eR v1, eI (v14)]) rfl (b_imul (by rw [← e18]; exact ev_w_in (by omega) (by omega))) rfl ?_
    refine j_al (np := 18) rfl rfl hI b3 (by decide) (n := 10680) rfl rfl (lo := -2147483648) (hi := 2147483647) (fun _ => rfl) (by omega) (by omega) ?_
    intro v20 e21 b22
    obtain ⟨v23, e24, b25⟩ : ∃ zz : Int, ev_w ((v14) - (v20)) = zz ∧ (-2147483648 ≤ zz ∧ zz ≤ 2147483647) := ⟨_, rfl, hw_bd _⟩
    refine w_t (np := 19) (l2 := [some (eR a0), some (eI (a1)), some (eI (a2)), some (eI (i7))]) (s2 := [eI (v23)]) rfl (b_isub e24) rfl ?_
    refine w_t (np := 20) (l2 := [some (eR a0), some (eI (a1)), some (eI (a2)), some (eI (i7))]) (s2 := [eI (i7), eI (v23)]) rfl rfl rfl ?_
    refine w_t (np := 21) (l2 := [some (eR a0), some (eI (a1)), some (eI (a2)), some (eI (i7))]) (s2 := [eI (0), eI (i7), eI (v23)]) rfl rfl rfl ?_
    refine w_cu (np := 24) (as := [eI (i7), eI (0)]) (l2 := [some (eI (i7)), some (eI (0))]) (rest := [eI (v23)]) rfl rfl rfl (Nat.ble_eq.mp rfl) rfl rfl rfl rfl ?_
    refine s_218e (a0 := i7) (a1 := 0) hI (by omega) (by decide) ?_
    intro v26 b27 h28
    show ex_q (dt_fg L ρ) rc (d + 2, (249, 24, [some (eR a0), some (eI (a1)), some (eI (a2)), some (eI (i7))], [eI (v26), eI (v23)]), f :: F, μ)
    refine b_cne (t1 := 114) (t2 := 27) rfl rfl rfl (ev_w_in (by omega) (by omega)) (ev_w_in (by omega) (by omega)) (fun g29 => ?_) (fun g29 => ?_)
    · obtain ⟨v30, e31⟩ : ∃ zz : Int, zz = (i7) + (1) := ⟨_, rfl⟩
      have b32 : 1 ≤ v30 ∧ v30 ≤ 10 := by omega
      refine w_t (np := 117) (l2 := [some (eR a0), some (eI (a1)), some (eI (a2)), some (eI (v30))]) (s2 := []) rfl (b_iinc rfl (by rw [← e31]; exact ev_w_in (by omega) (by omega)) rfl) rfl ?_
      refine w_go (t1 := 2) rfl rfl ?_
      have h33 := dm_n (i1 := v17) (i2 := v11) 0 hDr (by decide) (by omega) (by omega) (by omega) (by omega) e15 e21 e24 h28 (by omega) r9
      exact ih6 (10 - (v30)).toNat (by omega) (v30) (by omega)    (by omega) rfl
    · have b30 : -1 ≤ v23 ∧ v23 ≤ 1 := by omega
      refine w_t (np := 28) (l2 := [some (eR a0), some (eI (a1)), some (eI (a2)), some (eI (i7))]) (s2 := [eR a0]) rfl (s_an rfl (pos_g hI gA0 (by decide))) rfl ?_
      refine w_gf (np := 31) (v := eR v1) rfl rfl (hI.kd gA0 (by decide) (n := 69) rfl) (by rw [e2]; rfl) ?_
      refine w_t (np := 32) (l2 := [some (eR a0), some (eI (a1)), some (eI (a2)), some (eI (i7))]) (s2 := [eI (4), eR v1]) rfl rfl rfl ?_
      refine w_t (np := 33) (l2 := [some (eR a0), some (eI (a1)), some (eI (a2)), some (eI (i7))]) (s2 := [eI (a2), eI (4), eR v1]) rfl rfl rfl ?_
      obtain ⟨v30, e31⟩ : ∃ zz : Int, zz = (4) * (a2) := ⟨_, rfl⟩
      have b32 : 0 ≤ v30 ∧ v30 ≤ 10676 := by omega
      refine w_t (np := 34) (l2 := [some (eR a0), some (eI (a1)), some (eI (a2)), some (eI (i7))]) (s2 := [eI (v30), eR v1]) rfl (b_imul (by rw [← e31]; exact ev_w_in (by omega) (by omega))) rfl ?_
      refine w_t (np := 35) (l2 := [some (eR a0), some (eI (a1)), some (eI (a2)), some (eI (i7))]) (s2 := [eI (1), eI (v30), eR v1]) rfl rfl rfl ?_
      obtain ⟨v33, e34⟩ : ∃ zz : Int, zz = (v30) + (1) := ⟨_, rfl⟩
      have b35 : 1 ≤ v33 ∧ v33 ≤ 10677 := by omega
      refine w_t (np := 36) (l2 := [some (eR a0), some (eI (a1)), some (eI (a2)), some (eI (i7))]) (s2 := [eI (v33), eR v1]) rfl (b_iadd (by rw [← e34]; exact ev_w_in (by omega) (by omega))) rfl ?_
      refine j_al (np := 37) rfl rfl hI b3 (by decide) (n := 10680) rfl rfl (lo := -2147483648) (hi := 2147483647) (fun _ => rfl) (by omega) (by omega) ?_
      intro v36 e37 b38
      refine w_t (np := 38) (l2 := [some (eR a0), some (eI (a1)), some (eI (a2)), some (eI (i7))]) (s2 := [eR a0, eI (v36)]) rfl (s_an rfl (pos_g hI gA0 (by decide))) rfl ?_
      refine w_gf (np := 41) (v := eR v1) rfl rfl (hI.kd gA0 (by decide) (n := 69) rfl) (by rw [e2]; rfl) ?_
      refine w_t (np := 42) (l2 := [some (eR a0), some (eI (a1)), some (eI (a2)), some (eI (i7))]) (s2 := [eI (4), eR v1, eI (v36)]) rfl rfl rfl ?_
      refine w_t (np := 43) (l2 := [some (eR a0), some (eI (a1)), some (eI (a2)), some (eI (i7))]) (s2 := [eI (a1), eI (4), eR v1, eI (v36)]) rfl rfl rfl ?_
      obtain ⟨v39, e40⟩ : ∃ zz : Int, zz = (4) * (a1) := ⟨_, rfl⟩
      have b41 : 0 ≤ v39 ∧ v39 ≤ 10676 := by omega
      refine w_t (np := 44) (l2 := [some (eR a0), some (eI (a1)), some (eI (a2)), some (eI (i7))]) (s2 := [eI (v39), eR v1, eI (v36)]) rfl (b_imul (by rw [← e40]; exact ev_w_in (by omega) (by omega))) rfl ?_
      refine w_t (np := 45) (l2 := [some (eR a0), some (eI (a1)), some (eI (a2)), some (eI (i7))]) (s2 := [eI (1), eI (v39), eR v1, eI (v36)]) rfl rfl rfl ?_
      obtain ⟨v42, e43⟩ : ∃ zz : Int, zz = (v39) + (1) := ⟨_, rfl⟩
      have b44 : 1 ≤ v42 ∧ v42 ≤ 10677 := by omega
      refine w_t (np := 46) (l2 := [some (eR a0), some (eI (a1)), some (eI (a2)), some (eI (i7))]) (s2 := [eI (v42), eR v1, eI (v36)]) rfl (b_iadd (by rw [← e43]; exact ev_w_in (by omega) (by omega))) rfl ?_
      refine j_al (np := 47) rfl rfl hI b3 (by decide) (n := 10680) rfl rfl (lo := -2147483648) (hi := 2147483647) (fun _ => rfl) (by omega) (by omega) ?_
      intro v45 e46 b47
      obtain ⟨v48, e49, b50⟩ : ∃ zz : Int, ev_w ((v36) - (v45)) = zz ∧ (-2147483648 ≤ zz ∧ zz ≤ 2147483647) := ⟨_, rfl, hw_bd _⟩
      refine w_t (np := 48) (l2 := [some (eR a0), some (eI (a1)), some (eI (a2)), some (eI (i7))]) (s2 := [eI (v48)]) rfl (b_isub e49) rfl ?_
      refine w_t (np := 49) (l2 := [some (eR a0), some (eI (a1)), some (eI (a2)), some (eI (i7))]) (s2 := [eI (i7), eI (v48)]) rfl rfl rfl ?_
      refine w_t (np := 50) (l2 := [some (eR a0), some (eI (a1)), some (eI (a2)), some (eI (i7))]) (s2 := [eI (1), eI (i7), eI (v48)]) rfl rfl rfl ?_
      refine w_cu (np := 53) (as := [eI (i7), eI (1)]) (l2 := [some (eI (i7)), some (eI (1))]) (rest := [eI (v48)]) rfl rfl rfl (Nat.ble_eq.mp rfl) rfl rfl rfl rfl ?_
      refine s_218e (a0 := i7) (a1 := 1) hI (by omega) (by decide) ?_
      intro v51 b52 h53
      show ex_q (dt_fg L ρ) rc (d + 2, (249, 53, [some (eR a0), some (eI (a1)), some (eI (a2)), some (eI (i7))], [eI (v51), eI (v48)]), f :: F, μ)
      refine b_cne (t1 := 114) (t2 := 56) rfl rfl rfl (ev_w_in (by omega) (by omega)) (ev_w_in (by omega) (by omega)) (fun g54 => ?_) (fun g54 => ?_)
      · obtain ⟨v55, e56⟩ : ∃ zz : Int, zz = (i7) + (1) := ⟨_, rfl⟩
        have b57 : 1 ≤ v55 ∧ v55 ≤ 10 := by omega
        refine w_t (np := 117) (l2 := [some (eR a0), some (eI (a1)), some (eI (a2)), some (eI (v55))]) (s2 := []) rfl (b_iinc rfl (by rw [← e56]; exact ev_w_in (by omega) (by omega)) rfl) rfl ?_
        refine w_go (t1 := 2) rfl rfl ?_
        have h58 := dm_n (i1 := v42) (i2 := v33) 1 hDr (by decide) (by omega) (by omega) (by omega) (by omega) e37 e46 e49 h53 (by omega) r9
        exact ih6 (10 - (v55)).toNat (by omega) (v55) (by omega)    (by omega) rfl
      · have b55 : -1 ≤ v48 ∧ v48 ≤ 1 := by omega
        refine w_t (np := 57) (l2 := [some (eR a0), some (eI (a1)), some (eI (a2)), some (eI (i7))]) (s2 := [eR a0]) rfl (s_an rfl (pos_g hI gA0 (by decide))) rfl ?_
        refine w_gf (np := 60) (v := eR v1) rfl rfl (hI.kd gA0 (by decide) (n := 69) rfl) (by rw [e2]; rfl) ?_
        refine w_t (np := 61) (l2 := [some (eR a0), some (eI (a1)), some (eI (a2)), some (eI (i7))]) (s2 := [eI (4), eR v1]) rfl rfl rfl ?_
        refine w_t (np := 62) (l2 := [some (eR a0), some (eI (a1)), some (eI (a2)), some (eI (i7))]) (s2 := [eI (a2), eI (4), eR v1]) rfl rfl rfl ?_
        obtain ⟨v55, e56⟩ : ∃ zz : Int, zz = (4) * (a2) := ⟨_, rfl⟩
        have b57 : 0 ≤ v55 ∧ v55 ≤ 10676 := by omega
        refine w_t (np := 63) (l2 := [some (eR a0), some (eI (a1)), some (eI (a2)), some (eI (i7))]) (s2 := [eI (v55), eR v1]) rfl (b_imul (by rw [← e56]; exact ev_w_in (by omega) (by omega))) rfl ?_
        refine w_t (np := 64) (l2 := [some (eR a0), some (eI (a1)), some (eI (a2)), some (eI (i7))]) (s2 := [eI (2), eI (v55), eR v1]) rfl rfl rfl ?_
        obtain ⟨v58, e59⟩ : ∃ zz : Int, zz = (v55) + (2) := ⟨_, rfl⟩
        have b60 : 2 ≤ v58 ∧ v58 ≤ 10678 := by omega
        refine w_t (np := 65) (l2 := [some (eR a0), some (eI (a1)), some (eI (a2)), some (eI (i7))]) (s2 := [eI (v58), eR v1]) rfl (b_iadd (by rw [← e59]; exact ev_w_in (by omega) (by omega))) rfl ?_
        refine j_al (np := 66) rfl rfl hI b3 (by decide) (n := 10680) rfl rfl (lo := -2147483648) (hi := 2147483647) (fun _ => rfl) (by omega) (by omega) ?_
        intro v61 e62 b63
        refine w_t (np := 67) (l2 := [some (eR a0), some (eI (a1)), some (eI (a2)), some (eI (i7))]) (s2 := [eR a0, eI (v61)]) rfl (s_an rfl (pos_g hI gA0 (by decide))) rfl ?_
        refine w_gf (np := 70) (v := eR v1) rfl rfl (hI.kd gA0 (by decide) (n := 69) rfl) (by rw [e2]; rfl) ?_
        refine w_t (np := 71) (l2 := [some (eR a0), some (eI (a1)), some (eI (a2)), some (eI (i7))]) (s2 := [eI (4), eR v1, eI (v61)]) rfl rfl rfl ?_
        refine w_t (np := 72) (l2 := [some (eR a0), some (eI (a1)), some (eI (a2)), some (eI (i7))]) (s2 := [eI (a1), eI (4), eR v1, eI (v61)]) rfl rfl rfl ?_
        obtain ⟨v64, e65⟩ : ∃ zz : Int, zz = (4) * (a1) := ⟨_, rfl⟩
        have b66 : 0 ≤ v64 ∧ v64 ≤ 10676 := by omega
        refine w_t (np := 73) (l2 := [some (eR a0), some (eI (a1)), some (eI (a2)), some (eI (i7))]) (s2 := [eI (v64), eR v1, eI (v61)]) rfl (b_imul (by rw [← e65]; exact ev_w_in (by omega) (by omega))) rfl ?_
        refine w_t (np := 74) (l2 := [some (eR a0), some (eI (a1)), some (eI (a2)), some (eI (i7))]) (s2 := [eI (2), eI (v64), eR v1, eI (v61)]) rfl rfl rfl ?_
        obtain ⟨v67, e68⟩ : ∃ zz : Int, zz = (v64) + (2) := ⟨_, rfl⟩
        have b69 : 2 ≤ v67 ∧ v67 ≤ 10678 := by omega
        refine w_t (np := 75) (l2 := [some (eR a0), some (eI (a1)), some (eI (a2)), some (eI (i7))]) (s2 := [eI (v67), eR v1, eI (v61)]) rfl (b_iadd (by rw [← e68]; exact ev_w_in (by omega) (by omega))) rfl ?_
        refine j_al (np := 76) rfl rfl hI b3 (by decide) (n := 10680) rfl rfl (lo := -2147483648) (hi := 2147483647) (fun _ => rfl) (by omega) (by omega) ?_
        intro v70 e71 b72
        obtain ⟨v73, e74, b75⟩ : ∃ zz : Int, ev_w ((v61) - (v70)) = zz ∧ (-2147483648 ≤ zz ∧ zz ≤ 2147483647) := ⟨_, rfl, hw_bd _⟩
        refine w_t (np := 77) (l2 := [some (eR a0), some (eI (a1)), some (eI (a2)), some (eI (i7))]) (s2 := [eI (v73)]) rfl (b_isub e74) rfl ?_
        refine w_t (np := 78) (l2 := [some (eR a0), some (eI (a1)), some (eI (a2)), some (eI (i7))]) (s2 := [eI (i7), eI (v73)]) rfl rfl rfl ?_
        refine w_t (np := 79) (l2 := [some (eR a0), some (eI (a1)), some (eI (a2)), some (eI (i7))]) (s2 := [eI (2), eI (i7), eI (v73)]) rfl rfl rfl ?_
        refine w_cu (np := 82) (as := [eI (i7), eI (2)]) (l2 := [some (eI (i7)), some (eI (2))]) (rest := [eI (v73)]) rfl rfl rfl (Nat.ble_eq.mp rfl) rfl rfl rfl rfl ?_
        refine s_218e (a0 := i7) (a1 := 2) hI (by omega) (by decide) ?_
        intro v76 b77 h78
        show ex_q (dt_fg L ρ) rc (d + 2, (249, 82, [some (eR a0), some (eI (a1)), some (eI (a2)), some (eI (i7))], [eI (v76), eI (v73)]), f :: F, μ)
        refine b_cne (t1 := 114) (t2 := 85) rfl rfl rfl (ev_w_in (by omega) (by omega)) (ev_w_in (by omega) (by omega)) (fun g79 => ?_) (fun g79 => ?_)
        · obtain ⟨v80, e81⟩ : ∃ zz : Int, zz = (i7) + (1) := ⟨_, rfl⟩
          have b82 : 1 ≤ v80 ∧ v80 ≤ 10 := by omega
          refine w_t (np := 117) (l2 := [some (eR a0), some (eI (a1)), some (eI (a2)), some (eI (v80))]) (s2 := []) rfl (b_iinc rfl (by rw [← e81]; exact ev_w_in (by omega) (by omega)) rfl) rfl ?_
          refine w_go (t1 := 2) rfl rfl ?_
          have h83 := dm_n (i1 := v67) (i2 := v58) 2 hDr (by decide) (by omega) (by omega) (by omega) (by omega) e62 e71 e74 h78 (by omega) r9
          exact ih6 (10 - (v80)).toNat (by omega) (v80) (by omega)    (by omega) rfl
        · have b80 : -1 ≤ v73 ∧ v73 ≤ 1 := by omega
          refine w_t (np := 86) (l2 := [some (eR a0), some (eI (a1)), some (eI (a2)), some (eI (i7))]) (s2 := [eR a0]) rfl (s_an rfl (pos_g hI gA0 (by decide))) rfl ?_
          refine w_gf (np := 89) (v := eR v1) rfl rfl (hI.kd gA0 (by decide) (n := 69) rfl) (by rw [e2]; rfl) ?_
          refine w_t (np := 90) (l2 := [some (eR a0), some (eI (a1)), some (eI (a2)), some (eI (i7))]) (s2 := [eI (4), eR v1]) rfl rfl rfl ?_
          refine w_t (np := 91) (l2 := [some (eR a0), some (eI (a1)), some (eI (a2)), some (eI (i7))]) (s2 := [eI (a2), eI (4), eR v1]) rfl rfl rfl ?_
          obtain ⟨v80, e81⟩ : ∃ zz : Int, zz = (4) * (a2) := ⟨_, rfl⟩
          have b82 : 0 ≤ v80 ∧ v80 ≤ 10676 := by omega
          refine w_t (np := 92) (l2 := [some (eR a0), some (eI (a1)), some (eI (a2)), some (eI (i7))]) (s2 := [eI (v80), eR v1]) rfl (b_imul (by rw [← e81]; exact ev_w_in (by omega) (by omega))) rfl ?_
          refine w_t (np := 93) (l2 := [some (eR a0), some (eI (a1)), some (eI (a2)), some (eI (i7))]) (s2 := [eI (3), eI (v80), eR v1]) rfl rfl rfl ?_
          obtain ⟨v83, e84⟩ : ∃ zz : Int, zz = (v80) + (3) := ⟨_, rfl⟩
          have b85 : 3 ≤ v83 ∧ v83 ≤ 10679 := by omega
          refine w_t (np := 94) (l2 := [some (eR a0), some (eI (a1)), some (eI (a2)), some (eI (i7))]) (s2 := [eI (v83), eR v1]) rfl (b_iadd (by rw [← e84]; exact ev_w_in (by omega) (by omega))) rfl ?_
          refine j_al (np := 95) rfl rfl hI b3 (by decide) (n := 10680) rfl rfl (lo := -2147483648) (hi := 2147483647) (fun _ => rfl) (by omega) (by omega) ?_
          intro v86 e87 b88
          refine w_t (np := 96) (l2 := [some (eR a0), some (eI (a1)), some (eI (a2)), some (eI (i7))]) (s2 := [eR a0, eI (v86)]) rfl (s_an rfl (pos_g hI gA0 (by decide))) rfl ?_
          refine w_gf (np := 99) (v := eR v1) rfl rfl (hI.kd gA0 (by decide) (n := 69) rfl) (by rw [e2]; rfl) ?_
          refine w_t (np := 100) (l2 := [some (eR a0), some (eI (a1)), some (eI (a2)), some (eI (i7))]) (s2 := [eI (4), eR v1, eI (v86)]) rfl rfl rfl ?_
          refine w_t (np := 101) (l2 := [some (eR a0), some (eI (a1)), some (eI (a2)), some (eI (i7))]) (s2 := [eI (a1), eI (4), eR v1, eI (v86)]) rfl rfl rfl ?_
          obtain ⟨v89, e90⟩ : ∃ zz : Int, zz = (4) * (a1) := ⟨_, rfl⟩
          have b91 : 0 ≤ v89 ∧ v89 ≤ 10676 := by omega
          refine w_t (np := 102) (l2 := [some (eR a0), some (eI (a1)), some (eI (a2)), some (eI (i7))]) (s2 := [eI (v89), eR v1, eI (v86)]) rfl (b_imul (by rw [← e90]; exact ev_w_in (by omega) (by omega))) rfl ?_
          refine w_t (np := 103) (l2 := [some (eR a0), some (eI (a1)), some (eI (a2)), some (eI (i7))]) (s2 := [eI (3), eI (v89), eR v1, eI (v86)]) rfl rfl rfl ?_
          obtain ⟨v92, e93⟩ : ∃ zz : Int, zz = (v89) + (3) := ⟨_, rfl⟩
          have b94 : 3 ≤ v92 ∧ v92 ≤ 10679 := by omega
          refine w_t (np := 104) (l2 := [some (eR a0), some (eI (a1)), some (eI (a2)), some (eI (i7))]) (s2 := [eI (v92), eR v1, eI (v86)]) rfl (b_iadd (by rw [← e93]; exact ev_w_in (by omega) (by omega))) rfl ?_
          refine j_al (np := 105) rfl rfl hI b3 (by decide) (n := 10680) rfl rfl (lo := -2147483648) (hi := 2147483647) (fun _ => rfl) (by omega) (by omega) ?_
          intro v95 e96 b97
          obtain ⟨v98, e99, b100⟩ : ∃ zz : Int, ev_w ((v86) - (v95)) = zz ∧ (-2147483648 ≤ zz ∧ zz ≤ 2147483647) := ⟨_, rfl, hw_bd _⟩
          refine w_t (np := 106) (l2 := [some (eR a0), some (eI (a1)), some (eI (a2)), some (eI (i7))]) (s2 := [eI (v98)]) rfl (b_isub e99) rfl ?_
          refine w_t (np := 107) (l2 := [some (eR a0), some (eI (a1)), some (eI (a2)), some (eI (i7))]) (s2 := [eI (i7), eI (v98)]) rfl rfl rfl ?_
          refine w_t (np := 108) (l2 := [some (eR a0), some (eI (a1)), some (eI (a2)), some (eI (i7))]) (s2 := [eI (3), eI (i7), eI (v98)]) rfl rfl rfl ?_
          refine w_cu (np := 111) (as := [eI (i7), eI (3)]) (l2 := [some (eI (i7)), some (eI (3))]) (rest := [eI (v98)]) rfl rfl rfl (Nat.ble_eq.mp rfl) rfl rfl rfl rfl ?_
          refine s_218e (a0 := i7) (a1 := 3) hI (by omega) (by decide) ?_
          intro v101 b102 h103
          show ex_q (dt_fg L ρ) rc (d + 2, (249, 111, [some (eR a0), some (eI (a1)), some (eI (a2)), some (eI (i7))], [eI (v101), eI (v98)]), f :: F, μ)
          refine b_ceq (t1 := 120) (t2 := 114) rfl rfl rfl (ev_w_in (by omega) (by omega)) (ev_w_in (by omega) (by omega)) (fun g104 => ?_) (fun g104 => ?_)
          · have b105 : -1 ≤ v98 ∧ v98 ≤ 1 := by omega
            refine w_t (np := 121) (l2 := [some (eR a0), some (eI (a1)), some (eI (a2)), some (eI (i7))]) (s2 := [eI (i7)]) rfl rfl rfl ?_
            exact b_ri rfl rfl (K (i7) (by omega))
          · obtain ⟨v105, e106⟩ : ∃ zz : Int, zz = (i7) + (1) := ⟨_, rfl⟩
            have b107 : 1 ≤ v105 ∧ v105 ≤ 10 := by omega
            refine w_t (np := 117) (l2 := [some (eR a0), some (eI (a1)), some (eI (a2)), some (eI (v105))]) (s2 := []) rfl (b_iinc rfl (by rw [← e106]; exact ev_w_in (by omega) (by omega)) rfl) rfl ?_
            refine w_go (t1 := 2) rfl rfl ?_
            have h108 := dm_n (i1 := v92) (i2 := v83) 3 hDr (by decide) (by omega) (by omega) (by omega) (by omega) e87 e96 e99 h103 (by omega) r9
            exact ih6 (10 - (v105)).toNat (by omega) (v105) (by omega)    (by omega) rfl
  exact hL2 _ (0) (by decide)    (by omega) rfl
theorem s_288 {L : Nat} {ρ : Nat → Int} {rc : eQ} {d : Nat} {f : eFr} {F : List eFr} {μ : eM} {g : Nat → Nat} {a0 : Nat} {a1 : Int} {a2 : Int} {a3 : Int} {ha : Int} (hI : SI g μ) (gA0 : g a0 = 52) (bA1 : 0 ≤ a1 ∧ a1 ≤ 889) (bA2 : 0 ≤ a2 ∧ a2 ≤ 1) (bA3 : -2147483648 ≤ a3 ∧ a3 ≤ 2147483647) (h_ha : μ.1 a0 8 = ha) (h_LG : LG g μ) (hp0 : a1 < ha) (K : ∀ (v : Int), (0 ≤ v ∧ v ≤ 1) → ex_q (dt_fg L ρ) rc (d + 4, (f.1, f.2.1, f.2.2.1, eI v :: f.2.2.2), F, μ)) : ex_q (dt_fg L ρ) rc (d + 3, (288, 0, [some (eR a0), some (eI (a1)), some (eI (a2)), some (eI (a3))], []), f :: F, μ) := by
  have b_ha : 0 ≤ ha ∧ ha ≤ 890 := by
    rw [← h_ha]
    exact hI.int gA0 (by decide) (n := 69) rfl (by decide) rfl
  refine w_t (np := 1) (l2 := [some (eR a0), some (eI (a1)), some (eI (a2)), some (eI (a3))]) (s2 := [eR a0]) rfl (s_an rfl (pos_g hI gA0 (by decide))) rfl ?_
  refine w_t (np := 2) (l2 := [some (eR a0), some (eI (a1)), some (eI (a2)), some (eI (a3))]) (s2 := [eR a0, eR a0]) rfl (s_an rfl (pos_g hI gA0 (by decide))) rfl ?_
  refine w_t (np := 3) (l2 := [some (eR a0), some (eI (a1)), some (eI (a2)), some (eI (a3))]) (s2 := [eI (a1), eR a0, eR a0]) rfl rfl rfl ?_
  refine w_t (np := 4) (l2 := [some (eR a0), some (eI (a1)), some (eI (a2)), some (eI (a3))]) (s2 := [eI (0), eI (a1), eR a0, eR a0]) rfl rfl rfl ?_
  refine w_cw (np := 7) (as := [eI (a1), eI (0)]) (l2 := [some (eR a0), some (eI (a1)), some (eI (0))]) (rest := [eR a0]) rfl rfl rfl (Nat.ble_eq.mp rfl) rfl rfl rfl (hI.kd gA0 (by decide) (n := 69) rfl) rfl ?_
  refine w_t (np := 1) (l2 := [some (eR a0), some (eI (a1)), some (eI (0))]) (s2 := [eR a0]) rfl (s_an rfl (pos_g hI gA0 (by decide))) rfl ?_
  refine j_gr (np := 4) rfl rfl hI gA0 (by decide) (n := 69) rfl rfl rfl ?_
  intro v1 e2 b3 z4
  have b3 : g v1 = 64 := Nat.eq_of_beq_eq_true b3
  refine w_t (np := 5) (l2 := [some (eR a0), some (eI (a1)), some (eI (0))]) (s2 := [eI (3), eR v1]) rfl rfl rfl ?_
  refine w_t (np := 6) (l2 := [some (eR a0), some (eI (a1)), some (eI (0))]) (s2 := [eI (a1), eI (3), eR v1]) rfl rfl rfl ?_
  obtain ⟨v5, e6⟩ : ∃ zz : Int, zz = (3) * (a1) := ⟨_, rfl⟩
  have b7 : 0 ≤ v5 ∧ v5 ≤ 2667 := by omega
  refine w_t (np := 7) (l2 := [some (eR a0), some (eI (a1)), some (eI (0))]) (s2 := [eI (v5), eR v1]) rfl (b_imul (by rw [← e6]; exact ev_w_in (by omega) (by omega))) rfl ?_
  refine w_t (np := 8) (l2 := [some (eR a0), some (eI (a1)), some (eI (0))]) (s2 := [eI (0), eI (v5), eR v1]) rfl rfl rfl ?_
  refine w_t (np := 9) (l2 := [some (eR a0), some (eI (a1)), some (eI (0))]) (s2 := [eI (v5), eR v1]) rfl (b_iadd (by rw [Int.add_zero]; exact ev_w_in (by omega) (by omega))) rfl ?_
  refine j_al (np := 10) rfl rfl hI b3 (by decide) (n := 2670) rfl rfl (lo := 0) (hi := 2669) (fun _ => rfl) (by omega) (by omega) ?_
  intro v8 e9 b10
  refine b_ri rfl rfl ?_
  show ex_q (dt_fg L ρ) rc (d + 3, (288, 7, [some (eR a0), some (eI (a1)), some (eI (a2)), some (eI (a3))], [eI (v8), eR a0]), f :: F, μ)
  refine w_t (np := 8) (l2 := [some (eR a0), some (eI (a1)), some (eI (a2)), some (eI (a3))]) (s2 := [eR a0, eI (v8), eR a0]) rfl (s_an rfl (pos_g hI gA0 (by decide))) rfl ?_
  refine w_t (np := 9) (l2 := [some (eR a0), some (eI (a1)), some (eI (a2)), some (eI (a3))]) (s2 := [eI (a1), eR a0, eI (v8), eR a0]) rfl rfl rfl ?_
  refine w_t (np := 10) (l2 := [some (eR a0), some (eI (a1)), some (eI (a2)), some (eI (a3))]) (s2 := [eI (a2), eI (a1), eR a0, eI (v8), eR a0]) rfl rfl rfl ?_
  refine b_ieq (t1 := 17) (t2 := 13) rfl rfl rfl (ev_w_in (by omega) (by omega)) (fun g11 => ?_) (fun g11 => ?_)
  · have b12 : 0 ≤ a2 ∧ a2 ≤ 0 := by omega
    refine w_t (np := 18) (l2 := [some (eR a0), some (eI (a1)), some (eI (a2)), some (eI (a3))]) (s2 := [eI (2), eI (a1), eR a0, eI (v8), eR a0]) rfl rfl rfl ?_
    refine w_cw (np := 21) (as := [eI (a1), eI (2)]) (l2 := [some (eR a0), some (eI (a1)), some (eI (2))]) (rest := [eI (v8), eR a0]) rfl rfl rfl (Nat.ble_eq.mp rfl) rfl rfl rfl (hI.kd gA0 (by decide) (n := 69) rfl) rfl ?_
    refine w_t (np := 1) (l2 := [some (eR a0), some (eI (a1)), some (eI (2))]) (s2 := [eR a0]) rfl (s_an rfl (pos_g hI gA0 (by decide))) rfl ?_
    refine w_gf (np := 4) (v := eR v1) rfl rfl (hI.kd gA0 (by decide) (n := 69) rfl) (by rw [e2]; rfl) ?_
    refine w_t (np := 5) (l2 := [some (eR a0), some (eI (a1)), some (eI (2))]) (s2 := [eI (3), eR v1]) rfl rfl rfl ?_
    refine w_t (np := 6) (l2 := [some (eR a0), some (eI (a1)), some (eI (2))]) (s2 := [eI (a1), eI (3), eR v1]) rfl rfl rfl ?_
    obtain ⟨v12, e13⟩ : ∃ zz : Int, zz = (3) * (a1) := ⟨_, rfl⟩
    have b14 : 0 ≤ v12 ∧ v12 ≤ 2667 := by omega
    refine w_t (np := 7) (l2 := [some (eR a0), some (eI (a1)), some (eI (2))]) (s2 := [eI (v12), eR v1]) rfl (b_imul (by rw [← e13]; exact ev_w_in (by omega) (by omega))) rfl ?_
    refine w_t (np := 8) (l2 := [some (eR a0), some (eI (a1)), some (eI (2))]) (s2 := [eI (2), eI (v12), eR v1]) rfl rfl rfl ?_
    obtain ⟨v15, e16⟩ : ∃ zz : Int, zz = (v12) + (2) := ⟨_, rfl⟩
    have b17 : 2 ≤ v15 ∧ v15 ≤ 2669 := by omega
    refine w_t (np := 9) (l2 := [some (eR a0), some (eI (a1)), some (eI (2))]) (s2 := [eI (v15), eR v1]) rfl (b_iadd (by rw [← e16]; exact ev_w_in (by omega) (by omega))) rfl ?_
    refine j_al (np := 10) rfl rfl hI b3 (by decide) (n := 2670) rfl rfl (lo := 0) (hi := 2669) (fun _ => rfl) (by omega) (by omega) ?_
    intro v18 e19 b20
    refine b_ri rfl rfl ?_
    show ex_q (dt_fg L ρ) rc (d + 3, (288, 21, [some (eR a0), some (eI (a1)), some (eI (a2)), some (eI (a3))], [eI (v18), eI (v8), eR a0]), f :: F, μ)
    obtain ⟨D21, h22⟩ := LG.d (i := a1) (c := (v15) - 3 * (a1)) (v0 := v5) (v1 := v15) hI h_LG gA0 b3 h_ha (by omega) (by omega) e9 (by omega) (by omega) e19
    refine w_cw (np := 24) (as := [eI (v8), eI (v18)]) (l2 := [some (eR a0), some (eI (v8)), some (eI (v18)), none]) (rest := []) rfl rfl rfl (Nat.ble_eq.mp rfl) rfl rfl rfl (hI.kd gA0 (by decide) (n := 69) rfl) rfl ?_
    refine s_249 (a1 := v8) (a2 := v18) hI gA0 (by omega) (by omega) h22 ?_
    intro v23 b24
    show ex_q (dt_fg L ρ) rc (d + 3, (288, 24, [some (eR a0), some (eI (a1)), some (eI (a2)), some (eI (a3))], [eI (v23)]), f :: F, μ)
    refine w_t (np := 25) (l2 := [some (eR a0), some (eI (a1)), some (eI (a2)), some (eI (a3))]) (s2 := [eI (5), eI (v23)]) rfl rfl rfl ?_
    obtain ⟨v25, e26, b27⟩ := h_irem (a := v23) (k := 5) (by decide) (by decide) (show (-2147483648 : Int) ≤ v23 ∧ (v23 : Int) ≤ 2147483647 by omega)
    have b29 : v25 = (v23) % 5 := b27.1 (by omega)
    clear b27
    have b28 : 0 ≤ v25 ∧ v25 ≤ 4 := by omega
    refine w_t (np := 26) (l2 := [some (eR a0), some (eI (a1)), some (eI (a2)), some (eI (a3))]) (s2 := [eI (v25)]) rfl (e26 _ _) rfl ?_
    refine w_t (np := 27) (l2 := [some (eR a0), some (eI (a1)), some (eI (a2)), some (eI (a3))]) (s2 := [eI (a3), eI (v25)]) rfl rfl rfl ?_
    refine b_cne (t1 := 34) (t2 := 30) rfl rfl rfl (ev_w_in (by omega) (by omega)) (ev_w_in (by omega) (by omega)) (fun g30 => ?_) (fun g30 => ?_)
    · refine w_t (np := 35) (l2 := [some (eR a0), some (eI (a1)), some (eI (a2)), some (eI (a3))]) (s2 := [eI (0)]) rfl rfl rfl ?_
      exact b_rz rfl rfl (Or.inl rfl) (K (0) (by decide))
    · have b31 : 0 ≤ a3 ∧ a3 ≤ 4 := by omega
      refine w_t (np := 31) (l2 := [some (eR a0), some (eI (a1)), some (eI (a2)), some (eI (a3))]) (s2 := [eI (1)]) rfl rfl rfl ?_
      refine w_go (t1 := 35) rfl rfl ?_
      exact b_rz rfl rfl (Or.inr rfl) (K (1) (by decide))
  · have b12 : 1 ≤ a2 ∧ a2 ≤ 1 := by omega
    refine w_t (np := 14) (l2 := [some (eR a0), some (eI (a1)), some (eI (a2)), some (eI (a3))]) (s2 := [eI (1), eI (a1), eR a0, eI (v8), eR a0]) rfl rfl rfl ?_
    refine w_go (t1 := 18) rfl rfl ?_
    refine w_cw (np := 21) (as := [eI (a1), eI (1)]) (l2 := [some (eR a0), some (eI (a1)), some (eI (1))]) (rest := [eI (v8), eR a0]) rfl rfl rfl (Nat.ble_eq.mp rfl) rfl rfl rfl (hI.kd gA0 (by decide) (n := 69) rfl) rfl ?_
    refine w_t (np := 1) (l2 := [some (eR a0), some (eI (a1)), some (eI (1))]) (s2 := [eR a0]) rfl (s_an rfl (pos_g hI gA0 (by decide))) rfl ?_
    refine w_gf (np := 4) (v := eR v1) rfl rfl (hI.kd gA0 (by decide) (n := 69) rfl) (by rw [e2]; rfl) ?_
    refine w_t (np := 5) (l2 := [some (eR a0), some (eI (a1)), some (eI (1))]) (s2 := [eI (3), eR v1]) rfl rfl rfl ?_
    refine w_t (np := 6) (l2 := [some (eR a0), some (eI (a1)), some (eI (1))]) (s2 := [eI (a1), eI (3), eR v1]) rfl rfl rfl ?_
    obtain ⟨v12, e13⟩ : ∃ zz : Int, zz = (3) * (a1) := ⟨_, rfl⟩
    have b14 : 0 ≤ v12 ∧ v12 ≤ 2667 := by omega
    refine w_t (np := 7) (l2 := [some (eR a0), some (eI (a1)), some (eI (1))]) (s2 := [eI (v12), eR v1]) rfl (b_imul (by rw [← e13]; exact ev_w_in (by omega) (by omega))) rfl ?_
    refine w_t (np := 8) (l2 := [some (eR a0), some (eI (a1)), some (eI (1))]) (s2 := [eI (1), eI (v12), eR v1]) rfl rfl rfl ?_
    obtain ⟨v15, e16⟩ : ∃ zz : Int, zz = (v12) + (1) := ⟨_, rfl⟩
    have b17 : 1 ≤ v15 ∧ v15 ≤ 2668 := by omega
    refine w_t (np := 9) (l2 := [some (eR a0), some (eI (a1)), some (eI (1))]) (s2 := [eI (v15), eR v1]) rfl (b_iadd (by rw [← e16]; exact ev_w_in (by omega) (by omega))) rfl ?_
    refine j_al (np := 10) rfl rfl hI b3 (by decide) (n := 2670) rfl rfl (lo := 0) (hi := 2669) (fun _ => rfl) (by omega) (by omega) ?_
    intro v18 e19 b20
    refine b_ri rfl rfl ?_
    show ex_q (dt_fg L ρ) rc (d + 3, (288, 21, [some (eR a0), some (eI (a1)), some (eI (a2)), some (eI (a3))], [eI (v18), eI (v8), eR a0]), f :: F, μ)
    obtain ⟨D21, h22⟩ := LG.d (i := a1) (c := (v15) - 3 * (a1)) (v0 := v5) (v1 := v15) hI h_LG gA0 b3 h_ha (by omega) (by omega) e9 (by omega) (by omega) e19
    refine w_cw (np := 24) (as := [eI (v8), eI (v18)]) (l2 := [some (eR a0), some (eI (v8)), some (eI (v18)), none]) (rest := []) rfl rfl rfl (Nat.ble_eq.mp rfl) rfl rfl rfl (hI.kd gA0 (by decide) (n := 69) rfl) rfl ?_
    refine s_249 (a1 := v8) (a2 := v18) hI gA0 (by omega) (by omega) h22 ?_
    intro v23 b24
    show ex_q (dt_fg L ρ) rc (d + 3, (288, 24, [some (eR a0), some (eI (a1)), some (eI (a2)), some (eI (a3))], [eI (v23)]), f :: F, μ)
    refine w_t (np := 25) (l2 := [some (eR a0), some (eI (a1)), some (eI (a2)), some (eI (a3))]) (s2 := [eI (5), eI (v23)]) rfl rfl rfl ?_
    obtain ⟨v25, e26, b27⟩ := h_irem (a := v23) (k := 5) (by decide) (by decide) (show (-2147483648 : Int) ≤ v23 ∧ (v23 : Int) ≤ 2147483647 by omega)
    have b29 : v25 = (v23) % 5 := b27.1 (by omega)
    clear b27
    have b28 : 0 ≤ v25 ∧ v25 ≤ 4 := by omega
    refine w_t (np := 26) (l2 := [some (eR a0), some (eI (a1)), some (eI (a2)), some (eI (a3))]) (s2 := [eI (v25)]) rfl (e26 _ _) rfl ?_
    refine w_t (np := 27) (l2 := [some (eR a0), some (eI (a1)), some (eI (a2)), some (eI (a3))]) (s2 := [eI (a3), eI (v25)]) rfl rfl rfl ?_
    refine b_cne (t1 := 34) (t2 := 30) rfl rfl rfl (ev_w_in (by omega) (by omega)) (ev_w_in (by omega) (by omega)) (fun g30 => ?_) (fun g30 => ?_)
    · refine w_t (np := 35) (l2 := [some (eR a0), some (eI (a1)), some (eI (a2)), some (eI (a3))]) (s2 := [eI (0)]) rfl rfl rfl ?_
      exact b_rz rfl rfl (Or.inl rfl) (K (0) (by decide))
    · have b31 : 0 ≤ a3 ∧ a3 ≤ 4 := by omega
      refine w_t (np := 31) (l2 := [some (eR a0), some (eI (a1)), some (eI (a2)), some (eI (a3))]) (s2 := [eI (1)]) rfl rfl rfl ?_
      refine w_go (t1 := 35) rfl rfl ?_
      exact b_rz rfl rfl (Or.inr rfl) (K (1) (by decide))
