/-! methods, walked -/
theorem s_80_2 {L : Nat} {ρ : Nat → Int} {rc : eQ} {d : Nat} {f : eFr} {F : List eFr} {μ : eM} {g : Nat → Nat} {a0 : Int} {a2 : Int} (hI : SI g μ) (bA0 : -9223372036854775808 ≤ a0 ∧ a0 ≤ 9223372036854775807) (bA2 : -2147483648 ≤ a2 ∧ a2 ≤ 2147483647) (K : ∀ (v : Int), (-2147483648 ≤ v ∧ v ≤ 2147483647) → ex_q (dt_fg L ρ) rc (d + 1, (f.1, f.2.1, f.2.2.1, eI v :: f.2.2.2), F, μ)) : ex_q (dt_fg L ρ) rc (d, (80, 0, [some (eJ (a0)), none, some (eI (a2)), some (eR 15), none, none, none], []), f :: F, μ) := by
  refine w_t (np := 2) (l2 := [some (eJ (a0)), none, some (eI (a2)), some (eR 15), none, none, none]) (s2 := [eI (10)]) rfl rfl rfl ?_
  refine w_t (np := 3) (l2 := [some (eJ (a0)), none, some (eI (a2)), some (eR 15), none, none, none]) (s2 := [eI (a2), eI (10)]) rfl rfl rfl ?_
  refine w_t (np := 5) (l2 := [some (eJ (a0)), none, some (eI (a2)), some (eR 15), none, none, none]) (s2 := [eI (10), eI (a2), eI (10)]) rfl rfl rfl ?_
  obtain ⟨v1, e2, b3⟩ := h_irem (a := a2) (k := 10) (by decide) (by decide) bA2
  have b4 : -9 ≤ v1 ∧ v1 ≤ 9 := by omega
  refine w_t (np := 6) (l2 := [some (eJ (a0)), none, some (eI (a2)), some (eR 15), none, none, none]) (s2 := [eI (v1), eI (10)]) rfl (e2 _ _) rfl ?_
  obtain ⟨v5, e6⟩ : ∃ zz : Int, zz = (10) - (v1) := ⟨_, rfl⟩
  have b7 : 1 ≤ v5 ∧ v5 ≤ 19 := by omega
  refine w_t (np := 7) (l2 := [some (eJ (a0)), none, some (eI (a2)), some (eR 15), none, none, none]) (s2 := [eI (v5)]) rfl (b_isub (by rw [← e6]; exact ev_w_in (by omega) (by omega))) rfl ?_
  refine w_t (np := 9) (l2 := [some (eJ (a0)), none, some (eI (a2)), some (eR 15), none, none, none]) (s2 := [eI (10), eI (v5)]) rfl rfl rfl ?_
  obtain ⟨v8, e9, b10⟩ := h_irem (a := v5) (k := 10) (by decide) (by decide) (show (-2147483648 : Int) ≤ v5 ∧ (v5 : Int) ≤ 2147483647 by omega)
  have b11 : 0 ≤ v8 ∧ v8 ≤ 9 := by omega
  refine w_t (np := 10) (l2 := [some (eJ (a0)), none, some (eI (a2)), some (eR 15), none, none, none]) (s2 := [eI (v8)]) rfl (e9 _ _) rfl ?_
  refine w_t (np := 12) (l2 := [some (eJ (a0)), none, some (eI (a2)), some (eR 15), some (eI (v8)), none, none]) (s2 := []) rfl rfl rfl ?_
  refine w_t (np := 13) (l2 := [some (eJ (a0)), none, some (eI (a2)), some (eR 15), some (eI (v8)), none, none]) (s2 := [eI (0)]) rfl rfl rfl ?_
  refine w_t (np := 15) (l2 := [some (eJ (a0)), none, some (eI (a2)), some (eR 15), some (eI (v8)), some (eI (0)), none]) (s2 := []) rfl rfl rfl ?_
  refine w_t (np := 16) (l2 := [some (eJ (a0)), none, some (eI (a2)), some (eR 15), some (eI (v8)), some (eI (0)), none]) (s2 := [eI (0)]) rfl rfl rfl ?_
  refine w_t (np := 18) (l2 := [some (eJ (a0)), none, some (eI (a2)), some (eR 15), some (eI (v8)), some (eI (0)), some (eI (0))]) (s2 := []) rfl rfl rfl ?_
  have hL18 : ∀ (n12 : Nat) (i14 : Int) (i16 : Int), (-2147483648 ≤ i14 ∧ i14 ≤ 2147483647) → (0 ≤ i16 ∧ i16 ≤ 4) → n12 = (4 - i16).toNat → ex_q (dt_fg L ρ) rc (d, (80, 18, [some (eJ (a0)), none, some (eI (a2)), some (eR 15), some (eI (v8)), some (eI (i14)), some (eI (i16))], []), f :: F, μ) := by
    intro n12
    induction n12 using Nat.strongRecOn with
    | _ n12 ih13 =>
    intro i14 i16 b15 b17 hn18
    refine w_t (np := 20) (l2 := [some (eJ (a0)), none, some (eI (a2)), some (eR 15), some (eI (v8)), some (eI (i14)), some (eI (i16))]) (s2 := [eI (i16)]) rfl rfl rfl ?_
    refine w_t (np := 21) (l2 := [some (eJ (a0)), none, some (eI (a2)), some (eR 15), some (eI (v8)), some (eI (i14)), some (eI (i16))]) (s2 := [eI (4), eI (i16)]) rfl rfl rfl ?_
    refine b_cge (t1 := 65) (t2 := 24) rfl rfl rfl (ev_w_in (by omega) (by omega)) rfl (fun g19 => ?_) (fun g19 => ?_)
    · have b20 : 4 ≤ i16 ∧ i16 ≤ 4 := by omega
      refine w_t (np := 67) (l2 := [some (eJ (a0)), none, some (eI (a2)), some (eR 15), some (eI (v8)), some (eI (i14)), some (eI (i16))]) (s2 := [eI (i14)]) rfl rfl rfl ?_
      exact b_ri rfl rfl (K (i14) (by omega))
    · have b20 : 0 ≤ i16 ∧ i16 ≤ 3 := by omega
      refine w_t (np := 26) (l2 := [some (eJ (a0)), none, some (eI (a2)), some (eR 15), some (eI (v8)), some (eI (i14)), some (eI (i16))]) (s2 := [eI (v8)]) rfl rfl rfl ?_
      refine w_t (np := 28) (l2 := [some (eJ (a0)), none, some (eI (a2)), some (eR 15), some (eI (v8)), some (eI (i14)), some (eI (i16))]) (s2 := [eI (i16), eI (v8)]) rfl rfl rfl ?_
      obtain ⟨v20, e21⟩ : ∃ zz : Int, zz = (v8) + (i16) := ⟨_, rfl⟩
      have b22 : 0 ≤ v20 ∧ v20 ≤ 12 := by omega
      refine w_t (np := 29) (l2 := [some (eJ (a0)), none, some (eI (a2)), some (eR 15), some (eI (v8)), some (eI (i14)), some (eI (i16))]) (s2 := [eI (v20)]) rfl (b_iadd (by rw [← e21]; exact ev_w_in (by omega) (by omega))) rfl ?_
      refine w_t (np := 30) (l2 := [some (eJ (a0)), none, some (eI (a2)), some (eR 15), some (eI (v8)), some (eI (i14)), some (eI (i16))]) (s2 := [eR 15, eI (v20)]) rfl (s_an rfl (by decide)) rfl ?_
      refine v_ln (np := 31) (v := 13) (n := 13) rfl rfl ⟨rfl, zI_lit (by decide)⟩ ?_
      rw [show zI 13 = 13 by decide]
      refine b_cge (t1 := 65) (t2 := 34) rfl rfl rfl (ev_w_in (by omega) (by omega)) rfl (fun g23 => False.elim (by omega)) (fun g23 => ?_)
      refine w_t (np := 36) (l2 := [some (eJ (a0)), none, some (eI (a2)), some (eR 15), some (eI (v8)), some (eI (i14)), some (eI (i16))]) (s2 := [eI (i14)]) rfl rfl rfl ?_
      refine w_t (np := 37) (l2 := [some (eJ (a0)), none, some (eI (a2)), some (eR 15), some (eI (v8)), some (eI (i14)), some (eI (i16))]) (s2 := [eJ (a0), eI (i14)]) rfl rfl rfl ?_
      refine w_t (np := 39) (l2 := [some (eJ (a0)), none, some (eI (a2)), some (eR 15), some (eI (v8)), some (eI (i14)), some (eI (i16))]) (s2 := [eI (48), eJ (a0), eI (i14)]) rfl rfl rfl ?_
      refine w_t (np := 41) (l2 := [some (eJ (a0)), none, some (eI (a2)), some (eR 15), some (eI (v8)), some (eI (i14)), some (eI (i16))]) (s2 := [eI (16), eI (48), eJ (a0), eI (i14)]) rfl rfl rfl ?_
      refine w_t (np := 43) (l2 := [some (eJ (a0)), none, some (eI (a2)), some (eR 15), some (eI (v8)), some (eI (i14)), some (eI (i16))]) (s2 := [eI (i16), eI (16), eI (48), eJ (a0), eI (i14)]) rfl rfl rfl ?_
      obtain ⟨v24, e25⟩ : ∃ zz : Int, zz = (16) * (i16) := ⟨_, rfl⟩
      have b26 : 0 ≤ v24 ∧ v24 ≤ 48 := by omega
      refine w_t (np := 44) (l2 := [some (eJ (a0)), none, some (eI (a2)), some (eR 15), some (eI (v8)), some (eI (i14)), some (eI (i16))]) (s2 := [eI (v24), eI (48), eJ (a0), eI (i14)]) rfl (b_imul (by rw [← e25]; exact ev_w_in (by omega) (by omega))) rfl ?_
      obtain ⟨v27, e28⟩ : ∃ zz : Int, zz = (48) - (v24) := ⟨_, rfl⟩
      have b29 : 0 ≤ v27 ∧ v27 ≤ 48 := by omega
      refine w_t (np := 45) (l2 := [some (eJ (a0)), none, some (eI (a2)), some (eR 15), some (eI (v8)), some (eI (i14)), some (eI (i16))]) (s2 := [eI (v27), eJ (a0), eI (i14)]) rfl (b_isub (by rw [← e28]; exact ev_w_in (by omega) (by omega))) rfl ?_
      obtain ⟨v30, e31, b32⟩ := h_lshr (a0) (v27)
      refine w_t (np := 46) (l2 := [some (eJ (a0)), none, some (eI (a2)), some (eR 15), some (eI (v8)), some (eI (i14)), some (eI (i16))]) (s2 := [eJ (v30), eI (i14)]) rfl (e31 _ _) rfl ?_
      obtain ⟨v33, e34, b35⟩ := h_l2i (v30)
      refine w_t (np := 47) (l2 := [some (eJ (a0)), none, some (eI (a2)), some (eR 15), some (eI (v8)), some (eI (i14)), some (eI (i16))]) (s2 := [eI (v33), eI (i14)]) rfl (e34 _ _) rfl ?_
      obtain ⟨v36, e37, b38⟩ := h_i2s (v33)
      refine w_t (np := 48) (l2 := [some (eJ (a0)), none, some (eI (a2)), some (eR 15), some (eI (v8)), some (eI (i14)), some (eI (i16))]) (s2 := [eI (v36), eI (i14)]) rfl (e37 _ _) rfl ?_
      refine w_t (np := 49) (l2 := [some (eJ (a0)), none, some (eI (a2)), some (eR 15), some (eI (v8)), some (eI (i14)), some (eI (i16))]) (s2 := [eR 15, eI (v36), eI (i14)]) rfl (s_an rfl (by decide)) rfl ?_
      refine w_t (np := 51) (l2 := [some (eJ (a0)), none, some (eI (a2)), some (eR 15), some (eI (v8)), some (eI (i14)), some (eI (i16))]) (s2 := [eI (v8), eR 15, eI (v36), eI (i14)]) rfl rfl rfl ?_
      refine w_t (np := 53) (l2 := [some (eJ (a0)), none, some (eI (a2)), some (eR 15), some (eI (v8)), some (eI (i14)), some (eI (i16))]) (s2 := [eI (i16), eI (v8), eR 15, eI (v36), eI (i14)]) rfl rfl rfl ?_
      obtain ⟨v39, e40⟩ : ∃ zz : Int, zz = (v8) + (i16) := ⟨_, rfl⟩
      have b41 : 0 ≤ v39 ∧ v39 ≤ 12 := by omega
      refine w_t (np := 54) (l2 := [some (eJ (a0)), none, some (eI (a2)), some (eR 15), some (eI (v8)), some (eI (i14)), some (eI (i16))]) (s2 := [eI (v39), eR 15, eI (v36), eI (i14)]) rfl (b_iadd (by rw [← e40]; exact ev_w_in (by omega) (by omega))) rfl ?_
      refine j_si (np := 55) (n := 13) (lo := -1) (hi := 1) rfl rfl rfl (by decide) (by decide) (by decide) rfl rfl (by decide) (by omega) (by omega) ?_
      intro v42 b44
      obtain ⟨v45, e46⟩ : ∃ zz : Int, zz = (v36) * (v42) := ⟨_, rfl⟩
      have b47 : -32768 ≤ v45 ∧ v45 ≤ 32768 := by
        have hm := i_mulb (a := v36) (b := v42) (A := 32768) (B := 1) (by omega) (by omega)
        rw [e46]
        omega
      refine w_t (np := 56) (l2 := [some (eJ (a0)), none, some (eI (a2)), some (eR 15), some (eI (v8)), some (eI (i14)), some (eI (i16))]) (s2 := [eI (v45), eI (i14)]) rfl (b_imul (by rw [← e46]; exact ev_w_in (by omega) (by omega))) rfl ?_
      obtain ⟨v48, e49, b50⟩ : ∃ zz : Int, ev_w ((i14) + (v45)) = zz ∧ (-2147483648 ≤ zz ∧ zz ≤ 2147483647) := ⟨_, rfl, hw_bd _⟩
      refine w_t (np := 57) (l2 := [some (eJ (a0)), none, some (eI (a2)), some (eR 15), some (eI (v8)), some (eI (i14)), some (eI (i16))]) (s2 := [eI (v48)]) rfl (b_iadd e49) rfl ?_
      refine w_t (np := 59) (l2 := [some (eJ (a0)), none, some (eI (a2)), some (eR 15), some (eI (v8)), some (eI (v48)), some (eI (i16))]) (s2 := []) rfl rfl rfl ?_
      obtain ⟨v51, e52⟩ : ∃ zz : Int, zz = (i16) + (1) := ⟨_, rfl⟩
      have b53 : 1 ≤ v51 ∧ v51 ≤ 4 := by omega
      refine w_t (np := 62) (l2 := [some (eJ (a0)), none, some (eI (a2)), some (eR 15), some (eI (v8)), some (eI (v48)), some (eI (v51))]) (s2 := []) rfl (b_iinc rfl (by rw [← e52]; exact ev_w_in (by omega) (by omega)) rfl) rfl ?_
      refine w_go (t1 := 18) rfl rfl ?_
      exact ih13 (4 - (v51)).toNat (by omega) (v48) (v51) (by omega) (by omega)     rfl
  exact hL18 _ (0) (0) (by decide) (by decide)     rfl
theorem s_80_3 {L : Nat} {ρ : Nat → Int} {rc : eQ} {d : Nat} {f : eFr} {F : List eFr} {μ : eM} {g : Nat → Nat} {a0 : Int} {a2 : Int} (hI : SI g μ) (bA0 : -9223372036854775808 ≤ a0 ∧ a0 ≤ 9223372036854775807) (bA2 : -2147483648 ≤ a2 ∧ a2 ≤ 2147483647) (K : ∀ (v : Int), (-2147483648 ≤ v ∧ v ≤ 2147483647) → ex_q (dt_fg L ρ) rc (d + 1, (f.1, f.2.1, f.2.2.1, eI v :: f.2.2.2), F, μ)) : ex_q (dt_fg L ρ) rc (d, (80, 0, [some (eJ (a0)), none, some (eI (a2)), some (eR 16), none, none, none], []), f :: F, μ) := by
  refine w_t (np := 2) (l2 := [some (eJ (a0)), none, some (eI (a2)), some (eR 16), none, none, none]) (s2 := [eI (10)]) rfl rfl rfl ?_
  refine w_t (np := 3) (l2 := [some (eJ (a0)), none, some (eI (a2)), some (eR 16), none, none, none]) (s2 := [eI (a2), eI (10)]) rfl rfl rfl ?_
  refine w_t (np := 5) (l2 := [some (eJ (a0)), none, some (eI (a2)), some (eR 16), none, none, none]) (s2 := [eI (10), eI (a2), eI (10)]) rfl rfl rfl ?_
  obtain ⟨v1, e2, b3⟩ := h_irem (a := a2) (k := 10) (by decide) (by decide) bA2
  have b4 : -9 ≤ v1 ∧ v1 ≤ 9 := by omega
  refine w_t (np := 6) (l2 := [some (eJ (a0)), none, some (eI (a2)), some (eR 16), none, none, none]) (s2 := [eI (v1), eI (10)]) rfl (e2 _ _) rfl ?_
  obtain ⟨v5, e6⟩ : ∃ zz : Int, zz = (10) - (v1) := ⟨_, rfl⟩
  have b7 : 1 ≤ v5 ∧ v5 ≤ 19 := by omega
  refine w_t (np := 7) (l2 := [some (eJ (a0)), none, some (eI (a2)), some (eR 16), none, none, none]) (s2 := [eI (v5)]) rfl (b_isub (by rw [← e6]; exact ev_w_in (by omega) (by omega))) rfl ?_
  refine w_t (np := 9) (l2 := [some (eJ (a0)), none, some (eI (a2)), some (eR 16), none, none, none]) (s2 := [eI (10), eI (v5)]) rfl rfl rfl ?_
  obtain ⟨v8, e9, b10⟩ := h_irem (a := v5) (k := 10) (by decide) (by decide) (show (-2147483648 : Int) ≤ v5 ∧ (v5 : Int) ≤ 2147483647 by omega)
  have b11 : 0 ≤ v8 ∧ v8 ≤ 9 := by omega
  refine w_t (np := 10) (l2 := [some (eJ (a0)), none, some (eI (a2)), some (eR 16), none, none, none]) (s2 := [eI (v8)]) rfl (e9 _ _) rfl ?_
  refine w_t (np := 12) (l2 := [some (eJ (a0)), none, some (eI (a2)), some (eR 16), some (eI (v8)), none, none]) (s2 := []) rfl rfl rfl ?_
  refine w_t (np := 13) (l2 := [some (eJ (a0)), none, some (eI (a2)), some (eR 16), some (eI (v8)), none, none]) (s2 := [eI (0)]) rfl rfl rfl ?_
  refine w_t (np := 15) (l2 := [some (eJ (a0)), none, some (eI (a2)), some (eR 16), some (eI (v8)), some (eI (0)), none]) (s2 := []) rfl rfl rfl ?_
  refine w_t (np := 16) (l2 := [some (eJ (a0)), none, some (eI (a2)), some (eR 16), some (eI (v8)), some (eI (0)), none]) (s2 := [eI (0)]) rfl rfl rfl ?_
  refine w_t (np := 18) (l2 := [some (eJ (a0)), none, some (eI (a2)), some (eR 16), some (eI (v8)), some (eI (0)), some (eI (0))]) (s2 := []) rfl rfl rfl ?_
  have hL18 : ∀ (n12 : Nat) (i14 : Int) (i16 : Int), (-2147483648 ≤ i14 ∧ i14 ≤ 2147483647) → (0 ≤ i16 ∧ i16 ≤ 4) → n12 = (4 - i16).toNat → ex_q (dt_fg L ρ) rc (d, (80, 18, [some (eJ (a0)), none, some (eI (a2)), some (eR 16), some (eI (v8)), some (eI (i14)), some (eI (i16))], []), f :: F, μ) := by
    intro n12
    induction n12 using Nat.strongRecOn with
    | _ n12 ih13 =>
    intro i14 i16 b15 b17 hn18
    refine w_t (np := 20) (l2 := [some (eJ (a0)), none, some (eI (a2)), some (eR 16), some (eI (v8)), some (eI (i14)), some (eI (i16))]) (s2 := [eI (i16)]) rfl rfl rfl ?_
    refine w_t (np := 21) (l2 := [some (eJ (a0)), none, some (eI (a2)), some (eR 16), some (eI (v8)), some (eI (i14)), some (eI (i16))]) (s2 := [eI (4), eI (i16)]) rfl rfl rfl ?_
    refine b_cge (t1 := 65) (t2 := 24) rfl rfl rfl (ev_w_in (by omega) (by omega)) rfl (fun g19 => ?_) (fun g19 => ?_)
    · have b20 : 4 ≤ i16 ∧ i16 ≤ 4 := by omega
      refine w_t (np := 67) (l2 := [some (eJ (a0)), none, some (eI (a2)), some (eR 16), some (eI (v8)), some (eI (i14)), some (eI (i16))]) (s2 := [eI (i14)]) rfl rfl rfl ?_
      exact b_ri rfl rfl (K (i14) (by omega))
    · have b20 : 0 ≤ i16 ∧ i16 ≤ 3 := by omega
      refine w_t (np := 26) (l2 := [some (eJ (a0)), none, some (eI (a2)), some (eR 16), some (eI (v8)), some (eI (i14)), some (eI (i16))]) (s2 := [eI (v8)]) rfl rfl rfl ?_
      refine w_t (np := 28) (l2 := [some (eJ (a0)), none, some (eI (a2)), some (eR 16), some (eI (v8)), some (eI (i14)), some (eI (i16))]) (s2 := [eI (i16), eI (v8)]) rfl rfl rfl ?_
      obtain ⟨v20, e21⟩ : ∃ zz : Int, zz = (v8) + (i16) := ⟨_, rfl⟩
      have b22 : 0 ≤ v20 ∧ v20 ≤ 12 := by omega
      refine w_t (np := 29) (l2 := [some (eJ (a0)), none, some (eI (a2)), some (eR 16), some (eI (v8)), some (eI (i14)), some (eI (i16))]) (s2 := [eI (v20)]) rfl (b_iadd (by rw [← e21]; exact ev_w_in (by omega) (by omega))) rfl ?_
      refine w_t (np := 30) (l2 := [some (eJ (a0)), none, some (eI (a2)), some (eR 16), some (eI (v8)), some (eI (i14)), some (eI (i16))]) (s2 := [eR 16, eI (v20)]) rfl (s_an rfl (by decide)) rfl ?_
      refine v_ln (np := 31) (v := 13) (n := 13) rfl rfl ⟨rfl, zI_lit (by decide)⟩ ?_
      rw [show zI 13 = 13 by decide]
      refine b_cge (t1 := 65) (t2 := 34) rfl rfl rfl (ev_w_in (by omega) (by omega)) rfl (fun g23 => False.elim (by omega)) (fun g23 => ?_)
      refine w_t (np := 36) (l2 := [some (eJ (a0)), none, some (eI (a2)), some (eR 16), some (eI (v8)), some (eI (i14)), some (eI (i16))]) (s2 := [eI (i14)]) rfl rfl rfl ?_
      refine w_t (np := 37) (l2 := [some (eJ (a0)), none, some (eI (a2)), some (eR 16), some (eI (v8)), some (eI (i14)), some (eI (i16))]) (s2 := [eJ (a0), eI (i14)]) rfl rfl rfl ?_
      refine w_t (np := 39) (l2 := [some (eJ (a0)), none, some (eI (a2)), some (eR 16), some (eI (v8)), some (eI (i14)), some (eI (i16))]) (s2 := [eI (48), eJ (a0), eI (i14)]) rfl rfl rfl ?_
      refine w_t (np := 41) (l2 := [some (eJ (a0)), none, some (eI (a2)), some (eR 16), some (eI (v8)), some (eI (i14)), some (eI (i16))]) (s2 := [eI (16), eI (48), eJ (a0), eI (i14)]) rfl rfl rfl ?_
      refine w_t (np := 43) (l2 := [some (eJ (a0)), none, some (eI (a2)), some (eR 16), some (eI (v8)), some (eI (i14)), some (eI (i16))]) (s2 := [eI (i16), eI (16), eI (48), eJ (a0), eI (i14)]) rfl rfl rfl ?_
      obtain ⟨v24, e25⟩ : ∃ zz : Int, zz = (16) * (i16) := ⟨_, rfl⟩
      have b26 : 0 ≤ v24 ∧ v24 ≤ 48 := by omega
      refine w_t (np := 44) (l2 := [some (eJ (a0)), none, some (eI (a2)), some (eR 16), some (eI (v8)), some (eI (i14)), some (eI (i16))]) (s2 := [eI (v24), eI (48), eJ (a0), eI (i14)]) rfl (b_imul (by rw [← e25]; exact ev_w_in (by omega) (by omega))) rfl ?_
      obtain ⟨v27, e28⟩ : ∃ zz : Int, zz = (48) - (v24) := ⟨_, rfl⟩
      have b29 : 0 ≤ v27 ∧ v27 ≤ 48 := by omega
      refine w_t (np := 45) (l2 := [some (eJ (a0)), none, some (eI (a2)), some (eR 16), some (eI (v8)), some (eI (i14)), some (eI (i16))]) (s2 := [eI (v27), eJ (a0), eI (i14)]) rfl (b_isub (by rw [← e28]; exact ev_w_in (by omega) (by omega))) rfl ?_
      obtain ⟨v30, e31, b32⟩ := h_lshr (a0) (v27)
      refine w_t (np := 46) (l2 := [some (eJ (a0)), none, some (eI (a2)), some (eR 16), some (eI (v8)), some (eI (i14)), some (eI (i16))]) (s2 := [eJ (v30), eI (i14)]) rfl (e31 _ _) rfl ?_
      obtain ⟨v33, e34, b35⟩ := h_l2i (v30)
      refine w_t (np := 47) (l2 := [some (eJ (a0)), none, some (eI (a2)), some (eR 16), some (eI (v8)), some (eI (i14)), some (eI (i16))]) (s2 := [eI (v33), eI (i14)]) rfl (e34 _ _) rfl ?_
      obtain ⟨v36, e37, b38⟩ := h_i2s (v33)
      refine w_t (np := 48) (l2 := [some (eJ (a0)), none, some (eI (a2)), some (eR 16), some (eI (v8)), some (eI (i14)), some (eI (i16))]) (s2 := [eI (v36), eI (i14)]) rfl (e37 _ _) rfl ?_
      refine w_t (np := 49) (l2 := [some (eJ (a0)), none, some (eI (a2)), some (eR 16), some (eI (v8)), some (eI (i14)), some (eI (i16))]) (s2 := [eR 16, eI (v36), eI (i14)]) rfl (s_an rfl (by decide)) rfl ?_
      refine w_t (np := 51) (l2 := [some (eJ (a0)), none, some (eI (a2)), some (eR 16), some (eI (v8)), some (eI (i14)), some (eI (i16))]) (s2 := [eI (v8), eR 16, eI (v36), eI (i14)]) rfl rfl rfl ?_
      refine w_t (np := 53) (l2 := [some (eJ (a0)), none, some (eI (a2)), some (eR 16), some (eI (v8)), some (eI (i14)), some (eI (i16))]) (s2 := [eI (i16), eI (v8), eR 16, eI (v36), eI (i14)]) rfl rfl rfl ?_
      obtain ⟨v39, e40⟩ : ∃ zz : Int, zz = (v8) + (i16) := ⟨_, rfl⟩
      have b41 : 0 ≤ v39 ∧ v39 ≤ 12 := by omega
      refine w_t (np := 54) (l2 := [some (eJ (a0)), none, some (eI (a2)), some (eR 16), some (eI (v8)), some (eI (i14)), some (eI (i16))]) (s2 := [eI (v39), eR 16, eI (v36), eI (i14)]) rfl (b_iadd (by rw [← e40]; exact ev_w_in (by omega) (by omega))) rfl ?_
      refine j_si (np := 55) (n := 13) (lo := -2) (hi := 2) rfl rfl rfl (by decide) (by decide) (by decide) rfl rfl (by decide) (by omega) (by omega) ?_
      intro v42 b44
      obtain ⟨v45, e46⟩ : ∃ zz : Int, zz = (v36) * (v42) := ⟨_, rfl⟩
      have b47 : -65536 ≤ v45 ∧ v45 ≤ 65536 := by
        have hm := i_mulb (a := v36) (b := v42) (A := 32768) (B := 2) (by omega) (by omega)
        rw [e46]
        omega
      refine w_t (np := 56) (l2 := [some (eJ (a0)), none, some (eI (a2)), some (eR 16), some (eI (v8)), some (eI (i14)), some (eI (i16))]) (s2 := [eI (v45), eI (i14)]) rfl (b_imul (by rw [← e46]; exact ev_w_in (by omega) (by omega))) rfl ?_
      obtain ⟨v48, e49, b50⟩ : ∃ zz : Int, ev_w ((i14) + (v45)) = zz ∧ (-2147483648 ≤ zz ∧ zz ≤ 2147483647) := ⟨_, rfl, hw_bd _⟩
      refine w_t (np := 57) (l2 := [some (eJ (a0)), none, some (eI (a2)), some (eR 16), some (eI (v8)), some (eI (i14)), some (eI (i16))]) (s2 := [eI (v48)]) rfl (b_iadd e49) rfl ?_
      refine w_t (np := 59) (l2 := [some (eJ (a0)), none, some (eI (a2)), some (eR 16), some (eI (v8)), some (eI (v48)), some (eI (i16))]) (s2 := []) rfl rfl rfl ?_
      obtain ⟨v51, e52⟩ : ∃ zz : Int, zz = (i16) + (1) := ⟨_, rfl⟩
      have b53 : 1 ≤ v51 ∧ v51 ≤ 4 := by omega
      refine w_t (np := 62) (l2 := [some (eJ (a0)), none, some (eI (a2)), some (eR 16), some (eI (v8)), some (eI (v48)), some (eI (v51))]) (s2 := []) rfl (b_iinc rfl (by rw [← e52]; exact ev_w_in (by omega) (by omega)) rfl) rfl ?_
      refine w_go (t1 := 18) rfl rfl ?_
      exact ih13 (4 - (v51)).toNat (by omega) (v48) (v51) (by omega) (by omega)     rfl
  exact hL18 _ (0) (0) (by decide) (by decide)     rfl
theorem s_80_4 {L : Nat} {ρ : Nat → Int} {rc : eQ} {d : Nat} {f : eFr} {F : List eFr} {μ : eM} {g : Nat → Nat} {a0 : Int} {a2 : Int} (hI : SI g μ) (bA0 : -9223372036854775808 ≤ a0 ∧ a0 ≤ 9223372036854775807) (bA2 : -2147483648 ≤ a2 ∧ a2 ≤ 2147483647) (K : ∀ (v : Int), (-2147483648 ≤ v ∧ v ≤ 2147483647) → ex_q (dt_fg L ρ) rc (d + 1, (f.1, f.2.1, f.2.2.1, eI v :: f.2.2.2), F, μ)) : ex_q (dt_fg L ρ) rc (d, (80, 0, [some (eJ (a0)), none, some (eI (a2)), some (eR 17), none, none, none], []), f :: F, μ) := by
  refine w_t (np := 2) (l2 := [some (eJ (a0)), none, some (eI (a2)), some (eR 17), none, none, none]) (s2 := [eI (10)]) rfl rfl rfl ?_
  refine w_t (np := 3) (l2 := [some (eJ (a0)), none, some (eI (a2)), some (eR 17), none, none, none]) (s2 := [eI (a2), eI (10)]) rfl rfl rfl ?_
  refine w_t (np := 5) (l2 := [some (eJ (a0)), none, some (eI (a2)), some (eR 17), none, none, none]) (s2 := [eI (10), eI (a2), eI (10)]) rfl rfl rfl ?_
  obtain ⟨v1, e2, b3⟩ := h_irem (a := a2) (k := 10) (by decide) (by decide) bA2
  have b4 : -9 ≤ v1 ∧ v1 ≤ 9 := by omega
  refine w_t (np := 6) (l2 := [some (eJ (a0)), none, some (eI (a2)), some (eR 17), none, none, none]) (s2 := [eI (v1), eI (10)]) rfl (e2 _ _) rfl ?_
  obtain ⟨v5, e6⟩ : ∃ zz : Int, zz = (10) - (v1) := ⟨_, rfl⟩
  have b7 : 1 ≤ v5 ∧ v5 ≤ 19 := by omega
  refine w_t (np := 7) (l2 := [some (eJ (a0)), none, some (eI (a2)), some (eR 17), none, none, none]) (s2 := [eI (v5)]) rfl (b_isub (by rw [← e6]; exact ev_w_in (by omega) (by omega))) rfl ?_
  refine w_t (np := 9) (l2 := [some (eJ (a0)), none, some (eI (a2)), some (eR 17), none, none, none]) (s2 := [eI (10), eI (v5)]) rfl rfl rfl ?_
  obtain ⟨v8, e9, b10⟩ := h_irem (a := v5) (k := 10) (by decide) (by decide) (show (-2147483648 : Int) ≤ v5 ∧ (v5 : Int) ≤ 2147483647 by omega)
  have b11 : 0 ≤ v8 ∧ v8 ≤ 9 := by omega
  refine w_t (np := 10) (l2 := [some (eJ (a0)), none, some (eI (a2)), some (eR 17), none, none, none]) (s2 := [eI (v8)]) rfl (e9 _ _) rfl ?_
  refine w_t (np := 12) (l2 := [some (eJ (a0)), none, some (eI (a2)), some (eR 17), some (eI (v8)), none, none]) (s2 := []) rfl rfl rfl ?_
  refine w_t (np := 13) (l2 := [some (eJ (a0)), none, some (eI (a2)), some (eR 17), some (eI (v8)), none, none]) (s2 := [eI (0)]) rfl rfl rfl ?_
  refine w_t (np := 15) (l2 := [some (eJ (a0)), none, some (eI (a2)), some (eR 17), some (eI (v8)), some (eI (0)), none]) (s2 := []) rfl rfl rfl ?_
  refine w_t (np := 16) (l2 := [some (eJ (a0)), none, some (eI (a2)), some (eR 17), some (eI (v8)), some (eI (0)), none]) (s2 := [eI (0)]) rfl rfl rfl ?_
  refine w_t (np := 18) (l2 := [some (eJ (a0)), none, some (eI (a2)), some (eR 17), some (eI (v8)), some (eI (0)), some (eI (0))]) (s2 := []) rfl rfl rfl ?_
  have hL18 : ∀ (n12 : Nat) (i14 : Int) (i16 : Int), (-2147483648 ≤ i14 ∧ i14 ≤ 2147483647) → (0 ≤ i16 ∧ i16 ≤ 4) → n12 = (4 - i16).toNat → ex_q (dt_fg L ρ) rc (d, (80, 18, [some (eJ (a0)), none, some (eI (a2)), some (eR 17), some (eI (v8)), some (eI (i14)), some (eI (i16))], []), f :: F, μ) := by
    intro n12
    induction n12 using Nat.strongRecOn with
    | _ n12 ih13 =>
    intro i14 i16 b15 b17 hn18
    refine w_t (np := 20) (l2 := [some (eJ (a0)), none, some (eI (a2)), some (eR 17), some (eI (v8)), some (eI (i14)), some (eI (i16))]) (s2 := [eI (i16)]) rfl rfl rfl ?_
    refine w_t (np := 21) (l2 := [some (eJ (a0)), none, some (eI (a2)), some (eR 17), some (eI (v8)), some (eI (i14)), some (eI (i16))]) (s2 := [eI (4), eI (i16)]) rfl rfl rfl ?_
    refine b_cge (t1 := 65) (t2 := 24) rfl rfl rfl (ev_w_in (by omega) (by omega)) rfl (fun g19 => ?_) (fun g19 => ?_)
    · have b20 : 4 ≤ i16 ∧ i16 ≤ 4 := by omega
      refine w_t (np := 67) (l2 := [some (eJ (a0)), none, some (eI (a2)), some (eR 17), some (eI (v8)), some (eI (i14)), some (eI (i16))]) (s2 := [eI (i14)]) rfl rfl rfl ?_
      exact b_ri rfl rfl (K (i14) (by omega))
    · have b20 : 0 ≤ i16 ∧ i16 ≤ 3 := by omega
      refine w_t (np := 26) (l2 := [some (eJ (a0)), none, some (eI (a2)), some (eR 17), some (eI (v8)), some (eI (i14)), some (eI (i16))]) (s2 := [eI (v8)]) rfl rfl rfl ?_
      refine w_t (np := 28) (l2 := [some (eJ (a0)), none, some (eI (a2)), some (eR 17), some (eI (v8)), some (eI (i14)), some (eI (i16))]) (s2 := [eI (i16), eI (v8)]) rfl rfl rfl ?_
      obtain ⟨v20, e21⟩ : ∃ zz : Int, zz = (v8) + (i16) := ⟨_, rfl⟩
      have b22 : 0 ≤ v20 ∧ v20 ≤ 12 := by omega
      refine w_t (np := 29) (l2 := [some (eJ (a0)), none, some (eI (a2)), some (eR 17), some (eI (v8)), some (eI (i14)), some (eI (i16))]) (s2 := [eI (v20)]) rfl (b_iadd (by rw [← e21]; exact ev_w_in (by omega) (by omega))) rfl ?_
      refine w_t (np := 30) (l2 := [some (eJ (a0)), none, some (eI (a2)), some (eR 17), some (eI (v8)), some (eI (i14)), some (eI (i16))]) (s2 := [eR 17, eI (v20)]) rfl (s_an rfl (by decide)) rfl ?_
      refine v_ln (np := 31) (v := 13) (n := 13) rfl rfl ⟨rfl, zI_lit (by decide)⟩ ?_
      rw [show zI 13 = 13 by decide]
      refine b_cge (t1 := 65) (t2 := 34) rfl rfl rfl (ev_w_in (by omega) (by omega)) rfl (fun g23 => False.elim (by omega)) (fun g23 => ?_)
      refine w_t (np := 36) (l2 := [some (eJ (a0)), none, some (eI (a2)), some (eR 17), some (eI (v8)), some (eI (i14)), some (eI (i16))]) (s2 := [eI (i14)]) rfl rfl rfl ?_
      refine w_t (np := 37) (l2 := [some (eJ (a0)), none, some (eI (a2)), some (eR 17), some (eI (v8)), some (eI (i14)), some (eI (i16))]) (s2 := [eJ (a0), eI (i14)]) rfl rfl rfl ?_
      refine w_t (np := 39) (l2 := [some (eJ (a0)), none, some (eI (a2)), some (eR 17), some (eI (v8)), some (eI (i14)), some (eI (i16))]) (s2 := [eI (48), eJ (a0), eI (i14)]) rfl rfl rfl ?_
      refine w_t (np := 41) (l2 := [some (eJ (a0)), none, some (eI (a2)), some (eR 17), some (eI (v8)), some (eI (i14)), some (eI (i16))]) (s2 := [eI (16), eI (48), eJ (a0), eI (i14)]) rfl rfl rfl ?_
      refine w_t (np := 43) (l2 := [some (eJ (a0)), none, some (eI (a2)), some (eR 17), some (eI (v8)), some (eI (i14)), some (eI (i16))]) (s2 := [eI (i16), eI (16), eI (48), eJ (a0), eI (i14)]) rfl rfl rfl ?_
      obtain ⟨v24, e25⟩ : ∃ zz : Int, zz = (16) * (i16) := ⟨_, rfl⟩
      have b26 : 0 ≤ v24 ∧ v24 ≤ 48 := by omega
      refine w_t (np := 44) (l2 := [some (eJ (a0)), none, some (eI (a2)), some (eR 17), some (eI (v8)), some (eI (i14)), some (eI (i16))]) (s2 := [eI (v24), eI (48), eJ (a0), eI (i14)]) rfl (b_imul (by rw [← e25]; exact ev_w_in (by omega) (by omega))) rfl ?_
      obtain ⟨v27, e28⟩ : ∃ zz : Int, zz = (48) - (v24) := ⟨_, rfl⟩
      have b29 : 0 ≤ v27 ∧ v27 ≤ 48 := by omega
      refine w_t (np := 45) (l2 := [some (eJ (a0)), none, some (eI (a2)), some (eR 17), some (eI (v8)), some (eI (i14)), some (eI (i16))]) (s2 := [eI (v27), eJ (a0), eI (i14)]) rfl (b_isub (by rw [← e28]; exact ev_w_in (by omega) (by omega))) rfl ?_
      obtain ⟨v30, e31, b32⟩ := h_lshr (a0) (v27)
      refine w_t (np := 46) (l2 := [some (eJ (a0)), none, some (eI (a2)), some (eR 17), some (eI (v8)), some (eI (i14)), some (eI (i16))]) (s2 := [eJ (v30), eI (i14)]) rfl (e31 _ _) rfl ?_
      obtain ⟨v33, e34, b35⟩ := h_l2i (v30)
      refine w_t (np := 47) (l2 := [some (eJ (a0)), none, some (eI (a2)), some (eR 17), some (eI (v8)), some (eI (i14)), some (eI (i16))]) (s2 := [eI (v33), eI (i14)]) rfl (e34 _ _) rfl ?_
      obtain ⟨v36, e37, b38⟩ := h_i2s (v33)
      refine w_t (np := 48) (l2 := [some (eJ (a0)), none, some (eI (a2)), some (eR 17), some (eI (v8)), some (eI (i14)), some (eI (i16))]) (s2 := [eI (v36), eI (i14)]) rfl (e37 _ _) rfl ?_
      refine w_t (np := 49) (l2 := [some (eJ (a0)), none, some (eI (a2)), some (eR 17), some (eI (v8)), some (eI (i14)), some (eI (i16))]) (s2 := [eR 17, eI (v36), eI (i14)]) rfl (s_an rfl (by decide)) rfl ?_
      refine w_t (np := 51) (l2 := [some (eJ (a0)), none, some (eI (a2)), some (eR 17), some (eI (v8)), some (eI (i14)), some (eI (i16))]) (s2 := [eI (v8), eR 17, eI (v36), eI (i14)]) rfl rfl rfl ?_
      refine w_t (np := 53) (l2 := [some (eJ (a0)), none, some (eI (a2)), some (eR 17), some (eI (v8)), some (eI (i14)), some (eI (i16))]) (s2 := [eI (i16), eI (v8), eR 17, eI (v36), eI (i14)]) rfl rfl rfl ?_
      obtain ⟨v39, e40⟩ : ∃ zz : Int, zz = (v8) + (i16) := ⟨_, rfl⟩
      have b41 : 0 ≤ v39 ∧ v39 ≤ 12 := by omega
      refine w_t (np := 54) (l2 := [some (eJ (a0)), none, some (eI (a2)), some (eR 17), some (eI (v8)), some (eI (i14)), some (eI (i16))]) (s2 := [eI (v39), eR 17, eI (v36), eI (i14)]) rfl (b_iadd (by rw [← e40]; exact ev_w_in (by omega) (by omega))) rfl ?_
      refine j_si (np := 55) (n := 13) (lo := -1) (hi := 1) rfl rfl rfl (by decide) (by decide) (by decide) rfl rfl (by decide) (by omega) (by omega) ?_
      intro v42 b44
      obtain ⟨v45, e46⟩ : ∃ zz : Int, zz = (v36) * (v42) := ⟨_, rfl⟩
      have b47 : -32768 ≤ v45 ∧ v45 ≤ 32768 := by
        have hm := i_mulb (a := v36) (b := v42) (A := 32768) (B := 1) (by omega) (by omega)
        rw [e46]
        omega
      refine w_t (np := 56) (l2 := [some (eJ (a0)), none, some (eI (a2)), some (eR 17), some (eI (v8)), some (eI (i14)), some (eI (i16))]) (s2 := [eI (v45), eI (i14)]) rfl (b_imul (by rw [← e46]; exact ev_w_in (by omega) (by omega))) rfl ?_
      obtain ⟨v48, e49, b50⟩ : ∃ zz : Int, ev_w ((i14) + (v45)) = zz ∧ (-2147483648 ≤ zz ∧ zz ≤ 2147483647) := ⟨_, rfl, hw_bd _⟩
      refine w_t (np := 57) (l2 := [some (eJ (a0)), none, some (eI (a2)), some (eR 17), some (eI (v8)), some (eI (i14)), some (eI (i16))]) (s2 := [eI (v48)]) rfl (b_iadd e49) rfl ?_
      refine w_t (np := 59) (l2 := [some (eJ (a0)), none, some (eI (a2)), some (eR 17), some (eI (v8)), some (eI (v48)), some (eI (i16))]) (s2 := []) rfl rfl rfl ?_
      obtain ⟨v51, e52⟩ : ∃ zz : Int, zz = (i16) + (1) := ⟨_, rfl⟩
      have b53 : 1 ≤ v51 ∧ v51 ≤ 4 := by omega
      refine w_t (np := 62) (l2 := [some (eJ (a0)), none, some (eI (a2)), some (eR 17), some (eI (v8)), some (eI (v48)), some (eI (v51))]) (s2 := []) rfl (b_iinc rfl (by rw [← e52]; exact ev_w_in (by omega) (by omega)) rfl) rfl ?_
      refine w_go (t1 := 18) rfl rfl ?_
      exact ih13 (4 - (v51)).toNat (by omega) (v48) (v51) (by omega) (by omega)     rfl
  exact hL18 _ (0) (0) (by decide) (by decide)     rfl
theorem s_81 {L : Nat} {ρ : Nat → Int} {rc : eQ} {d : Nat} {f : eFr} {F : List eFr} {μ : eM} {g : Nat → Nat} {a0 : Int} {a1 : Int} (hI : SI g μ) (bA0 : -2147483648 ≤ a0 ∧ a0 ≤ 2147483647) (bA1 : -9223372036854775808 ≤ a1 ∧ a1 ≤ 9223372036854775807) (K : ∀ (v : Int), (-2147483648 ≤ v ∧ v ≤ 2147483647) → ex_q (dt_fg L ρ) rc (d + 2, (f.1, f.2.1, f.2.2.1, eI v :: f.2.2.2), F, μ)) : ex_q (dt_fg L ρ) rc (d + 1, (81, 0, [some (eI (a0)), some (eJ (a1)), none], []), f :: F, μ) := by
  refine w_t (np := 1) (l2 := [some (eI (a0)), some (eJ (a1)), none]) (s2 := [eJ (a1)]) rfl rfl rfl ?_
  refine w_t (np := 2) (l2 := [some (eI (a0)), some (eJ (a1)), none]) (s2 := [eI (a0), eJ (a1)]) rfl rfl rfl ?_
  refine v_gs (np := 5) rfl rfl ?_
  refine w_cu (np := 8) (as := [eJ (a1), eI (a0), eR 14]) (l2 := [some (eJ (a1)), none, some (eI (a0)), some (eR 14), none, none, none]) (rest := []) rfl rfl rfl (Nat.ble_eq.mp rfl) rfl rfl rfl rfl ?_
  refine s_80 (a2 := a0) hI bA1 (by omega) ?_
  intro v1 b2
  show ex_q (dt_fg L ρ) rc (d + 1, (81, 8, [some (eI (a0)), some (eJ (a1)), none], [eI (v1)]), f :: F, μ)
  exact b_ri rfl rfl (K (v1) (by omega))
theorem s_82 {L : Nat} {ρ : Nat → Int} {rc : eQ} {d : Nat} {f : eFr} {F : List eFr} {μ : eM} {g : Nat → Nat} {a0 : Int} {a1 : Int} (hI : SI g μ) (bA0 : -2147483648 ≤ a0 ∧ a0 ≤ 2147483647) (bA1 : -9223372036854775808 ≤ a1 ∧ a1 ≤ 9223372036854775807) (K : ∀ (v : Int), (-2147483648 ≤ v ∧ v ≤ 2147483647) → ex_q (dt_fg L ρ) rc (d + 2, (f.1, f.2.1, f.2.2.1, eI v :: f.2.2.2), F, μ)) : ex_q (dt_fg L ρ) rc (d + 1, (82, 0, [some (eI (a0)), some (eJ (a1)), none], []), f :: F, μ) := by
  refine w_t (np := 1) (l2 := [some (eI (a0)), some (eJ (a1)), none]) (s2 := [eJ (a1)]) rfl rfl rfl ?_
  refine w_t (np := 2) (l2 := [some (eI (a0)), some (eJ (a1)), none]) (s2 := [eI (a0), eJ (a1)]) rfl rfl rfl ?_
  refine v_gs (np := 5) rfl rfl ?_
  refine w_cu (np := 8) (as := [eJ (a1), eI (a0), eR 15]) (l2 := [some (eJ (a1)), none, some (eI (a0)), some (eR 15), none, none, none]) (rest := []) rfl rfl rfl (Nat.ble_eq.mp rfl) rfl rfl rfl rfl ?_
  refine s_80_2 (a2 := a0) hI bA1 (by omega) ?_
  intro v1 b2
  show ex_q (dt_fg L ρ) rc (d + 1, (82, 8, [some (eI (a0)), some (eJ (a1)), none], [eI (v1)]), f :: F, μ)
  exact b_ri rfl rfl (K (v1) (by omega))
theorem s_85 {L : Nat} {ρ : Nat → Int} {rc : eQ} {d : Nat} {f : eFr} {F : List eFr} {μ : eM} {g : Nat → Nat} {a0 : Int} {a1 : Int} (hI : SI g μ) (bA0 : -2147483648 ≤ a0 ∧ a0 ≤ 2147483647) (bA1 : -2147483648 ≤ a1 ∧ a1 ≤ 2147483647) (K : ∀ (v : Int), (-1 ≤ v ∧ v ≤ 1) → ex_q (dt_fg L ρ) rc (d + 1, (f.1, f.2.1, f.2.2.1, eI v :: f.2.2.2), F, μ)) : ex_q (dt_fg L ρ) rc (d, (85, 0, [some (eI (a0)), some (eI (a1)), none, none, none, none, none], []), f :: F, μ) := by
  refine v_l2 (np := 3) (c := 2) rfl rfl (by decide) ?_
  rw [show zJ 2 = 2 by decide]
  refine w_t (np := 4) (l2 := [some (eI (a0)), some (eI (a1)), none, none, none, none, none]) (s2 := [eI (a0), eJ (2)]) rfl rfl rfl ?_
  refine w_t (np := 5) (l2 := [some (eI (a0)), some (eI (a1)), none, none, none, none, none]) (s2 := [eJ (a0), eJ (2)]) rfl (b_i2l (ev_w_in (by omega) (by omega))) rfl ?_
  obtain ⟨v1, e2⟩ : ∃ zz : Int, zz = (2) * (a0) := ⟨_, rfl⟩
  have b3 : -4294967296 ≤ v1 ∧ v1 ≤ 4294967294 := by omega
  refine w_t (np := 6) (l2 := [some (eI (a0)), some (eI (a1)), none, none, none, none, none]) (s2 := [eJ (v1)]) rfl (b_lmul (by rw [← e2]; exact ev_W_in (by omega) (by omega))) rfl ?_
  refine w_t (np := 7) (l2 := [some (eI (a0)), some (eI (a1)), none, none, none, none, none]) (s2 := [eI (a1), eJ (v1)]) rfl rfl rfl ?_
  refine w_t (np := 8) (l2 := [some (eI (a0)), some (eI (a1)), none, none, none, none, none]) (s2 := [eJ (a1), eJ (v1)]) rfl (b_i2l (ev_w_in (by omega) (by omega))) rfl ?_
  obtain ⟨v4, e5⟩ : ∃ zz : Int, zz = (v1) + (a1) := ⟨_, rfl⟩
  have b6 : -6442450944 ≤ v4 ∧ v4 ≤ 6442450941 := by omega
  refine w_t (np := 9) (l2 := [some (eI (a0)), some (eI (a1)), none, none, none, none, none]) (s2 := [eJ (v4)]) rfl (b_ladd (by rw [← e5]; exact ev_W_in (by omega) (by omega))) rfl ?_
  refine w_t (np := 10) (l2 := [some (eI (a0)), some (eI (a1)), some (eJ (v4)), none, none, none, none]) (s2 := []) rfl rfl rfl ?_
  refine w_t (np := 11) (l2 := [some (eI (a0)), some (eI (a1)), some (eJ (v4)), none, none, none, none]) (s2 := [eI (a1)]) rfl rfl rfl ?_
  refine w_t (np := 12) (l2 := [some (eI (a0)), some (eI (a1)), some (eJ (v4)), none, none, none, none]) (s2 := [eJ (a1)]) rfl (b_i2l (ev_w_in (by omega) (by omega))) rfl ?_
  refine w_t (np := 14) (l2 := [some (eI (a0)), some (eI (a1)), some (eJ (v4)), none, some (eJ (a1)), none, none]) (s2 := []) rfl rfl rfl ?_
  refine w_t (np := 15) (l2 := [some (eI (a0)), some (eI (a1)), some (eJ (v4)), none, some (eJ (a1)), none, none]) (s2 := [eJ (v4)]) rfl rfl rfl ?_
  refine w_t (np := 16) (l2 := [some (eI (a0)), some (eI (a1)), some (eJ (v4)), none, some (eJ (a1)), none, none]) (s2 := [eJ (0), eJ (v4)]) rfl rfl rfl ?_
  obtain ⟨v7, e8, b9⟩ := h_lcmp (v4) (0)
  refine w_t (np := 17) (l2 := [some (eI (a0)), some (eI (a1)), some (eJ (v4)), none, some (eJ (a1)), none, none]) (s2 := [eI (v7)]) rfl (e8 _ _) rfl ?_
  refine b_ine (t1 := 29) (t2 := 20) rfl rfl rfl (ev_w_in (by omega) (by omega)) (fun g10 => ?_) (fun g10 => ?_)
  · refine w_t (np := 30) (l2 := [some (eI (a0)), some (eI (a1)), some (eJ (v4)), none, some (eJ (a1)), none, none]) (s2 := [eJ (v4)]) rfl rfl rfl ?_
    refine w_t (np := 31) (l2 := [some (eI (a0)), some (eI (a1)), some (eJ (v4)), none, some (eJ (a1)), none, none]) (s2 := [eJ (0), eJ (v4)]) rfl rfl rfl ?_
    obtain ⟨v11, e12, b13⟩ := h_lcmp (v4) (0)
    refine w_t (np := 32) (l2 := [some (eI (a0)), some (eI (a1)), some (eJ (v4)), none, some (eJ (a1)), none, none]) (s2 := [eI (v11)]) rfl (e12 _ _) rfl ?_
    refine b_ilt (t1 := 44) (t2 := 35) rfl rfl rfl (ev_w_in (by omega) (by omega)) (fun g14 => ?_) (fun g14 => ?_)
    · have b15 : -1 ≤ v11 ∧ v11 ≤ -1 := by omega
      refine w_t (np := 45) (l2 := [some (eI (a0)), some (eI (a1)), some (eJ (v4)), none, some (eJ (a1)), none, none]) (s2 := [eJ (v4)]) rfl rfl rfl ?_
      refine w_t (np := 46) (l2 := [some (eI (a0)), some (eI (a1)), some (eJ (v4)), none, some (eJ (a1)), none, none]) (s2 := [eJ (0), eJ (v4)]) rfl rfl rfl ?_
      obtain ⟨v15, e16, b17⟩ := h_lcmp (v4) (0)
      refine w_t (np := 47) (l2 := [some (eI (a0)), some (eI (a1)), some (eJ (v4)), none, some (eJ (a1)), none, none]) (s2 := [eI (v15)]) rfl (e16 _ _) rfl ?_
      refine b_igt (t1 := 59) (t2 := 50) rfl rfl rfl (ev_w_in (by omega) (by omega)) (fun g18 => ?_) (fun g18 => ?_)
      · have b19 : 1 ≤ v15 ∧ v15 ≤ 1 := by omega
        refine w_t (np := 60) (l2 := [some (eI (a0)), some (eI (a1)), some (eJ (v4)), none, some (eJ (a1)), none, none]) (s2 := [eJ (v4)]) rfl rfl rfl ?_
        refine w_t (np := 61) (l2 := [some (eI (a0)), some (eI (a1)), some (eJ (v4)), none, some (eJ (a1)), none, none]) (s2 := [eJ (v4), eJ (v4)]) rfl rfl rfl ?_
        obtain ⟨v19, e20, b21⟩ : ∃ zz : Int, ev_W ((v4) * (v4)) = zz ∧ (-9223372036854775808 ≤ zz ∧ zz ≤ 9223372036854775807) := ⟨_, rfl, hW_bd _⟩
        refine w_t (np := 62) (l2 := [some (eI (a0)), some (eI (a1)), some (eJ (v4)), none, some (eJ (a1)), none, none]) (s2 := [eJ (v19)]) rfl (b_lmul e20) rfl ?_
        refine v_l2 (np := 65) (c := 5) rfl rfl (by decide) ?_
        rw [show zJ 5 = 5 by decide]
        refine w_t (np := 67) (l2 := [some (eI (a0)), some (eI (a1)), some (eJ (v4)), none, some (eJ (a1)), none, none]) (s2 := [eJ (a1), eJ (5), eJ (v19)]) rfl rfl rfl ?_
        obtain ⟨v22, e23⟩ : ∃ zz : Int, zz = (5) * (a1) := ⟨_, rfl⟩
        have b24 : -10737418240 ≤ v22 ∧ v22 ≤ 10737418235 := by omega
        refine w_t (np := 68) (l2 := [some (eI (a0)), some (eI (a1)), some (eJ (v4)), none, some (eJ (a1)), none, none]) (s2 := [eJ (v22), eJ (v19)]) rfl (b_lmul (by rw [← e23]; exact ev_W_in (by omega) (by omega))) rfl ?_
        refine w_t (np := 70) (l2 := [some (eI (a0)), some (eI (a1)), some (eJ (v4)), none, some (eJ (a1)), none, none]) (s2 := [eJ (a1), eJ (v22), eJ (v19)]) rfl rfl rfl ?_
        obtain ⟨v25, e26, b27⟩ : ∃ zz : Int, ev_W ((v22) * (a1)) = zz ∧ (-9223372036854775808 ≤ zz ∧ zz ≤ 9223372036854775807) := ⟨_, rfl, hW_bd _⟩
        refine w_t (np := 71) (l2 := [some (eI (a0)), some (eI (a1)), some (eJ (v4)), none, some (eJ (a1)), none, none]) (s2 := [eJ (v25), eJ (v19)]) rfl (b_lmul e26) rfl ?_
        obtain ⟨v28, e29, b30⟩ := h_lcmp (v19) (v25)
        refine w_t (np := 72) (l2 := [some (eI (a0)), some (eI (a1)), some (eJ (v4)), none, some (eJ (a1)), none, none]) (s2 := [eI (v28)]) rfl (e29 _ _) rfl ?_
        refine b_ile (t1 := 79) (t2 := 75) rfl rfl rfl (ev_w_in (by omega) (by omega)) (fun g31 => ?_) (fun g31 => ?_)
        · have b32 : -1 ≤ v28 ∧ v28 ≤ 0 := by omega
          refine w_t (np := 80) (l2 := [some (eI (a0)), some (eI (a1)), some (eJ (v4)), none, some (eJ (a1)), none, none]) (s2 := [eI (0)]) rfl rfl rfl ?_
          refine w_t (np := 82) (l2 := [some (eI (a0)), some (eI (a1)), some (eJ (v4)), none, some (eJ (a1)), none, some (eI (0))]) (s2 := []) rfl rfl rfl ?_
          refine w_t (np := 84) (l2 := [some (eI (a0)), some (eI (a1)), some (eJ (v4)), none, some (eJ (a1)), none, some (eI (0))]) (s2 := [eI (0)]) rfl rfl rfl ?_
          refine w_t (np := 85) (l2 := [some (eI (a0)), some (eI (a1)), some (eJ (v4)), none, some (eJ (a1)), none, some (eI (0))]) (s2 := [eJ (v4), eI (0)]) rfl rfl rfl ?_
          refine w_t (np := 86) (l2 := [some (eI (a0)), some (eI (a1)), some (eJ (v4)), none, some (eJ (a1)), none, some (eI (0))]) (s2 := [eJ (0), eJ (v4), eI (0)]) rfl rfl rfl ?_
          obtain ⟨v32, e33, b34⟩ := h_lcmp (v4) (0)
          refine w_t (np := 87) (l2 := [some (eI (a0)), some (eI (a1)), some (eJ (v4)), none, some (eJ (a1)), none, some (eI (0))]) (s2 := [eI (v32), eI (0)]) rfl (e33 _ _) rfl ?_
          refine b_ile (t1 := 94) (t2 := 90) rfl rfl rfl (ev_w_in (by omega) (by omega)) (fun g35 => ?_) (fun g35 => ?_)
          · have b36 : -1 ≤ v32 ∧ v32 ≤ 0 := by omega
            refine w_t (np := 95) (l2 := [some (eI (a0)), some (eI (a1)), some (eJ (v4)), none, some (eJ (a1)), none, some (eI (0))]) (s2 := [eI (0), eI (0)]) rfl rfl rfl ?_
            refine b_cne (t1 := 102) (t2 := 98) rfl rfl rfl rfl rfl (fun g36 => absurd g36 (by decide)) (fun g36 => ?_)
            refine w_t (np := 99) (l2 := [some (eI (a0)), some (eI (a1)), some (eJ (v4)), none, some (eJ (a1)), none, some (eI (0))]) (s2 := [eI (1)]) rfl rfl rfl ?_
            refine w_go (t1 := 103) rfl rfl ?_
            exact b_ri rfl rfl (K (1) (by decide))
          · have b36 : 1 ≤ v32 ∧ v32 ≤ 1 := by omega
            refine w_t (np := 91) (l2 := [some (eI (a0)), some (eI (a1)), some (eJ (v4)), none, some (eJ (a1)), none, some (eI (0))]) (s2 := [eI (1), eI (0)]) rfl rfl rfl ?_
            refine w_go (t1 := 95) rfl rfl ?_
            refine b_cne (t1 := 102) (t2 := 98) rfl rfl rfl rfl rfl (fun g36 => ?_) (fun g36 => absurd g36 (by decide))
            refine w_t (np := 103) (l2 := [some (eI (a0)), some (eI (a1)), some (eJ (v4)), none, some (eJ (a1)), none, some (eI (0))]) (s2 := [eI (-1)]) rfl rfl rfl ?_
            exact b_ri rfl rfl (K (-1) (by decide))
        · have b32 : 1 ≤ v28 ∧ v28 ≤ 1 := by omega
          refine w_t (np := 76) (l2 := [some (eI (a0)), some (eI (a1)), some (eJ (v4)), none, some (eJ (a1)), none, none]) (s2 := [eI (1)]) rfl rfl rfl ?_
          refine w_go (t1 := 80) rfl rfl ?_
          refine w_t (np := 82) (l2 := [some (eI (a0)), some (eI (a1)), some (eJ (v4)), none, some (eJ (a1)), none, some (eI (1))]) (s2 := []) rfl rfl rfl ?_
          refine w_t (np := 84) (l2 := [some (eI (a0)), some (eI (a1)), some (eJ (v4)), none, some (eJ (a1)), none, some (eI (1))]) (s2 := [eI (1)]) rfl rfl rfl ?_
          refine w_t (np := 85) (l2 := [some (eI (a0)), some (eI (a1)), some (eJ (v4)), none, some (eJ (a1)), none, some (eI (1))]) (s2 := [eJ (v4), eI (1)]) rfl rfl rfl ?_
          refine w_t (np := 86) (l2 := [some (eI (a0)), some (eI (a1)), some (eJ (v4)), none, some (eJ (a1)), none, some (eI (1))]) (s2 := [eJ (0), eJ (v4), eI (1)]) rfl rfl rfl ?_
          obtain ⟨v32, e33, b34⟩ := h_lcmp (v4) (0)
          refine w_t (np := 87) (l2 := [some (eI (a0)), some (eI (a1)), some (eJ (v4)), none, some (eJ (a1)), none, some (eI (1))]) (s2 := [eI (v32), eI (1)]) rfl (e33 _ _) rfl ?_
          refine b_ile (t1 := 94) (t2 := 90) rfl rfl rfl (ev_w_in (by omega) (by omega)) (fun g35 => ?_) (fun g35 => ?_)
          · have b36 : -1 ≤ v32 ∧ v32 ≤ 0 := by omega
            refine w_t (np := 95) (l2 := [some (eI (a0)), some (eI (a1)), some (eJ (v4)), none, some (eJ (a1)), none, some (eI (1))]) (s2 := [eI (0), eI (1)]) rfl rfl rfl ?_
            refine b_cne (t1 := 102) (t2 := 98) rfl rfl rfl rfl rfl (fun g36 => ?_) (fun g36 => absurd g36 (by decide))
            refine w_t (np := 103) (l2 := [some (eI (a0)), some (eI (a1)), some (eJ (v4)), none, some (eJ (a1)), none, some (eI (1))]) (s2 := [eI (-1)]) rfl rfl rfl ?_
            exact b_ri rfl rfl (K (-1) (by decide))
          · have b36 : 1 ≤ v32 ∧ v32 ≤ 1 := by omega
            refine w_t (np := 91) (l2 := [some (eI (a0)), some (eI (a1)), some (eJ (v4)), none, some (eJ (a1)), none, some (eI (1))]) (s2 := [eI (1), eI (1)]) rfl rfl rfl ?_
            refine w_go (t1 := 95) rfl rfl ?_
            refine b_cne (t1 := 102) (t2 := 98) rfl rfl rfl rfl rfl (fun g36 => absurd g36 (by decide)) (fun g36 => ?_)
            refine w_t (np := 99) (l2 := [some (eI (a0)), some (eI (a1)), some (eJ (v4)), none, some (eJ (a1)), none, some (eI (1))]) (s2 := [eI (1)]) rfl rfl rfl ?_
            refine w_go (t1 := 103) rfl rfl ?_
            exact b_ri rfl rfl (K (1) (by decide))
      · have b19 : -1 ≤ v15 ∧ v15 ≤ 0 := by omega
        refine w_t (np := 52) (l2 := [some (eI (a0)), some (eI (a1)), some (eJ (v4)), none, some (eJ (a1)), none, none]) (s2 := [eJ (a1)]) rfl rfl rfl ?_
        refine w_t (np := 53) (l2 := [some (eI (a0)), some (eI (a1)), some (eJ (v4)), none, some (eJ (a1)), none, none]) (s2 := [eJ (0), eJ (a1)]) rfl rfl rfl ?_
        obtain ⟨v19, e20, b21⟩ := h_lcmp (a1) (0)
        refine w_t (np := 54) (l2 := [some (eI (a0)), some (eI (a1)), some (eJ (v4)), none, some (eJ (a1)), none, none]) (s2 := [eI (v19)]) rfl (e20 _ _) rfl ?_
        refine b_igt (t1 := 59) (t2 := 57) rfl rfl rfl (ev_w_in (by omega) (by omega)) (fun g22 => ?_) (fun g22 => ?_)
        · have b23 : 1 ≤ v19 ∧ v19 ≤ 1 := by omega
          refine w_t (np := 60) (l2 := [some (eI (a0)), some (eI (a1)), some (eJ (v4)), none, some (eJ (a1)), none, none]) (s2 := [eJ (v4)]) rfl rfl rfl ?_
          refine w_t (np := 61) (l2 := [some (eI (a0)), some (eI (a1)), some (eJ (v4)), none, some (eJ (a1)), none, none]) (s2 := [eJ (v4), eJ (v4)]) rfl rfl rfl ?_
          obtain ⟨v23, e24, b25⟩ : ∃ zz : Int, ev_W ((v4) * (v4)) = zz ∧ (-9223372036854775808 ≤ zz ∧ zz ≤ 9223372036854775807) := ⟨_, rfl, hW_bd _⟩
          refine w_t (np := 62) (l2 := [some (eI (a0)), some (eI (a1)), some (eJ (v4)), none, some (eJ (a1)), none, none]) (s2 := [eJ (v23)]) rfl (b_lmul e24) rfl ?_
          refine v_l2 (np := 65) (c := 5) rfl rfl (by decide) ?_
          rw [show zJ 5 = 5 by decide]
          refine w_t (np := 67) (l2 := [some (eI (a0)), some (eI (a1)), some (eJ (v4)), none, some (eJ (a1)), none, none]) (s2 := [eJ (a1), eJ (5), eJ (v23)]) rfl rfl rfl ?_
          obtain ⟨v26, e27⟩ : ∃ zz : Int, zz = (5) * (a1) := ⟨_, rfl⟩
          have b28 : -10737418240 ≤ v26 ∧ v26 ≤ 10737418235 := by omega
          refine w_t (np := 68) (l2 := [some (eI (a0)), some (eI (a1)), some (eJ (v4)), none, some (eJ (a1)), none, none]) (s2 := [eJ (v26), eJ (v23)]) rfl (b_lmul (by rw [← e27]; exact ev_W_in (by omega) (by omega))) rfl ?_
          refine w_t (np := 70) (l2 := [some (eI (a0)), some (eI (a1)), some (eJ (v4)), none, some (eJ (a1)), none, none]) (s2 := [eJ (a1), eJ (v26), eJ (v23)]) rfl rfl rfl ?_
          obtain ⟨v29, e30, b31⟩ : ∃ zz : Int, ev_W ((v26) * (a1)) = zz ∧ (-9223372036854775808 ≤ zz ∧ zz ≤ 9223372036854775807) := ⟨_, rfl, hW_bd _⟩
          refine w_t (np := 71) (l2 := [some (eI (a0)), some (eI (a1)), some (eJ (v4)), none, some (eJ (a1)), none, none]) (s2 := [eJ (v29), eJ (v23)]) rfl (b_lmul e30) rfl ?_
          obtain ⟨v32, e33, b34⟩ := h_lcmp (v23) (v29)
          refine w_t (np := 72) (l2 := [some (eI (a0)), some (eI (a1)), some (eJ (v4)), none, some (eJ (a1)), none, none]) (s2 := [eI (v32)]) rfl (e33 _ _) rfl ?_
          refine b_ile (t1 := 79) (t2 := 75) rfl rfl rfl (ev_w_in (by omega) (by omega)) (fun g35 => ?_) (fun g35 => ?_)
          · have b36 : -1 ≤ v32 ∧ v32 ≤ 0 := by omega
            refine w_t (np := 80) (l2 := [some (eI (a0)), some (eI (a1)), some (eJ (v4)), none, some (eJ (a1)), none, none]) (s2 := [eI (0)]) rfl rfl rfl ?_
            refine w_t (np := 82) (l2 := [some (eI (a0)), some (eI (a1)), some (eJ (v4)), none, some (eJ (a1)), none, some (eI (0))]) (s2 := []) rfl rfl rfl ?_
            refine w_t (np := 84) (l2 := [some (eI (a0)), some (eI (a1)), some (eJ (v4)), none, some (eJ (a1)), none, some (eI (0))]) (s2 := [eI (0)]) rfl rfl rfl ?_
            refine w_t (np := 85) (l2 := [some (eI (a0)), some (eI (a1)), some (eJ (v4)), none, some (eJ (a1)), none, some (eI (0))]) (s2 := [eJ (v4), eI (0)]) rfl rfl rfl ?_
            refine w_t (np := 86) (l2 := [some (eI (a0)), some (eI (a1)), some (eJ (v4)), none, some (eJ (a1)), none, some (eI (0))]) (s2 := [eJ (0), eJ (v4), eI (0)]) rfl rfl rfl ?_
            obtain ⟨v36, e37, b38⟩ := h_lcmp (v4) (0)
            refine w_t (np := 87) (l2 := [some (eI (a0)), some (eI (a1)), some (eJ (v4)), none, some (eJ (a1)), none, some (eI (0))]) (s2 := [eI (v36), eI (0)]) rfl (e37 _ _) rfl ?_
            refine b_ile (t1 := 94) (t2 := 90) rfl rfl rfl (ev_w_in (by omega) (by omega)) (fun g39 => ?_) (fun g39 => ?_)
            · have b40 : -1 ≤ v36 ∧ v36 ≤ 0 := by omega
              refine w_t (np := 95) (l2 := [some (eI (a0)), some (eI (a1)), some (eJ (v4)), none, some (eJ (a1)), none, some (eI (0))]) (s2 := [eI (0), eI (0)]) rfl rfl rfl ?_
              refine b_cne (t1 := 102) (t2 := 98) rfl rfl rfl rfl rfl (fun g40 => absurd g40 (by decide)) (fun g40 => ?_)
              refine w_t (np := 99) (l2 := [some (eI (a0)), some (eI (a1)), some (eJ (v4)), none, some (eJ (a1)), none, some (eI (0))]) (s2 := [eI (1)]) rfl rfl rfl ?_
              refine w_go (t1 := 103) rfl rfl ?_
              exact b_ri rfl rfl (K (1) (by decide))
            · have b40 : 1 ≤ v36 ∧ v36 ≤ 1 := by omega
              refine w_t (np := 91) (l2 := [some (eI (a0)), some (eI (a1)), some (eJ (v4)), none, some (eJ (a1)), none, some (eI (0))]) (s2 := [eI (1), eI (0)]) rfl rfl rfl ?_
              refine w_go (t1 := 95) rfl rfl ?_
              refine b_cne (t1 := 102) (t2 := 98) rfl rfl rfl rfl rfl (fun g40 => ?_) (fun g40 => absurd g40 (by decide))
              refine w_t (np := 103) (l2 := [some (eI (a0)), some (eI (a1)), some (eJ (v4)), none, some (eJ (a1)), none, some (eI (0))]) (s2 := [eI (-1)]) rfl rfl rfl ?_
              exact b_ri rfl rfl (K (-1) (by decide))
          · have b36 : 1 ≤ v32 ∧ v32 ≤ 1 := by omega
            refine w_t (np := 76) (l2 := [some (eI (a0)), some (eI (a1)), some (eJ (v4)), none, some (eJ (a1)), none, none]) (s2 := [eI (1)]) rfl rfl rfl ?_
            refine w_go (t1 := 80) rfl rfl ?_
            refine w_t (np := 82) (l2 := [some (eI (a0)), some (eI (a1)), some (eJ (v4)), none, some (eJ (a1)), none, some (eI (1))]) (s2 := []) rfl rfl rfl ?_
            refine w_t (np := 84) (l2 := [some (eI (a0)), some (eI (a1)), some (eJ (v4)), none, some (eJ (a1)), none, some (eI (1))]) (s2 := [eI (1)]) rfl rfl rfl ?_
            refine w_t (np := 85) (l2 := [some (eI (a0)), some (eI (a1)), some (eJ (v4)), none, some (eJ (a1)), none, some (eI (1))]) (s2 := [eJ (v4), eI (1)]) rfl rfl rfl ?_
            refine w_t (np := 86) (l2 := [some (eI (a0)), some (eI (a1)), some (eJ (v4)), none, some (eJ (a1)), none, some (eI (1))]) (s2 := [eJ (0), eJ (v4), eI (1)]) rfl rfl rfl ?_
            obtain ⟨v36, e37, b38⟩ := h_lcmp (v4) (0)
            refine w_t (np := 87) (l2 := [some (eI (a0)), some (eI (a1)), some (eJ (v4)), none, some (eJ (a1)), none, some (eI (1))]) (s2 := [eI (v36), eI (1)]) rfl (e37 _ _) rfl ?_
            refine b_ile (t1 := 94) (t2 := 90) rfl rfl rfl (ev_w_in (by omega) (by omega)) (fun g39 => ?_) (fun g39 => ?_)
            · have b40 : -1 ≤ v36 ∧ v36 ≤ 0 := by omega
              refine w_t (np := 95) (l2 := [some (eI (a0)), some (eI (a1)), some (eJ (v4)), none, some (eJ (a1)), none, some (eI (1))]) (s2 := [eI (0), eI (1)]) rfl rfl rfl ?_
              refine b_cne (t1 := 102) (t2 := 98) rfl rfl rfl rfl rfl (fun g40 => ?_) (fun g40 => absurd g40 (by decide))
              refine w_t (np := 103) (l2 := [some (eI (a0)), some (eI (a1)), some (eJ (v4)), none, some (eJ (a1)), none, some (eI (1))]) (s2 := [eI (-1)]) rfl rfl rfl ?_
              exact b_ri rfl rfl (K (-1) (by decide))
            · have b40 : 1 ≤ v36 ∧ v36 ≤ 1 := by omega
              refine w_t (np := 91) (l2 := [some (eI (a0)), some (eI (a1)), some (eJ (v4)), none, some (eJ (a1)), none, some (eI (1))]) (s2 := [eI (1), eI (1)]) rfl rfl rfl ?_
              refine w_go (t1 := 95) rfl rfl ?_
              refine b_cne (t1 := 102) (t2 := 98) rfl rfl rfl rfl rfl (fun g40 => absurd g40 (by decide)) (fun g40 => ?_)
              refine w_t (np := 99) (l2 := [some (eI (a0)), some (eI (a1)), some (eJ (v4)), none, some (eJ (a1)), none, some (eI (1))]) (s2 := [eI (1)]) rfl rfl rfl ?_
              refine w_go (t1 := 103) rfl rfl ?_
              exact b_ri rfl rfl (K (1) (by decide))
        · have b23 : -1 ≤ v19 ∧ v19 ≤ 0 := by omega
          refine w_t (np := 58) (l2 := [some (eI (a0)), some (eI (a1)), some (eJ (v4)), none, some (eJ (a1)), none, none]) (s2 := [eI (-1)]) rfl rfl rfl ?_
          exact b_ri rfl rfl (K (-1) (by decide))
    · have b15 : 0 ≤ v11 ∧ v11 ≤ 1 := by omega
      refine w_t (np := 37) (l2 := [some (eI (a0)), some (eI (a1)), some (eJ (v4)), none, some (eJ (a1)), none, none]) (s2 := [eJ (a1)]) rfl rfl rfl ?_
      refine w_t (np := 38) (l2 := [some (eI (a0)), some (eI (a1)), some (eJ (v4)), none, some (eJ (a1)), none, none]) (s2 := [eJ (0), eJ (a1)]) rfl rfl rfl ?_
      obtain ⟨v15, e16, b17⟩ := h_lcmp (a1) (0)
      refine w_t (np := 39) (l2 := [some (eI (a0)), some (eI (a1)), some (eJ (v4)), none, some (eJ (a1)), none, none]) (s2 := [eI (v15)]) rfl (e16 _ _) rfl ?_
      refine b_ilt (t1 := 44) (t2 := 42) rfl rfl rfl (ev_w_in (by omega) (by omega)) (fun g18 => ?_) (fun g18 => ?_)
      · have b19 : -1 ≤ v15 ∧ v15 ≤ -1 := by omega
        refine w_t (np := 45) (l2 := [some (eI (a0)), some (eI (a1)), some (eJ (v4)), none, some (eJ (a1)), none, none]) (s2 := [eJ (v4)]) rfl rfl rfl ?_
        refine w_t (np := 46) (l2 := [some (eI (a0)), some (eI (a1)), some (eJ (v4)), none, some (eJ (a1)), none, none]) (s2 := [eJ (0), eJ (v4)]) rfl rfl rfl ?_
        obtain ⟨v19, e20, b21⟩ := h_lcmp (v4) (0)
        refine w_t (np := 47) (l2 := [some (eI (a0)), some (eI (a1)), some (eJ (v4)), none, some (eJ (a1)), none, none]) (s2 := [eI (v19)]) rfl (e20 _ _) rfl ?_
        refine b_igt (t1 := 59) (t2 := 50) rfl rfl rfl (ev_w_in (by omega) (by omega)) (fun g22 => ?_) (fun g22 => ?_)
        · have b23 : 1 ≤ v19 ∧ v19 ≤ 1 := by omega
          refine w_t (np := 60) (l2 := [some (eI (a0)), some (eI (a1)), some (eJ (v4)), none, some (eJ (a1)), none, none]) (s2 := [eJ (v4)]) rfl rfl rfl ?_
          refine w_t (np := 61) (l2 := [some (eI (a0)), some (eI (a1)), some (eJ (v4)), none, some (eJ (a1)), none, none]) (s2 := [eJ (v4), eJ (v4)]) rfl rfl rfl ?_
          obtain ⟨v23, e24, b25⟩ : ∃ zz : Int, ev_W ((v4) * (v4)) = zz ∧ (-9223372036854775808 ≤ zz ∧ zz ≤ 9223372036854775807) := ⟨_, rfl, hW_bd _⟩
          refine w_t (np := 62) (l2 := [some (eI (a0)), some (eI (a1)), some (eJ (v4)), none, some (eJ (a1)), none, none]) (s2 := [eJ (v23)]) rfl (b_lmul e24) rfl ?_
          refine v_l2 (np := 65) (c := 5) rfl rfl (by decide) ?_
          rw [show zJ 5 = 5 by decide]
          refine w_t (np := 67) (l2 := [some (eI (a0)), some (eI (a1)), some (eJ (v4)), none, some (eJ (a1)), none, none]) (s2 := [eJ (a1), eJ (5), eJ (v23)]) rfl rfl rfl ?_
          obtain ⟨v26, e27⟩ : ∃ zz : Int, zz = (5) * (a1) := ⟨_, rfl⟩
          have b28 : -10737418240 ≤ v26 ∧ v26 ≤ 10737418235 := by omega
          refine w_t (np := 68) (l2 := [some (eI (a0)), some (eI (a1)), some (eJ (v4)), none, some (eJ (a1)), none, none]) (s2 := [eJ (v26), eJ (v23)]) rfl (b_lmul (by rw [← e27]; exact ev_W_in (by omega) (by omega))) rfl ?_
          refine w_t (np := 70) (l2 := [some (eI (a0)), some (eI (a1)), some (eJ (v4)), none, some (eJ (a1)), none, none]) (s2 := [eJ (a1), eJ (v26), eJ (v23)]) rfl rfl rfl ?_
          obtain ⟨v29, e30, b31⟩ : ∃ zz : Int, ev_W ((v26) * (a1)) = zz ∧ (-9223372036854775808 ≤ zz ∧ zz ≤ 9223372036854775807) := ⟨_, rfl, hW_bd _⟩
          refine w_t (np := 71) (l2 := [some (eI (a0)), some (eI (a1)), some (eJ (v4)), none, some (eJ (a1)), none, none]) (s2 := [eJ (v29), eJ (v23)]) rfl (b_lmul e30) rfl ?_
          obtain ⟨v32, e33, b34⟩ := h_lcmp (v23) (v29)
          refine w_t (np := 72) (l2 := [some (eI (a0)), some (eI (a1)), some (eJ (v4)), none, some (eJ (a1)), none, none]) (s2 := [eI (v32)]) rfl (e33 _ _) rfl ?_
          refine b_ile (t1 := 79) (t2 := 75) rfl rfl rfl (ev_w_in (by omega) (by omega)) (fun g35 => ?_) (fun g35 => ?_)
          · have b36 : -1 ≤ v32 ∧ v32 ≤ 0 := by omega
            refine w_t (np := 80) (l2 := [some (eI (a0)), some (eI (a1)), some (eJ (v4)), none, some (eJ (a1)), none, none]) (s2 := [eI (0)]) rfl rfl rfl ?_
            refine w_t (np := 82) (l2 := [some (eI (a0)), some (eI (a1)), some (eJ (v4)), none, some (eJ (a1)), none, some (eI (0))]) (s2 := []) rfl rfl rfl ?_
            refine w_t (np := 84) (l2 := [some (eI (a0)), some (eI (a1)), some (eJ (v4)), none, some (eJ (a1)), none, some (eI (0))]) (s2 := [eI (0)]) rfl rfl rfl ?_
            refine w_t (np := 85) (l2 := [some (eI (a0)), some (eI (a1)), some (eJ (v4)), none, some (eJ (a1)), none, some (eI (0))]) (s2 := [eJ (v4), eI (0)]) rfl rfl rfl ?_
            refine w_t (np := 86) (l2 := [some (eI (a0)), some (eI (a1)), some (eJ (v4)), none, some (eJ (a1)), none, some (eI (0))]) (s2 := [eJ (0), eJ (v4), eI (0)]) rfl rfl rfl ?_
            obtain ⟨v36, e37, b38⟩ := h_lcmp (v4) (0)
            refine w_t (np := 87) (l2 := [some (eI (a0)), some (eI (a1)), some (eJ (v4)), none, some (eJ (a1)), none, some (eI (0))]) (s2 := [eI (v36), eI (0)]) rfl (e37 _ _) rfl ?_
            refine b_ile (t1 := 94) (t2 := 90) rfl rfl rfl (ev_w_in (by omega) (by omega)) (fun g39 => ?_) (fun g39 => ?_)
            · have b40 : -1 ≤ v36 ∧ v36 ≤ 0 := by omega
              refine w_t (np := 95) (l2 := [some (eI (a0)), some (eI (a1)), some (eJ (v4)), none, some (eJ (a1)), none, some (eI (0))]) (s2 := [eI (0), eI (0)]) rfl rfl rfl ?_
              refine b_cne (t1 := 102) (t2 := 98) rfl rfl rfl rfl rfl (fun g40 => absurd g40 (by decide)) (fun g40 => ?_)
              refine w_t (np := 99) (l2 := [some (eI (a0)), some (eI (a1)), some (eJ (v4)), none, some (eJ (a1)), none, some (eI (0))]) (s2 := [eI (1)]) rfl rfl rfl ?_
              refine w_go (t1 := 103) rfl rfl ?_
              exact b_ri rfl rfl (K (1) (by decide))
            · have b40 : 1 ≤ v36 ∧ v36 ≤ 1 := by omega
              refine w_t (np := 91) (l2 := [some (eI (a0)), some (eI (a1)), some (eJ (v4)), none, some (eJ (a1)), none, some (eI (0))]) (s2 := [eI (1), eI (0)]) rfl rfl rfl ?_
              refine w_go (t1 := 95) rfl rfl ?_
              refine b_cne (t1 := 102) (t2 := 98) rfl rfl rfl rfl rfl (fun g40 => ?_) (fun g40 => absurd g40 (by decide))
              refine w_t (np := 103) (l2 := [some (eI (a0)), some (eI (a1)), some (eJ (v4)), none, some (eJ (a1)), none, some (eI (0))]) (s2 := [eI (-1)]) rfl rfl rfl ?_
              exact b_ri rfl rfl (K (-1) (by decide))
          · have b36 : 1 ≤ v32 ∧ v32 ≤ 1 := by omega
            refine w_t (np := 76) (l2 := [some (eI (a0)), some (eI (a1)), some (eJ (v4)), none, some (eJ (a1)), none, none]) (s2 := [eI (1)]) rfl rfl rfl ?_
            refine w_go (t1 := 80) rfl rfl ?_
            refine w_t (np := 82) (l2 := [some (eI (a0)), some (eI (a1)), some (eJ (v4)), none, some (eJ (a1)), none, some (eI (1))]) (s2 := []) rfl rfl rfl ?_
            refine w_t (np := 84) (l2 := [some (eI (a0)), some (eI (a1)), some (eJ (v4)), none, some (eJ (a1)), none, some (eI (1))]) (s2 := [eI (1)]) rfl rfl rfl ?_
            refine w_t (np := 85) (l2 := [some (eI (a0)), some (eI (a1)), some (eJ (v4)), none, some (eJ (a1)), none, some (eI (1))]) (s2 := [eJ (v4), eI (1)]) rfl rfl rfl ?_
            refine w_t (np := 86) (l2 := [some (eI (a0)), some (eI (a1)), some (eJ (v4)), none, some (eJ (a1)), none, some (eI (1))]) (s2 := [eJ (0), eJ (v4), eI (1)]) rfl rfl rfl ?_
            obtain ⟨v36, e37, b38⟩ := h_lcmp (v4) (0)
            refine w_t (np := 87) (l2 := [some (eI (a0)), some (eI (a1)), some (eJ (v4)), none, some (eJ (a1)), none, some (eI (1))]) (s2 := [eI (v36), eI (1)]) rfl (e37 _ _) rfl ?_
            refine b_ile (t1 := 94) (t2 := 90) rfl rfl rfl (ev_w_in (by omega) (by omega)) (fun g39 => ?_) (fun g39 => ?_)
            · have b40 : -1 ≤ v36 ∧ v36 ≤ 0 := by omega
              refine w_t (np := 95) (l2 := [some (eI (a0)), some (eI (a1)), some (eJ (v4)), none, some (eJ (a1)), none, some (eI (1))]) (s2 := [eI (0), eI (1)]) rfl rfl rfl ?_
              refine b_cne (t1 := 102) (t2 := 98) rfl rfl rfl rfl rfl (fun g40 => ?_) (fun g40 => absurd g40 (by decide))
              refine w_t (np := 103) (l2 := [some (eI (a0)), some (eI (a1)), some (eJ (v4)), none, some (eJ (a1)), none, some (eI (1))]) (s2 := [eI (-1)]) rfl rfl rfl ?_
              exact b_ri rfl rfl (K (-1) (by decide))
            · have b40 : 1 ≤ v36 ∧ v36 ≤ 1 := by omega
              refine w_t (np := 91) (l2 := [some (eI (a0)), some (eI (a1)), some (eJ (v4)), none, some (eJ (a1)), none, some (eI (1))]) (s2 := [eI (1), eI (1)]) rfl rfl rfl ?_
              refine w_go (t1 := 95) rfl rfl ?_
              refine b_cne (t1 := 102) (t2 := 98) rfl rfl rfl rfl rfl (fun g40 => absurd g40 (by decide)) (fun g40 => ?_)
              refine w_t (np := 99) (l2 := [some (eI (a0)), some (eI (a1)), some (eJ (v4)), none, some (eJ (a1)), none, some (eI (1))]) (s2 := [eI (1)]) rfl rfl rfl ?_
              refine w_go (t1 := 103) rfl rfl ?_
              exact b_ri rfl rfl (K (1) (by decide))
        · have b23 : -1 ≤ v19 ∧ v19 ≤ 0 := by omega
          refine w_t (np := 52) (l2 := [some (eI (a0)), some (eI (a1)), some (eJ (v4)), none, some (eJ (a1)), none, none]) (s2 := [eJ (a1)]) rfl rfl rfl ?_
          refine w_t (np := 53) (l2 := [some (eI (a0)), some (eI (a1)), some (eJ (v4)), none, some (eJ (a1)), none, none]) (s2 := [eJ (0), eJ (a1)]) rfl rfl rfl ?_
          obtain ⟨v23, e24, b25⟩ := h_lcmp (a1) (0)
          refine w_t (np := 54) (l2 := [some (eI (a0)), some (eI (a1)), some (eJ (v4)), none, some (eJ (a1)), none, none]) (s2 := [eI (v23)]) rfl (e24 _ _) rfl ?_
          refine b_igt (t1 := 59) (t2 := 57) rfl rfl rfl (ev_w_in (by omega) (by omega)) (fun g26 => ?_) (fun g26 => ?_)
          · have b27 : 1 ≤ v23 ∧ v23 ≤ 1 := by omega
            refine w_t (np := 60) (l2 := [some (eI (a0)), some (eI (a1)), some (eJ (v4)), none, some (eJ (a1)), none, none]) (s2 := [eJ (v4)]) rfl rfl rfl ?_
            refine w_t (np := 61) (l2 := [some (eI (a0)), some (eI (a1)), some (eJ (v4)), none, some (eJ (a1)), none, none]) (s2 := [eJ (v4), eJ (v4)]) rfl rfl rfl ?_
            obtain ⟨v27, e28, b29⟩ : ∃ zz : Int, ev_W ((v4) * (v4)) = zz ∧ (-9223372036854775808 ≤ zz ∧ zz ≤ 9223372036854775807) := ⟨_, rfl, hW_bd _⟩
            refine w_t (np := 62) (l2 := [some (eI (a0)), some (eI (a1)), some (eJ (v4)), none, some (eJ (a1)), none, none]) (s2 := [eJ (v27)]) rfl (b_lmul e28) rfl ?_
            refine v_l2 (np := 65) (c := 5) rfl rfl (by decide) ?_
            rw [show zJ 5 = 5 by decide]
            refine w_t (np := 67) (l2 := [some (eI (a0)), some (eI (a1)), some (eJ (v4)), none, some (eJ (a1)), none, none]) (s2 := [eJ (a1), eJ (5), eJ (v27)]) rfl rfl rfl ?_
            obtain ⟨v30, e31⟩ : ∃ zz : Int, zz = (5) * (a1) := ⟨_, rfl⟩
            have b32 : -10737418240 ≤ v30 ∧ v30 ≤ 10737418235 := by omega
            refine w_t (np := 68) (l2 := [some (eI (a0)), some (eI (a1)), some (eJ (v4)), none, some (eJ (a1)), none, none]) (s2 := [eJ (v30), eJ (v27)]) rfl (b_lmul (by rw [← e31]; exact ev_W_in (by omega) (by omega))) rfl ?_
            refine w_t (np := 70) (l2 := [some (eI (a0)), some (eI (a1)), some (eJ (v4)), none, some (eJ (a1)), none, none]) (s2 := [eJ (a1), eJ (v30), eJ (v27)]) rfl rfl rfl ?_
            obtain ⟨v33, e34, b35⟩ : ∃ zz : Int, ev_W ((v30) * (a1)) = zz ∧ (-9223372036854775808 ≤ zz ∧ zz ≤ 9223372036854775807) := ⟨_, rfl, hW_bd _⟩
            refine w_t (np := 71) (l2 := [some (eI (a0)), some (eI (a1)), some (eJ (v4)), none, some (eJ (a1)), none, none]) (s2 := [eJ (v33), eJ (v27)]) rfl (b_lmul e34) rfl ?_
            obtain ⟨v36, e37, b38⟩ := h_lcmp (v27) (v33)
            refine w_t (np := 72) (l2 := [some (eI (a0)), some (eI (a1)), some (eJ (v4)), none, some (eJ (a1)), none, none]) (s2 := [eI (v36)]) rfl (e37 _ _) rfl ?_
            refine b_ile (t1 := 79) (t2 := 75) rfl rfl rfl (ev_w_in (by omega) (by omega)) (fun g39 => ?_) (fun g39 => ?_)
            · have b40 : -1 ≤ v36 ∧ v36 ≤ 0 := by omega
              refine w_t (np := 80) (l2 := [some (eI (a0)), some (eI (a1)), some (eJ (v4)), none, some (eJ (a1)), none, none]) (s2 := [eI (0)]) rfl rfl rfl ?_
              refine w_t (np := 82) (l2 := [some (eI (a0)), some (eI (a1)), some (eJ (v4)), none, some (eJ (a1)), none, some (eI (0))]) (s2 := []) rfl rfl rfl ?_
              refine w_t (np := 84) (l2 := [some (eI (a0)), some (eI (a1)), some (eJ (v4)), none, some (eJ (a1)), none, some (eI (0))]) (s2 := [eI (0)]) rfl rfl rfl ?_
              refine w_t (np := 85) (l2 := [some (eI (a0)), some (eI (a1)), some (eJ (v4)), none, some (eJ (a1)), none, some (eI (0))]) (s2 := [eJ (v4), eI (0)]) rfl rfl rfl ?_
              refine w_t (np := 86) (l2 := [some (eI (a0)), some (eI (a1)), some (eJ (v4)), none, some (eJ (a1)), none, some (eI (0))]) (s2 := [eJ (0), eJ (v4), eI (0)]) rfl rfl rfl ?_
              obtain ⟨v40, e41, b42⟩ := h_lcmp (v4) (0)
              refine w_t (np := 87) (l2 := [some (eI (a0)), some (eI (a1)), some (eJ (v4)), none, some (eJ (a1)), none, some (eI (0))]) (s2 := [eI (v40), eI (0)]) rfl (e41 _ _) rfl ?_
              refine b_ile (t1 := 94) (t2 := 90) rfl rfl rfl (ev_w_in (by omega) (by omega)) (fun g43 => ?_) (fun g43 => ?_)
              · have b44 : -1 ≤ v40 ∧ v40 ≤ 0 := by omega
                refine w_t (np := 95) (l2 := [some (eI (a0)), some (eI (a1)), some (eJ (v4)), none, some (eJ (a1)), none, some (eI (0))]) (s2 := [eI (0), eI (0)]) rfl rfl rfl ?_
                refine b_cne (t1 := 102) (t2 := 98) rfl rfl rfl rfl rfl (fun g44 => absurd g44 (by decide)) (fun g44 => ?_)
                refine w_t (np := 99) (l2 := [some (eI (a0)), some (eI (a1)), some (eJ (v4)), none, some (eJ (a1)), none, some (eI (0))]) (s2 := [eI (1)]) rfl rfl rfl ?_
                refine w_go (t1 := 103) rfl rfl ?_
                exact b_ri rfl rfl (K (1) (by decide))
              · have b44 : 1 ≤ v40 ∧ v40 ≤ 1 := by omega
                refine w_t (np := 91) (l2 := [some (eI (a0)), some (eI (a1)), some (eJ (v4)), none, some (eJ (a1)), none, some (eI (0))]) (s2 := [eI (1), eI (0)]) rfl rfl rfl ?_
                refine w_go (t1 := 95) rfl rfl ?_
                refine b_cne (t1 := 102) (t2 := 98) rfl rfl rfl rfl rfl (fun g44 => ?_) (fun g44 => absurd g44 (by decide))
                refine w_t (np := 103) (l2 := [some (eI (a0)), some (eI (a1)), some (eJ (v4)), none, some (eJ (a1)), none, some (eI (0))]) (s2 := [eI (-1)]) rfl rfl rfl ?_
                exact b_ri rfl rfl (K (-1) (by decide))
            · have b40 : 1 ≤ v36 ∧ v36 ≤ 1 := by omega
              refine w_t (np := 76) (l2 := [some (eI (a0)), some (eI (a1)), some (eJ (v4)), none, some (eJ (a1)), none, none]) (s2 := [eI (1)]) rfl rfl rfl ?_
              refine w_go (t1 := 80) rfl rfl ?_
              refine w_t (np := 82) (l2 := [some (eI (a0)), some (eI (a1)), some (eJ (v4)), none, some (eJ (a1)), none, some (eI (1))]) (s2 := []) rfl rfl rfl ?_
              refine w_t (np := 84) (l2 := [some (eI (a0)), some (eI (a1)), some (eJ (v4)), none, some (eJ (a1)), none, some (eI (1))]) (s2 := [eI (1)]) rfl rfl rfl ?_
              refine w_t (np := 85) (l2 := [some (eI (a0)), some (eI (a1)), some (eJ (v4)), none, some (eJ (a1)), none, some (eI (1))]) (s2 := [eJ (v4), eI (1)]) rfl rfl rfl ?_
              refine w_t (np := 86) (l2 := [some (eI (a0)), some (eI (a1)), some (eJ (v4)), none, some (eJ (a1)), none, some (eI (1))]) (s2 := [eJ (0), eJ (v4), eI (1)]) rfl rfl rfl ?_
              obtain ⟨v40, e41, b42⟩ := h_lcmp (v4) (0)
              refine w_t (np := 87) (l2 := [some (eI (a0)), some (eI (a1)), some (eJ (v4)), none, some (eJ (a1)), none, some (eI (1))]) (s2 := [eI (v40), eI (1)]) rfl (e41 _ _) rfl ?_
              refine b_ile (t1 := 94) (t2 := 90) rfl rfl rfl (ev_w_in (by omega) (by omega)) (fun g43 => ?_) (fun g43 => ?_)
              · have b44 : -1 ≤ v40 ∧ v40 ≤ 0 := by omega
                refine w_t (np := 95) (l2 := [some (eI (a0)), some (eI (a1)), some (eJ (v4)), none, some (eJ (a1)), none, some (eI (1))]) (s2 := [eI (0), eI (1)]) rfl rfl rfl ?_
                refine b_cne (t1 := 102) (t2 := 98) rfl rfl rfl rfl rfl (fun g44 => ?_) (fun g44 => absurd g44 (by decide))
                refine w_t (np := 103) (l2 := [some (eI (a0)), some (eI (a1)), some (eJ (v4)), none, some (eJ (a1)), none, some (eI (1))]) (s2 := [eI (-1)]) rfl rfl rfl ?_
                exact b_ri rfl rfl (K (-1) (by decide))
              · have b44 : 1 ≤ v40 ∧ v40 ≤ 1 := by omega
                refine w_t (np := 91) (l2 := [some (eI (a0)), some (eI (a1)), some (eJ (v4)), none, some (eJ (a1)), none, some (eI (1))]) (s2 := [eI (1), eI (1)]) rfl rfl rfl ?_
                refine w_go (t1 := 95) rfl rfl ?_
                refine b_cne (t1 := 102) (t2 := 98) rfl rfl rfl rfl rfl (fun g44 => absurd g44 (by decide)) (fun g44 => ?_)
                refine w_t (np := 99) (l2 := [some (eI (a0)), some (eI (a1)), some (eJ (v4)), none, some (eJ (a1)), none, some (eI (1))]) (s2 := [eI (1)]) rfl rfl rfl ?_
                refine w_go (t1 := 103) rfl rfl ?_
                exact b_ri rfl rfl (K (1) (by decide))
          · have b27 : -1 ≤ v23 ∧ v23 ≤ 0 := by omega
            refine w_t (np := 58) (l2 := [some (eI (a0)), some (eI (a1)), some (eJ (v4)), none, some (eJ (a1)), none, none]) (s2 := [eI (-1)]) rfl rfl rfl ?_
            exact b_ri rfl rfl (K (-1) (by decide))
      · have b19 : 0 ≤ v15 ∧ v15 ≤ 1 := by omega
        refine w_t (np := 43) (l2 := [some (eI (a0)), some (eI (a1)), some (eJ (v4)), none, some (eJ (a1)), none, none]) (s2 := [eI (1)]) rfl rfl rfl ?_
        exact b_ri rfl rfl (K (1) (by decide))
  · have b11 : 0 ≤ v7 ∧ v7 ≤ 0 := by omega
    refine w_t (np := 22) (l2 := [some (eI (a0)), some (eI (a1)), some (eJ (v4)), none, some (eJ (a1)), none, none]) (s2 := [eJ (a1)]) rfl rfl rfl ?_
    refine w_t (np := 23) (l2 := [some (eI (a0)), some (eI (a1)), some (eJ (v4)), none, some (eJ (a1)), none, none]) (s2 := [eJ (0), eJ (a1)]) rfl rfl rfl ?_
    obtain ⟨v11, e12, b13⟩ := h_lcmp (a1) (0)
    refine w_t (np := 24) (l2 := [some (eI (a0)), some (eI (a1)), some (eJ (v4)), none, some (eJ (a1)), none, none]) (s2 := [eI (v11)]) rfl (e12 _ _) rfl ?_
    refine b_ine (t1 := 29) (t2 := 27) rfl rfl rfl (ev_w_in (by omega) (by omega)) (fun g14 => ?_) (fun g14 => ?_)
    · refine w_t (np := 30) (l2 := [some (eI (a0)), some (eI (a1)), some (eJ (v4)), none, some (eJ (a1)), none, none]) (s2 := [eJ (v4)]) rfl rfl rfl ?_
      refine w_t (np := 31) (l2 := [some (eI (a0)), some (eI (a1)), some (eJ (v4)), none, some (eJ (a1)), none, none]) (s2 := [eJ (0), eJ (v4)]) rfl rfl rfl ?_
      obtain ⟨v15, e16, b17⟩ := h_lcmp (v4) (0)
      refine w_t (np := 32) (l2 := [some (eI (a0)), some (eI (a1)), some (eJ (v4)), none, some (eJ (a1)), none, none]) (s2 := [eI (v15)]) rfl (e16 _ _) rfl ?_
      refine b_ilt (t1 := 44) (t2 := 35) rfl rfl rfl (ev_w_in (by omega) (by omega)) (fun g18 => ?_) (fun g18 => ?_)
      · have b19 : -1 ≤ v15 ∧ v15 ≤ -1 := by omega
        refine w_t (np := 45) (l2 := [some (eI (a0)), some (eI (a1)), some (eJ (v4)), none, some (eJ (a1)), none, none]) (s2 := [eJ (v4)]) rfl rfl rfl ?_
        refine w_t (np := 46) (l2 := [some (eI (a0)), some (eI (a1)), some (eJ (v4)), none, some (eJ (a1)), none, none]) (s2 := [eJ (0), eJ (v4)]) rfl rfl rfl ?_
        obtain ⟨v19, e20, b21⟩ := h_lcmp (v4) (0)
        refine w_t (np := 47) (l2 := [some (eI (a0)), some (eI (a1)), some (eJ (v4)), none, some (eJ (a1)), none, none]) (s2 := [eI (v19)]) rfl (e20 _ _) rfl ?_
        refine b_igt (t1 := 59) (t2 := 50) rfl rfl rfl (ev_w_in (by omega) (by omega)) (fun g22 => ?_) (fun g22 => ?_)
        · have b23 : 1 ≤ v19 ∧ v19 ≤ 1 := by omega
          refine w_t (np := 60) (l2 := [some (eI (a0)), some (eI (a1)), some (eJ (v4)), none, some (eJ (a1)), none, none]) (s2 := [eJ (v4)]) rfl rfl rfl ?_
          refine w_t (np := 61) (l2 := [some (eI (a0)), some (eI (a1)), some (eJ (v4)), none, some (eJ (a1)), none, none]) (s2 := [eJ (v4), eJ (v4)]) rfl rfl rfl ?_
          obtain ⟨v23, e24, b25⟩ : ∃ zz : Int, ev_W ((v4) * (v4)) = zz ∧ (-9223372036854775808 ≤ zz ∧ zz ≤ 9223372036854775807) := ⟨_, rfl, hW_bd _⟩
          refine w_t (np := 62) (l2 := [some (eI (a0)), some (eI (a1)), some (eJ (v4)), none, some (eJ (a1)), none, none]) (s2 := [eJ (v23)]) rfl (b_lmul e24) rfl ?_
          refine v_l2 (np := 65) (c := 5) rfl rfl (by decide) ?_
          rw [show zJ 5 = 5 by decide]
          refine w_t (np := 67) (l2 := [some (eI (a0)), some (eI (a1)), some (eJ (v4)), none, some (eJ (a1)), none, none]) (s2 := [eJ (a1), eJ (5), eJ (v23)]) rfl rfl rfl ?_
          obtain ⟨v26, e27⟩ : ∃ zz : Int, zz = (5) * (a1) := ⟨_, rfl⟩
          have b28 : -10737418240 ≤ v26 ∧ v26 ≤ 10737418235 := by omega
          refine w_t (np := 68) (l2 := [some (eI (a0)), some (eI (a1)), some (eJ (v4)), none, some (eJ (a1)), none, none]) (s2 := [eJ (v26), eJ (v23)]) rfl (b_lmul (by rw [← e27]; exact ev_W_in (by omega) (by omega))) rfl ?_
          refine w_t (np := 70) (l2 := [some (eI (a0)), some (eI (a1)), some (eJ (v4)), none, some (eJ (a1)), none, none]) (s2 := [eJ (a1), eJ (v26), eJ (v23)]) rfl rfl rfl ?_
          obtain ⟨v29, e30, b31⟩ : ∃ zz : Int, ev_W ((v26) * (a1)) = zz ∧ (-9223372036854775808 ≤ zz ∧ zz ≤ 9223372036854775807) := ⟨_, rfl, hW_bd _⟩
          refine w_t (np := 71) (l2 := [some (eI (a0)), some (eI (a1)), some (eJ (v4)), none, some (eJ (a1)), none, none]) (s2 := [eJ (v29), eJ (v23)]) rfl (b_lmul e30) rfl ?_
          obtain ⟨v32, e33, b34⟩ := h_lcmp (v23) (v29)
          refine w_t (np := 72) (l2 := [some (eI (a0)), some (eI (a1)), some (eJ (v4)), none, some (eJ (a1)), none, none]) (s2 := [eI (v32)]) rfl (e33 _ _) rfl ?_
          refine b_ile (t1 := 79) (t2 := 75) rfl rfl rfl (ev_w_in (by omega) (by omega)) (fun g35 => ?_) (fun g35 => ?_)
          · have b36 : -1 ≤ v32 ∧ v32 ≤ 0 := by omega
            refine w_t (np := 80) (l2 := [some (eI (a0)), some (eI (a1)), some (eJ (v4)), none, some (eJ (a1)), none, none]) (s2 := [eI (0)]) rfl rfl rfl ?_
            refine w_t (np := 82) (l2 := [some (eI (a0)), some (eI (a1)), some (eJ (v4)), none, some (eJ (a1)), none, some (eI (0))]) (s2 := []) rfl rfl rfl ?_
            refine w_t (np := 84) (l2 := [some (eI (a0)), some (eI (a1)), some (eJ (v4)), none, some (eJ (a1)), none, some (eI (0))]) (s2 := [eI (0)]) rfl rfl rfl ?_
            refine w_t (np := 85) (l2 := [some (eI (a0)), some (eI (a1)), some (eJ (v4)), none, some (eJ (a1)), none, some (eI (0))]) (s2 := [eJ (v4), eI (0)]) rfl rfl rfl ?_
            refine w_t (np := 86) (l2 := [some (eI (a0)), some (eI (a1)), some (eJ (v4)), none, some (eJ (a1)), none, some (eI (0))]) (s2 := [eJ (0), eJ (v4), eI (0)]) rfl rfl rfl ?_
            obtain ⟨v36, e37, b38⟩ := h_lcmp (v4) (0)
            refine w_t (np := 87) (l2 := [some (eI (a0)), some (eI (a1)), some (eJ (v4)), none, some (eJ (a1)), none, some (eI (0))]) (s2 := [eI (v36), eI (0)]) rfl (e37 _ _) rfl ?_
            refine b_ile (t1 := 94) (t2 := 90) rfl rfl rfl (ev_w_in (by omega) (by omega)) (fun g39 => ?_) (fun g39 => ?_)
            · have b40 : -1 ≤ v36 ∧ v36 ≤ 0 := by omega
              refine w_t (np := 95) (l2 := [some (eI (a0)), some (eI (a1)), some (eJ (v4)), none, some (eJ (a1)), none, some (eI (0))]) (s2 := [eI (0), eI (0)]) rfl rfl rfl ?_
              refine b_cne (t1 := 102) (t2 := 98) rfl rfl rfl rfl rfl (fun g40 => absurd g40 (by decide)) (fun g40 => ?_)
              refine w_t (np := 99) (l2 := [some (eI (a0)), some (eI (a1)), some (eJ (v4)), none, some (eJ (a1)), none, some (eI (0))]) (s2 := [eI (1)]) rfl rfl rfl ?_
              refine w_go (t1 := 103) rfl rfl ?_
              exact b_ri rfl rfl (K (1) (by decide))
            · have b40 : 1 ≤ v36 ∧ v36 ≤ 1 := by omega
              refine w_t (np := 91) (l2 := [some (eI (a0)), some (eI (a1)), some (eJ (v4)), none, some (eJ (a1)), none, some (eI (0))]) (s2 := [eI (1), eI (0)]) rfl rfl rfl ?_
              refine w_go (t1 := 95) rfl rfl ?_
              refine b_cne (t1 := 102) (t2 := 98) rfl rfl rfl rfl rfl (fun g40 => ?_) (fun g40 => absurd g40 (by decide))
              refine w_t (np := 103) (l2 := [some (eI (a0)), some (eI (a1)), some (eJ (v4)), none, some (eJ (a1)), none, some (eI (0))]) (s2 := [eI (-1)]) rfl rfl rfl ?_
              exact b_ri rfl rfl (K (-1) (by decide))
          · have b36 : 1 ≤ v32 ∧ v32 ≤ 1 := by omega
            refine w_t (np := 76) (l2 := [some (eI (a0)), some (eI (a1)), some (eJ (v4)), none, some (eJ (a1)), none, none]) (s2 := [eI (1)]) rfl rfl rfl ?_
            refine w_go (t1 := 80) rfl rfl ?_
            refine w_t (np := 82) (l2 := [some (eI (a0)), some (eI (a1)), some (eJ (v4)), none, some (eJ (a1)), none, some (eI (1))]) (s2 := []) rfl rfl rfl ?_
            refine w_t (np := 84) (l2 := [some (eI (a0)), some (eI (a1)), some (eJ (v4)), none, some (eJ (a1)), none, some (eI (1))]) (s2 := [eI (1)]) rfl rfl rfl ?_
            refine w_t (np := 85) (l2 := [some (eI (a0)), some (eI (a1)), some (eJ (v4)), none, some (eJ (a1)), none, some (eI (1))]) (s2 := [eJ (v4), eI (1)]) rfl rfl rfl ?_
            refine w_t (np := 86) (l2 := [some (eI (a0)), some (eI (a1)), some (eJ (v4)), none, some (eJ (a1)), none, some (eI (1))]) (s2 := [eJ (0), eJ (v4), eI (1)]) rfl rfl rfl ?_
            obtain ⟨v36, e37, b38⟩ := h_lcmp (v4) (0)
            refine w_t (np := 87) (l2 := [some (eI (a0)), some (eI (a1)), some (eJ (v4)), none, some (eJ (a1)), none, some (eI (1))]) (s2 := [eI (v36), eI (1)]) rfl (e37 _ _) rfl ?_
            refine b_ile (t1 := 94) (t2 := 90) rfl rfl rfl (ev_w_in (by omega) (by omega)) (fun g39 => ?_) (fun g39 => ?_)
            · have b40 : -1 ≤ v36 ∧ v36 ≤ 0 := by omega
              refine w_t (np := 95) (l2 := [some (eI (a0)), some (eI (a1)), some (eJ (v4)), none, some (eJ (a1)), none, some (eI (1))]) (s2 := [eI (0), eI (1)]) rfl rfl rfl ?_
              refine b_cne (t1 := 102) (t2 := 98) rfl rfl rfl rfl rfl (fun g40 => ?_) (fun g40 => absurd g40 (by decide))
              refine w_t (np := 103) (l2 := [some (eI (a0)), some (eI (a1)), some (eJ (v4)), none, some (eJ (a1)), none, some (eI (1))]) (s2 := [eI (-1)]) rfl rfl rfl ?_
              exact b_ri rfl rfl (K (-1) (by decide))
            · have b40 : 1 ≤ v36 ∧ v36 ≤ 1 := by omega
              refine w_t (np := 91) (l2 := [some (eI (a0)), some (eI (a1)), some (eJ (v4)), none, some (eJ (a1)), none, some (eI (1))]) (s2 := [eI (1), eI (1)]) rfl rfl rfl ?_
              refine w_go (t1 := 95) rfl rfl ?_
              refine b_cne (t1 := 102) (t2 := 98) rfl rfl rfl rfl rfl (fun g40 => absurd g40 (by decide)) (fun g40 => ?_)
              refine w_t (np := 99) (l2 := [some (eI (a0)), some (eI (a1)), some (eJ (v4)), none, some (eJ (a1)), none, some (eI (1))]) (s2 := [eI (1)]) rfl rfl rfl ?_
              refine w_go (t1 := 103) rfl rfl ?_
              exact b_ri rfl rfl (K (1) (by decide))
        · have b23 : -1 ≤ v19 ∧ v19 ≤ 0 := by omega
          refine w_t (np := 52) (l2 := [some (eI (a0)), some (eI (a1)), some (eJ (v4)), none, some (eJ (a1)), none, none]) (s2 := [eJ (a1)]) rfl rfl rfl ?_
          refine w_t (np := 53) (l2 := [some (eI (a0)), some (eI (a1)), some (eJ (v4)), none, some (eJ (a1)), none, none]) (s2 := [eJ (0), eJ (a1)]) rfl rfl rfl ?_
          obtain ⟨v23, e24, b25⟩ := h_lcmp (a1) (0)
          refine w_t (np := 54) (l2 := [some (eI (a0)), some (eI (a1)), some (eJ (v4)), none, some (eJ (a1)), none, none]) (s2 := [eI (v23)]) rfl (e24 _ _) rfl ?_
          refine b_igt (t1 := 59) (t2 := 57) rfl rfl rfl (ev_w_in (by omega) (by omega)) (fun g26 => ?_) (fun g26 => ?_)
          · have b27 : 1 ≤ v23 ∧ v23 ≤ 1 := by omega
            refine w_t (np := 60) (l2 := [some (eI (a0)), some (eI (a1)), some (eJ (v4)), none, some (eJ (a1)), none, none]) (s2 := [eJ (v4)]) rfl rfl rfl ?_
            refine w_t (np := 61) (l2 := [some (eI (a0)), some (eI (a1)), some (eJ (v4)), none, some (eJ (a1)), none, none]) (s2 := [eJ (v4), eJ (v4)]) rfl rfl rfl ?_
            obtain ⟨v27, e28, b29⟩ : ∃ zz : Int, ev_W ((v4) * (v4)) = zz ∧ (-9223372036854775808 ≤ zz ∧ zz ≤ 9223372036854775807) := ⟨_, rfl, hW_bd _⟩
            refine w_t (np := 62) (l2 := [some (eI (a0)), some (eI (a1)), some (eJ (v4)), none, some (eJ (a1)), none, none]) (s2 := [eJ (v27)]) rfl (b_lmul e28) rfl ?_
            refine v_l2 (np := 65) (c := 5) rfl rfl (by decide) ?_
            rw [show zJ 5 = 5 by decide]
            refine w_t (np := 67) (l2 := [some (eI (a0)), some (eI (a1)), some (eJ (v4)), none, some (eJ (a1)), none, none]) (s2 := [eJ (a1), eJ (5), eJ (v27)]) rfl rfl rfl ?_
            obtain ⟨v30, e31⟩ : ∃ zz : Int, zz = (5) * (a1) := ⟨_, rfl⟩
            have b32 : -10737418240 ≤ v30 ∧ v30 ≤ 10737418235 := by omega
            refine w_t (np := 68) (l2 := [some (eI (a0)), some (eI (a1)), some (eJ (v4)), none, some (eJ (a1)), none, none]) (s2 := [eJ (v30), eJ (v27)]) rfl (b_lmul (by rw [← e31]; exact ev_W_in (by omega) (by omega))) rfl ?_
            refine w_t (np := 70) (l2 := [some (eI (a0)), some (eI (a1)), some (eJ (v4)), none, some (eJ (a1)), none, none]) (s2 := [eJ (a1), eJ (v30), eJ (v27)]) rfl rfl rfl ?_
            obtain ⟨v33, e34, b35⟩ : ∃ zz : Int, ev_W ((v30) * (a1)) = zz ∧ (-9223372036854775808 ≤ zz ∧ zz ≤ 9223372036854775807) := ⟨_, rfl, hW_bd _⟩
            refine w_t (np := 71) (l2 := [some (eI (a0)), some (eI (a1)), some (eJ (v4)), none, some (eJ (a1)), none, none]) (s2 := [eJ (v33), eJ (v27)]) rfl (b_lmul e34) rfl ?_
            obtain ⟨v36, e37, b38⟩ := h_lcmp (v27) (v33)
            refine w_t (np := 72) (l2 := [some (eI (a0)), some (eI (a1)), some (eJ (v4)), none, some (eJ (a1)), none, none]) (s2 := [eI (v36)]) rfl (e37 _ _) rfl ?_
            refine b_ile (t1 := 79) (t2 := 75) rfl rfl rfl (ev_w_in (by omega) (by omega)) (fun g39 => ?_) (fun g39 => ?_)
            · have b40 : -1 ≤ v36 ∧ v36 ≤ 0 := by omega
              refine w_t (np := 80) (l2 := [some (eI (a0)), some (eI (a1)), some (eJ (v4)), none, some (eJ (a1)), none, none]) (s2 := [eI (0)]) rfl rfl rfl ?_
              refine w_t (np := 82) (l2 := [some (eI (a0)), some (eI (a1)), some (eJ (v4)), none, some (eJ (a1)), none, some (eI (0))]) (s2 := []) rfl rfl rfl ?_
              refine w_t (np := 84) (l2 := [some (eI (a0)), some (eI (a1)), some (eJ (v4)), none, some (eJ (a1)), none, some (eI (0))]) (s2 := [eI (0)]) rfl rfl rfl ?_
              refine w_t (np := 85) (l2 := [some (eI (a0)), some (eI (a1)), some (eJ (v4)), none, some (eJ (a1)), none, some (eI (0))]) (s2 := [eJ (v4), eI (0)]) rfl rfl rfl ?_
              refine w_t (np := 86) (l2 := [some (eI (a0)), some (eI (a1)), some (eJ (v4)), none, some (eJ (a1)), none, some (eI (0))]) (s2 := [eJ (0), eJ (v4), eI (0)]) rfl rfl rfl ?_
              obtain ⟨v40, e41, b42⟩ := h_lcmp (v4) (0)
              refine w_t (np := 87) (l2 := [some (eI (a0)), some (eI (a1)), some (eJ (v4)), none, some (eJ (a1)), none, some (eI (0))]) (s2 := [eI (v40), eI (0)]) rfl (e41 _ _) rfl ?_
              refine b_ile (t1 := 94) (t2 := 90) rfl rfl rfl (ev_w_in (by omega) (by omega)) (fun g43 => ?_) (fun g43 => ?_)
              · have b44 : -1 ≤ v40 ∧ v40 ≤ 0 := by omega
                refine w_t (np := 95) (l2 := [some (eI (a0)), some (eI (a1)), some (eJ (v4)), none, some (eJ (a1)), none, some (eI (0))]) (s2 := [eI (0), eI (0)]) rfl rfl rfl ?_
                refine b_cne (t1 := 102) (t2 := 98) rfl rfl rfl rfl rfl (fun g44 => absurd g44 (by decide)) (fun g44 => ?_)
                refine w_t (np := 99) (l2 := [some (eI (a0)), some (eI (a1)), some (eJ (v4)), none, some (eJ (a1)), none, some (eI (0))]) (s2 := [eI (1)]) rfl rfl rfl ?_
                refine w_go (t1 := 103) rfl rfl ?_
                exact b_ri rfl rfl (K (1) (by decide))
              · have b44 : 1 ≤ v40 ∧ v40 ≤ 1 := by omega
                refine w_t (np := 91) (l2 := [some (eI (a0)), some (eI (a1)), some (eJ (v4)), none, some (eJ (a1)), none, some (eI (0))]) (s2 := [eI (1), eI (0)]) rfl rfl rfl ?_
                refine w_go (t1 := 95) rfl rfl ?_
                refine b_cne (t1 := 102) (t2 := 98) rfl rfl rfl rfl rfl (fun g44 => ?_) (fun g44 => absurd g44 (by decide))
                refine w_t (np := 103) (l2 := [some (eI (a0)), some (eI (a1)), some (eJ (v4)), none, some (eJ (a1)), none, some (eI (0))]) (s2 := [eI (-1)]) rfl rfl rfl ?_
                exact b_ri rfl rfl (K (-1) (by decide))
            · have b40 : 1 ≤ v36 ∧ v36 ≤ 1 := by omega
              refine w_t (np := 76) (l2 := [some (eI (a0)), some (eI (a1)), some (eJ (v4)), none, some (eJ (a1)), none, none]) (s2 := [eI (1)]) rfl rfl rfl ?_
              refine w_go (t1 := 80) rfl rfl ?_
              refine w_t (np := 82) (l2 := [some (eI (a0)), some (eI (a1)), some (eJ (v4)), none, some (eJ (a1)), none, some (eI (1))]) (s2 := []) rfl rfl rfl ?_
              refine w_t (np := 84) (l2 := [some (eI (a0)), some (eI (a1)), some (eJ (v4)), none, some (eJ (a1)), none, some (eI (1))]) (s2 := [eI (1)]) rfl rfl rfl ?_
              refine w_t (np := 85) (l2 := [some (eI (a0)), some (eI (a1)), some (eJ (v4)), none, some (eJ (a1)), none, some (eI (1))]) (s2 := [eJ (v4), eI (1)]) rfl rfl rfl ?_
              refine w_t (np := 86) (l2 := [some (eI (a0)), some (eI (a1)), some (eJ (v4)), none, some (eJ (a1)), none, some (eI (1))]) (s2 := [eJ (0), eJ (v4), eI (1)]) rfl rfl rfl ?_
              obtain ⟨v40, e41, b42⟩ := h_lcmp (v4) (0)
              refine w_t (np := 87) (l2 := [some (eI (a0)), some (eI (a1)), some (eJ (v4)), none, some (eJ (a1)), none, some (eI (1))]) (s2 := [eI (v40), eI (1)]) rfl (e41 _ _) rfl ?_
              refine b_ile (t1 := 94) (t2 := 90) rfl rfl rfl (ev_w_in (by omega) (by omega)) (fun g43 => ?_) (fun g43 => ?_)
              · have b44 : -1 ≤ v40 ∧ v40 ≤ 0 := by omega
                refine w_t (np := 95) (l2 := [some (eI (a0)), some (eI (a1)), some (eJ (v4)), none, some (eJ (a1)), none, some (eI (1))]) (s2 := [eI (0), eI (1)]) rfl rfl rfl ?_
                refine b_cne (t1 := 102) (t2 := 98) rfl rfl rfl rfl rfl (fun g44 => ?_) (fun g44 => absurd g44 (by decide))
                refine w_t (np := 103) (l2 := [some (eI (a0)), some (eI (a1)), some (eJ (v4)), none, some (eJ (a1)), none, some (eI (1))]) (s2 := [eI (-1)]) rfl rfl rfl ?_
                exact b_ri rfl rfl (K (-1) (by decide))
              · have b44 : 1 ≤ v40 ∧ v40 ≤ 1 := by omega
                refine w_t (np := 91) (l2 := [some (eI (a0)), some (eI (a1)), some (eJ (v4)), none, some (eJ (a1)), none, some (eI (1))]) (s2 := [eI (1), eI (1)]) rfl rfl rfl ?_
                refine w_go (t1 := 95) rfl rfl ?_
                refine b_cne (t1 := 102) (t2 := 98) rfl rfl rfl rfl rfl (fun g44 => absurd g44 (by decide)) (fun g44 => ?_)
                refine w_t (np := 99) (l2 := [some (eI (a0)), some (eI (a1)), some (eJ (v4)), none, some (eJ (a1)), none, some (eI (1))]) (s2 := [eI (1)]) rfl rfl rfl ?_
                refine w_go (t1 := 103) rfl rfl ?_
                exact b_ri rfl rfl (K (1) (by decide))
          · have b27 : -1 ≤ v23 ∧ v23 ≤ 0 := by omega
            refine w_t (np := 58) (l2 := [some (eI (a0)), some (eI (a1)), some (eJ (v4)), none, some (eJ (a1)), none, none]) (s2 := [eI (-1)]) rfl rfl rfl ?_
            exact b_ri rfl rfl (K (-1) (by decide))
      · have b19 : 0 ≤ v15 ∧ v15 ≤ 1 := by omega
        refine w_t (np := 37) (l2 := [some (eI (a0)), some (eI (a1)), some (eJ (v4)), none, some (eJ (a1)), none, none]) (s2 := [eJ (a1)]) rfl rfl rfl ?_
        refine w_t (np := 38) (l2 := [some (eI (a0)), some (eI (a1)), some (eJ (v4)), none, some (eJ (a1)), none, none]) (s2 := [eJ (0), eJ (a1)]) rfl rfl rfl ?_
        obtain ⟨v19, e20, b21⟩ := h_lcmp (a1) (0)
        refine w_t (np := 39) (l2 := [some (eI (a0)), some (eI (a1)), some (eJ (v4)), none, some (eJ (a1)), none, none]) (s2 := [eI (v19)]) rfl (e20 _ _) rfl ?_
        refine b_ilt (t1 := 44) (t2 := 42) rfl rfl rfl (ev_w_in (by omega) (by omega)) (fun g22 => ?_) (fun g22 => ?_)
        · have b23 : -1 ≤ v19 ∧ v19 ≤ -1 := by omega
          refine w_t (np := 45) (l2 := [some (eI (a0)), some (eI (a1)), some (eJ (v4)), none, some (eJ (a1)), none, none]) (s2 := [eJ (v4)]) rfl rfl rfl ?_
          refine w_t (np := 46) (l2 := [some (eI (a0)), some (eI (a1)), some (eJ (v4)), none, some (eJ (a1)), none, none]) (s2 := [eJ (0), eJ (v4)]) rfl rfl rfl ?_
          obtain ⟨v23, e24, b25⟩ := h_lcmp (v4) (0)
          refine w_t (np := 47) (l2 := [some (eI (a0)), some (eI (a1)), some (eJ (v4)), none, some (eJ (a1)), none, none]) (s2 := [eI (v23)]) rfl (e24 _ _) rfl ?_
          refine b_igt (t1 := 59) (t2 := 50) rfl rfl rfl (ev_w_in (by omega) (by omega)) (fun g26 => ?_) (fun g26 => ?_)
          · have b27 : 1 ≤ v23 ∧ v23 ≤ 1 := by omega
            refine w_t (np := 60) (l2 := [some (eI (a0)), some (eI (a1)), some (eJ (v4)), none, some (eJ (a1)), none, none]) (s2 := [eJ (v4)]) rfl rfl rfl ?_
            refine w_t (np := 61) (l2 := [some (eI (a0)), some (eI (a1)), some (eJ (v4)), none, some (eJ (a1)), none, none]) (s2 := [eJ (v4), eJ (v4)]) rfl rfl rfl ?_
            obtain ⟨v27, e28, b29⟩ : ∃ zz : Int, ev_W ((v4) * (v4)) = zz ∧ (-9223372036854775808 ≤ zz ∧ zz ≤ 9223372036854775807) := ⟨_, rfl, hW_bd _⟩
            refine w_t (np := 62) (l2 := [some (eI (a0)), some (eI (a1)), some (eJ (v4)), none, some (eJ (a1)), none, none]) (s2 := [eJ (v27)]) rfl (b_lmul e28) rfl ?_
            refine v_l2 (np := 65) (c := 5) rfl rfl (by decide) ?_
            rw [show zJ 5 = 5 by decide]
            refine w_t (np := 67) (l2 := [some (eI (a0)), some (eI (a1)), some (eJ (v4)), none, some (eJ (a1)), none, none]) (s2 := [eJ (a1), eJ (5), eJ (v27)]) rfl rfl rfl ?_
            obtain ⟨v30, e31⟩ : ∃ zz : Int, zz = (5) * (a1) := ⟨_, rfl⟩
            have b32 : -10737418240 ≤ v30 ∧ v30 ≤ 10737418235 := by omega
            refine w_t (np := 68) (l2 := [some (eI (a0)), some (eI (a1)), some (eJ (v4)), none, some (eJ (a1)), none, none]) (s2 := [eJ (v30), eJ (v27)]) rfl (b_lmul (by rw [← e31]; exact ev_W_in (by omega) (by omega))) rfl ?_
            refine w_t (np := 70) (l2 := [some (eI (a0)), some (eI (a1)), some (eJ (v4)), none, some (eJ (a1)), none, none]) (s2 := [eJ (a1), eJ (v30), eJ (v27)]) rfl rfl rfl ?_
            obtain ⟨v33, e34, b35⟩ : ∃ zz : Int, ev_W ((v30) * (a1)) = zz ∧ (-9223372036854775808 ≤ zz ∧ zz ≤ 9223372036854775807) := ⟨_, rfl, hW_bd _⟩
            refine w_t (np := 71) (l2 := [some (eI (a0)), some (eI (a1)), some (eJ (v4)), none, some (eJ (a1)), none, none]) (s2 := [eJ (v33), eJ (v27)]) rfl (b_lmul e34) rfl ?_
            obtain ⟨v36, e37, b38⟩ := h_lcmp (v27) (v33)
            refine w_t (np := 72) (l2 := [some (eI (a0)), some (eI (a1)), some (eJ (v4)), none, some (eJ (a1)), none, none]) (s2 := [eI (v36)]) rfl (e37 _ _) rfl ?_
            refine b_ile (t1 := 79) (t2 := 75) rfl rfl rfl (ev_w_in (by omega) (by omega)) (fun g39 => ?_) (fun g39 => ?_)
            · have b40 : -1 ≤ v36 ∧ v36 ≤ 0 := by omega
              refine w_t (np := 80) (l2 := [some (eI (a0)), some (eI (a1)), some (eJ (v4)), none, some (eJ (a1)), none, none]) (s2 := [eI (0)]) rfl rfl rfl ?_
              refine w_t (np := 82) (l2 := [some (eI (a0)), some (eI (a1)), some (eJ (v4)), none, some (eJ (a1)), none, some (eI (0))]) (s2 := []) rfl rfl rfl ?_
              refine w_t (np := 84) (l2 := [some (eI (a0)), some (eI (a1)), some (eJ (v4)), none, some (eJ (a1)), none, some (eI (0))]) (s2 := [eI (0)]) rfl rfl rfl ?_
              refine w_t (np := 85) (l2 := [some (eI (a0)), some (eI (a1)), some (eJ (v4)), none, some (eJ (a1)), none, some (eI (0))]) (s2 := [eJ (v4), eI (0)]) rfl rfl rfl ?_
              refine w_t (np := 86) (l2 := [some (eI (a0)), some (eI (a1)), some (eJ (v4)), none, some (eJ (a1)), none, some (eI (0))]) (s2 := [eJ (0), eJ (v4), eI (0)]) rfl rfl rfl ?_
              obtain ⟨v40, e41, b42⟩ := h_lcmp (v4) (0)
              refine w_t (np := 87) (l2 := [some (eI (a0)), some (eI (a1)), some (eJ (v4)), none, some (eJ (a1)), none, some (eI (0))]) (s2 := [eI (v40), eI (0)]) rfl (e41 _ _) rfl ?_
              refine b_ile (t1 := 94) (t2 := 90) rfl rfl rfl (ev_w_in (by omega) (by omega)) (fun g43 => ?_) (fun g43 => ?_)
              · have b44 : -1 ≤ v40 ∧ v40 ≤ 0 := by omega
                refine w_t (np := 95) (l2 := [some (eI (a0)), some (eI (a1)), some (eJ (v4)), none, some (eJ (a1)), none, some (eI (0))]) (s2 := [eI (0), eI (0)]) rfl rfl rfl ?_
                refine b_cne (t1 := 102) (t2 := 98) rfl rfl rfl rfl rfl (fun g44 => absurd g44 (by decide)) (fun g44 => ?_)
                refine w_t (np := 99) (l2 := [some (eI (a0)), some (eI (a1)), some (eJ (v4)), none, some (eJ (a1)), none, some (eI (0))]) (s2 := [eI (1)]) rfl rfl rfl ?_
                refine w_go (t1 := 103) rfl rfl ?_
                exact b_ri rfl rfl (K (1) (by decide))
              · have b44 : 1 ≤ v40 ∧ v40 ≤ 1 := by omega
                refine w_t (np := 91) (l2 := [some (eI (a0)), some (eI (a1)), some (eJ (v4)), none, some (eJ (a1)), none, some (eI (0))]) (s2 := [eI (1), eI (0)]) rfl rfl rfl ?_
                refine w_go (t1 := 95) rfl rfl ?_
                refine b_cne (t1 := 102) (t2 := 98) rfl rfl rfl rfl rfl (fun g44 => ?_) (fun g44 => absurd g44 (by decide))
                refine w_t (np := 103) (l2 := [some (eI (a0)), some (eI (a1)), some (eJ (v4)), none, some (eJ (a1)), none, some (eI (0))]) (s2 := [eI (-1)]) rfl rfl rfl ?_
                exact b_ri rfl rfl (K (-1) (by decide))
            · have b40 : 1 ≤ v36 ∧ v36 ≤ 1 := by omega
              refine w_t (np := 76) (l2 := [some (eI (a0)), some (eI (a1)), some (eJ (v4)), none, some (eJ (a1)), none, none]) (s2 := [eI (1)]) rfl rfl rfl ?_
              refine w_go (t1 := 80) rfl rfl ?_
              refine w_t (np := 82) (l2 := [some (eI (a0)), some (eI (a1)), some (eJ (v4)), none, some (eJ (a1)), none, some (eI (1))]) (s2 := []) rfl rfl rfl ?_
              refine w_t (np := 84) (l2 := [some (eI (a0)), some (eI (a1)), some (eJ (v4)), none, some (eJ (a1)), none, some (eI (1))]) (s2 := [eI (1)]) rfl rfl rfl ?_
              refine w_t (np := 85) (l2 := [some (eI (a0)), some (eI (a1)), some (eJ (v4)), none, some (eJ (a1)), none, some (eI (1))]) (s2 := [eJ (v4), eI (1)]) rfl rfl rfl ?_
              refine w_t (np := 86) (l2 := [some (eI (a0)), some (eI (a1)), some (eJ (v4)), none, some (eJ (a1)), none, some (eI (1))]) (s2 := [eJ (0), eJ (v4), eI (1)]) rfl rfl rfl ?_
              obtain ⟨v40, e41, b42⟩ := h_lcmp (v4) (0)
              refine w_t (np := 87) (l2 := [some (eI (a0)), some (eI (a1)), some (eJ (v4)), none, some (eJ (a1)), none, some (eI (1))]) (s2 := [eI (v40), eI (1)]) rfl (e41 _ _) rfl ?_
              refine b_ile (t1 := 94) (t2 := 90) rfl rfl rfl (ev_w_in (by omega) (by omega)) (fun g43 => ?_) (fun g43 => ?_)
              · have b44 : -1 ≤ v40 ∧ v40 ≤ 0 := by omega
                refine w_t (np := 95) (l2 := [some (eI (a0)), some (eI (a1)), some (eJ (v4)), none, some (eJ (a1)), none, some (eI (1))]) (s2 := [eI (0), eI (1)]) rfl rfl rfl ?_
                refine b_cne (t1 := 102) (t2 := 98) rfl rfl rfl rfl rfl (fun g44 => ?_) (fun g44 => absurd g44 (by decide))
                refine w_t (np := 103) (l2 := [some (eI (a0)), some (eI (a1)), some (eJ (v4)), none, some (eJ (a1)), none, some (eI (1))]) (s2 := [eI (-1)]) rfl rfl rfl ?_
                exact b_ri rfl rfl (K (-1) (by decide))
              · have b44 : 1 ≤ v40 ∧ v40 ≤ 1 := by omega
                refine w_t (np := 91) (l2 := [some (eI (a0)), some (eI (a1)), some (eJ (v4)), none, some (eJ (a1)), none, some (eI (1))]) (s2 := [eI (1), eI (1)]) rfl rfl rfl ?_
                refine w_go (t1 := 95) rfl rfl ?_
                refine b_cne (t1 := 102) (t2 := 98) rfl rfl rfl rfl rfl (fun g44 => absurd g44 (by decide)) (fun g44 => ?_)
                refine w_t (np := 99) (l2 := [some (eI (a0)), some (eI (a1)), some (eJ (v4)), none, some (eJ (a1)), none, some (eI (1))]) (s2 := [eI (1)]) rfl rfl rfl ?_
                refine w_go (t1 := 103) rfl rfl ?_
                exact b_ri rfl rfl (K (1) (by decide))
          · have b27 : -1 ≤ v23 ∧ v23 ≤ 0 := by omega
            refine w_t (np := 52) (l2 := [some (eI (a0)), some (eI (a1)), some (eJ (v4)), none, some (eJ (a1)), none, none]) (s2 := [eJ (a1)]) rfl rfl rfl ?_
            refine w_t (np := 53) (l2 := [some (eI (a0)), some (eI (a1)), some (eJ (v4)), none, some (eJ (a1)), none, none]) (s2 := [eJ (0), eJ (a1)]) rfl rfl rfl ?_
            obtain ⟨v27, e28, b29⟩ := h_lcmp (a1) (0)
            refine w_t (np := 54) (l2 := [some (eI (a0)), some (eI (a1)), some (eJ (v4)), none, some (eJ (a1)), none, none]) (s2 := [eI (v27)]) rfl (e28 _ _) rfl ?_
            refine b_igt (t1 := 59) (t2 := 57) rfl rfl rfl (ev_w_in (by omega) (by omega)) (fun g30 => ?_) (fun g30 => ?_)
            · have b31 : 1 ≤ v27 ∧ v27 ≤ 1 := by omega
              refine w_t (np := 60) (l2 := [some (eI (a0)), some (eI (a1)), some (eJ (v4)), none, some (eJ (a1)), none, none]) (s2 := [eJ (v4)]) rfl rfl rfl ?_
              refine w_t (np := 61) (l2 := [some (eI (a0)), some (eI (a1)), some (eJ (v4)), none, some (eJ (a1)), none, none]) (s2 := [eJ (v4), eJ (v4)]) rfl rfl rfl ?_
              obtain ⟨v31, e32, b33⟩ : ∃ zz : Int, ev_W ((v4) * (v4)) = zz ∧ (-9223372036854775808 ≤ zz ∧ zz ≤ 9223372036854775807) := ⟨_, rfl, hW_bd _⟩
              refine w_t (np := 62) (l2 := [some (eI (a0)), some (eI (a1)), some (eJ (v4)), none, some (eJ (a1)), none, none]) (s2 := [eJ (v31)]) rfl (b_lmul e32) rfl ?_
              refine v_l2 (np := 65) (c := 5) rfl rfl (by decide) ?_
              rw [show zJ 5 = 5 by decide]
              refine w_t (np := 67) (l2 := [some (eI (a0)), some (eI (a1)), some (eJ (v4)), none, some (eJ (a1)), none, none]) (s2 := [eJ (a1), eJ (5), eJ (v31)]) rfl rfl rfl ?_
              obtain ⟨v34, e35⟩ : ∃ zz : Int, zz = (5) * (a1) := ⟨_, rfl⟩
              have b36 : -10737418240 ≤ v34 ∧ v34 ≤ 10737418235 := by omega
              refine w_t (np := 68) (l2 := [some (eI (a0)), some (eI (a1)), some (eJ (v4)), none, some (eJ (a1)), none, none]) (s2 := [eJ (v34), eJ (v31)]) rfl (b_lmul (by rw [← e35]; exact ev_W_in (by omega) (by omega))) rfl ?_
              refine w_t (np := 70) (l2 := [some (eI (a0)), some (eI (a1)), some (eJ (v4)), none, some (eJ (a1)), none, none]) (s2 := [eJ (a1), eJ (v34), eJ (v31)]) rfl rfl rfl ?_
              obtain ⟨v37, e38, b39⟩ : ∃ zz : Int, ev_W ((v34) * (a1)) = zz ∧ (-9223372036854775808 ≤ zz ∧ zz ≤ 9223372036854775807) := ⟨_, rfl, hW_bd _⟩
              refine w_t (np := 71) (l2 := [some (eI (a0)), some (eI (a1)), some (eJ (v4)), none, some (eJ (a1)), none, none]) (s2 := [eJ (v37), eJ (v31)]) rfl (b_lmul e38) rfl ?_
              obtain ⟨v40, e41, b42⟩ := h_lcmp (v31) (v37)
              refine w_t (np := 72) (l2 := [some (eI (a0)), some (eI (a1)), some (eJ (v4)), none, some (eJ (a1)), none, none]) (s2 := [eI (v40)]) rfl (e41 _ _) rfl ?_
              refine b_ile (t1 := 79) (t2 := 75) rfl rfl rfl (ev_w_in (by omega) (by omega)) (fun g43 => ?_) (fun g43 => ?_)
              · have b44 : -1 ≤ v40 ∧ v40 ≤ 0 := by omega
                refine w_t (np := 80) (l2 := [some (eI (a0)), some (eI (a1)), some (eJ (v4)), none, some (eJ (a1)), none, none]) (s2 := [eI (0)]) rfl rfl rfl ?_
                refine w_t (np := 82) (l2 := [some (eI (a0)), some (eI (a1)), some (eJ (v4)), none, some (eJ (a1)), none, some (eI (0))]) (s2 := []) rfl rfl rfl ?_
                refine w_t (np := 84) (l2 := [some (eI (a0)), some (eI (a1)), some (eJ (v4)), none, some (eJ (a1)), none, some (eI (0))]) (s2 := [eI (0)]) rfl rfl rfl ?_
                refine w_t (np := 85) (l2 := [some (eI (a0)), some (eI (a1)), some (eJ (v4)), none, some (eJ (a1)), none, some (eI (0))]) (s2 := [eJ (v4), eI (0)]) rfl rfl rfl ?_
                refine w_t (np := 86) (l2 := [some (eI (a0)), some (eI (a1)), some (eJ (v4)), none, some (eJ (a1)), none, some (eI (0))]) (s2 := [eJ (0), eJ (v4), eI (0)]) rfl rfl rfl ?_
                obtain ⟨v44, e45, b46⟩ := h_lcmp (v4) (0)
                refine w_t (np := 87) (l2 := [some (eI (a0)), some (eI (a1)), some (eJ (v4)), none, some (eJ (a1)), none, some (eI (0))]) (s2 := [eI (v44), eI (0)]) rfl (e45 _ _) rfl ?_
                refine b_ile (t1 := 94) (t2 := 90) rfl rfl rfl (ev_w_in (by omega) (by omega)) (fun g47 => ?_) (fun g47 => ?_)
                · have b48 : -1 ≤ v44 ∧ v44 ≤ 0 := by omega
                  refine w_t (np := 95) (l2 := [some (eI (a0)), some (eI (a1)), some (eJ (v4)), none, some (eJ (a1)), none, some (eI (0))]) (s2 := [eI (0), eI (0)]) rfl rfl rfl ?_
                  refine b_cne (t1 := 102) (t2 := 98) rfl rfl rfl rfl rfl (fun g48 => absurd g48 (by decide)) (fun g48 => ?_)
                  refine w_t (np := 99) (l2 := [some (eI (a0)), some (eI (a1)), some (eJ (v4)), none, some (eJ (a1)), none, some (eI (0))]) (s2 := [eI (1)]) rfl rfl rfl ?_
                  refine w_go (t1 := 103) rfl rfl ?_
                  exact b_ri rfl rfl (K (1) (by decide))
                · have b48 : 1 ≤ v44 ∧ v44 ≤ 1 := by omega
                  refine w_t (np := 91) (l2 := [some (eI (a0)), some (eI (a1)), some (eJ (v4)), none, some (eJ (a1)), none, some (eI (0))]) (s2 := [eI (1), eI (0)]) rfl rfl rfl ?_
                  refine w_go (t1 := 95) rfl rfl ?_
                  refine b_cne (t1 := 102) (t2 := 98) rfl rfl rfl rfl rfl (fun g48 => ?_) (fun g48 => absurd g48 (by decide))
                  refine w_t (np := 103) (l2 := [some (eI (a0)), some (eI (a1)), some (eJ (v4)), none, some (eJ (a1)), none, some (eI (0))]) (s2 := [eI (-1)]) rfl rfl rfl ?_
                  exact b_ri rfl rfl (K (-1) (by decide))
              · have b44 : 1 ≤ v40 ∧ v40 ≤ 1 := by omega
                refine w_t (np := 76) (l2 := [some (eI (a0)), some (eI (a1)), some (eJ (v4)), none, some (eJ (a1)), none, none]) (s2 := [eI (1)]) rfl rfl rfl ?_
                refine w_go (t1 := 80) rfl rfl ?_
                refine w_t (np := 82) (l2 := [some (eI (a0)), some (eI (a1)), some (eJ (v4)), none, some (eJ (a1)), none, some (eI (1))]) (s2 := []) rfl rfl rfl ?_
                refine w_t (np := 84) (l2 := [some (eI (a0)), some (eI (a1)), some (eJ (v4)), none, some (eJ (a1)), none, some (eI (1))]) (s2 := [eI (1)]) rfl rfl rfl ?_
                refine w_t (np := 85) (l2 := [some (eI (a0)), some (eI (a1)), some (eJ (v4)), none, some (eJ (a1)), none, some (eI (1))]) (s2 := [eJ (v4), eI (1)]) rfl rfl rfl ?_
                refine w_t (np := 86) (l2 := [some (eI (a0)), some (eI (a1)), some (eJ (v4)), none, some (eJ (a1)), none, some (eI (1))]) (s2 := [eJ (0), eJ (v4), eI (1)]) rfl rfl rfl ?_
                obtain ⟨v44, e45, b46⟩ := h_lcmp (v4) (0)
                refine w_t (np := 87) (l2 := [some (eI (a0)), some (eI (a1)), some (eJ (v4)), none, some (eJ (a1)), none, some (eI (1))]) (s2 := [eI (v44), eI (1)]) rfl (e45 _ _) rfl ?_
                refine b_ile (t1 := 94) (t2 := 90) rfl rfl rfl (ev_w_in (by omega) (by omega)) (fun g47 => ?_) (fun g47 => ?_)
                · have b48 : -1 ≤ v44 ∧ v44 ≤ 0 := by omega
                  refine w_t (np := 95) (l2 := [some (eI (a0)), some (eI (a1)), some (eJ (v4)), none, some (eJ (a1)), none, some (eI (1))]) (s2 := [eI (0), eI (1)]) rfl rfl rfl ?_
                  refine b_cne (t1 := 102) (t2 := 98) rfl rfl rfl rfl rfl (fun g48 => ?_) (fun g48 => absurd g48 (by decide))
                  refine w_t (np := 103) (l2 := [some (eI (a0)), some (eI (a1)), some (eJ (v4)), none, some (eJ (a1)), none, some (eI (1))]) (s2 := [eI (-1)]) rfl rfl rfl ?_
                  exact b_ri rfl rfl (K (-1) (by decide))
                · have b48 : 1 ≤ v44 ∧ v44 ≤ 1 := by omega
                  refine w_t (np := 91) (l2 := [some (eI (a0)), some (eI (a1)), some (eJ (v4)), none, some (eJ (a1)), none, some (eI (1))]) (s2 := [eI (1), eI (1)]) rfl rfl rfl ?_
                  refine w_go (t1 := 95) rfl rfl ?_
                  refine b_cne (t1 := 102) (t2 := 98) rfl rfl rfl rfl rfl (fun g48 => absurd g48 (by decide)) (fun g48 => ?_)
                  refine w_t (np := 99) (l2 := [some (eI (a0)), some (eI (a1)), some (eJ (v4)), none, some (eJ (a1)), none, some (eI (1))]) (s2 := [eI (1)]) rfl rfl rfl ?_
                  refine w_go (t1 := 103) rfl rfl ?_
                  exact b_ri rfl rfl (K (1) (by decide))
            · have b31 : -1 ≤ v27 ∧ v27 ≤ 0 := by omega
              refine w_t (np := 58) (l2 := [some (eI (a0)), some (eI (a1)), some (eJ (v4)), none, some (eJ (a1)), none, none]) (s2 := [eI (-1)]) rfl rfl rfl ?_
              exact b_ri rfl rfl (K (-1) (by decide))
        · have b23 : 0 ≤ v19 ∧ v19 ≤ 1 := by omega
          refine w_t (np := 43) (l2 := [some (eI (a0)), some (eI (a1)), some (eJ (v4)), none, some (eJ (a1)), none, none]) (s2 := [eI (1)]) rfl rfl rfl ?_
          exact b_ri rfl rfl (K (1) (by decide))
    · have b15 : 0 ≤ v11 ∧ v11 ≤ 0 := by omega
      refine w_t (np := 28) (l2 := [some (eI (a0)), some (eI (a1)), some (eJ (v4)), none, some (eJ (a1)), none, none]) (s2 := [eI (0)]) rfl rfl rfl ?_
      exact b_ri rfl rfl (K (0) (by decide))
theorem s_86 {L : Nat} {ρ : Nat → Int} {rc : eQ} {d : Nat} {f : eFr} {F : List eFr} {μ : eM} {g : Nat → Nat} {a0 : Int} (hI : SI g μ) (bA0 : -9223372036854775808 ≤ a0 ∧ a0 ≤ 9223372036854775807) (K : ∀ (v : Int), (-2147483648 ≤ v ∧ v ≤ 2147483647) → ex_q (dt_fg L ρ) rc (d + 2, (f.1, f.2.1, f.2.2.1, eI v :: f.2.2.2), F, μ)) : ex_q (dt_fg L ρ) rc (d + 1, (86, 0, [some (eJ (a0)), none, none, none, none, none], []), f :: F, μ) := by
  refine w_t (np := 1) (l2 := [some (eJ (a0)), none, none, none, none, none]) (s2 := [eJ (a0)]) rfl rfl rfl ?_
  refine w_t (np := 2) (l2 := [some (eJ (a0)), none, none, none, none, none]) (s2 := [eI (0), eJ (a0)]) rfl rfl rfl ?_
  refine w_cu (np := 5) (as := [eJ (a0), eI (0)]) (l2 := [some (eJ (a0)), none, some (eI (0))]) (rest := []) rfl rfl rfl (Nat.ble_eq.mp rfl) rfl rfl rfl rfl ?_
  refine s_73 (a2 := 0) hI bA0 (by decide) ?_
  intro v1 b2
  show ex_q (dt_fg L ρ) rc (d + 1, (86, 5, [some (eJ (a0)), none, none, none, none, none], [eI (v1)]), f :: F, μ)
  refine w_t (np := 6) (l2 := [some (eJ (a0)), none, some (eI (v1)), none, none, none]) (s2 := []) rfl rfl rfl ?_
  refine w_t (np := 7) (l2 := [some (eJ (a0)), none, some (eI (v1)), none, none, none]) (s2 := [eJ (a0)]) rfl rfl rfl ?_
  refine w_t (np := 8) (l2 := [some (eJ (a0)), none, some (eI (v1)), none, none, none]) (s2 := [eI (1), eJ (a0)]) rfl rfl rfl ?_
  refine w_cu (np := 11) (as := [eJ (a0), eI (1)]) (l2 := [some (eJ (a0)), none, some (eI (1))]) (rest := []) rfl rfl rfl (Nat.ble_eq.mp rfl) rfl rfl rfl rfl ?_
  refine s_73 (a2 := 1) hI bA0 (by decide) ?_
  intro v3 b4
  show ex_q (dt_fg L ρ) rc (d + 1, (86, 11, [some (eJ (a0)), none, some (eI (v1)), none, none, none], [eI (v3)]), f :: F, μ)
  refine w_t (np := 12) (l2 := [some (eJ (a0)), none, some (eI (v1)), some (eI (v3)), none, none]) (s2 := []) rfl rfl rfl ?_
  refine w_t (np := 13) (l2 := [some (eJ (a0)), none, some (eI (v1)), some (eI (v3)), none, none]) (s2 := [eJ (a0)]) rfl rfl rfl ?_
  refine w_t (np := 14) (l2 := [some (eJ (a0)), none, some (eI (v1)), some (eI (v3)), none, none]) (s2 := [eI (2), eJ (a0)]) rfl rfl rfl ?_
  refine w_cu (np := 17) (as := [eJ (a0), eI (2)]) (l2 := [some (eJ (a0)), none, some (eI (2))]) (rest := []) rfl rfl rfl (Nat.ble_eq.mp rfl) rfl rfl rfl rfl ?_
  refine s_73 (a2 := 2) hI bA0 (by decide) ?_
  intro v5 b6
  show ex_q (dt_fg L ρ) rc (d + 1, (86, 17, [some (eJ (a0)), none, some (eI (v1)), some (eI (v3)), none, none], [eI (v5)]), f :: F, μ)
  refine w_t (np := 19) (l2 := [some (eJ (a0)), none, some (eI (v1)), some (eI (v3)), some (eI (v5)), none]) (s2 := []) rfl rfl rfl ?_
  refine w_t (np := 20) (l2 := [some (eJ (a0)), none, some (eI (v1)), some (eI (v3)), some (eI (v5)), none]) (s2 := [eJ (a0)]) rfl rfl rfl ?_
  refine w_t (np := 21) (l2 := [some (eJ (a0)), none, some (eI (v1)), some (eI (v3)), some (eI (v5)), none]) (s2 := [eI (3), eJ (a0)]) rfl rfl rfl ?_
  refine w_cu (np := 24) (as := [eJ (a0), eI (3)]) (l2 := [some (eJ (a0)), none, some (eI (3))]) (rest := []) rfl rfl rfl (Nat.ble_eq.mp rfl) rfl rfl rfl rfl ?_
  refine s_73 (a2 := 3) hI bA0 (by decide) ?_
  intro v7 b8
  show ex_q (dt_fg L ρ) rc (d + 1, (86, 24, [some (eJ (a0)), none, some (eI (v1)), some (eI (v3)), some (eI (v5)), none], [eI (v7)]), f :: F, μ)
  refine w_t (np := 26) (l2 := [some (eJ (a0)), none, some (eI (v1)), some (eI (v3)), some (eI (v5)), some (eI (v7))]) (s2 := []) rfl rfl rfl ?_
  refine w_t (np := 27) (l2 := [some (eJ (a0)), none, some (eI (v1)), some (eI (v3)), some (eI (v5)), some (eI (v7))]) (s2 := [eI (v1)]) rfl rfl rfl ?_
  refine w_t (np := 28) (l2 := [some (eJ (a0)), none, some (eI (v1)), some (eI (v3)), some (eI (v5)), some (eI (v7))]) (s2 := [eI (v1), eI (v1)]) rfl rfl rfl ?_
  obtain ⟨v9, e10⟩ : ∃ zz : Int, zz = (v1) * (v1) := ⟨_, rfl⟩
  have b11 : -1073741824 ≤ v9 ∧ v9 ≤ 1073741824 := by
    have hm := i_mulb (a := v1) (b := v1) (A := 32768) (B := 32768) (by omega) (by omega)
    rw [e10]
    omega
  refine w_t (np := 29) (l2 := [some (eJ (a0)), none, some (eI (v1)), some (eI (v3)), some (eI (v5)), some (eI (v7))]) (s2 := [eI (v9)]) rfl (b_imul (by rw [← e10]; exact ev_w_in (by omega) (by omega))) rfl ?_
  refine w_t (np := 30) (l2 := [some (eJ (a0)), none, some (eI (v1)), some (eI (v3)), some (eI (v5)), some (eI (v7))]) (s2 := [eI (v3), eI (v9)]) rfl rfl rfl ?_
  refine w_t (np := 31) (l2 := [some (eJ (a0)), none, some (eI (v1)), some (eI (v3)), some (eI (v5)), some (eI (v7))]) (s2 := [eI (v3), eI (v3), eI (v9)]) rfl rfl rfl ?_
  obtain ⟨v12, e13⟩ : ∃ zz : Int, zz = (v3) * (v3) := ⟨_, rfl⟩
  have b14 : -1073741824 ≤ v12 ∧ v12 ≤ 1073741824 := by
    have hm := i_mulb (a := v3) (b := v3) (A := 32768) (B := 32768) (by omega) (by omega)
    rw [e13]
    omega
  refine w_t (np := 32) (l2 := [some (eJ (a0)), none, some (eI (v1)), some (eI (v3)), some (eI (v5)), some (eI (v7))]) (s2 := [eI (v12), eI (v9)]) rfl (b_imul (by rw [← e13]; exact ev_w_in (by omega) (by omega))) rfl ?_
  obtain ⟨v15, e16, b17⟩ : ∃ zz : Int, ev_w ((v9) + (v12)) = zz ∧ (-2147483648 ≤ zz ∧ zz ≤ 2147483647) := ⟨_, rfl, hw_bd _⟩
  refine w_t (np := 33) (l2 := [some (eJ (a0)), none, some (eI (v1)), some (eI (v3)), some (eI (v5)), some (eI (v7))]) (s2 := [eI (v15)]) rfl (b_iadd e16) rfl ?_
  refine w_t (np := 35) (l2 := [some (eJ (a0)), none, some (eI (v1)), some (eI (v3)), some (eI (v5)), some (eI (v7))]) (s2 := [eI (v5), eI (v15)]) rfl rfl rfl ?_
  refine w_t (np := 37) (l2 := [some (eJ (a0)), none, some (eI (v1)), some (eI (v3)), some (eI (v5)), some (eI (v7))]) (s2 := [eI (v5), eI (v5), eI (v15)]) rfl rfl rfl ?_
  obtain ⟨v18, e19⟩ : ∃ zz : Int, zz = (v5) * (v5) := ⟨_, rfl⟩
  have b20 : -1073741824 ≤ v18 ∧ v18 ≤ 1073741824 := by
    have hm := i_mulb (a := v5) (b := v5) (A := 32768) (B := 32768) (by omega) (by omega)
    rw [e19]
    omega
  refine w_t (np := 38) (l2 := [some (eJ (a0)), none, some (eI (v1)), some (eI (v3)), some (eI (v5)), some (eI (v7))]) (s2 := [eI (v18), eI (v15)]) rfl (b_imul (by rw [← e19]; exact ev_w_in (by omega) (by omega))) rfl ?_
  obtain ⟨v21, e22, b23⟩ : ∃ zz : Int, ev_w ((v15) + (v18)) = zz ∧ (-2147483648 ≤ zz ∧ zz ≤ 2147483647) := ⟨_, rfl, hw_bd _⟩
  refine w_t (np := 39) (l2 := [some (eJ (a0)), none, some (eI (v1)), some (eI (v3)), some (eI (v5)), some (eI (v7))]) (s2 := [eI (v21)]) rfl (b_iadd e22) rfl ?_
  refine w_t (np := 41) (l2 := [some (eJ (a0)), none, some (eI (v1)), some (eI (v3)), some (eI (v5)), some (eI (v7))]) (s2 := [eI (v7), eI (v21)]) rfl rfl rfl ?_
  refine w_t (np := 43) (l2 := [some (eJ (a0)), none, some (eI (v1)), some (eI (v3)), some (eI (v5)), some (eI (v7))]) (s2 := [eI (v7), eI (v7), eI (v21)]) rfl rfl rfl ?_
  obtain ⟨v24, e25⟩ : ∃ zz : Int, zz = (v7) * (v7) := ⟨_, rfl⟩
  have b26 : -1073741824 ≤ v24 ∧ v24 ≤ 1073741824 := by
    have hm := i_mulb (a := v7) (b := v7) (A := 32768) (B := 32768) (by omega) (by omega)
    rw [e25]
    omega
  refine w_t (np := 44) (l2 := [some (eJ (a0)), none, some (eI (v1)), some (eI (v3)), some (eI (v5)), some (eI (v7))]) (s2 := [eI (v24), eI (v21)]) rfl (b_imul (by rw [← e25]; exact ev_w_in (by omega) (by omega))) rfl ?_
  obtain ⟨v27, e28, b29⟩ : ∃ zz : Int, ev_w ((v21) + (v24)) = zz ∧ (-2147483648 ≤ zz ∧ zz ≤ 2147483647) := ⟨_, rfl, hw_bd _⟩
  refine w_t (np := 45) (l2 := [some (eJ (a0)), none, some (eI (v1)), some (eI (v3)), some (eI (v5)), some (eI (v7))]) (s2 := [eI (v27)]) rfl (b_iadd e28) rfl ?_
  refine w_t (np := 46) (l2 := [some (eJ (a0)), none, some (eI (v1)), some (eI (v3)), some (eI (v5)), some (eI (v7))]) (s2 := [eI (v1), eI (v27)]) rfl rfl rfl ?_
  refine w_t (np := 48) (l2 := [some (eJ (a0)), none, some (eI (v1)), some (eI (v3)), some (eI (v5)), some (eI (v7))]) (s2 := [eI (v5), eI (v1), eI (v27)]) rfl rfl rfl ?_
  obtain ⟨v30, e31⟩ : ∃ zz : Int, zz = (v1) * (v5) := ⟨_, rfl⟩
  have b32 : -1073741824 ≤ v30 ∧ v30 ≤ 1073741824 := by
    have hm := i_mulb (a := v1) (b := v5) (A := 32768) (B := 32768) (by omega) (by omega)
    rw [e31]
    omega
  refine w_t (np := 49) (l2 := [some (eJ (a0)), none, some (eI (v1)), some (eI (v3)), some (eI (v5)), some (eI (v7))]) (s2 := [eI (v30), eI (v27)]) rfl (b_imul (by rw [← e31]; exact ev_w_in (by omega) (by omega))) rfl ?_
  obtain ⟨v33, e34, b35⟩ : ∃ zz : Int, ev_w ((v27) - (v30)) = zz ∧ (-2147483648 ≤ zz ∧ zz ≤ 2147483647) := ⟨_, rfl, hw_bd _⟩
  refine w_t (np := 50) (l2 := [some (eJ (a0)), none, some (eI (v1)), some (eI (v3)), some (eI (v5)), some (eI (v7))]) (s2 := [eI (v33)]) rfl (b_isub e34) rfl ?_
  refine w_t (np := 51) (l2 := [some (eJ (a0)), none, some (eI (v1)), some (eI (v3)), some (eI (v5)), some (eI (v7))]) (s2 := [eI (v3), eI (v33)]) rfl rfl rfl ?_
  refine w_t (np := 53) (l2 := [some (eJ (a0)), none, some (eI (v1)), some (eI (v3)), some (eI (v5)), some (eI (v7))]) (s2 := [eI (v7), eI (v3), eI (v33)]) rfl rfl rfl ?_
  obtain ⟨v36, e37⟩ : ∃ zz : Int, zz = (v3) * (v7) := ⟨_, rfl⟩
  have b38 : -1073741824 ≤ v36 ∧ v36 ≤ 1073741824 := by
    have hm := i_mulb (a := v3) (b := v7) (A := 32768) (B := 32768) (by omega) (by omega)
    rw [e37]
    omega
  refine w_t (np := 54) (l2 := [some (eJ (a0)), none, some (eI (v1)), some (eI (v3)), some (eI (v5)), some (eI (v7))]) (s2 := [eI (v36), eI (v33)]) rfl (b_imul (by rw [← e37]; exact ev_w_in (by omega) (by omega))) rfl ?_
  obtain ⟨v39, e40, b41⟩ : ∃ zz : Int, ev_w ((v33) - (v36)) = zz ∧ (-2147483648 ≤ zz ∧ zz ≤ 2147483647) := ⟨_, rfl, hw_bd _⟩
  refine w_t (np := 55) (l2 := [some (eJ (a0)), none, some (eI (v1)), some (eI (v3)), some (eI (v5)), some (eI (v7))]) (s2 := [eI (v39)]) rfl (b_isub e40) rfl ?_
  refine w_t (np := 56) (l2 := [some (eJ (a0)), none, some (eI (v1)), some (eI (v3)), some (eI (v5)), some (eI (v7))]) (s2 := [eI (v1), eI (v39)]) rfl rfl rfl ?_
  refine w_t (np := 58) (l2 := [some (eJ (a0)), none, some (eI (v1)), some (eI (v3)), some (eI (v5)), some (eI (v7))]) (s2 := [eI (v7), eI (v1), eI (v39)]) rfl rfl rfl ?_
  obtain ⟨v42, e43⟩ : ∃ zz : Int, zz = (v1) * (v7) := ⟨_, rfl⟩
  have b44 : -1073741824 ≤ v42 ∧ v42 ≤ 1073741824 := by
    have hm := i_mulb (a := v1) (b := v7) (A := 32768) (B := 32768) (by omega) (by omega)
    rw [e43]
    omega
  refine w_t (np := 59) (l2 := [some (eJ (a0)), none, some (eI (v1)), some (eI (v3)), some (eI (v5)), some (eI (v7))]) (s2 := [eI (v42), eI (v39)]) rfl (b_imul (by rw [← e43]; exact ev_w_in (by omega) (by omega))) rfl ?_
  obtain ⟨v45, e46, b47⟩ : ∃ zz : Int, ev_w ((v39) + (v42)) = zz ∧ (-2147483648 ≤ zz ∧ zz ≤ 2147483647) := ⟨_, rfl, hw_bd _⟩
  refine w_t (np := 60) (l2 := [some (eJ (a0)), none, some (eI (v1)), some (eI (v3)), some (eI (v5)), some (eI (v7))]) (s2 := [eI (v45)]) rfl (b_iadd e46) rfl ?_
  exact b_ri rfl rfl (K (v45) (by omega))
theorem s_87 {L : Nat} {ρ : Nat → Int} {rc : eQ} {d : Nat} {f : eFr} {F : List eFr} {μ : eM} {g : Nat → Nat} {a0 : Int} (hI : SI g μ) (bA0 : -9223372036854775808 ≤ a0 ∧ a0 ≤ 9223372036854775807) (K : ∀ (v : Int), (-2147483648 ≤ v ∧ v ≤ 2147483647) → ex_q (dt_fg L ρ) rc (d + 2, (f.1, f.2.1, f.2.2.1, eI v :: f.2.2.2), F, μ)) : ex_q (dt_fg L ρ) rc (d + 1, (87, 0, [some (eJ (a0)), none, none, none, none, none], []), f :: F, μ) := by
  refine w_t (np := 1) (l2 := [some (eJ (a0)), none, none, none, none, none]) (s2 := [eJ (a0)]) rfl rfl rfl ?_
  refine w_t (np := 2) (l2 := [some (eJ (a0)), none, none, none, none, none]) (s2 := [eI (0), eJ (a0)]) rfl rfl rfl ?_
  refine w_cu (np := 5) (as := [eJ (a0), eI (0)]) (l2 := [some (eJ (a0)), none, some (eI (0))]) (rest := []) rfl rfl rfl (Nat.ble_eq.mp rfl) rfl rfl rfl rfl ?_
  refine s_73 (a2 := 0) hI bA0 (by decide) ?_
  intro v1 b2
  show ex_q (dt_fg L ρ) rc (d + 1, (87, 5, [some (eJ (a0)), none, none, none, none, none], [eI (v1)]), f :: F, μ)
  refine w_t (np := 6) (l2 := [some (eJ (a0)), none, some (eI (v1)), none, none, none]) (s2 := []) rfl rfl rfl ?_
  refine w_t (np := 7) (l2 := [some (eJ (a0)), none, some (eI (v1)), none, none, none]) (s2 := [eJ (a0)]) rfl rfl rfl ?_
  refine w_t (np := 8) (l2 := [some (eJ (a0)), none, some (eI (v1)), none, none, none]) (s2 := [eI (1), eJ (a0)]) rfl rfl rfl ?_
  refine w_cu (np := 11) (as := [eJ (a0), eI (1)]) (l2 := [some (eJ (a0)), none, some (eI (1))]) (rest := []) rfl rfl rfl (Nat.ble_eq.mp rfl) rfl rfl rfl rfl ?_
  refine s_73 (a2 := 1) hI bA0 (by decide) ?_
  intro v3 b4
  show ex_q (dt_fg L ρ) rc (d + 1, (87, 11, [some (eJ (a0)), none, some (eI (v1)), none, none, none], [eI (v3)]), f :: F, μ)
  refine w_t (np := 12) (l2 := [some (eJ (a0)), none, some (eI (v1)), some (eI (v3)), none, none]) (s2 := []) rfl rfl rfl ?_
  refine w_t (np := 13) (l2 := [some (eJ (a0)), none, some (eI (v1)), some (eI (v3)), none, none]) (s2 := [eJ (a0)]) rfl rfl rfl ?_
  refine w_t (np := 14) (l2 := [some (eJ (a0)), none, some (eI (v1)), some (eI (v3)), none, none]) (s2 := [eI (2), eJ (a0)]) rfl rfl rfl ?_
  refine w_cu (np := 17) (as := [eJ (a0), eI (2)]) (l2 := [some (eJ (a0)), none, some (eI (2))]) (rest := []) rfl rfl rfl (Nat.ble_eq.mp rfl) rfl rfl rfl rfl ?_
  refine s_73 (a2 := 2) hI bA0 (by decide) ?_
  intro v5 b6
  show ex_q (dt_fg L ρ) rc (d + 1, (87, 17, [some (eJ (a0)), none, some (eI (v1)), some (eI (v3)), none, none], [eI (v5)]), f :: F, μ)
  refine w_t (np := 19) (l2 := [some (eJ (a0)), none, some (eI (v1)), some (eI (v3)), some (eI (v5)), none]) (s2 := []) rfl rfl rfl ?_
  refine w_t (np := 20) (l2 := [some (eJ (a0)), none, some (eI (v1)), some (eI (v3)), some (eI (v5)), none]) (s2 := [eJ (a0)]) rfl rfl rfl ?_
  refine w_t (np := 21) (l2 := [some (eJ (a0)), none, some (eI (v1)), some (eI (v3)), some (eI (v5)), none]) (s2 := [eI (3), eJ (a0)]) rfl rfl rfl ?_
  refine w_cu (np := 24) (as := [eJ (a0), eI (3)]) (l2 := [some (eJ (a0)), none, some (eI (3))]) (rest := []) rfl rfl rfl (Nat.ble_eq.mp rfl) rfl rfl rfl rfl ?_
  refine s_73 (a2 := 3) hI bA0 (by decide) ?_
  intro v7 b8
  show ex_q (dt_fg L ρ) rc (d + 1, (87, 24, [some (eJ (a0)), none, some (eI (v1)), some (eI (v3)), some (eI (v5)), none], [eI (v7)]), f :: F, μ)
  refine w_t (np := 26) (l2 := [some (eJ (a0)), none, some (eI (v1)), some (eI (v3)), some (eI (v5)), some (eI (v7))]) (s2 := []) rfl rfl rfl ?_
  refine w_t (np := 27) (l2 := [some (eJ (a0)), none, some (eI (v1)), some (eI (v3)), some (eI (v5)), some (eI (v7))]) (s2 := [eI (v1)]) rfl rfl rfl ?_
  refine w_t (np := 28) (l2 := [some (eJ (a0)), none, some (eI (v1)), some (eI (v3)), some (eI (v5)), some (eI (v7))]) (s2 := [eI (v3), eI (v1)]) rfl rfl rfl ?_
  obtain ⟨v9, e10⟩ : ∃ zz : Int, zz = (v1) * (v3) := ⟨_, rfl⟩
  have b11 : -1073741824 ≤ v9 ∧ v9 ≤ 1073741824 := by
    have hm := i_mulb (a := v1) (b := v3) (A := 32768) (B := 32768) (by omega) (by omega)
    rw [e10]
    omega
  refine w_t (np := 29) (l2 := [some (eJ (a0)), none, some (eI (v1)), some (eI (v3)), some (eI (v5)), some (eI (v7))]) (s2 := [eI (v9)]) rfl (b_imul (by rw [← e10]; exact ev_w_in (by omega) (by omega))) rfl ?_
  refine w_t (np := 30) (l2 := [some (eJ (a0)), none, some (eI (v1)), some (eI (v3)), some (eI (v5)), some (eI (v7))]) (s2 := [eI (v3), eI (v9)]) rfl rfl rfl ?_
  refine w_t (np := 32) (l2 := [some (eJ (a0)), none, some (eI (v1)), some (eI (v3)), some (eI (v5)), some (eI (v7))]) (s2 := [eI (v5), eI (v3), eI (v9)]) rfl rfl rfl ?_
  obtain ⟨v12, e13⟩ : ∃ zz : Int, zz = (v3) * (v5) := ⟨_, rfl⟩
  have b14 : -1073741824 ≤ v12 ∧ v12 ≤ 1073741824 := by
    have hm := i_mulb (a := v3) (b := v5) (A := 32768) (B := 32768) (by omega) (by omega)
    rw [e13]
    omega
  refine w_t (np := 33) (l2 := [some (eJ (a0)), none, some (eI (v1)), some (eI (v3)), some (eI (v5)), some (eI (v7))]) (s2 := [eI (v12), eI (v9)]) rfl (b_imul (by rw [← e13]; exact ev_w_in (by omega) (by omega))) rfl ?_
  obtain ⟨v15, e16, b17⟩ : ∃ zz : Int, ev_w ((v9) + (v12)) = zz ∧ (-2147483648 ≤ zz ∧ zz ≤ 2147483647) := ⟨_, rfl, hw_bd _⟩
  refine w_t (np := 34) (l2 := [some (eJ (a0)), none, some (eI (v1)), some (eI (v3)), some (eI (v5)), some (eI (v7))]) (s2 := [eI (v15)]) rfl (b_iadd e16) rfl ?_
  refine w_t (np := 36) (l2 := [some (eJ (a0)), none, some (eI (v1)), some (eI (v3)), some (eI (v5)), some (eI (v7))]) (s2 := [eI (v5), eI (v15)]) rfl rfl rfl ?_
  refine w_t (np := 38) (l2 := [some (eJ (a0)), none, some (eI (v1)), some (eI (v3)), some (eI (v5)), some (eI (v7))]) (s2 := [eI (v7), eI (v5), eI (v15)]) rfl rfl rfl ?_
  obtain ⟨v18, e19⟩ : ∃ zz : Int, zz = (v5) * (v7) := ⟨_, rfl⟩
  have b20 : -1073741824 ≤ v18 ∧ v18 ≤ 1073741824 := by
    have hm := i_mulb (a := v5) (b := v7) (A := 32768) (B := 32768) (by omega) (by omega)
    rw [e19]
    omega
  refine w_t (np := 39) (l2 := [some (eJ (a0)), none, some (eI (v1)), some (eI (v3)), some (eI (v5)), some (eI (v7))]) (s2 := [eI (v18), eI (v15)]) rfl (b_imul (by rw [← e19]; exact ev_w_in (by omega) (by omega))) rfl ?_
  obtain ⟨v21, e22, b23⟩ : ∃ zz : Int, ev_w ((v15) + (v18)) = zz ∧ (-2147483648 ≤ zz ∧ zz ≤ 2147483647) := ⟨_, rfl, hw_bd _⟩
  refine w_t (np := 40) (l2 := [some (eJ (a0)), none, some (eI (v1)), some (eI (v3)), some (eI (v5)), some (eI (v7))]) (s2 := [eI (v21)]) rfl (b_iadd e22) rfl ?_
  refine w_t (np := 41) (l2 := [some (eJ (a0)), none, some (eI (v1)), some (eI (v3)), some (eI (v5)), some (eI (v7))]) (s2 := [eI (v1), eI (v21)]) rfl rfl rfl ?_
  refine w_t (np := 43) (l2 := [some (eJ (a0)), none, some (eI (v1)), some (eI (v3)), some (eI (v5)), some (eI (v7))]) (s2 := [eI (v5), eI (v1), eI (v21)]) rfl rfl rfl ?_
  obtain ⟨v24, e25⟩ : ∃ zz : Int, zz = (v1) * (v5) := ⟨_, rfl⟩
  have b26 : -1073741824 ≤ v24 ∧ v24 ≤ 1073741824 := by
    have hm := i_mulb (a := v1) (b := v5) (A := 32768) (B := 32768) (by omega) (by omega)
    rw [e25]
    omega
  refine w_t (np := 44) (l2 := [some (eJ (a0)), none, some (eI (v1)), some (eI (v3)), some (eI (v5)), some (eI (v7))]) (s2 := [eI (v24), eI (v21)]) rfl (b_imul (by rw [← e25]; exact ev_w_in (by omega) (by omega))) rfl ?_
  obtain ⟨v27, e28, b29⟩ : ∃ zz : Int, ev_w ((v21) + (v24)) = zz ∧ (-2147483648 ≤ zz ∧ zz ≤ 2147483647) := ⟨_, rfl, hw_bd _⟩
  refine w_t (np := 45) (l2 := [some (eJ (a0)), none, some (eI (v1)), some (eI (v3)), some (eI (v5)), some (eI (v7))]) (s2 := [eI (v27)]) rfl (b_iadd e28) rfl ?_
  refine w_t (np := 46) (l2 := [some (eJ (a0)), none, some (eI (v1)), some (eI (v3)), some (eI (v5)), some (eI (v7))]) (s2 := [eI (v3), eI (v27)]) rfl rfl rfl ?_
  refine w_t (np := 48) (l2 := [some (eJ (a0)), none, some (eI (v1)), some (eI (v3)), some (eI (v5)), some (eI (v7))]) (s2 := [eI (v7), eI (v3), eI (v27)]) rfl rfl rfl ?_
  obtain ⟨v30, e31⟩ : ∃ zz : Int, zz = (v3) * (v7) := ⟨_, rfl⟩
  have b32 : -1073741824 ≤ v30 ∧ v30 ≤ 1073741824 := by
    have hm := i_mulb (a := v3) (b := v7) (A := 32768) (B := 32768) (by omega) (by omega)
    rw [e31]
    omega
  refine w_t (np := 49) (l2 := [some (eJ (a0)), none, some (eI (v1)), some (eI (v3)), some (eI (v5)), some (eI (v7))]) (s2 := [eI (v30), eI (v27)]) rfl (b_imul (by rw [← e31]; exact ev_w_in (by omega) (by omega))) rfl ?_
  obtain ⟨v33, e34, b35⟩ : ∃ zz : Int, ev_w ((v27) + (v30)) = zz ∧ (-2147483648 ≤ zz ∧ zz ≤ 2147483647) := ⟨_, rfl, hw_bd _⟩
  refine w_t (np := 50) (l2 := [some (eJ (a0)), none, some (eI (v1)), some (eI (v3)), some (eI (v5)), some (eI (v7))]) (s2 := [eI (v33)]) rfl (b_iadd e34) rfl ?_
  refine w_t (np := 51) (l2 := [some (eJ (a0)), none, some (eI (v1)), some (eI (v3)), some (eI (v5)), some (eI (v7))]) (s2 := [eI (v1), eI (v33)]) rfl rfl rfl ?_
  refine w_t (np := 53) (l2 := [some (eJ (a0)), none, some (eI (v1)), some (eI (v3)), some (eI (v5)), some (eI (v7))]) (s2 := [eI (v7), eI (v1), eI (v33)]) rfl rfl rfl ?_
  obtain ⟨v36, e37⟩ : ∃ zz : Int, zz = (v1) * (v7) := ⟨_, rfl⟩
  have b38 : -1073741824 ≤ v36 ∧ v36 ≤ 1073741824 := by
    have hm := i_mulb (a := v1) (b := v7) (A := 32768) (B := 32768) (by omega) (by omega)
    rw [e37]
    omega
  refine w_t (np := 54) (l2 := [some (eJ (a0)), none, some (eI (v1)), some (eI (v3)), some (eI (v5)), some (eI (v7))]) (s2 := [eI (v36), eI (v33)]) rfl (b_imul (by rw [← e37]; exact ev_w_in (by omega) (by omega))) rfl ?_
  obtain ⟨v39, e40, b41⟩ : ∃ zz : Int, ev_w ((v33) - (v36)) = zz ∧ (-2147483648 ≤ zz ∧ zz ≤ 2147483647) := ⟨_, rfl, hw_bd _⟩
  refine w_t (np := 55) (l2 := [some (eJ (a0)), none, some (eI (v1)), some (eI (v3)), some (eI (v5)), some (eI (v7))]) (s2 := [eI (v39)]) rfl (b_isub e40) rfl ?_
  exact b_ri rfl rfl (K (v39) (by omega))
theorem s_92 {L : Nat} {ρ : Nat → Int} {rc : eQ} {d : Nat} {f : eFr} {F : List eFr} {μ : eM} {g : Nat → Nat} {a0 : Int} {a1 : Int} {a2 : Int} (hI : SI g μ) (bA0 : 0 ≤ a0 ∧ a0 ≤ 9) (bA1 : 0 ≤ a1 ∧ a1 ≤ 3) (bA2 : 0 ≤ a2 ∧ a2 ≤ 3) (K : ∀ (v : Int), (0 ≤ v ∧ v ≤ 159) → ex_q (dt_fg L ρ) rc (d + 1, (f.1, f.2.1, f.2.2.1, eI v :: f.2.2.2), F, μ)) : ex_q (dt_fg L ρ) rc (d, (92, 0, [some (eI (a0)), some (eI (a1)), some (eI (a2))], []), f :: F, μ) := by
  refine w_t (np := 1) (l2 := [some (eI (a0)), some (eI (a1)), some (eI (a2))]) (s2 := [eI (a0)]) rfl rfl rfl ?_
  refine w_t (np := 2) (l2 := [some (eI (a0)), some (eI (a1)), some (eI (a2))]) (s2 := [eI (4), eI (a0)]) rfl rfl rfl ?_
  obtain ⟨v1, e2⟩ : ∃ zz : Int, zz = (a0) * (4) := ⟨_, rfl⟩
  have b3 : 0 ≤ v1 ∧ v1 ≤ 36 := by omega
  refine w_t (np := 3) (l2 := [some (eI (a0)), some (eI (a1)), some (eI (a2))]) (s2 := [eI (v1)]) rfl (b_imul (by rw [← e2]; exact ev_w_in (by omega) (by omega))) rfl ?_
  refine w_t (np := 4) (l2 := [some (eI (a0)), some (eI (a1)), some (eI (a2))]) (s2 := [eI (a1), eI (v1)]) rfl rfl rfl ?_
  obtain ⟨v4, e5⟩ : ∃ zz : Int, zz = (v1) + (a1) := ⟨_, rfl⟩
  have b6 : 0 ≤ v4 ∧ v4 ≤ 39 := by omega
  refine w_t (np := 5) (l2 := [some (eI (a0)), some (eI (a1)), some (eI (a2))]) (s2 := [eI (v4)]) rfl (b_iadd (by rw [← e5]; exact ev_w_in (by omega) (by omega))) rfl ?_
  refine w_t (np := 6) (l2 := [some (eI (a0)), some (eI (a1)), some (eI (a2))]) (s2 := [eI (4), eI (v4)]) rfl rfl rfl ?_
  obtain ⟨v7, e8⟩ : ∃ zz : Int, zz = (v4) * (4) := ⟨_, rfl⟩
  have b9 : 0 ≤ v7 ∧ v7 ≤ 156 := by omega
  refine w_t (np := 7) (l2 := [some (eI (a0)), some (eI (a1)), some (eI (a2))]) (s2 := [eI (v7)]) rfl (b_imul (by rw [← e8]; exact ev_w_in (by omega) (by omega))) rfl ?_
  refine w_t (np := 8) (l2 := [some (eI (a0)), some (eI (a1)), some (eI (a2))]) (s2 := [eI (a2), eI (v7)]) rfl rfl rfl ?_
  obtain ⟨v10, e11⟩ : ∃ zz : Int, zz = (v7) + (a2) := ⟨_, rfl⟩
  have b12 : 0 ≤ v10 ∧ v10 ≤ 159 := by omega
  refine w_t (np := 9) (l2 := [some (eI (a0)), some (eI (a1)), some (eI (a2))]) (s2 := [eI (v10)]) rfl (b_iadd (by rw [← e11]; exact ev_w_in (by omega) (by omega))) rfl ?_
  exact b_ri rfl rfl (K (v10) (by omega))
def l_95 : List Nat := [5125, 5126, 5127, 5128, 5129]
theorem s_95 {L : Nat} {ρ : Nat → Int} {rc : eQ} {d : Nat} {f : eFr} {F : List eFr} {μ : eM} {g : Nat → Nat} {a0 : Nat} (hI : SI g μ) (gA0 : g a0 = 20) (K : ∀ (μ2 : eM), SI g μ2 → Fr l_95 0 0 g μ μ2 → ex_q (dt_fg L ρ) rc (d + 2, (f.1, f.2.1, f.2.2.1, f.2.2.2), F, μ2)) : ex_q (dt_fg L ρ) rc (d + 1, (95, 0, [some (eR a0), none, none], []), f :: F, μ) := by
  have F0 : Fr l_95 0 0 g μ μ := Fr.r
  refine w_t (np := 1) (l2 := [some (eR a0), none, none]) (s2 := [eR a0]) rfl (s_an rfl (pos_g hI gA0 (by decide))) rfl ?_
  refine w_t (np := 2) (l2 := [some (eR a0), none, none]) (s2 := [eI (0), eR a0]) rfl rfl rfl ?_
  refine j_pf (np := 5) (w := 0) rfl rfl hI gA0 (by decide) (n := 9) rfl rfl (hO_i (lo := -2147483648) (hi := 2147483647) rfl (by decide)) ?_
  intro m1 I2 W3
  have F4 : Fr l_95 0 0 g μ m1 := F0.w W3 gA0 rfl
  refine w_t (np := 6) (l2 := [some (eR a0), none, none]) (s2 := [eR a0]) rfl (s_an rfl (pos_g I2 gA0 (by decide))) rfl ?_
  refine w_t (np := 7) (l2 := [some (eR a0), none, none]) (s2 := [eI (0), eR a0]) rfl rfl rfl ?_
  refine j_pf (np := 10) (w := 0) rfl rfl I2 gA0 (by decide) (n := 9) rfl rfl (hO_i (lo := -2147483648) (hi := 2147483647) rfl (by decide)) ?_
  intro m5 I6 W7
  have F8 : Fr l_95 0 0 g μ m5 := F4.w W7 gA0 rfl
  refine w_t (np := 11) (l2 := [some (eR a0), none, none]) (s2 := [eR a0]) rfl (s_an rfl (pos_g I6 gA0 (by decide))) rfl ?_
  refine w_t (np := 12) (l2 := [some (eR a0), none, none]) (s2 := [eI (1), eR a0]) rfl rfl rfl ?_
  refine j_pf (np := 15) (w := 1) rfl rfl I6 gA0 (by decide) (n := 9) rfl rfl (hO_i (lo := -2147483648) (hi := 2147483647) rfl (by decide)) ?_
  intro m9 I10 W11
  have F12 : Fr l_95 0 0 g μ m9 := F8.w W11 gA0 rfl
  refine w_t (np := 16) (l2 := [some (eR a0), none, none]) (s2 := [eR a0]) rfl (s_an rfl (pos_g I10 gA0 (by decide))) rfl ?_
  refine w_t (np := 17) (l2 := [some (eR a0), none, none]) (s2 := [eI (-1), eR a0]) rfl rfl rfl ?_
  refine j_pf (np := 20) (w := -1) rfl rfl I10 gA0 (by decide) (n := 9) rfl rfl (hO_i (lo := -1) (hi := 9) rfl (by decide)) ?_
  intro m13 I14 W15
  have F16 : Fr l_95 0 0 g μ m13 := F12.w W15 gA0 rfl
  refine w_t (np := 21) (l2 := [some (eR a0), none, none]) (s2 := [eR a0]) rfl (s_an rfl (pos_g I14 gA0 (by decide))) rfl ?_
  refine w_t (np := 22) (l2 := [some (eR a0), none, none]) (s2 := [eI (0), eR a0]) rfl rfl rfl ?_
  refine j_pf (np := 25) (w := 0) rfl rfl I14 gA0 (by decide) (n := 9) rfl rfl (hO_i (lo := 0) (hi := 9) rfl (by decide)) ?_
  intro m17 I18 W19
  have F20 : Fr l_95 0 0 g μ m17 := F16.w W19 gA0 rfl
  refine w_t (np := 26) (l2 := [some (eR a0), none, none]) (s2 := [eI (0)]) rfl rfl rfl ?_
  refine w_t (np := 27) (l2 := [some (eR a0), some (eI (0)), none]) (s2 := []) rfl rfl rfl ?_
  have hL27 : ∀ (n21 : Nat) (m26 : eM) (i23 : Int) (o25 : Option eV), SI g m26 → Fr l_95 0 0 g μ m26 → (0 ≤ i23 ∧ i23 ≤ 10) → n21 = (10 - i23).toNat → ex_q (dt_fg L ρ) rc (d + 1, (95, 27, [some (eR a0), some (eI (i23)), o25], []), f :: F, m26) := by
    intro n21
    induction n21 using Nat.strongRecOn with
    | _ n21 ih22 =>
    intro m26 i23 o25 I27 F28 b24 hn29
    refine w_t (np := 28) (l2 := [some (eR a0), some (eI (i23)), o25]) (s2 := [eI (i23)]) rfl rfl rfl ?_
    refine w_t (np := 30) (l2 := [some (eR a0), some (eI (i23)), o25]) (s2 := [eI (10), eI (i23)]) rfl rfl rfl ?_
    refine b_cge (t1 := 186) (t2 := 33) rfl rfl rfl (ev_w_in (by omega) (by omega)) rfl (fun g30 => ?_) (fun g30 => ?_)
    · have b31 : 10 ≤ i23 ∧ i23 ≤ 10 := by omega
      exact v_rv rfl rfl (K m26 I27 F28)
    · have b31 : 0 ≤ i23 ∧ i23 ≤ 9 := by omega
      refine w_t (np := 34) (l2 := [some (eR a0), some (eI (i23)), o25]) (s2 := [eR a0]) rfl (s_an rfl (pos_g I27 gA0 (by decide))) rfl ?_
      refine j_gr (np := 37) rfl rfl I27 gA0 (by decide) (n := 9) rfl rfl rfl ?_
      intro v31 e32 b33 z34
      have b33 : g v31 = 22 := Nat.eq_of_beq_eq_true b33
      refine w_t (np := 38) (l2 := [some (eR a0), some (eI (i23)), o25]) (s2 := [eI (i23), eR v31]) rfl rfl rfl ?_
      refine j_b3 (np := 39) rfl rfl I27 b33 (by decide) (n := 10) rfl rfl (lo := 0) (hi := 1) (fun _ => rfl) (by omega) (by omega) ?_
      intro v35 e36 b37
      refine b_ine (t1 := 180) (t2 := 42) rfl rfl rfl (ev_w_in (by omega) (by omega)) (fun g38 => ?_) (fun g38 => ?_)
      · have b39 : 1 ≤ v35 ∧ v35 ≤ 1 := by omega
        obtain ⟨v39, e40⟩ : ∃ zz : Int, zz = (i23) + (1) := ⟨_, rfl⟩
        have b41 : 1 ≤ v39 ∧ v39 ≤ 10 := by omega
        refine w_t (np := 183) (l2 := [some (eR a0), some (eI (v39)), o25]) (s2 := []) rfl (b_iinc rfl (by rw [← e40]; exact ev_w_in (by omega) (by omega)) rfl) rfl ?_
        refine w_go (t1 := 27) rfl rfl ?_
        exact ih22 (10 - (v39)).toNat (by omega) m26 (v39) (o25) I27 F28 (by omega)     rfl
      · have b39 : 0 ≤ v35 ∧ v35 ≤ 0 := by omega
        refine w_t (np := 43) (l2 := [some (eR a0), some (eI (i23)), o25]) (s2 := [eR a0]) rfl (s_an rfl (pos_g I27 gA0 (by decide))) rfl ?_
        refine w_gf (np := 46) (v := eR v31) rfl rfl (I27.kd gA0 (by decide) (n := 9) rfl) (by rw [e32]; rfl) ?_
        refine w_t (np := 47) (l2 := [some (eR a0), some (eI (i23)), o25]) (s2 := [eI (i23), eR v31]) rfl rfl rfl ?_
        refine w_t (np := 49) (l2 := [some (eR a0), some (eI (i23)), o25]) (s2 := [eI (9), eI (i23), eR v31]) rfl rfl rfl ?_
        obtain ⟨v39, e40⟩ : ∃ zz : Int, zz = (i23) + (9) := ⟨_, rfl⟩
        have b41 : 9 ≤ v39 ∧ v39 ≤ 18 := by omega
        refine w_t (np := 50) (l2 := [some (eR a0), some (eI (i23)), o25]) (s2 := [eI (v39), eR v31]) rfl (b_iadd (by rw [← e40]; exact ev_w_in (by omega) (by omega))) rfl ?_
        refine w_t (np := 52) (l2 := [some (eR a0), some (eI (i23)), o25]) (s2 := [eI (10), eI (v39), eR v31]) rfl rfl rfl ?_
        obtain ⟨v42, e43, b44⟩ := h_irem (a := v39) (k := 10) (by decide) (by decide) (show (-2147483648 : Int) ≤ v39 ∧ (v39 : Int) ≤ 2147483647 by omega)
        have b45 : 0 ≤ v42 ∧ v42 ≤ 9 := by omega
        refine w_t (np := 53) (l2 := [some (eR a0), some (eI (i23)), o25]) (s2 := [eI (v42), eR v31]) rfl (e43 _ _) rfl ?_
        refine j_b3 (np := 54) rfl rfl I27 b33 (by decide) (n := 10) rfl rfl (lo := 0) (hi := 1) (fun _ => rfl) (by omega) (by omega) ?_
        intro v46 e47 b48
        refine b_ieq (t1 := 180) (t2 := 57) rfl rfl rfl (ev_w_in (by omega) (by omega)) (fun g49 => ?_) (fun g49 => ?_)
        · have b50 : 0 ≤ v46 ∧ v46 ≤ 0 := by omega
          obtain ⟨v50, e51⟩ : ∃ zz : Int, zz = (i23) + (1) := ⟨_, rfl⟩
          have b52 : 1 ≤ v50 ∧ v50 ≤ 10 := by omega
          refine w_t (np := 183) (l2 := [some (eR a0), some (eI (v50)), o25]) (s2 := []) rfl (b_iinc rfl (by rw [← e51]; exact ev_w_in (by omega) (by omega)) rfl) rfl ?_
          refine w_go (t1 := 27) rfl rfl ?_
          exact ih22 (10 - (v50)).toNat (by omega) m26 (v50) (o25) I27 F28 (by omega)     rfl
        · have b50 : 1 ≤ v46 ∧ v46 ≤ 1 := by omega
          refine w_t (np := 58) (l2 := [some (eR a0), some (eI (i23)), o25]) (s2 := [eI (1)]) rfl rfl rfl ?_
          refine w_t (np := 59) (l2 := [some (eR a0), some (eI (i23)), some (eI (1))]) (s2 := []) rfl rfl rfl ?_
          have hL59 : ∀ (n50 : Nat) (m54 : eM) (i52 : Int), SI g m54 → Fr l_95 0 0 g μ m54 → (1 ≤ i52 ∧ i52 ≤ 9) → m54.1 a0 1 = ((v31 : Nat) : Int) → m54.1 v31 (i23).toNat = v35 → m54.1 v31 (v42).toNat = v46 → n50 = (9 - i52).toNat → ex_q (dt_fg L ρ) rc (d + 1, (95, 59, [some (eR a0), some (eI (i23)), some (eI (i52))], []), f :: F, m54) := by
            intro n50
            induction n50 using Nat.strongRecOn with
            | _ n50 ih51 =>
            intro m54 i52 I55 F56 b53 k57 k58 k59 hn60
            refine w_t (np := 60) (l2 := [some (eR a0), some (eI (i23)), some (eI (i52))]) (s2 := [eI (i52)]) rfl rfl rfl ?_
            refine w_t (np := 62) (l2 := [some (eR a0), some (eI (i23)), some (eI (i52))]) (s2 := [eI (9), eI (i52)]) rfl rfl rfl ?_
            refine b_cge (t1 := 85) (t2 := 65) rfl rfl rfl (ev_w_in (by omega) (by omega)) rfl (fun g61 => ?_) (fun g61 => ?_)
            · have b62 : 9 ≤ i52 ∧ i52 ≤ 9 := by omega
              refine w_t (np := 86) (l2 := [some (eR a0), some (eI (i23)), some (eI (i52))]) (s2 := [eR a0]) rfl (s_an rfl (pos_g I55 gA0 (by decide))) rfl ?_
              refine w_t (np := 87) (l2 := [some (eR a0), some (eI (i23)), some (eI (i52))]) (s2 := [eR a0, eR a0]) rfl (s_an rfl (pos_g I55 gA0 (by decide))) rfl ?_
              refine j_gi (np := 90) rfl rfl rfl I55 gA0 (by decide) (n := 9) rfl rfl (lo := -2147483648) (hi := 2147483647) rfl ?_
              intro v62 e63 b64
              refine b_ine (t1 := 97) (t2 := 93) rfl rfl rfl (ev_w_in (by omega) (by omega)) (fun g65 => ?_) (fun g65 => ?_)
              · refine w_t (np := 98) (l2 := [some (eR a0), some (eI (i23)), some (eI (i52))]) (s2 := [eR a0, eR a0]) rfl (s_an rfl (pos_g I55 gA0 (by decide))) rfl ?_
                refine j_gi (np := 101) rfl rfl rfl I55 gA0 (by decide) (n := 9) rfl rfl (lo := 0) (hi := 9) rfl ?_
                intro v66 e67 b68
                refine j_pf (np := 104) (w := v66) rfl rfl I55 gA0 (by decide) (n := 9) rfl rfl (hO_i (lo := 0) (hi := 9) rfl (by omega)) ?_
                intro m69 I70 W71
                have F72 : Fr l_95 0 0 g μ m69 := F56.w W71 gA0 rfl
                refine w_t (np := 105) (l2 := [some (eR a0), some (eI (i23)), some (eI (i52))]) (s2 := [eR a0]) rfl (s_an rfl (pos_g I70 gA0 (by decide))) rfl ?_
                refine w_t (np := 106) (l2 := [some (eR a0), some (eI (i23)), some (eI (i52))]) (s2 := [eR a0, eR a0]) rfl (s_an rfl (pos_g I70 gA0 (by decide))) rfl ?_
                refine w_gf (np := 109) (v := eI (v62)) rfl rfl (I70.kd gA0 (by decide) (n := 9) rfl) (by rw [(W71.slot e63 (by decide))]; rfl) ?_
                refine b_ine (t1 := 116) (t2 := 112) rfl rfl rfl (ev_w_in (by omega) (by omega)) (fun g73 => ?_) (fun g73 => False.elim (by omega))
                refine w_t (np := 117) (l2 := [some (eR a0), some (eI (i23)), some (eI (i52))]) (s2 := [eR a0, eR a0]) rfl (s_an rfl (pos_g I70 gA0 (by decide))) rfl ?_
                refine j_gi (np := 120) rfl rfl rfl I70 gA0 (by decide) (n := 9) rfl rfl (lo := -1) (hi := 9) rfl ?_
                intro v74 e75 b76
                refine j_pf (np := 123) (w := v74) rfl rfl I70 gA0 (by decide) (n := 9) rfl rfl (hO_i (lo := -1) (hi := 9) rfl (by omega)) ?_
                intro m77 I78 W79
                have F80 : Fr l_95 0 0 g μ m77 := F72.w W79 gA0 rfl
                refine w_t (np := 124) (l2 := [some (eR a0), some (eI (i23)), some (eI (i52))]) (s2 := [eR a0]) rfl (s_an rfl (pos_g I78 gA0 (by decide))) rfl ?_
                refine w_t (np := 125) (l2 := [some (eR a0), some (eI (i23)), some (eI (i52))]) (s2 := [eR a0, eR a0]) rfl rfl rfl ?_
                refine w_gf (np := 128) (v := eI (v62)) rfl rfl (I78.kd gA0 (by decide) (n := 9) rfl) (by rw [(W79.slot (W71.slot e63 (by decide)) (by decide))]; rfl) ?_
                refine w_t (np := 129) (l2 := [some (eR a0), some (eI (i23)), some (eI (i52))]) (s2 := [eI (1), eI (v62), eR a0]) rfl rfl rfl ?_
                obtain ⟨v81, e82, b83⟩ : ∃ zz : Int, ev_w ((v62) + (1)) = zz ∧ (-2147483648 ≤ zz ∧ zz ≤ 2147483647) := ⟨_, rfl, hw_bd _⟩
                refine w_t (np := 130) (l2 := [some (eR a0), some (eI (i23)), some (eI (i52))]) (s2 := [eI (v81), eR a0]) rfl (b_iadd e82) rfl ?_
                refine j_pf (np := 133) (w := v81) rfl rfl I78 gA0 (by decide) (n := 9) rfl rfl (hO_i (lo := -2147483648) (hi := 2147483647) rfl (by omega)) ?_
                intro m84 I85 W86
                have F87 : Fr l_95 0 0 g μ m84 := F80.w W86 gA0 rfl
                refine w_t (np := 134) (l2 := [some (eR a0), some (eI (i23)), some (eI (i52))]) (s2 := [eR a0]) rfl (s_an rfl (pos_g I85 gA0 (by decide))) rfl ?_
                refine w_t (np := 135) (l2 := [some (eR a0), some (eI (i23)), some (eI (i52))]) (s2 := [eR a0, eR a0]) rfl (s_an rfl (pos_g I85 gA0 (by decide))) rfl ?_
                refine j_gi (np := 138) rfl rfl rfl I85 gA0 (by decide) (n := 9) rfl rfl (lo := -2147483648) (hi := 2147483647) rfl ?_
                intro v88 e89 b90
                refine w_t (np := 139) (l2 := [some (eR a0), some (eI (i23)), some (eI (i52))]) (s2 := [eI (i52), eI (v88), eR a0]) rfl rfl rfl ?_
                refine w_cu (np := 142) (as := [eI (v88), eI (i52)]) (l2 := [some (eI (v88)), some (eI (i52))]) (rest := [eR a0]) rfl rfl rfl (Nat.ble_eq.mp rfl) rfl rfl rfl rfl ?_
                refine w_t (np := 1) (l2 := [some (eI (v88)), some (eI (i52))]) (s2 := [eI (v88)]) rfl rfl rfl ?_
                refine w_t (np := 2) (l2 := [some (eI (v88)), some (eI (i52))]) (s2 := [eI (i52), eI (v88)]) rfl rfl rfl ?_
                refine b_clt (t1 := 9) (t2 := 5) rfl rfl rfl (ev_w_in (by omega) (by omega)) (ev_w_in (by omega) (by omega)) (fun g91 => ?_) (fun g91 => ?_)
                · have b92 : -2147483648 ≤ v88 ∧ v88 ≤ 8 := by omega
                  refine w_t (np := 10) (l2 := [some (eI (v88)), some (eI (i52))]) (s2 := [eI (i52)]) rfl rfl rfl ?_
                  refine b_ri rfl rfl ?_
                  show ex_q (dt_fg L ρ) rc (d + 1, (95, 142, [some (eR a0), some (eI (i23)), some (eI (i52))], [eI (i52), eR a0]), f :: F, m84)
                  refine j_pf (np := 145) (w := i52) rfl rfl I85 gA0 (by decide) (n := 9) rfl rfl (hO_i (lo := -2147483648) (hi := 2147483647) rfl (by omega)) ?_
                  intro m92 I93 W94
                  have F95 : Fr l_95 0 0 g μ m92 := F87.w W94 gA0 rfl
                  refine w_t (np := 146) (l2 := [some (eR a0), some (eI (i23)), some (eI (i52))]) (s2 := [eR a0]) rfl (s_an rfl (pos_g I93 gA0 (by decide))) rfl ?_
                  refine w_t (np := 147) (l2 := [some (eR a0), some (eI (i23)), some (eI (i52))]) (s2 := [eR a0, eR a0]) rfl rfl rfl ?_
                  refine j_gi (np := 150) rfl rfl rfl I93 gA0 (by decide) (n := 9) rfl rfl (lo := -2147483648) (hi := 2147483647) rfl ?_
                  intro v96 e97 b98
                  refine w_t (np := 151) (l2 := [some (eR a0), some (eI (i23)), some (eI (i52))]) (s2 := [eR a0, eI (v96), eR a0]) rfl (s_an rfl (pos_g I93 gA0 (by decide))) rfl ?_
                  refine j_gr (np := 154) rfl rfl I93 gA0 (by decide) (n := 9) rfl rfl rfl ?_
                  intro v99 e100 b101 z102
                  have b101 : g v99 = 21 := Nat.eq_of_beq_eq_true b101
                  refine w_t (np := 155) (l2 := [some (eR a0), some (eI (i23)), some (eI (i52))]) (s2 := [eI (i52), eR v99, eI (v96), eR a0]) rfl rfl rfl ?_
                  refine w_t (np := 156) (l2 := [some (eR a0), some (eI (i23)), some (eI (i52))]) (s2 := [eR a0, eI (i52), eR v99, eI (v96), eR a0]) rfl (s_an rfl (pos_g I93 gA0 (by decide))) rfl ?_
                  refine j_gr (np := 159) rfl rfl I93 gA0 (by decide) (n := 9) rfl rfl rfl ?_
                  intro v103 e104 b105 z106
                  have b105 : g v103 = 23 := Nat.eq_of_beq_eq_true b105
                  refine w_t (np := 160) (l2 := [some (eR a0), some (eI (i23)), some (eI (i52))]) (s2 := [eI (i23), eR v103, eI (i52), eR v99, eI (v96), eR a0]) rfl rfl rfl ?_
                  refine j_al (np := 161) rfl rfl I93 b105 (by decide) (n := 10) rfl rfl (lo := 0) (hi := 3) (fun _ => rfl) (by omega) (by omega) ?_
                  intro v107 e108 b109
                  refine w_t (np := 162) (l2 := [some (eR a0), some (eI (i23)), some (eI (i52))]) (s2 := [eR a0, eI (v107), eI (i52), eR v99, eI (v96), eR a0]) rfl (s_an rfl (pos_g I93 gA0 (by decide))) rfl ?_
                  refine w_gf (np := 165) (v := eR v103) rfl rfl (I93.kd gA0 (by decide) (n := 9) rfl) (by rw [e104]; rfl) ?_
                  refine w_t (np := 166) (l2 := [some (eR a0), some (eI (i23)), some (eI (i52))]) (s2 := [eI (i23), eR v103, eI (v107), eI (i52), eR v99, eI (v96), eR a0]) rfl rfl rfl ?_
                  refine w_t (np := 167) (l2 := [some (eR a0), some (eI (i23)), some (eI (i52))]) (s2 := [eI (i52), eI (i23), eR v103, eI (v107), eI (i52), eR v99, eI (v96), eR a0]) rfl rfl rfl ?_
                  obtain ⟨v110, e111⟩ : ∃ zz : Int, zz = (i23) + (i52) := ⟨_, rfl⟩
                  have b112 : 9 ≤ v110 ∧ v110 ≤ 18 := by omega
                  refine w_t (np := 168) (l2 := [some (eR a0), some (eI (i23)), some (eI (i52))]) (s2 := [eI (v110), eR v103, eI (v107), eI (i52), eR v99, eI (v96), eR a0]) rfl (b_iadd (by rw [← e111]; exact ev_w_in (by omega) (by omega))) rfl ?_
                  refine w_t (np := 170) (l2 := [some (eR a0), some (eI (i23)), some (eI (i52))]) (s2 := [eI (10), eI (v110), eR v103, eI (v107), eI (i52), eR v99, eI (v96), eR a0]) rfl rfl rfl ?_
                  obtain ⟨v113, e114, b115⟩ := h_irem (a := v110) (k := 10) (by decide) (by decide) (show (-2147483648 : Int) ≤ v110 ∧ (v110 : Int) ≤ 2147483647 by omega)
                  have b116 : 0 ≤ v113 ∧ v113 ≤ 9 := by omega
                  refine w_t (np := 171) (l2 := [some (eR a0), some (eI (i23)), some (eI (i52))]) (s2 := [eI (v113), eR v103, eI (v107), eI (i52), eR v99, eI (v96), eR a0]) rfl (e114 _ _) rfl ?_
                  refine j_al (np := 172) rfl rfl I93 b105 (by decide) (n := 10) rfl rfl (lo := 0) (hi := 3) (fun _ => rfl) (by omega) (by omega) ?_
                  intro v117 e118 b119
                  refine w_cu (np := 175) (as := [eI (i52), eI (v107), eI (v117)]) (l2 := [some (eI (i52)), some (eI (v107)), some (eI (v117))]) (rest := [eR v99, eI (v96), eR a0]) rfl rfl rfl (Nat.ble_eq.mp rfl) rfl rfl rfl rfl ?_
                  refine s_92 (a0 := i52) (a1 := v107) (a2 := v117) I93 (by omega) (by omega) (by omega) ?_
                  intro v120 b121
                  show ex_q (dt_fg L ρ) rc (d + 1, (95, 175, [some (eR a0), some (eI (i23)), some (eI (i52))], [eI (v120), eR v99, eI (v96), eR a0]), f :: F, m92)
                  refine j_al (np := 176) rfl rfl I93 b101 (by decide) (n := 160) rfl rfl (lo := -2147483648) (hi := 2147483647) (fun _ => rfl) (by omega) (by omega) ?_
                  intro v122 e123 b124
                  obtain ⟨v125, e126, b127⟩ : ∃ zz : Int, ev_w ((v96) * (v122)) = zz ∧ (-2147483648 ≤ zz ∧ zz ≤ 2147483647) := ⟨_, rfl, hw_bd _⟩
                  refine w_t (np := 177) (l2 := [some (eR a0), some (eI (i23)), some (eI (i52))]) (s2 := [eI (v125), eR a0]) rfl (b_imul e126) rfl ?_
                  refine j_pf (np := 180) (w := v125) rfl rfl I93 gA0 (by decide) (n := 9) rfl rfl (hO_i (lo := -2147483648) (hi := 2147483647) rfl (by omega)) ?_
                  intro m128 I129 W130
                  have F131 : Fr l_95 0 0 g μ m128 := F95.w W130 gA0 rfl
                  obtain ⟨v132, e133⟩ : ∃ zz : Int, zz = (i23) + (1) := ⟨_, rfl⟩
                  have b134 : 1 ≤ v132 ∧ v132 ≤ 10 := by omega
                  refine w_t (np := 183) (l2 := [some (eR a0), some (eI (v132)), some (eI (i52))]) (s2 := []) rfl (b_iinc rfl (by rw [← e133]; exact ev_w_in (by omega) (by omega)) rfl) rfl ?_
                  refine w_go (t1 := 27) rfl rfl ?_
                  exact ih22 (10 - (v132)).toNat (by omega) m128 (v132) (some (eI (i52))) I129 F131 (by omega)     rfl
                · have b92 : 9 ≤ v88 ∧ v88 ≤ 2147483647 := by omega
                  refine w_t (np := 6) (l2 := [some (eI (v88)), some (eI (i52))]) (s2 := [eI (v88)]) rfl rfl rfl ?_
                  refine w_go (t1 := 10) rfl rfl ?_
                  refine b_ri rfl rfl ?_
                  show ex_q (dt_fg L ρ) rc (d + 1, (95, 142, [some (eR a0), some (eI (i23)), some (eI (i52))], [eI (v88), eR a0]), f :: F, m84)
                  refine j_pf (np := 145) (w := v88) rfl rfl I85 gA0 (by decide) (n := 9) rfl rfl (hO_i (lo := -2147483648) (hi := 2147483647) rfl (by omega)) ?_
                  intro m92 I93 W94
                  have F95 : Fr l_95 0 0 g μ m92 := F87.w W94 gA0 rfl
                  refine w_t (np := 146) (l2 := [some (eR a0), some (eI (i23)), some (eI (i52))]) (s2 := [eR a0]) rfl (s_an rfl (pos_g I93 gA0 (by decide))) rfl ?_
                  refine w_t (np := 147) (l2 := [some (eR a0), some (eI (i23)), some (eI (i52))]) (s2 := [eR a0, eR a0]) rfl rfl rfl ?_
                  refine j_gi (np := 150) rfl rfl rfl I93 gA0 (by decide) (n := 9) rfl rfl (lo := -2147483648) (hi := 2147483647) rfl ?_
                  intro v96 e97 b98
                  refine w_t (np := 151) (l2 := [some (eR a0), some (eI (i23)), some (eI (i52))]) (s2 := [eR a0, eI (v96), eR a0]) rfl (s_an rfl (pos_g I93 gA0 (by decide))) rfl ?_
                  refine j_gr (np := 154) rfl rfl I93 gA0 (by decide) (n := 9) rfl rfl rfl ?_
                  intro v99 e100 b101 z102
                  have b101 : g v99 = 21 := Nat.eq_of_beq_eq_true b101
                  refine w_t (np := 155) (l2 := [some (eR a0), some (eI (i23)), some (eI (i52))]) (s2 := [eI (i52), eR v99, eI (v96), eR a0]) rfl rfl rfl ?_
                  refine w_t (np := 156) (l2 := [some (eR a0), some (eI (i23)), some (eI (i52))]) (s2 := [eR a0, eI (i52), eR v99, eI (v96), eR a0]) rfl (s_an rfl (pos_g I93 gA0 (by decide))) rfl ?_
                  refine j_gr (np := 159) rfl rfl I93 gA0 (by decide) (n := 9) rfl rfl rfl ?_
                  intro v103 e104 b105 z106
                  have b105 : g v103 = 23 := Nat.eq_of_beq_eq_true b105
                  refine w_t (np := 160) (l2 := [some (eR a0), some (eI (i23)), some (eI (i52))]) (s2 := [eI (i23), eR v103, eI (i52), eR v99, eI (v96), eR a0]) rfl rfl rfl ?_
                  refine j_al (np := 161) rfl rfl I93 b105 (by decide) (n := 10) rfl rfl (lo := 0) (hi := 3) (fun _ => rfl) (by omega) (by omega) ?_
                  intro v107 e108 b109
                  refine w_t (np := 162) (l2 := [some (eR a0), some (eI (i23)), some (eI (i52))]) (s2 := [eR a0, eI (v107), eI (i52), eR v99, eI (v96), eR a0]) rfl (s_an rfl (pos_g I93 gA0 (by decide))) rfl ?_
                  refine w_gf (np := 165) (v := eR v103) rfl rfl (I93.kd gA0 (by decide) (n := 9) rfl) (by rw [e104]; rfl) ?_
                  refine w_t (np := 166) (l2 := [some (eR a0), some (eI (i23)), some (eI (i52))]) (s2 := [eI (i23), eR v103, eI (v107), eI (i52), eR v99, eI (v96), eR a0]) rfl rfl rfl ?_
                  refine w_t (np := 167) (l2 := [some (eR a0), some (eI (i23)), some (eI (i52))]) (s2 := [eI (i52), eI (i23), eR v103, eI (v107), eI (i52), eR v99, eI (v96), eR a0]) rfl rfl rfl ?_
                  obtain ⟨v110, e111⟩ : ∃ zz : Int, zz = (i23) + (i52) := ⟨_, rfl⟩
                  have b112 : 9 ≤ v110 ∧ v110 ≤ 18 := by omega
                  refine w_t (np := 168) (l2 := [some (eR a0), some (eI (i23)), some (eI (i52))]) (s2 := [eI (v110), eR v103, eI (v107), eI (i52), eR v99, eI (v96), eR a0]) rfl (b_iadd (by rw [← e111]; exact ev_w_in (by omega) (by omega))) rfl ?_
                  refine w_t (np := 170) (l2 := [some (eR a0), some (eI (i23)), some (eI (i52))]) (s2 := [eI (10), eI (v110), eR v103, eI (v107), eI (i52), eR v99, eI (v96), eR a0]) rfl rfl rfl ?_
                  obtain ⟨v113, e114, b115⟩ := h_irem (a := v110) (k := 10) (by decide) (by decide) (show (-2147483648 : Int) ≤ v110 ∧ (v110 : Int) ≤ 2147483647 by omega)
                  have b116 : 0 ≤ v113 ∧ v113 ≤ 9 := by omega
                  refine w_t (np := 171) (l2 := [some (eR a0), some (eI (i23)), some (eI (i52))]) (s2 := [eI (v113), eR v103, eI (v107), eI (i52), eR v99, eI (v96), eR a0]) rfl (e114 _ _) rfl ?_
                  refine j_al (np := 172) rfl rfl I93 b105 (by decide) (n := 10) rfl rfl (lo := 0) (hi := 3) (fun _ => rfl) (by omega) (by omega) ?_
                  intro v117 e118 b119
                  refine w_cu (np := 175) (as := [eI (i52), eI (v107), eI (v117)]) (l2 := [some (eI (i52)), some (eI (v107)), some (eI (v117))]) (rest := [eR v99, eI (v96), eR a0]) rfl rfl rfl (Nat.ble_eq.mp rfl) rfl rfl rfl rfl ?_
                  refine s_92 (a0 := i52) (a1 := v107) (a2 := v117) I93 (by omega) (by omega) (by omega) ?_
                  intro v120 b121
                  show ex_q (dt_fg L ρ) rc (d + 1, (95, 175, [some (eR a0), some (eI (i23)), some (eI (i52))], [eI (v120), eR v99, eI (v96), eR a0]), f :: F, m92)
                  refine j_al (np := 176) rfl rfl I93 b101 (by decide) (n := 160) rfl rfl (lo := -2147483648) (hi := 2147483647) (fun _ => rfl) (by omega) (by omega) ?_
                  intro v122 e123 b124
                  obtain ⟨v125, e126, b127⟩ : ∃ zz : Int, ev_w ((v96) * (v122)) = zz ∧ (-2147483648 ≤ zz ∧ zz ≤ 2147483647) := ⟨_, rfl, hw_bd _⟩
                  refine w_t (np := 177) (l2 := [some (eR a0), some (eI (i23)), some (eI (i52))]) (s2 := [eI (v125), eR a0]) rfl (b_imul e126) rfl ?_
                  refine j_pf (np := 180) (w := v125) rfl rfl I93 gA0 (by decide) (n := 9) rfl rfl (hO_i (lo := -2147483648) (hi := 2147483647) rfl (by omega)) ?_
                  intro m128 I129 W130
                  have F131 : Fr l_95 0 0 g μ m128 := F95.w W130 gA0 rfl
                  obtain ⟨v132, e133⟩ : ∃ zz : Int, zz = (i23) + (1) := ⟨_, rfl⟩
                  have b134 : 1 ≤ v132 ∧ v132 ≤ 10 := by omega
                  refine w_t (np := 183) (l2 := [some (eR a0), some (eI (v132)), some (eI (i52))]) (s2 := []) rfl (b_iinc rfl (by rw [← e133]; exact ev_w_in (by omega) (by omega)) rfl) rfl ?_
                  refine w_go (t1 := 27) rfl rfl ?_
                  exact ih22 (10 - (v132)).toNat (by omega) m128 (v132) (some (eI (i52))) I129 F131 (by omega)     rfl
              · have b66 : 0 ≤ v62 ∧ v62 ≤ 0 := by omega
                refine w_t (np := 94) (l2 := [some (eR a0), some (eI (i23)), some (eI (i52))]) (s2 := [eI (i52), eR a0]) rfl rfl rfl ?_
                refine w_go (t1 := 101) rfl rfl ?_
                refine j_pf (np := 104) (w := i52) rfl rfl I55 gA0 (by decide) (n := 9) rfl rfl (hO_i (lo := 0) (hi := 9) rfl (by omega)) ?_
                intro m66 I67 W68
                have F69 : Fr l_95 0 0 g μ m66 := F56.w W68 gA0 rfl
                refine w_t (np := 105) (l2 := [some (eR a0), some (eI (i23)), some (eI (i52))]) (s2 := [eR a0]) rfl (s_an rfl (pos_g I67 gA0 (by decide))) rfl ?_
                refine w_t (np := 106) (l2 := [some (eR a0), some (eI (i23)), some (eI (i52))]) (s2 := [eR a0, eR a0]) rfl (s_an rfl (pos_g I67 gA0 (by decide))) rfl ?_
                refine w_gf (np := 109) (v := eI (v62)) rfl rfl (I67.kd gA0 (by decide) (n := 9) rfl) (by rw [(W68.slot e63 (by decide))]; rfl) ?_
                refine b_ine (t1 := 116) (t2 := 112) rfl rfl rfl (ev_w_in (by omega) (by omega)) (fun g70 => False.elim (by omega)) (fun g70 => ?_)
                refine w_t (np := 113) (l2 := [some (eR a0), some (eI (i23)), some (eI (i52))]) (s2 := [eI (i23), eR a0]) rfl rfl rfl ?_
                refine w_go (t1 := 120) rfl rfl ?_
                refine j_pf (np := 123) (w := i23) rfl rfl I67 gA0 (by decide) (n := 9) rfl rfl (hO_i (lo := -1) (hi := 9) rfl (by omega)) ?_
                intro m71 I72 W73
                have F74 : Fr l_95 0 0 g μ m71 := F69.w W73 gA0 rfl
                refine w_t (np := 124) (l2 := [some (eR a0), some (eI (i23)), some (eI (i52))]) (s2 := [eR a0]) rfl (s_an rfl (pos_g I72 gA0 (by decide))) rfl ?_
                refine w_t (np := 125) (l2 := [some (eR a0), some (eI (i23)), some (eI (i52))]) (s2 := [eR a0, eR a0]) rfl rfl rfl ?_
                refine w_gf (np := 128) (v := eI (v62)) rfl rfl (I72.kd gA0 (by decide) (n := 9) rfl) (by rw [(W73.slot (W68.slot e63 (by decide)) (by decide))]; rfl) ?_
                refine w_t (np := 129) (l2 := [some (eR a0), some (eI (i23)), some (eI (i52))]) (s2 := [eI (1), eI (v62), eR a0]) rfl rfl rfl ?_
                obtain ⟨v75, e76⟩ : ∃ zz : Int, zz = (v62) + (1) := ⟨_, rfl⟩
                have b77 : 1 ≤ v75 ∧ v75 ≤ 1 := by omega
                refine w_t (np := 130) (l2 := [some (eR a0), some (eI (i23)), some (eI (i52))]) (s2 := [eI (v75), eR a0]) rfl (b_iadd (by rw [← e76]; exact ev_w_in (by omega) (by omega))) rfl ?_
                refine j_pf (np := 133) (w := v75) rfl rfl I72 gA0 (by decide) (n := 9) rfl rfl (hO_i (lo := -2147483648) (hi := 2147483647) rfl (by omega)) ?_
                intro m78 I79 W80
                have F81 : Fr l_95 0 0 g μ m78 := F74.w W80 gA0 rfl
                refine w_t (np := 134) (l2 := [some (eR a0), some (eI (i23)), some (eI (i52))]) (s2 := [eR a0]) rfl (s_an rfl (pos_g I79 gA0 (by decide))) rfl ?_
                refine w_t (np := 135) (l2 := [some (eR a0), some (eI (i23)), some (eI (i52))]) (s2 := [eR a0, eR a0]) rfl (s_an rfl (pos_g I79 gA0 (by decide))) rfl ?_
                refine j_gi (np := 138) rfl rfl rfl I79 gA0 (by decide) (n := 9) rfl rfl (lo := -2147483648) (hi := 2147483647) rfl ?_
                intro v82 e83 b84
                refine w_t (np := 139) (l2 := [some (eR a0), some (eI (i23)), some (eI (i52))]) (s2 := [eI (i52), eI (v82), eR a0]) rfl rfl rfl ?_
                refine w_cu (np := 142) (as := [eI (v82), eI (i52)]) (l2 := [some (eI (v82)), some (eI (i52))]) (rest := [eR a0]) rfl rfl rfl (Nat.ble_eq.mp rfl) rfl rfl rfl rfl ?_
                refine w_t (np := 1) (l2 := [some (eI (v82)), some (eI (i52))]) (s2 := [eI (v82)]) rfl rfl rfl ?_
                refine w_t (np := 2) (l2 := [some (eI (v82)), some (eI (i52))]) (s2 := [eI (i52), eI (v82)]) rfl rfl rfl ?_
                refine b_clt (t1 := 9) (t2 := 5) rfl rfl rfl (ev_w_in (by omega) (by omega)) (ev_w_in (by omega) (by omega)) (fun g85 => ?_) (fun g85 => ?_)
                · have b86 : -2147483648 ≤ v82 ∧ v82 ≤ 8 := by omega
                  refine w_t (np := 10) (l2 := [some (eI (v82)), some (eI (i52))]) (s2 := [eI (i52)]) rfl rfl rfl ?_
                  refine b_ri rfl rfl ?_
                  show ex_q (dt_fg L ρ) rc (d + 1, (95, 142, [some (eR a0), some (eI (i23)), some (eI (i52))], [eI (i52), eR a0]), f :: F, m78)
                  refine j_pf (np := 145) (w := i52) rfl rfl I79 gA0 (by decide) (n := 9) rfl rfl (hO_i (lo := -2147483648) (hi := 2147483647) rfl (by omega)) ?_
                  intro m86 I87 W88
                  have F89 : Fr l_95 0 0 g μ m86 := F81.w W88 gA0 rfl
                  refine w_t (np := 146) (l2 := [some (eR a0), some (eI (i23)), some (eI (i52))]) (s2 := [eR a0]) rfl (s_an rfl (pos_g I87 gA0 (by decide))) rfl ?_
                  refine w_t (np := 147) (l2 := [some (eR a0), some (eI (i23)), some (eI (i52))]) (s2 := [eR a0, eR a0]) rfl rfl rfl ?_
                  refine j_gi (np := 150) rfl rfl rfl I87 gA0 (by decide) (n := 9) rfl rfl (lo := -2147483648) (hi := 2147483647) rfl ?_
                  intro v90 e91 b92
                  refine w_t (np := 151) (l2 := [some (eR a0), some (eI (i23)), some (eI (i52))]) (s2 := [eR a0, eI (v90), eR a0]) rfl (s_an rfl (pos_g I87 gA0 (by decide))) rfl ?_
                  refine j_gr (np := 154) rfl rfl I87 gA0 (by decide) (n := 9) rfl rfl rfl ?_
                  intro v93 e94 b95 z96
                  have b95 : g v93 = 21 := Nat.eq_of_beq_eq_true b95
                  refine w_t (np := 155) (l2 := [some (eR a0), some (eI (i23)), some (eI (i52))]) (s2 := [eI (i52), eR v93, eI (v90), eR a0]) rfl rfl rfl ?_
                  refine w_t (np := 156) (l2 := [some (eR a0), some (eI (i23)), some (eI (i52))]) (s2 := [eR a0, eI (i52), eR v93, eI (v90), eR a0]) rfl (s_an rfl (pos_g I87 gA0 (by decide))) rfl ?_
                  refine j_gr (np := 159) rfl rfl I87 gA0 (by decide) (n := 9) rfl rfl rfl ?_
                  intro v97 e98 b99 z100
                  have b99 : g v97 = 23 := Nat.eq_of_beq_eq_true b99
                  refine w_t (np := 160) (l2 := [some (eR a0), some (eI (i23)), some (eI (i52))]) (s2 := [eI (i23), eR v97, eI (i52), eR v93, eI (v90), eR a0]) rfl rfl rfl ?_
                  refine j_al (np := 161) rfl rfl I87 b99 (by decide) (n := 10) rfl rfl (lo := 0) (hi := 3) (fun _ => rfl) (by omega) (by omega) ?_
                  intro v101 e102 b103
                  refine w_t (np := 162) (l2 := [some (eR a0), some (eI (i23)), some (eI (i52))]) (s2 := [eR a0, eI (v101), eI (i52), eR v93, eI (v90), eR a0]) rfl (s_an rfl (pos_g I87 gA0 (by decide))) rfl ?_
                  refine w_gf (np := 165) (v := eR v97) rfl rfl (I87.kd gA0 (by decide) (n := 9) rfl) (by rw [e98]; rfl) ?_
                  refine w_t (np := 166) (l2 := [some (eR a0), some (eI (i23)), some (eI (i52))]) (s2 := [eI (i23), eR v97, eI (v101), eI (i52), eR v93, eI (v90), eR a0]) rfl rfl rfl ?_
                  refine w_t (np := 167) (l2 := [some (eR a0), some (eI (i23)), some (eI (i52))]) (s2 := [eI (i52), eI (i23), eR v97, eI (v101), eI (i52), eR v93, eI (v90), eR a0]) rfl rfl rfl ?_
                  obtain ⟨v104, e105⟩ : ∃ zz : Int, zz = (i23) + (i52) := ⟨_, rfl⟩
                  have b106 : 9 ≤ v104 ∧ v104 ≤ 18 := by omega
                  refine w_t (np := 168) (l2 := [some (eR a0), some (eI (i23)), some (eI (i52))]) (s2 := [eI (v104), eR v97, eI (v101), eI (i52), eR v93, eI (v90), eR a0]) rfl (b_iadd (by rw [← e105]; exact ev_w_in (by omega) (by omega))) rfl ?_
                  refine w_t (np := 170) (l2 := [some (eR a0), some (eI (i23)), some (eI (i52))]) (s2 := [eI (10), eI (v104), eR v97, eI (v101), eI (i52), eR v93, eI (v90), eR a0]) rfl rfl rfl ?_
                  obtain ⟨v107, e108, b109⟩ := h_irem (a := v104) (k := 10) (by decide) (by decide) (show (-2147483648 : Int) ≤ v104 ∧ (v104 : Int) ≤ 2147483647 by omega)
                  have b110 : 0 ≤ v107 ∧ v107 ≤ 9 := by omega
                  refine w_t (np := 171) (l2 := [some (eR a0), some (eI (i23)), some (eI (i52))]) (s2 := [eI (v107), eR v97, eI (v101), eI (i52), eR v93, eI (v90), eR a0]) rfl (e108 _ _) rfl ?_
                  refine j_al (np := 172) rfl rfl I87 b99 (by decide) (n := 10) rfl rfl (lo := 0) (hi := 3) (fun _ => rfl) (by omega) (by omega) ?_
                  intro v111 e112 b113
                  refine w_cu (np := 175) (as := [eI (i52), eI (v101), eI (v111)]) (l2 := [some (eI (i52)), some (eI (v101)), some (eI (v111))]) (rest := [eR v93, eI (v90), eR a0]) rfl rfl rfl (Nat.ble_eq.mp rfl) rfl rfl rfl rfl ?_
                  refine s_92 (a0 := i52) (a1 := v101) (a2 := v111) I87 (by omega) (by omega) (by omega) ?_
                  intro v114 b115
                  show ex_q (dt_fg L ρ) rc (d + 1, (95, 175, [some (eR a0), some (eI (i23)), some (eI (i52))], [eI (v114), eR v93, eI (v90), eR a0]), f :: F, m86)
                  refine j_al (np := 176) rfl rfl I87 b95 (by decide) (n := 160) rfl rfl (lo := -2147483648) (hi := 2147483647) (fun _ => rfl) (by omega) (by omega) ?_
                  intro v116 e117 b118
                  obtain ⟨v119, e120, b121⟩ : ∃ zz : Int, ev_w ((v90) * (v116)) = zz ∧ (-2147483648 ≤ zz ∧ zz ≤ 2147483647) := ⟨_, rfl, hw_bd _⟩
                  refine w_t (np := 177) (l2 := [some (eR a0), some (eI (i23)), some (eI (i52))]) (s2 := [eI (v119), eR a0]) rfl (b_imul e120) rfl ?_
                  refine j_pf (np := 180) (w := v119) rfl rfl I87 gA0 (by decide) (n := 9) rfl rfl (hO_i (lo := -2147483648) (hi := 2147483647) rfl (by omega)) ?_
                  intro m122 I123 W124
                  have F125 : Fr l_95 0 0 g μ m122 := F89.w W124 gA0 rfl
                  obtain ⟨v126, e127⟩ : ∃ zz : Int, zz = (i23) + (1) := ⟨_, rfl⟩
                  have b128 : 1 ≤ v126 ∧ v126 ≤ 10 := by omega
                  refine w_t (np := 183) (l2 := [some (eR a0), some (eI (v126)), some (eI (i52))]) (s2 := []) rfl (b_iinc rfl (by rw [← e127]; exact ev_w_in (by omega) (by omega)) rfl) rfl ?_
                  refine w_go (t1 := 27) rfl rfl ?_
                  exact ih22 (10 - (v126)).toNat (by omega) m122 (v126) (some (eI (i52))) I123 F125 (by omega)     rfl
                · have b86 : 9 ≤ v82 ∧ v82 ≤ 2147483647 := by omega
                  refine w_t (np := 6) (l2 := [some (eI (v82)), some (eI (i52))]) (s2 := [eI (v82)]) rfl rfl rfl ?_
                  refine w_go (t1 := 10) rfl rfl ?_
                  refine b_ri rfl rfl ?_
                  show ex_q (dt_fg L ρ) rc (d + 1, (95, 142, [some (eR a0), some (eI (i23)), some (eI (i52))], [eI (v82), eR a0]), f :: F, m78)
                  refine j_pf (np := 145) (w := v82) rfl rfl I79 gA0 (by decide) (n := 9) rfl rfl (hO_i (lo := -2147483648) (hi := 2147483647) rfl (by omega)) ?_
                  intro m86 I87 W88
                  have F89 : Fr l_95 0 0 g μ m86 := F81.w W88 gA0 rfl
                  refine w_t (np := 146) (l2 := [some (eR a0), some (eI (i23)), some (eI (i52))]) (s2 := [eR a0]) rfl (s_an rfl (pos_g I87 gA0 (by decide))) rfl ?_
                  refine w_t (np := 147) (l2 := [some (eR a0), some (eI (i23)), some (eI (i52))]) (s2 := [eR a0, eR a0]) rfl rfl rfl ?_
                  refine j_gi (np := 150) rfl rfl rfl I87 gA0 (by decide) (n := 9) rfl rfl (lo := -2147483648) (hi := 2147483647) rfl ?_
                  intro v90 e91 b92
                  refine w_t (np := 151) (l2 := [some (eR a0), some (eI (i23)), some (eI (i52))]) (s2 := [eR a0, eI (v90), eR a0]) rfl (s_an rfl (pos_g I87 gA0 (by decide))) rfl ?_
                  refine j_gr (np := 154) rfl rfl I87 gA0 (by decide) (n := 9) rfl rfl rfl ?_
                  intro v93 e94 b95 z96
                  have b95 : g v93 = 21 := Nat.eq_of_beq_eq_true b95
                  refine w_t (np := 155) (l2 := [some (eR a0), some (eI (i23)), some (eI (i52))]) (s2 := [eI (i52), eR v93, eI (v90), eR a0]) rfl rfl rfl ?_
                  refine w_t (np := 156) (l2 := [some (eR a0), some (eI (i23)), some (eI (i52))]) (s2 := [eR a0, eI (i52), eR v93, eI (v90), eR a0]) rfl (s_an rfl (pos_g I87 gA0 (by decide))) rfl ?_
                  refine j_gr (np := 159) rfl rfl I87 gA0 (by decide) (n := 9) rfl rfl rfl ?_
                  intro v97 e98 b99 z100
                  have b99 : g v97 = 23 := Nat.eq_of_beq_eq_true b99
                  refine w_t (np := 160) (l2 := [some (eR a0), some (eI (i23)), some (eI (i52))]) (s2 := [eI (i23), eR v97, eI (i52), eR v93, eI (v90), eR a0]) rfl rfl rfl ?_
                  refine j_al (np := 161) rfl rfl I87 b99 (by decide) (n := 10) rfl rfl (lo := 0) (hi := 3) (fun _ => rfl) (by omega) (by omega) ?_
                  intro v101 e102 b103
                  refine w_t (np := 162) (l2 := [some (eR a0), some (eI (i23)), some (eI (i52))]) (s2 := [eR a0, eI (v101), eI (i52), eR v93, eI (v90), eR a0]) rfl (s_an rfl (pos_g I87 gA0 (by decide))) rfl ?_
                  refine w_gf (np := 165) (v := eR v97) rfl rfl (I87.kd gA0 (by decide) (n := 9) rfl) (by rw [e98]; rfl) ?_
                  refine w_t (np := 166) (l2 := [some (eR a0), some (eI (i23)), some (eI (i52))]) (s2 := [eI (i23), eR v97, eI (v101), eI (i52), eR v93, eI (v90), eR a0]) rfl rfl rfl ?_
                  refine w_t (np := 167) (l2 := [some (eR a0), some (eI (i23)), some (eI (i52))]) (s2 := [eI (i52), eI (i23), eR v97, eI (v101), eI (i52), eR v93, eI (v90), eR a0]) rfl rfl rfl ?_
                  obtain ⟨v104, e105⟩ : ∃ zz : Int, zz = (i23) + (i52) := ⟨_, rfl⟩
                  have b106 : 9 ≤ v104 ∧ v104 ≤ 18 := by omega
                  refine w_t (np := 168) (l2 := [some (eR a0), some (eI (i23)), some (eI (i52))]) (s2 := [eI (v104), eR v97, eI (v101), eI (i52), eR v93, eI (v90), eR a0]) rfl (b_iadd (by rw [← e105]; exact ev_w_in (by omega) (by omega))) rfl ?_
                  refine w_t (np := 170) (l2 := [some (eR a0), some (eI (i23)), some (eI (i52))]) (s2 := [eI (10), eI (v104), eR v97, eI (v101), eI (i52), eR v93, eI (v90), eR a0]) rfl rfl rfl ?_
                  obtain ⟨v107, e108, b109⟩ := h_irem (a := v104) (k := 10) (by decide) (by decide) (show (-2147483648 : Int) ≤ v104 ∧ (v104 : Int) ≤ 2147483647 by omega)
                  have b110 : 0 ≤ v107 ∧ v107 ≤ 9 := by omega
                  refine w_t (np := 171) (l2 := [some (eR a0), some (eI (i23)), some (eI (i52))]) (s2 := [eI (v107), eR v97, eI (v101), eI (i52), eR v93, eI (v90), eR a0]) rfl (e108 _ _) rfl ?_
                  refine j_al (np := 172) rfl rfl I87 b99 (by decide) (n := 10) rfl rfl (lo := 0) (hi := 3) (fun _ => rfl) (by omega) (by omega) ?_
                  intro v111 e112 b113
                  refine w_cu (np := 175) (as := [eI (i52), eI (v101), eI (v111)]) (l2 := [some (eI (i52)), some (eI (v101)), some (eI (v111))]) (rest := [eR v93, eI (v90), eR a0]) rfl rfl rfl (Nat.ble_eq.mp rfl) rfl rfl rfl rfl ?_
                  refine s_92 (a0 := i52) (a1 := v101) (a2 := v111) I87 (by omega) (by omega) (by omega) ?_
                  intro v114 b115
                  show ex_q (dt_fg L ρ) rc (d + 1, (95, 175, [some (eR a0), some (eI (i23)), some (eI (i52))], [eI (v114), eR v93, eI (v90), eR a0]), f :: F, m86)
                  refine j_al (np := 176) rfl rfl I87 b95 (by decide) (n := 160) rfl rfl (lo := -2147483648) (hi := 2147483647) (fun _ => rfl) (by omega) (by omega) ?_
                  intro v116 e117 b118
                  obtain ⟨v119, e120, b121⟩ : ∃ zz : Int, ev_w ((v90) * (v116)) = zz ∧ (-2147483648 ≤ zz ∧ zz ≤ 2147483647) := ⟨_, rfl, hw_bd _⟩
                  refine w_t (np := 177) (l2 := [some (eR a0), some (eI (i23)), some (eI (i52))]) (s2 := [eI (v119), eR a0]) rfl (b_imul e120) rfl ?_
                  refine j_pf (np := 180) (w := v119) rfl rfl I87 gA0 (by decide) (n := 9) rfl rfl (hO_i (lo := -2147483648) (hi := 2147483647) rfl (by omega)) ?_
                  intro m122 I123 W124
                  have F125 : Fr l_95 0 0 g μ m122 := F89.w W124 gA0 rfl
                  obtain ⟨v126, e127⟩ : ∃ zz : Int, zz = (i23) + (1) := ⟨_, rfl⟩
                  have b128 : 1 ≤ v126 ∧ v126 ≤ 10 := by omega
                  refine w_t (np := 183) (l2 := [some (eR a0), some (eI (v126)), some (eI (i52))]) (s2 := []) rfl (b_iinc rfl (by rw [← e127]; exact ev_w_in (by omega) (by omega)) rfl) rfl ?_
                  refine w_go (t1 := 27) rfl rfl ?_
                  exact ih22 (10 - (v126)).toNat (by omega) m122 (v126) (some (eI (i52))) I123 F125 (by omega)     rfl
            · have b62 : 1 ≤ i52 ∧ i52 ≤ 8 := by omega
              refine w_t (np := 66) (l2 := [some (eR a0), some (eI (i23)), some (eI (i52))]) (s2 := [eR a0]) rfl (s_an rfl (pos_g I55 gA0 (by decide))) rfl ?_
              refine w_gf (np := 69) (v := eR v31) rfl rfl (I55.kd gA0 (by decide) (n := 9) rfl) (by rw [k57]; rfl) ?_
              refine w_t (np := 70) (l2 := [some (eR a0), some (eI (i23)), some (eI (i52))]) (s2 := [eI (i23), eR v31]) rfl rfl rfl ?_
              refine w_t (np := 71) (l2 := [some (eR a0), some (eI (i23)), some (eI (i52))]) (s2 := [eI (i52), eI (i23), eR v31]) rfl rfl rfl ?_
              obtain ⟨v62, e63⟩ : ∃ zz : Int, zz = (i23) + (i52) := ⟨_, rfl⟩
              have b64 : 1 ≤ v62 ∧ v62 ≤ 17 := by omega
              refine w_t (np := 72) (l2 := [some (eR a0), some (eI (i23)), some (eI (i52))]) (s2 := [eI (v62), eR v31]) rfl (b_iadd (by rw [← e63]; exact ev_w_in (by omega) (by omega))) rfl ?_
              refine w_t (np := 74) (l2 := [some (eR a0), some (eI (i23)), some (eI (i52))]) (s2 := [eI (10), eI (v62), eR v31]) rfl rfl rfl ?_
              obtain ⟨v65, e66, b67⟩ := h_irem (a := v62) (k := 10) (by decide) (by decide) (show (-2147483648 : Int) ≤ v62 ∧ (v62 : Int) ≤ 2147483647 by omega)
              have b68 : 0 ≤ v65 ∧ v65 ≤ 9 := by omega
              refine w_t (np := 75) (l2 := [some (eR a0), some (eI (i23)), some (eI (i52))]) (s2 := [eI (v65), eR v31]) rfl (e66 _ _) rfl ?_
              refine j_b3 (np := 76) rfl rfl I55 b33 (by decide) (n := 10) rfl rfl (lo := 0) (hi := 1) (fun _ => rfl) (by omega) (by omega) ?_
              intro v69 e70 b71
              refine b_ine (t1 := 85) (t2 := 79) rfl rfl rfl (ev_w_in (by omega) (by omega)) (fun g72 => ?_) (fun g72 => ?_)
              · have b73 : 1 ≤ v69 ∧ v69 ≤ 1 := by omega
                refine w_t (np := 86) (l2 := [some (eR a0), some (eI (i23)), some (eI (i52))]) (s2 := [eR a0]) rfl (s_an rfl (pos_g I55 gA0 (by decide))) rfl ?_
                refine w_t (np := 87) (l2 := [some (eR a0), some (eI (i23)), some (eI (i52))]) (s2 := [eR a0, eR a0]) rfl (s_an rfl (pos_g I55 gA0 (by decide))) rfl ?_
                refine j_gi (np := 90) rfl rfl rfl I55 gA0 (by decide) (n := 9) rfl rfl (lo := -2147483648) (hi := 2147483647) rfl ?_
                intro v73 e74 b75
                refine b_ine (t1 := 97) (t2 := 93) rfl rfl rfl (ev_w_in (by omega) (by omega)) (fun g76 => ?_) (fun g76 => ?_)
                · refine w_t (np := 98) (l2 := [some (eR a0), some (eI (i23)), some (eI (i52))]) (s2 := [eR a0, eR a0]) rfl (s_an rfl (pos_g I55 gA0 (by decide))) rfl ?_
                  refine j_gi (np := 101) rfl rfl rfl I55 gA0 (by decide) (n := 9) rfl rfl (lo := 0) (hi := 9) rfl ?_
                  intro v77 e78 b79
                  refine j_pf (np := 104) (w := v77) rfl rfl I55 gA0 (by decide) (n := 9) rfl rfl (hO_i (lo := 0) (hi := 9) rfl (by omega)) ?_
                  intro m80 I81 W82
                  have F83 : Fr l_95 0 0 g μ m80 := F56.w W82 gA0 rfl
                  refine w_t (np := 105) (l2 := [some (eR a0), some (eI (i23)), some (eI (i52))]) (s2 := [eR a0]) rfl (s_an rfl (pos_g I81 gA0 (by decide))) rfl ?_
                  refine w_t (np := 106) (l2 := [some (eR a0), some (eI (i23)), some (eI (i52))]) (s2 := [eR a0, eR a0]) rfl (s_an rfl (pos_g I81 gA0 (by decide))) rfl ?_
                  refine w_gf (np := 109) (v := eI (v73)) rfl rfl (I81.kd gA0 (by decide) (n := 9) rfl) (by rw [(W82.slot e74 (by decide))]; rfl) ?_
                  refine b_ine (t1 := 116) (t2 := 112) rfl rfl rfl (ev_w_in (by omega) (by omega)) (fun g84 => ?_) (fun g84 => False.elim (by omega))
                  refine w_t (np := 117) (l2 := [some (eR a0), some (eI (i23)), some (eI (i52))]) (s2 := [eR a0, eR a0]) rfl (s_an rfl (pos_g I81 gA0 (by decide))) rfl ?_
                  refine j_gi (np := 120) rfl rfl rfl I81 gA0 (by decide) (n := 9) rfl rfl (lo := -1) (hi := 9) rfl ?_
                  intro v85 e86 b87
                  refine j_pf (np := 123) (w := v85) rfl rfl I81 gA0 (by decide) (n := 9) rfl rfl (hO_i (lo := -1) (hi := 9) rfl (by omega)) ?_
                  intro m88 I89 W90
                  have F91 : Fr l_95 0 0 g μ m88 := F83.w W90 gA0 rfl
                  refine w_t (np := 124) (l2 := [some (eR a0), some (eI (i23)), some (eI (i52))]) (s2 := [eR a0]) rfl (s_an rfl (pos_g I89 gA0 (by decide))) rfl ?_
                  refine w_t (np := 125) (l2 := [some (eR a0), some (eI (i23)), some (eI (i52))]) (s2 := [eR a0, eR a0]) rfl rfl rfl ?_
                  refine w_gf (np := 128) (v := eI (v73)) rfl rfl (I89.kd gA0 (by decide) (n := 9) rfl) (by rw [(W90.slot (W82.slot e74 (by decide)) (by decide))]; rfl) ?_
                  refine w_t (np := 129) (l2 := [some (eR a0), some (eI (i23)), some (eI (i52))]) (s2 := [eI (1), eI (v73), eR a0]) rfl rfl rfl ?_
                  obtain ⟨v92, e93, b94⟩ : ∃ zz : Int, ev_w ((v73) + (1)) = zz ∧ (-2147483648 ≤ zz ∧ zz ≤ 2147483647) := ⟨_, rfl, hw_bd _⟩
                  refine w_t (np := 130) (l2 := [some (eR a0), some (eI (i23)), some (eI (i52))]) (s2 := [eI (v92), eR a0]) rfl (b_iadd e93) rfl ?_
                  refine j_pf (np := 133) (w := v92) rfl rfl I89 gA0 (by decide) (n := 9) rfl rfl (hO_i (lo := -2147483648) (hi := 2147483647) rfl (by omega)) ?_
                  intro m95 I96 W97
                  have F98 : Fr l_95 0 0 g μ m95 := F91.w W97 gA0 rfl
                  refine w_t (np := 134) (l2 := [some (eR a0), some (eI (i23)), some (eI (i52))]) (s2 := [eR a0]) rfl (s_an rfl (pos_g I96 gA0 (by decide))) rfl ?_
                  refine w_t (np := 135) (l2 := [some (eR a0), some (eI (i23)), some (eI (i52))]) (s2 := [eR a0, eR a0]) rfl (s_an rfl (pos_g I96 gA0 (by decide))) rfl ?_
                  refine j_gi (np := 138) rfl rfl rfl I96 gA0 (by decide) (n := 9) rfl rfl (lo := -2147483648) (hi := 2147483647) rfl ?_
                  intro v99 e100 b101
                  refine w_t (np := 139) (l2 := [some (eR a0), some (eI (i23)), some (eI (i52))]) (s2 := [eI (i52), eI (v99), eR a0]) rfl rfl rfl ?_
                  refine w_cu (np := 142) (as := [eI (v99), eI (i52)]) (l2 := [some (eI (v99)), some (eI (i52))]) (rest := [eR a0]) rfl rfl rfl (Nat.ble_eq.mp rfl) rfl rfl rfl rfl ?_
                  refine w_t (np := 1) (l2 := [some (eI (v99)), some (eI (i52))]) (s2 := [eI (v99)]) rfl rfl rfl ?_
                  refine w_t (np := 2) (l2 := [some (eI (v99)), some (eI (i52))]) (s2 := [eI (i52), eI (v99)]) rfl rfl rfl ?_
                  refine b_clt (t1 := 9) (t2 := 5) rfl rfl rfl (ev_w_in (by omega) (by omega)) (ev_w_in (by omega) (by omega)) (fun g102 => ?_) (fun g102 => ?_)
                  · have b103 : -2147483648 ≤ v99 ∧ v99 ≤ 7 := by omega
                    refine w_t (np := 10) (l2 := [some (eI (v99)), some (eI (i52))]) (s2 := [eI (i52)]) rfl rfl rfl ?_
                    refine b_ri rfl rfl ?_
                    show ex_q (dt_fg L ρ) rc (d + 1, (95, 142, [some (eR a0), some (eI (i23)), some (eI (i52))], [eI (i52), eR a0]), f :: F, m95)
                    refine j_pf (np := 145) (w := i52) rfl rfl I96 gA0 (by decide) (n := 9) rfl rfl (hO_i (lo := -2147483648) (hi := 2147483647) rfl (by omega)) ?_
                    intro m103 I104 W105
                    have F106 : Fr l_95 0 0 g μ m103 := F98.w W105 gA0 rfl
                    refine w_t (np := 146) (l2 := [some (eR a0), some (eI (i23)), some (eI (i52))]) (s2 := [eR a0]) rfl (s_an rfl (pos_g I104 gA0 (by decide))) rfl ?_
                    refine w_t (np := 147) (l2 := [some (eR a0), some (eI (i23)), some (eI (i52))]) (s2 := [eR a0, eR a0]) rfl rfl rfl ?_
                    refine j_gi (np := 150) rfl rfl rfl I104 gA0 (by decide) (n := 9) rfl rfl (lo := -2147483648) (hi := 2147483647) rfl ?_
                    intro v107 e108 b109
                    refine w_t (np := 151) (l2 := [some (eR a0), some (eI (i23)), some (eI (i52))]) (s2 := [eR a0, eI (v107), eR a0]) rfl (s_an rfl (pos_g I104 gA0 (by decide))) rfl ?_
                    refine j_gr (np := 154) rfl rfl I104 gA0 (by decide) (n := 9) rfl rfl rfl ?_
                    intro v110 e111 b112 z113
                    have b112 : g v110 = 21 := Nat.eq_of_beq_eq_true b112
                    refine w_t (np := 155) (l2 := [some (eR a0), some (eI (i23)), some (eI (i52))]) (s2 := [eI (i52), eR v110, eI (v107), eR a0]) rfl rfl rfl ?_
                    refine w_t (np := 156) (l2 := [some (eR a0), some (eI (i23)), some (eI (i52))]) (s2 := [eR a0, eI (i52), eR v110, eI (v107), eR a0]) rfl (s_an rfl (pos_g I104 gA0 (by decide))) rfl ?_
                    refine j_gr (np := 159) rfl rfl I104 gA0 (by decide) (n := 9) rfl rfl rfl ?_
                    intro v114 e115 b116 z117
                    have b116 : g v114 = 23 := Nat.eq_of_beq_eq_true b116
                    refine w_t (np := 160) (l2 := [some (eR a0), some (eI (i23)), some (eI (i52))]) (s2 := [eI (i23), eR v114, eI (i52), eR v110, eI (v107), eR a0]) rfl rfl rfl ?_
                    refine j_al (np := 161) rfl rfl I104 b116 (by decide) (n := 10) rfl rfl (lo := 0) (hi := 3) (fun _ => rfl) (by omega) (by omega) ?_
                    intro v118 e119 b120
                    refine w_t (np := 162) (l2 := [some (eR a0), some (eI (i23)), some (eI (i52))]) (s2 := [eR a0, eI (v118), eI (i52), eR v110, eI (v107), eR a0]) rfl (s_an rfl (pos_g I104 gA0 (by decide))) rfl ?_
                    refine w_gf (np := 165) (v := eR v114) rfl rfl (I104.kd gA0 (by decide) (n := 9) rfl) (by rw [e115]; rfl) ?_
                    refine w_t (np := 166) (l2 := [some (eR a0), some (eI (i23)), some (eI (i52))]) (s2 := [eI (i23), eR v114, eI (v118), eI (i52), eR v110, eI (v107), eR a0]) rfl rfl rfl ?_
                    refine w_t (np := 167) (l2 := [some (eR a0), some (eI (i23)), some (eI (i52))]) (s2 := [eI (i52), eI (i23), eR v114, eI (v118), eI (i52), eR v110, eI (v107), eR a0]) rfl rfl rfl ?_
                    obtain ⟨v121, e122⟩ : ∃ zz : Int, zz = (i23) + (i52) := ⟨_, rfl⟩
                    have b123 : 1 ≤ v121 ∧ v121 ≤ 17 := by omega
                    refine w_t (np := 168) (l2 := [some (eR a0), some (eI (i23)), some (eI (i52))]) (s2 := [eI (v121), eR v114, eI (v118), eI (i52), eR v110, eI (v107), eR a0]) rfl (b_iadd (by rw [← e122]; exact ev_w_in (by omega) (by omega))) rfl ?_
                    refine w_t (np := 170) (l2 := [some (eR a0), some (eI (i23)), some (eI (i52))]) (s2 := [eI (10), eI (v121), eR v114, eI (v118), eI (i52), eR v110, eI (v107), eR a0]) rfl rfl rfl ?_
                    obtain ⟨v124, e125, b126⟩ := h_irem (a := v121) (k := 10) (by decide) (by decide) (show (-2147483648 : Int) ≤ v121 ∧ (v121 : Int) ≤ 2147483647 by omega)
                    have b127 : 0 ≤ v124 ∧ v124 ≤ 9 := by omega
                    refine w_t (np := 171) (l2 := [some (eR a0), some (eI (i23)), some (eI (i52))]) (s2 := [eI (v124), eR v114, eI (v118), eI (i52), eR v110, eI (v107), eR a0]) rfl (e125 _ _) rfl ?_
                    refine j_al (np := 172) rfl rfl I104 b116 (by decide) (n := 10) rfl rfl (lo := 0) (hi := 3) (fun _ => rfl) (by omega) (by omega) ?_
                    intro v128 e129 b130
                    refine w_cu (np := 175) (as := [eI (i52), eI (v118), eI (v128)]) (l2 := [some (eI (i52)), some (eI (v118)), some (eI (v128))]) (rest := [eR v110, eI (v107), eR a0]) rfl rfl rfl (Nat.ble_eq.mp rfl) rfl rfl rfl rfl ?_
                    refine s_92 (a0 := i52) (a1 := v118) (a2 := v128) I104 (by omega) (by omega) (by omega) ?_
                    intro v131 b132
                    show ex_q (dt_fg L ρ) rc (d + 1, (95, 175, [some (eR a0), some (eI (i23)), some (eI (i52))], [eI (v131), eR v110, eI (v107), eR a0]), f :: F, m103)
                    refine j_al (np := 176) rfl rfl I104 b112 (by decide) (n := 160) rfl rfl (lo := -2147483648) (hi := 2147483647) (fun _ => rfl) (by omega) (by omega) ?_
                    intro v133 e134 b135
                    obtain ⟨v136, e137, b138⟩ : ∃ zz : Int, ev_w ((v107) * (v133)) = zz ∧ (-2147483648 ≤ zz ∧ zz ≤ 2147483647) := ⟨_, rfl, hw_bd _⟩
                    refine w_t (np := 177) (l2 := [some (eR a0), some (eI (i23)), some (eI (i52))]) (s2 := [eI (v136), eR a0]) rfl (b_imul e137) rfl ?_
                    refine j_pf (np := 180) (w := v136) rfl rfl I104 gA0 (by decide) (n := 9) rfl rfl (hO_i (lo := -2147483648) (hi := 2147483647) rfl (by omega)) ?_
                    intro m139 I140 W141
                    have F142 : Fr l_95 0 0 g μ m139 := F106.w W141 gA0 rfl
                    obtain ⟨v143, e144⟩ : ∃ zz : Int, zz = (i23) + (1) := ⟨_, rfl⟩
                    have b145 : 1 ≤ v143 ∧ v143 ≤ 10 := by omega
                    refine w_t (np := 183) (l2 := [some (eR a0), some (eI (v143)), some (eI (i52))]) (s2 := []) rfl (b_iinc rfl (by rw [← e144]; exact ev_w_in (by omega) (by omega)) rfl) rfl ?_
                    refine w_go (t1 := 27) rfl rfl ?_
                    exact ih22 (10 - (v143)).toNat (by omega) m139 (v143) (some (eI (i52))) I140 F142 (by omega)     rfl
                  · have b103 : 1 ≤ v99 ∧ v99 ≤ 2147483647 := by omega
                    refine w_t (np := 6) (l2 := [some (eI (v99)), some (eI (i52))]) (s2 := [eI (v99)]) rfl rfl rfl ?_
                    refine w_go (t1 := 10) rfl rfl ?_
                    refine b_ri rfl rfl ?_
                    show ex_q (dt_fg L ρ) rc (d + 1, (95, 142, [some (eR a0), some (eI (i23)), some (eI (i52))], [eI (v99), eR a0]), f :: F, m95)
                    refine j_pf (np := 145) (w := v99) rfl rfl I96 gA0 (by decide) (n := 9) rfl rfl (hO_i (lo := -2147483648) (hi := 2147483647) rfl (by omega)) ?_
                    intro m103 I104 W105
                    have F106 : Fr l_95 0 0 g μ m103 := F98.w W105 gA0 rfl
                    refine w_t (np := 146) (l2 := [some (eR a0), some (eI (i23)), some (eI (i52))]) (s2 := [eR a0]) rfl (s_an rfl (pos_g I104 gA0 (by decide))) rfl ?_
                    refine w_t (np := 147) (l2 := [some (eR a0), some (eI (i23)), some (eI (i52))]) (s2 := [eR a0, eR a0]) rfl rfl rfl ?_
                    refine j_gi (np := 150) rfl rfl rfl I104 gA0 (by decide) (n := 9) rfl rfl (lo := -2147483648) (hi := 2147483647) rfl ?_
                    intro v107 e108 b109
                    refine w_t (np := 151) (l2 := [some (eR a0), some (eI (i23)), some (eI (i52))]) (s2 := [eR a0, eI (v107), eR a0]) rfl (s_an rfl (pos_g I104 gA0 (by decide))) rfl ?_
                    refine j_gr (np := 154) rfl rfl I104 gA0 (by decide) (n := 9) rfl rfl rfl ?_
                    intro v110 e111 b112 z113
                    have b112 : g v110 = 21 := Nat.eq_of_beq_eq_true b112
                    refine w_t (np := 155) (l2 := [some (eR a0), some (eI (i23)), some (eI (i52))]) (s2 := [eI (i52), eR v110, eI (v107), eR a0]) rfl rfl rfl ?_
                    refine w_t (np := 156) (l2 := [some (eR a0), some (eI (i23)), some (eI (i52))]) (s2 := [eR a0, eI (i52), eR v110, eI (v107), eR a0]) rfl (s_an rfl (pos_g I104 gA0 (by decide))) rfl ?_
                    refine j_gr (np := 159) rfl rfl I104 gA0 (by decide) (n := 9) rfl rfl rfl ?_
                    intro v114 e115 b116 z117
                    have b116 : g v114 = 23 := Nat.eq_of_beq_eq_true b116
                    refine w_t (np := 160) (l2 := [some (eR a0), some (eI (i23)), some (eI (i52))]) (s2 := [eI (i23), eR v114, eI (i52), eR v110, eI (v107), eR a0]) rfl rfl rfl ?_
                    refine j_al (np := 161) rfl rfl I104 b116 (by decide) (n := 10) rfl rfl (lo := 0) (hi := 3) (fun _ => rfl) (by omega) (by omega) ?_
                    intro v118 e119 b120
                    refine w_t (np := 162) (l2 := [some (eR a0), some (eI (i23)), some (eI (i52))]) (s2 := [eR a0, eI (v118), eI (i52), eR v110, eI (v107), eR a0]) rfl (s_an rfl (pos_g I104 gA0 (by decide))) rfl ?_
                    refine w_gf (np := 165) (v := eR v114) rfl rfl (I104.kd gA0 (by decide) (n := 9) rfl) (by rw [e115]; rfl) ?_
                    refine w_t (np := 166) (l2 := [some (eR a0), some (eI (i23)), some (eI (i52))]) (s2 := [eI (i23), eR v114, eI (v118), eI (i52), eR v110, eI (v107), eR a0]) rfl rfl rfl ?_
                    refine w_t (np := 167) (l2 := [some (eR a0), some (eI (i23)), some (eI (i52))]) (s2 := [eI (i52), eI (i23), eR v114, eI (v118), eI (i52), eR v110, eI (v107), eR a0]) rfl rfl rfl ?_
                    obtain ⟨v121, e122⟩ : ∃ zz : Int, zz = (i23) + (i52) := ⟨_, rfl⟩
                    have b123 : 1 ≤ v121 ∧ v121 ≤ 17 := by omega
                    refine w_t (np := 168) (l2 := [some (eR a0), some (eI (i23)), some (eI (i52))]) (s2 := [eI (v121), eR v114, eI (v118), eI (i52), eR v110, eI (v107), eR a0]) rfl (b_iadd (by rw [← e122]; exact ev_w_in (by omega) (by omega))) rfl ?_
                    refine w_t (np := 170) (l2 := [some (eR a0), some (eI (i23)), some (eI (i52))]) (s2 := [eI (10), eI (v121), eR v114, eI (v118), eI (i52), eR v110, eI (v107), eR a0]) rfl rfl rfl ?_
                    obtain ⟨v124, e125, b126⟩ := h_irem (a := v121) (k := 10) (by decide) (by decide) (show (-2147483648 : Int) ≤ v121 ∧ (v121 : Int) ≤ 2147483647 by omega)
                    have b127 : 0 ≤ v124 ∧ v124 ≤ 9 := by omega
                    refine w_t (np := 171) (l2 := [some (eR a0), some (eI (i23)), some (eI (i52))]) (s2 := [eI (v124), eR v114, eI (v118), eI (i52), eR v110, eI (v107), eR a0]) rfl (e125 _ _) rfl ?_
                    refine j_al (np := 172) rfl rfl I104 b116 (by decide) (n := 10) rfl rfl (lo := 0) (hi := 3) (fun _ => rfl) (by omega) (by omega) ?_
                    intro v128 e129 b130
                    refine w_cu (np := 175) (as := [eI (i52), eI (v118), eI (v128)]) (l2 := [some (eI (i52)), some (eI (v118)), some (eI (v128))]) (rest := [eR v110, eI (v107), eR a0]) rfl rfl rfl (Nat.ble_eq.mp rfl) rfl rfl rfl rfl ?_
                    refine s_92 (a0 := i52) (a1 := v118) (a2 := v128) I104 (by omega) (by omega) (by omega) ?_
                    intro v131 b132
                    show ex_q (dt_fg L ρ) rc (d + 1, (95, 175, [some (eR a0), some (eI (i23)), some (eI (i52))], [eI (v131), eR v110, eI (v107), eR a0]), f :: F, m103)
                    refine j_al (np := 176) rfl rfl I104 b112 (by decide) (n := 160) rfl rfl (lo := -2147483648) (hi := 2147483647) (fun _ => rfl) (by omega) (by omega) ?_
                    intro v133 e134 b135
                    obtain ⟨v136, e137, b138⟩ : ∃ zz : Int, ev_w ((v107) * (v133)) = zz ∧ (-2147483648 ≤ zz ∧ zz ≤ 2147483647) := ⟨_, rfl, hw_bd _⟩
                    refine w_t (np := 177) (l2 := [some (eR a0), some (eI (i23)), some (eI (i52))]) (s2 := [eI (v136), eR a0]) rfl (b_imul e137) rfl ?_
                    refine j_pf (np := 180) (w := v136) rfl rfl I104 gA0 (by decide) (n := 9) rfl rfl (hO_i (lo := -2147483648) (hi := 2147483647) rfl (by omega)) ?_
                    intro m139 I140 W141
                    have F142 : Fr l_95 0 0 g μ m139 := F106.w W141 gA0 rfl
                    obtain ⟨v143, e144⟩ : ∃ zz : Int, zz = (i23) + (1) := ⟨_, rfl⟩
                    have b145 : 1 ≤ v143 ∧ v143 ≤ 10 := by omega
                    refine w_t (np := 183) (l2 := [some (eR a0), some (eI (v143)), some (eI (i52))]) (s2 := []) rfl (b_iinc rfl (by rw [← e144]; exact ev_w_in (by omega) (by omega)) rfl) rfl ?_
                    refine w_go (t1 := 27) rfl rfl ?_
                    exact ih22 (10 - (v143)).toNat (by omega) m139 (v143) (some (eI (i52))) I140 F142 (by omega)     rfl
                · have b77 : 0 ≤ v73 ∧ v73 ≤ 0 := by omega
                  refine w_t (np := 94) (l2 := [some (eR a0), some (eI (i23)), some (eI (i52))]) (s2 := [eI (i52), eR a0]) rfl rfl rfl ?_
                  refine w_go (t1 := 101) rfl rfl ?_
                  refine j_pf (np := 104) (w := i52) rfl rfl I55 gA0 (by decide) (n := 9) rfl rfl (hO_i (lo := 0) (hi := 9) rfl (by omega)) ?_
                  intro m77 I78 W79
                  have F80 : Fr l_95 0 0 g μ m77 := F56.w W79 gA0 rfl
                  refine w_t (np := 105) (l2 := [some (eR a0), some (eI (i23)), some (eI (i52))]) (s2 := [eR a0]) rfl (s_an rfl (pos_g I78 gA0 (by decide))) rfl ?_
                  refine w_t (np := 106) (l2 := [some (eR a0), some (eI (i23)), some (eI (i52))]) (s2 := [eR a0, eR a0]) rfl (s_an rfl (pos_g I78 gA0 (by decide))) rfl ?_
                  refine w_gf (np := 109) (v := eI (v73)) rfl rfl (I78.kd gA0 (by decide) (n := 9) rfl) (by rw [(W79.slot e74 (by decide))]; rfl) ?_
                  refine b_ine (t1 := 116) (t2 := 112) rfl rfl rfl (ev_w_in (by omega) (by omega)) (fun g81 => False.elim (by omega)) (fun g81 => ?_)
                  refine w_t (np := 113) (l2 := [some (eR a0), some (eI (i23)), some (eI (i52))]) (s2 := [eI (i23), eR a0]) rfl rfl rfl ?_
                  refine w_go (t1 := 120) rfl rfl ?_
                  refine j_pf (np := 123) (w := i23) rfl rfl I78 gA0 (by decide) (n := 9) rfl rfl (hO_i (lo := -1) (hi := 9) rfl (by omega)) ?_
                  intro m82 I83 W84
                  have F85 : Fr l_95 0 0 g μ m82 := F80.w W84 gA0 rfl
                  refine w_t (np := 124) (l2 := [some (eR a0), some (eI (i23)), some (eI (i52))]) (s2 := [eR a0]) rfl (s_an rfl (pos_g I83 gA0 (by decide))) rfl ?_
                  refine w_t (np := 125) (l2 := [some (eR a0), some (eI (i23)), some (eI (i52))]) (s2 := [eR a0, eR a0]) rfl rfl rfl ?_
                  refine w_gf (np := 128) (v := eI (v73)) rfl rfl (I83.kd gA0 (by decide) (n := 9) rfl) (by rw [(W84.slot (W79.slot e74 (by decide)) (by decide))]; rfl) ?_
                  refine w_t (np := 129) (l2 := [some (eR a0), some (eI (i23)), some (eI (i52))]) (s2 := [eI (1), eI (v73), eR a0]) rfl rfl rfl ?_
                  obtain ⟨v86, e87⟩ : ∃ zz : Int, zz = (v73) + (1) := ⟨_, rfl⟩
                  have b88 : 1 ≤ v86 ∧ v86 ≤ 1 := by omega
                  refine w_t (np := 130) (l2 := [some (eR a0), some (eI (i23)), some (eI (i52))]) (s2 := [eI (v86), eR a0]) rfl (b_iadd (by rw [← e87]; exact ev_w_in (by omega) (by omega))) rfl ?_
                  refine j_pf (np := 133) (w := v86) rfl rfl I83 gA0 (by decide) (n := 9) rfl rfl (hO_i (lo := -2147483648) (hi := 2147483647) rfl (by omega)) ?_
                  intro m89 I90 W91
                  have F92 : Fr l_95 0 0 g μ m89 := F85.w W91 gA0 rfl
                  refine w_t (np := 134) (l2 := [some (eR a0), some (eI (i23)), some (eI (i52))]) (s2 := [eR a0]) rfl (s_an rfl (pos_g I90 gA0 (by decide))) rfl ?_
                  refine w_t (np := 135) (l2 := [some (eR a0), some (eI (i23)), some (eI (i52))]) (s2 := [eR a0, eR a0]) rfl (s_an rfl (pos_g I90 gA0 (by decide))) rfl ?_
                  refine j_gi (np := 138) rfl rfl rfl I90 gA0 (by decide) (n := 9) rfl rfl (lo := -2147483648) (hi := 2147483647) rfl ?_
                  intro v93 e94 b95
                  refine w_t (np := 139) (l2 := [some (eR a0), some (eI (i23)), some (eI (i52))]) (s2 := [eI (i52), eI (v93), eR a0]) rfl rfl rfl ?_
                  refine w_cu (np := 142) (as := [eI (v93), eI (i52)]) (l2 := [some (eI (v93)), some (eI (i52))]) (rest := [eR a0]) rfl rfl rfl (Nat.ble_eq.mp rfl) rfl rfl rfl rfl ?_
                  refine w_t (np := 1) (l2 := [some (eI (v93)), some (eI (i52))]) (s2 := [eI (v93)]) rfl rfl rfl ?_
                  refine w_t (np := 2) (l2 := [some (eI (v93)), some (eI (i52))]) (s2 := [eI (i52), eI (v93)]) rfl rfl rfl ?_
                  refine b_clt (t1 := 9) (t2 := 5) rfl rfl rfl (ev_w_in (by omega) (by omega)) (ev_w_in (by omega) (by omega)) (fun g96 => ?_) (fun g96 => ?_)
                  · have b97 : -2147483648 ≤ v93 ∧ v93 ≤ 7 := by omega
                    refine w_t (np := 10) (l2 := [some (eI (v93)), some (eI (i52))]) (s2 := [eI (i52)]) rfl rfl rfl ?_
                    refine b_ri rfl rfl ?_
                    show ex_q (dt_fg L ρ) rc (d + 1, (95, 142, [some (eR a0), some (eI (i23)), some (eI (i52))], [eI (i52), eR a0]), f :: F, m89)
                    refine j_pf (np := 145) (w := i52) rfl rfl I90 gA0 (by decide) (n := 9) rfl rfl (hO_i (lo := -2147483648) (hi := 2147483647) rfl (by omega)) ?_
                    intro m97 I98 W99
                    have F100 : Fr l_95 0 0 g μ m97 := F92.w W99 gA0 rfl
                    refine w_t (np := 146) (l2 := [some (eR a0), some (eI (i23)), some (eI (i52))]) (s2 := [eR a0]) rfl (s_an rfl (pos_g I98 gA0 (by decide))) rfl ?_
                    refine w_t (np := 147) (l2 := [some (eR a0), some (eI (i23)), some (eI (i52))]) (s2 := [eR a0, eR a0]) rfl rfl rfl ?_
                    refine j_gi (np := 150) rfl rfl rfl I98 gA0 (by decide) (n := 9) rfl rfl (lo := -2147483648) (hi := 2147483647) rfl ?_
                    intro v101 e102 b103
                    refine w_t (np := 151) (l2 := [some (eR a0), some (eI (i23)), some (eI (i52))]) (s2 := [eR a0, eI (v101), eR a0]) rfl (s_an rfl (pos_g I98 gA0 (by decide))) rfl ?_
                    refine j_gr (np := 154) rfl rfl I98 gA0 (by decide) (n := 9) rfl rfl rfl ?_
                    intro v104 e105 b106 z107
                    have b106 : g v104 = 21 := Nat.eq_of_beq_eq_true b106
                    refine w_t (np := 155) (l2 := [some (eR a0), some (eI (i23)), some (eI (i52))]) (s2 := [eI (i52), eR v104, eI (v101), eR a0]) rfl rfl rfl ?_
                    refine w_t (np := 156) (l2 := [some (eR a0), some (eI (i23)), some (eI (i52))]) (s2 := [eR a0, eI (i52), eR v104, eI (v101), eR a0]) rfl (s_an rfl (pos_g I98 gA0 (by decide))) rfl ?_
                    refine j_gr (np := 159) rfl rfl I98 gA0 (by decide) (n := 9) rfl rfl rfl ?_
                    intro v108 e109 b110 z111
                    have b110 : g v108 = 23 := Nat.eq_of_beq_eq_true b110
                    refine w_t (np := 160) (l2 := [some (eR a0), some (eI (i23)), some (eI (i52))]) (s2 := [eI (i23), eR v108, eI (i52), eR v104, eI (v101), eR a0]) rfl rfl rfl ?_
                    refine j_al (np := 161) rfl rfl I98 b110 (by decide) (n := 10) rfl rfl (lo := 0) (hi := 3) (fun _ => rfl) (by omega) (by omega) ?_
                    intro v112 e113 b114
                    refine w_t (np := 162) (l2 := [some (eR a0), some (eI (i23)), some (eI (i52))]) (s2 := [eR a0, eI (v112), eI (i52), eR v104, eI (v101), eR a0]) rfl (s_an rfl (pos_g I98 gA0 (by decide))) rfl ?_
                    refine w_gf (np := 165) (v := eR v108) rfl rfl (I98.kd gA0 (by decide) (n := 9) rfl) (by rw [e109]; rfl) ?_
                    refine w_t (np := 166) (l2 := [some (eR a0), some (eI (i23)), some (eI (i52))]) (s2 := [eI (i23), eR v108, eI (v112), eI (i52), eR v104, eI (v101), eR a0]) rfl rfl rfl ?_
                    refine w_t (np := 167) (l2 := [some (eR a0), some (eI (i23)), some (eI (i52))]) (s2 := [eI (i52), eI (i23), eR v108, eI (v112), eI (i52), eR v104, eI (v101), eR a0]) rfl rfl rfl ?_
                    obtain ⟨v115, e116⟩ : ∃ zz : Int, zz = (i23) + (i52) := ⟨_, rfl⟩
                    have b117 : 1 ≤ v115 ∧ v115 ≤ 17 := by omega
                    refine w_t (np := 168) (l2 := [some (eR a0), some (eI (i23)), some (eI (i52))]) (s2 := [eI (v115), eR v108, eI (v112), eI (i52), eR v104, eI (v101), eR a0]) rfl (b_iadd (by rw [← e116]; exact ev_w_in (by omega) (by omega))) rfl ?_
                    refine w_t (np := 170) (l2 := [some (eR a0), some (eI (i23)), some (eI (i52))]) (s2 := [eI (10), eI (v115), eR v108, eI (v112), eI (i52), eR v104, eI (v101), eR a0]) rfl rfl rfl ?_
                    obtain ⟨v118, e119, b120⟩ := h_irem (a := v115) (k := 10) (by decide) (by decide) (show (-2147483648 : Int) ≤ v115 ∧ (v115 : Int) ≤ 2147483647 by omega)
                    have b121 : 0 ≤ v118 ∧ v118 ≤ 9 := by omega
                    refine w_t (np := 171) (l2 := [some (eR a0), some (eI (i23)), some (eI (i52))]) (s2 := [eI (v118), eR v108, eI (v112), eI (i52), eR v104, eI (v101), eR a0]) rfl (e119 _ _) rfl ?_
                    refine j_al (np := 172) rfl rfl I98 b110 (by decide) (n := 10) rfl rfl (lo := 0) (hi := 3) (fun _ => rfl) (by omega) (by omega) ?_
                    intro v122 e123 b124
                    refine w_cu (np := 175) (as := [eI (i52), eI (v112), eI (v122)]) (l2 := [some (eI (i52)), some (eI (v112)), some (eI (v122))]) (rest := [eR v104, eI (v101), eR a0]) rfl rfl rfl (Nat.ble_eq.mp rfl) rfl rfl rfl rfl ?_
                    refine s_92 (a0 := i52) (a1 := v112) (a2 := v122) I98 (by omega) (by omega) (by omega) ?_
                    intro v125 b126
                    show ex_q (dt_fg L ρ) rc (d + 1, (95, 175, [some (eR a0), some (eI (i23)), some (eI (i52))], [eI (v125), eR v104, eI (v101), eR a0]), f :: F, m97)
                    refine j_al (np := 176) rfl rfl I98 b106 (by decide) (n := 160) rfl rfl (lo := -2147483648) (hi := 2147483647) (fun _ => rfl) (by omega) (by omega) ?_
                    intro v127 e128 b129
                    obtain ⟨v130, e131, b132⟩ : ∃ zz : Int, ev_w ((v101) * (v127)) = zz ∧ (-2147483648 ≤ zz ∧ zz ≤ 2147483647) := ⟨_, rfl, hw_bd _⟩
                    refine w_t (np := 177) (l2 := [some (eR a0), some (eI (i23)), some (eI (i52))]) (s2 := [eI (v130), eR a0]) rfl (b_imul e131) rfl ?_
                    refine j_pf (np := 180) (w := v130) rfl rfl I98 gA0 (by decide) (n := 9) rfl rfl (hO_i (lo := -2147483648) (hi := 2147483647) rfl (by omega)) ?_
                    intro m133 I134 W135
                    have F136 : Fr l_95 0 0 g μ m133 := F100.w W135 gA0 rfl
                    obtain ⟨v137, e138⟩ : ∃ zz : Int, zz = (i23) + (1) := ⟨_, rfl⟩
                    have b139 : 1 ≤ v137 ∧ v137 ≤ 10 := by omega
                    refine w_t (np := 183) (l2 := [some (eR a0), some (eI (v137)), some (eI (i52))]) (s2 := []) rfl (b_iinc rfl (by rw [← e138]; exact ev_w_in (by omega) (by omega)) rfl) rfl ?_
                    refine w_go (t1 := 27) rfl rfl ?_
                    exact ih22 (10 - (v137)).toNat (by omega) m133 (v137) (some (eI (i52))) I134 F136 (by omega)     rfl
                  · have b97 : 1 ≤ v93 ∧ v93 ≤ 2147483647 := by omega
                    refine w_t (np := 6) (l2 := [some (eI (v93)), some (eI (i52))]) (s2 := [eI (v93)]) rfl rfl rfl ?_
                    refine w_go (t1 := 10) rfl rfl ?_
                    refine b_ri rfl rfl ?_
                    show ex_q (dt_fg L ρ) rc (d + 1, (95, 142, [some (eR a0), some (eI (i23)), some (eI (i52))], [eI (v93), eR a0]), f :: F, m89)
                    refine j_pf (np := 145) (w := v93) rfl rfl I90 gA0 (by decide) (n := 9) rfl rfl (hO_i (lo := -2147483648) (hi := 2147483647) rfl (by omega)) ?_
                    intro m97 I98 W99
                    have F100 : Fr l_95 0 0 g μ m97 := F92.w W99 gA0 rfl
                    refine w_t (np := 146) (l2 := [some (eR a0), some (eI (i23)), some (eI (i52))]) (s2 := [eR a0]) rfl (s_an rfl (pos_g I98 gA0 (by decide))) rfl ?_
                    refine w_t (np := 147) (l2 := [some (eR a0), some (eI (i23)), some (eI (i52))]) (s2 := [eR a0, eR a0]) rfl rfl rfl ?_
                    refine j_gi (np := 150) rfl rfl rfl I98 gA0 (by decide) (n := 9) rfl rfl (lo := -2147483648) (hi := 2147483647) rfl ?_
                    intro v101 e102 b103
                    refine w_t (np := 151) (l2 := [some (eR a0), some (eI (i23)), some (eI (i52))]) (s2 := [eR a0, eI (v101), eR a0]) rfl (s_an rfl (pos_g I98 gA0 (by decide))) rfl ?_
                    refine j_gr (np := 154) rfl rfl I98 gA0 (by decide) (n := 9) rfl rfl rfl ?_
                    intro v104 e105 b106 z107
                    have b106 : g v104 = 21 := Nat.eq_of_beq_eq_true b106
                    refine w_t (np := 155) (l2 := [some (eR a0), some (eI (i23)), some (eI (i52))]) (s2 := [eI (i52), eR v104, eI (v101), eR a0]) rfl rfl rfl ?_
                    refine w_t (np := 156) (l2 := [some (eR a0), some (eI (i23)), some (eI (i52))]) (s2 := [eR a0, eI (i52), eR v104, eI (v101), eR a0]) rfl (s_an rfl (pos_g I98 gA0 (by decide))) rfl ?_
                    refine j_gr (np := 159) rfl rfl I98 gA0 (by decide) (n := 9) rfl rfl rfl ?_
                    intro v108 e109 b110 z111
                    have b110 : g v108 = 23 := Nat.eq_of_beq_eq_true b110
                    refine w_t (np := 160) (l2 := [some (eR a0), some (eI (i23)), some (eI (i52))]) (s2 := [eI (i23), eR v108, eI (i52), eR v104, eI (v101), eR a0]) rfl rfl rfl ?_
                    refine j_al (np := 161) rfl rfl I98 b110 (by decide) (n := 10) rfl rfl (lo := 0) (hi := 3) (fun _ => rfl) (by omega) (by omega) ?_
                    intro v112 e113 b114
                    refine w_t (np := 162) (l2 := [some (eR a0), some (eI (i23)), some (eI (i52))]) (s2 := [eR a0, eI (v112), eI (i52), eR v104, eI (v101), eR a0]) rfl (s_an rfl (pos_g I98 gA0 (by decide))) rfl ?_
                    refine w_gf (np := 165) (v := eR v108) rfl rfl (I98.kd gA0 (by decide) (n := 9) rfl) (by rw [e109]; rfl) ?_
                    refine w_t (np := 166) (l2 := [some (eR a0), some (eI (i23)), some (eI (i52))]) (s2 := [eI (i23), eR v108, eI (v112), eI (i52), eR v104, eI (v101), eR a0]) rfl rfl rfl ?_
                    refine w_t (np := 167) (l2 := [some (eR a0), some (eI (i23)), some (eI (i52))]) (s2 := [eI (i52), eI (i23), eR v108, eI (v112), eI (i52), eR v104, eI (v101), eR a0]) rfl rfl rfl ?_
                    obtain ⟨v115, e116⟩ : ∃ zz : Int, zz = (i23) + (i52) := ⟨_, rfl⟩
                    have b117 : 1 ≤ v115 ∧ v115 ≤ 17 := by omega
                    refine w_t (np := 168) (l2 := [some (eR a0), some (eI (i23)), some (eI (i52))]) (s2 := [eI (v115), eR v108, eI (v112), eI (i52), eR v104, eI (v101), eR a0]) rfl (b_iadd (by rw [← e116]; exact ev_w_in (by omega) (by omega))) rfl ?_
                    refine w_t (np := 170) (l2 := [some (eR a0), some (eI (i23)), some (eI (i52))]) (s2 := [eI (10), eI (v115), eR v108, eI (v112), eI (i52), eR v104, eI (v101), eR a0]) rfl rfl rfl ?_
                    obtain ⟨v118, e119, b120⟩ := h_irem (a := v115) (k := 10) (by decide) (by decide) (show (-2147483648 : Int) ≤ v115 ∧ (v115 : Int) ≤ 2147483647 by omega)
                    have b121 : 0 ≤ v118 ∧ v118 ≤ 9 := by omega
                    refine w_t (np := 171) (l2 := [some (eR a0), some (eI (i23)), some (eI (i52))]) (s2 := [eI (v118), eR v108, eI (v112), eI (i52), eR v104, eI (v101), eR a0]) rfl (e119 _ _) rfl ?_
                    refine j_al (np := 172) rfl rfl I98 b110 (by decide) (n := 10) rfl rfl (lo := 0) (hi := 3) (fun _ => rfl) (by omega) (by omega) ?_
                    intro v122 e123 b124
                    refine w_cu (np := 175) (as := [eI (i52), eI (v112), eI (v122)]) (l2 := [some (eI (i52)), some (eI (v112)), some (eI (v122))]) (rest := [eR v104, eI (v101), eR a0]) rfl rfl rfl (Nat.ble_eq.mp rfl) rfl rfl rfl rfl ?_
                    refine s_92 (a0 := i52) (a1 := v112) (a2 := v122) I98 (by omega) (by omega) (by omega) ?_
                    intro v125 b126
                    show ex_q (dt_fg L ρ) rc (d + 1, (95, 175, [some (eR a0), some (eI (i23)), some (eI (i52))], [eI (v125), eR v104, eI (v101), eR a0]), f :: F, m97)
                    refine j_al (np := 176) rfl rfl I98 b106 (by decide) (n := 160) rfl rfl (lo := -2147483648) (hi := 2147483647) (fun _ => rfl) (by omega) (by omega) ?_
                    intro v127 e128 b129
                    obtain ⟨v130, e131, b132⟩ : ∃ zz : Int, ev_w ((v101) * (v127)) = zz ∧ (-2147483648 ≤ zz ∧ zz ≤ 2147483647) := ⟨_, rfl, hw_bd _⟩
                    refine w_t (np := 177) (l2 := [some (eR a0), some (eI (i23)), some (eI (i52))]) (s2 := [eI (v130), eR a0]) rfl (b_imul e131) rfl ?_
                    refine j_pf (np := 180) (w := v130) rfl rfl I98 gA0 (by decide) (n := 9) rfl rfl (hO_i (lo := -2147483648) (hi := 2147483647) rfl (by omega)) ?_
                    intro m133 I134 W135
                    have F136 : Fr l_95 0 0 g μ m133 := F100.w W135 gA0 rfl
                    obtain ⟨v137, e138⟩ : ∃ zz : Int, zz = (i23) + (1) := ⟨_, rfl⟩
                    have b139 : 1 ≤ v137 ∧ v137 ≤ 10 := by omega
                    refine w_t (np := 183) (l2 := [some (eR a0), some (eI (v137)), some (eI (i52))]) (s2 := []) rfl (b_iinc rfl (by rw [← e138]; exact ev_w_in (by omega) (by omega)) rfl) rfl ?_
                    refine w_go (t1 := 27) rfl rfl ?_
                    exact ih22 (10 - (v137)).toNat (by omega) m133 (v137) (some (eI (i52))) I134 F136 (by omega)     rfl
              · have b73 : 0 ≤ v69 ∧ v69 ≤ 0 := by omega
                obtain ⟨v73, e74⟩ : ∃ zz : Int, zz = (i52) + (1) := ⟨_, rfl⟩
                have b75 : 2 ≤ v73 ∧ v73 ≤ 9 := by omega
                refine w_t (np := 82) (l2 := [some (eR a0), some (eI (i23)), some (eI (v73))]) (s2 := []) rfl (b_iinc rfl (by rw [← e74]; exact ev_w_in (by omega) (by omega)) rfl) rfl ?_
                refine w_go (t1 := 59) rfl rfl ?_
                exact ih51 (9 - (v73)).toNat (by omega) m54 (v73) I55 F56 (by omega) k57 k58 k59    rfl
          exact hL59 _ m26 (1) I27 F28 (by decide) e32 e36 e47    rfl
  exact hL27 _ m17 (0) (none) I18 F20 (by decide)     rfl
