/-! methods, walked -/
theorem s_303 {L : Nat} {ρ : Nat → Int} {rc : eQ} {d : Nat} {f : eFr} {F : List eFr} {μ : eM} {g : Nat → Nat} {a0 : Nat} {a1 : Int} {a2 : Nat} {a3 : Int} (hI : SI g μ) (gA0 : g a0 = 83) (bA1 : 0 ≤ a1 ∧ a1 ≤ 12) (gA2 : g a2 = 84) (bA3 : 0 ≤ a3 ∧ a3 ≤ 12) (K : ∀ (v : Int), (0 ≤ v ∧ v ≤ 1) → ex_q (dt_fg L ρ) rc (d + 1, (f.1, f.2.1, f.2.2.1, eI v :: f.2.2.2), F, μ)) : ex_q (dt_fg L ρ) rc (d, (303, 0, [some (eR a0), some (eI (a1)), some (eR a2), some (eI (a3)), none], []), f :: F, μ) := by
  refine w_t (np := 1) (l2 := [some (eR a0), some (eI (a1)), some (eR a2), some (eI (a3)), none]) (s2 := [eI (0)]) rfl rfl rfl ?_
  refine w_t (np := 3) (l2 := [some (eR a0), some (eI (a1)), some (eR a2), some (eI (a3)), some (eI (0))]) (s2 := []) rfl rfl rfl ?_
  have hL3 : ∀ (n1 : Nat) (i3 : Int), (0 ≤ i3 ∧ i3 ≤ 4) → n1 = (4 - i3).toNat → ex_q (dt_fg L ρ) rc (d, (303, 3, [some (eR a0), some (eI (a1)), some (eR a2), some (eI (a3)), some (eI (i3))], []), f :: F, μ) := by
    intro n1
    induction n1 using Nat.strongRecOn with
    | _ n1 ih2 =>
    intro i3 b4 hn5
    refine w_t (np := 5) (l2 := [some (eR a0), some (eI (a1)), some (eR a2), some (eI (a3)), some (eI (i3))]) (s2 := [eI (i3)]) rfl rfl rfl ?_
    refine w_t (np := 6) (l2 := [some (eR a0), some (eI (a1)), some (eR a2), some (eI (a3)), some (eI (i3))]) (s2 := [eI (4), eI (i3)]) rfl rfl rfl ?_
    refine b_cge (t1 := 32) (t2 := 9) rfl rfl rfl (ev_w_in (by omega) (by omega)) rfl (fun g6 => ?_) (fun g6 => ?_)
    · have b7 : 4 ≤ i3 ∧ i3 ≤ 4 := by omega
      refine w_t (np := 33) (l2 := [some (eR a0), some (eI (a1)), some (eR a2), some (eI (a3)), some (eI (i3))]) (s2 := [eI (1)]) rfl rfl rfl ?_
      exact b_rz rfl rfl (Or.inr rfl) (K (1) (by decide))
    · have b7 : 0 ≤ i3 ∧ i3 ≤ 3 := by omega
      refine w_t (np := 10) (l2 := [some (eR a0), some (eI (a1)), some (eR a2), some (eI (a3)), some (eI (i3))]) (s2 := [eR a0]) rfl (s_an rfl (pos_g hI gA0 (by decide))) rfl ?_
      refine w_t (np := 11) (l2 := [some (eR a0), some (eI (a1)), some (eR a2), some (eI (a3)), some (eI (i3))]) (s2 := [eI (a1), eR a0]) rfl rfl rfl ?_
      refine w_t (np := 13) (l2 := [some (eR a0), some (eI (a1)), some (eR a2), some (eI (a3)), some (eI (i3))]) (s2 := [eI (i3), eI (a1), eR a0]) rfl rfl rfl ?_
      obtain ⟨v7, e8⟩ : ∃ zz : Int, zz = (a1) + (i3) := ⟨_, rfl⟩
      have b9 : 0 ≤ v7 ∧ v7 ≤ 15 := by omega
      refine w_t (np := 14) (l2 := [some (eR a0), some (eI (a1)), some (eR a2), some (eI (a3)), some (eI (i3))]) (s2 := [eI (v7), eR a0]) rfl (b_iadd (by rw [← e8]; exact ev_w_in (by omega) (by omega))) rfl ?_
      refine j_al (np := 15) rfl rfl hI gA0 (by decide) (n := 16) rfl rfl (lo := -2147483648) (hi := 2147483647) (fun _ => rfl) (by omega) (by omega) ?_
      intro v10 e11 b12
      refine w_t (np := 16) (l2 := [some (eR a0), some (eI (a1)), some (eR a2), some (eI (a3)), some (eI (i3))]) (s2 := [eR a2, eI (v10)]) rfl (s_an rfl (pos_g hI gA2 (by decide))) rfl ?_
      refine w_t (np := 17) (l2 := [some (eR a0), some (eI (a1)), some (eR a2), some (eI (a3)), some (eI (i3))]) (s2 := [eI (a3), eR a2, eI (v10)]) rfl rfl rfl ?_
      refine w_t (np := 19) (l2 := [some (eR a0), some (eI (a1)), some (eR a2), some (eI (a3)), some (eI (i3))]) (s2 := [eI (i3), eI (a3), eR a2, eI (v10)]) rfl rfl rfl ?_
      obtain ⟨v13, e14⟩ : ∃ zz : Int, zz = (a3) + (i3) := ⟨_, rfl⟩
      have b15 : 0 ≤ v13 ∧ v13 ≤ 15 := by omega
      refine w_t (np := 20) (l2 := [some (eR a0), some (eI (a1)), some (eR a2), some (eI (a3)), some (eI (i3))]) (s2 := [eI (v13), eR a2, eI (v10)]) rfl (b_iadd (by rw [← e14]; exact ev_w_in (by omega) (by omega))) rfl ?_
      refine j_al (np := 21) rfl rfl hI gA2 (by decide) (n := 16) rfl rfl (lo := -2147483648) (hi := 2147483647) (fun _ => rfl) (by omega) (by omega) ?_
      intro v16 e17 b18
      refine b_ceq (t1 := 26) (t2 := 24) rfl rfl rfl (ev_w_in (by omega) (by omega)) (ev_w_in (by omega) (by omega)) (fun g19 => ?_) (fun g19 => ?_)
      · obtain ⟨v20, e21⟩ : ∃ zz : Int, zz = (i3) + (1) := ⟨_, rfl⟩
        have b22 : 1 ≤ v20 ∧ v20 ≤ 4 := by omega
        refine w_t (np := 29) (l2 := [some (eR a0), some (eI (a1)), some (eR a2), some (eI (a3)), some (eI (v20))]) (s2 := []) rfl (b_iinc rfl (by rw [← e21]; exact ev_w_in (by omega) (by omega)) rfl) rfl ?_
        refine w_go (t1 := 3) rfl rfl ?_
        exact ih2 (4 - (v20)).toNat (by omega) (v20) (by omega)   rfl
      · refine w_t (np := 25) (l2 := [some (eR a0), some (eI (a1)), some (eR a2), some (eI (a3)), some (eI (i3))]) (s2 := [eI (0)]) rfl rfl rfl ?_
        exact b_rz rfl rfl (Or.inl rfl) (K (0) (by decide))
  exact hL3 _ (0) (by decide)   rfl
def l_305 : List Nat := [13315, 13316, 13317, 13318]
theorem s_305 {L : Nat} {ρ : Nat → Int} {rc : eQ} {d : Nat} {f : eFr} {F : List eFr} {μ : eM} {g : Nat → Nat} {a0 : Nat} {a1 : Nat} {a2 : Int} {a3 : Int} {a4 : Nat} {a5 : Int} (hI : SI g μ) (gA0 : g a0 = 52) (gA1 : g a1 = 83) (bA2 : 0 ≤ a2 ∧ a2 ≤ 12) (bA3 : 0 ≤ a3 ∧ a3 ≤ 12) (gA4 : g a4 = 84) (bA5 : 0 ≤ a5 ∧ a5 ≤ 12) (K : ∀ (μ2 : eM) (v : Int), SI g μ2 → Fr l_305 0 0 g μ μ2 → (-1 ≤ v ∧ v ≤ 1) → ex_q (dt_fg L ρ) rc (d + 5, (f.1, f.2.1, f.2.2.1, eI v :: f.2.2.2), F, μ2)) : ex_q (dt_fg L ρ) rc (d + 4, (305, 0, [some (eR a0), some (eR a1), some (eI (a2)), some (eI (a3)), some (eR a4), some (eI (a5))], []), f :: F, μ) := by
  have F0 : Fr l_305 0 0 g μ μ := Fr.r
  refine w_t (np := 1) (l2 := [some (eR a0), some (eR a1), some (eI (a2)), some (eI (a3)), some (eR a4), some (eI (a5))]) (s2 := [eR a0]) rfl (s_an rfl (pos_g hI gA0 (by decide))) rfl ?_
  refine w_t (np := 2) (l2 := [some (eR a0), some (eR a1), some (eI (a2)), some (eI (a3)), some (eR a4), some (eI (a5))]) (s2 := [eR a1, eR a0]) rfl (s_an rfl (pos_g hI gA1 (by decide))) rfl ?_
  refine w_t (np := 3) (l2 := [some (eR a0), some (eR a1), some (eI (a2)), some (eI (a3)), some (eR a4), some (eI (a5))]) (s2 := [eI (a3), eR a1, eR a0]) rfl rfl rfl ?_
  refine j_al (np := 4) rfl rfl hI gA1 (by decide) (n := 16) rfl rfl (lo := -2147483648) (hi := 2147483647) (fun _ => rfl) (by omega) (by omega) ?_
  intro v1 e2 b3
  refine w_t (np := 5) (l2 := [some (eR a0), some (eR a1), some (eI (a2)), some (eI (a3)), some (eR a4), some (eI (a5))]) (s2 := [eR a1, eI (v1), eR a0]) rfl (s_an rfl (pos_g hI gA1 (by decide))) rfl ?_
  refine w_t (np := 6) (l2 := [some (eR a0), some (eR a1), some (eI (a2)), some (eI (a3)), some (eR a4), some (eI (a5))]) (s2 := [eI (a2), eR a1, eI (v1), eR a0]) rfl rfl rfl ?_
  refine j_al (np := 7) rfl rfl hI gA1 (by decide) (n := 16) rfl rfl (lo := -2147483648) (hi := 2147483647) (fun _ => rfl) (by omega) (by omega) ?_
  intro v4 e5 b6
  obtain ⟨v7, e8, b9⟩ : ∃ zz : Int, ev_w ((v1) - (v4)) = zz ∧ (-2147483648 ≤ zz ∧ zz ≤ 2147483647) := ⟨_, rfl, hw_bd _⟩
  refine w_t (np := 8) (l2 := [some (eR a0), some (eR a1), some (eI (a2)), some (eI (a3)), some (eR a4), some (eI (a5))]) (s2 := [eI (v7), eR a0]) rfl (b_isub e8) rfl ?_
  refine w_t (np := 9) (l2 := [some (eR a0), some (eR a1), some (eI (a2)), some (eI (a3)), some (eR a4), some (eI (a5))]) (s2 := [eJ (v7), eR a0]) rfl (b_i2l (ev_w_in (by omega) (by omega))) rfl ?_
  refine w_t (np := 10) (l2 := [some (eR a0), some (eR a1), some (eI (a2)), some (eI (a3)), some (eR a4), some (eI (a5))]) (s2 := [eR a1, eJ (v7), eR a0]) rfl (s_an rfl (pos_g hI gA1 (by decide))) rfl ?_
  refine w_t (np := 11) (l2 := [some (eR a0), some (eR a1), some (eI (a2)), some (eI (a3)), some (eR a4), some (eI (a5))]) (s2 := [eI (a3), eR a1, eJ (v7), eR a0]) rfl rfl rfl ?_
  refine w_t (np := 12) (l2 := [some (eR a0), some (eR a1), some (eI (a2)), some (eI (a3)), some (eR a4), some (eI (a5))]) (s2 := [eI (1), eI (a3), eR a1, eJ (v7), eR a0]) rfl rfl rfl ?_
  obtain ⟨v10, e11⟩ : ∃ zz : Int, zz = (a3) + (1) := ⟨_, rfl⟩
  have b12 : 1 ≤ v10 ∧ v10 ≤ 13 := by omega
  refine w_t (np := 13) (l2 := [some (eR a0), some (eR a1), some (eI (a2)), some (eI (a3)), some (eR a4), some (eI (a5))]) (s2 := [eI (v10), eR a1, eJ (v7), eR a0]) rfl (b_iadd (by rw [← e11]; exact ev_w_in (by omega) (by omega))) rfl ?_
  refine j_al (np := 14) rfl rfl hI gA1 (by decide) (n := 16) rfl rfl (lo := -2147483648) (hi := 2147483647) (fun _ => rfl) (by omega) (by omega) ?_
  intro v13 e14 b15
  refine w_t (np := 15) (l2 := [some (eR a0), some (eR a1), some (eI (a2)), some (eI (a3)), some (eR a4), some (eI (a5))]) (s2 := [eR a1, eI (v13), eJ (v7), eR a0]) rfl (s_an rfl (pos_g hI gA1 (by decide))) rfl ?_
  refine w_t (np := 16) (l2 := [some (eR a0), some (eR a1), some (eI (a2)), some (eI (a3)), some (eR a4), some (eI (a5))]) (s2 := [eI (a2), eR a1, eI (v13), eJ (v7), eR a0]) rfl rfl rfl ?_
  refine w_t (np := 17) (l2 := [some (eR a0), some (eR a1), some (eI (a2)), some (eI (a3)), some (eR a4), some (eI (a5))]) (s2 := [eI (1), eI (a2), eR a1, eI (v13), eJ (v7), eR a0]) rfl rfl rfl ?_
  obtain ⟨v16, e17⟩ : ∃ zz : Int, zz = (a2) + (1) := ⟨_, rfl⟩
  have b18 : 1 ≤ v16 ∧ v16 ≤ 13 := by omega
  refine w_t (np := 18) (l2 := [some (eR a0), some (eR a1), some (eI (a2)), some (eI (a3)), some (eR a4), some (eI (a5))]) (s2 := [eI (v16), eR a1, eI (v13), eJ (v7), eR a0]) rfl (b_iadd (by rw [← e17]; exact ev_w_in (by omega) (by omega))) rfl ?_
  refine j_al (np := 19) rfl rfl hI gA1 (by decide) (n := 16) rfl rfl (lo := -2147483648) (hi := 2147483647) (fun _ => rfl) (by omega) (by omega) ?_
  intro v19 e20 b21
  obtain ⟨v22, e23, b24⟩ : ∃ zz : Int, ev_w ((v13) - (v19)) = zz ∧ (-2147483648 ≤ zz ∧ zz ≤ 2147483647) := ⟨_, rfl, hw_bd _⟩
  refine w_t (np := 20) (l2 := [some (eR a0), some (eR a1), some (eI (a2)), some (eI (a3)), some (eR a4), some (eI (a5))]) (s2 := [eI (v22), eJ (v7), eR a0]) rfl (b_isub e23) rfl ?_
  refine w_t (np := 21) (l2 := [some (eR a0), some (eR a1), some (eI (a2)), some (eI (a3)), some (eR a4), some (eI (a5))]) (s2 := [eJ (v22), eJ (v7), eR a0]) rfl (b_i2l (ev_w_in (by omega) (by omega))) rfl ?_
  refine w_t (np := 22) (l2 := [some (eR a0), some (eR a1), some (eI (a2)), some (eI (a3)), some (eR a4), some (eI (a5))]) (s2 := [eR a1, eJ (v22), eJ (v7), eR a0]) rfl (s_an rfl (pos_g hI gA1 (by decide))) rfl ?_
  refine w_t (np := 23) (l2 := [some (eR a0), some (eR a1), some (eI (a2)), some (eI (a3)), some (eR a4), some (eI (a5))]) (s2 := [eI (a3), eR a1, eJ (v22), eJ (v7), eR a0]) rfl rfl rfl ?_
  refine w_t (np := 24) (l2 := [some (eR a0), some (eR a1), some (eI (a2)), some (eI (a3)), some (eR a4), some (eI (a5))]) (s2 := [eI (2), eI (a3), eR a1, eJ (v22), eJ (v7), eR a0]) rfl rfl rfl ?_
  obtain ⟨v25, e26⟩ : ∃ zz : Int, zz = (a3) + (2) := ⟨_, rfl⟩
  have b27 : 2 ≤ v25 ∧ v25 ≤ 14 := by omega
  refine w_t (np := 25) (l2 := [some (eR a0), some (eR a1), some (eI (a2)), some (eI (a3)), some (eR a4), some (eI (a5))]) (s2 := [eI (v25), eR a1, eJ (v22), eJ (v7), eR a0]) rfl (b_iadd (by rw [← e26]; exact ev_w_in (by omega) (by omega))) rfl ?_
  refine j_al (np := 26) rfl rfl hI gA1 (by decide) (n := 16) rfl rfl (lo := -2147483648) (hi := 2147483647) (fun _ => rfl) (by omega) (by omega) ?_
  intro v28 e29 b30
  refine w_t (np := 27) (l2 := [some (eR a0), some (eR a1), some (eI (a2)), some (eI (a3)), some (eR a4), some (eI (a5))]) (s2 := [eR a1, eI (v28), eJ (v22), eJ (v7), eR a0]) rfl (s_an rfl (pos_g hI gA1 (by decide))) rfl ?_
  refine w_t (np := 28) (l2 := [some (eR a0), some (eR a1), some (eI (a2)), some (eI (a3)), some (eR a4), some (eI (a5))]) (s2 := [eI (a2), eR a1, eI (v28), eJ (v22), eJ (v7), eR a0]) rfl rfl rfl ?_
  refine w_t (np := 29) (l2 := [some (eR a0), some (eR a1), some (eI (a2)), some (eI (a3)), some (eR a4), some (eI (a5))]) (s2 := [eI (2), eI (a2), eR a1, eI (v28), eJ (v22), eJ (v7), eR a0]) rfl rfl rfl ?_
  obtain ⟨v31, e32⟩ : ∃ zz : Int, zz = (a2) + (2) := ⟨_, rfl⟩
  have b33 : 2 ≤ v31 ∧ v31 ≤ 14 := by omega
  refine w_t (np := 30) (l2 := [some (eR a0), some (eR a1), some (eI (a2)), some (eI (a3)), some (eR a4), some (eI (a5))]) (s2 := [eI (v31), eR a1, eI (v28), eJ (v22), eJ (v7), eR a0]) rfl (b_iadd (by rw [← e32]; exact ev_w_in (by omega) (by omega))) rfl ?_
  refine j_al (np := 31) rfl rfl hI gA1 (by decide) (n := 16) rfl rfl (lo := -2147483648) (hi := 2147483647) (fun _ => rfl) (by omega) (by omega) ?_
  intro v34 e35 b36
  obtain ⟨v37, e38, b39⟩ : ∃ zz : Int, ev_w ((v28) - (v34)) = zz ∧ (-2147483648 ≤ zz ∧ zz ≤ 2147483647) := ⟨_, rfl, hw_bd _⟩
  refine w_t (np := 32) (l2 := [some (eR a0), some (eR a1), some (eI (a2)), some (eI (a3)), some (eR a4), some (eI (a5))]) (s2 := [eI (v37), eJ (v22), eJ (v7), eR a0]) rfl (b_isub e38) rfl ?_
  refine w_t (np := 33) (l2 := [some (eR a0), some (eR a1), some (eI (a2)), some (eI (a3)), some (eR a4), some (eI (a5))]) (s2 := [eJ (v37), eJ (v22), eJ (v7), eR a0]) rfl (b_i2l (ev_w_in (by omega) (by omega))) rfl ?_
  refine w_t (np := 34) (l2 := [some (eR a0), some (eR a1), some (eI (a2)), some (eI (a3)), some (eR a4), some (eI (a5))]) (s2 := [eR a1, eJ (v37), eJ (v22), eJ (v7), eR a0]) rfl (s_an rfl (pos_g hI gA1 (by decide))) rfl ?_
  refine w_t (np := 35) (l2 := [some (eR a0), some (eR a1), some (eI (a2)), some (eI (a3)), some (eR a4), some (eI (a5))]) (s2 := [eI (a3), eR a1, eJ (v37), eJ (v22), eJ (v7), eR a0]) rfl rfl rfl ?_
  refine w_t (np := 36) (l2 := [some (eR a0), some (eR a1), some (eI (a2)), some (eI (a3)), some (eR a4), some (eI (a5))]) (s2 := [eI (3), eI (a3), eR a1, eJ (v37), eJ (v22), eJ (v7), eR a0]) rfl rfl rfl ?_
  obtain ⟨v40, e41⟩ : ∃ zz : Int, zz = (a3) + (3) := ⟨_, rfl⟩
  have b42 : 3 ≤ v40 ∧ v40 ≤ 15 := by omega
  refine w_t (np := 37) (l2 := [some (eR a0), some (eR a1), some (eI (a2)), some (eI (a3)), some (eR a4), some (eI (a5))]) (s2 := [eI (v40), eR a1, eJ (v37), eJ (v22), eJ (v7), eR a0]) rfl (b_iadd (by rw [← e41]; exact ev_w_in (by omega) (by omega))) rfl ?_
  refine j_al (np := 38) rfl rfl hI gA1 (by decide) (n := 16) rfl rfl (lo := -2147483648) (hi := 2147483647) (fun _ => rfl) (by omega) (by omega) ?_
  intro v43 e44 b45
  refine w_t (np := 39) (l2 := [some (eR a0), some (eR a1), some (eI (a2)), some (eI (a3)), some (eR a4), some (eI (a5))]) (s2 := [eR a1, eI (v43), eJ (v37), eJ (v22), eJ (v7), eR a0]) rfl (s_an rfl (pos_g hI gA1 (by decide))) rfl ?_
  refine w_t (np := 40) (l2 := [some (eR a0), some (eR a1), some (eI (a2)), some (eI (a3)), some (eR a4), some (eI (a5))]) (s2 := [eI (a2), eR a1, eI (v43), eJ (v37), eJ (v22), eJ (v7), eR a0]) rfl rfl rfl ?_
  refine w_t (np := 41) (l2 := [some (eR a0), some (eR a1), some (eI (a2)), some (eI (a3)), some (eR a4), some (eI (a5))]) (s2 := [eI (3), eI (a2), eR a1, eI (v43), eJ (v37), eJ (v22), eJ (v7), eR a0]) rfl rfl rfl ?_
  obtain ⟨v46, e47⟩ : ∃ zz : Int, zz = (a2) + (3) := ⟨_, rfl⟩
  have b48 : 3 ≤ v46 ∧ v46 ≤ 15 := by omega
  refine w_t (np := 42) (l2 := [some (eR a0), some (eR a1), some (eI (a2)), some (eI (a3)), some (eR a4), some (eI (a5))]) (s2 := [eI (v46), eR a1, eI (v43), eJ (v37), eJ (v22), eJ (v7), eR a0]) rfl (b_iadd (by rw [← e47]; exact ev_w_in (by omega) (by omega))) rfl ?_
  refine j_al (np := 43) rfl rfl hI gA1 (by decide) (n := 16) rfl rfl (lo := -2147483648) (hi := 2147483647) (fun _ => rfl) (by omega) (by omega) ?_
  intro v49 e50 b51
  obtain ⟨v52, e53, b54⟩ : ∃ zz : Int, ev_w ((v43) - (v49)) = zz ∧ (-2147483648 ≤ zz ∧ zz ≤ 2147483647) := ⟨_, rfl, hw_bd _⟩
  refine w_t (np := 44) (l2 := [some (eR a0), some (eR a1), some (eI (a2)), some (eI (a3)), some (eR a4), some (eI (a5))]) (s2 := [eI (v52), eJ (v37), eJ (v22), eJ (v7), eR a0]) rfl (b_isub e53) rfl ?_
  refine w_t (np := 45) (l2 := [some (eR a0), some (eR a1), some (eI (a2)), some (eI (a3)), some (eR a4), some (eI (a5))]) (s2 := [eJ (v52), eJ (v37), eJ (v22), eJ (v7), eR a0]) rfl (b_i2l (ev_w_in (by omega) (by omega))) rfl ?_
  refine w_t (np := 47) (l2 := [some (eR a0), some (eR a1), some (eI (a2)), some (eI (a3)), some (eR a4), some (eI (a5))]) (s2 := [eR a4, eJ (v52), eJ (v37), eJ (v22), eJ (v7), eR a0]) rfl (s_ao rfl (pos_g hI gA4 (by decide))) rfl ?_
  refine w_t (np := 49) (l2 := [some (eR a0), some (eR a1), some (eI (a2)), some (eI (a3)), some (eR a4), some (eI (a5))]) (s2 := [eI (a5), eR a4, eJ (v52), eJ (v37), eJ (v22), eJ (v7), eR a0]) rfl rfl rfl ?_
  refine j_al (np := 50) rfl rfl hI gA4 (by decide) (n := 16) rfl rfl (lo := -2147483648) (hi := 2147483647) (fun _ => rfl) (by omega) (by omega) ?_
  intro v55 e56 b57
  refine w_t (np := 51) (l2 := [some (eR a0), some (eR a1), some (eI (a2)), some (eI (a3)), some (eR a4), some (eI (a5))]) (s2 := [eR a1, eI (v55), eJ (v52), eJ (v37), eJ (v22), eJ (v7), eR a0]) rfl (s_an rfl (pos_g hI gA1 (by decide))) rfl ?_
  refine w_t (np := 52) (l2 := [some (eR a0), some (eR a1), some (eI (a2)), some (eI (a3)), some (eR a4), some (eI (a5))]) (s2 := [eI (a2), eR a1, eI (v55), eJ (v52), eJ (v37), eJ (v22), eJ (v7), eR a0]) rfl rfl rfl ?_
  refine j_al (np := 53) rfl rfl hI gA1 (by decide) (n := 16) rfl rfl (lo := -2147483648) (hi := 2147483647) (fun _ => rfl) (by omega) (by omega) ?_
  intro v58 e59 b60
  have e59 := e59.symm.trans e5
  rw [e59]
  obtain ⟨v61, e62, b63⟩ : ∃ zz : Int, ev_w ((v55) - (v4)) = zz ∧ (-2147483648 ≤ zz ∧ zz ≤ 2147483647) := ⟨_, rfl, hw_bd _⟩
  refine w_t (np := 54) (l2 := [some (eR a0), some (eR a1), some (eI (a2)), some (eI (a3)), some (eR a4), some (eI (a5))]) (s2 := [eI (v61), eJ (v52), eJ (v37), eJ (v22), eJ (v7), eR a0]) rfl (b_isub e62) rfl ?_
  refine w_t (np := 55) (l2 := [some (eR a0), some (eR a1), some (eI (a2)), some (eI (a3)), some (eR a4), some (eI (a5))]) (s2 := [eJ (v61), eJ (v52), eJ (v37), eJ (v22), eJ (v7), eR a0]) rfl (b_i2l (ev_w_in (by omega) (by omega))) rfl ?_
  refine w_t (np := 57) (l2 := [some (eR a0), some (eR a1), some (eI (a2)), some (eI (a3)), some (eR a4), some (eI (a5))]) (s2 := [eR a4, eJ (v61), eJ (v52), eJ (v37), eJ (v22), eJ (v7), eR a0]) rfl (s_ao rfl (pos_g hI gA4 (by decide))) rfl ?_
  refine w_t (np := 59) (l2 := [some (eR a0), some (eR a1), some (eI (a2)), some (eI (a3)), some (eR a4), some (eI (a5))]) (s2 := [eI (a5), eR a4, eJ (v61), eJ (v52), eJ (v37), eJ (v22), eJ (v7), eR a0]) rfl rfl rfl ?_
  refine w_t (np := 60) (l2 := [some (eR a0), some (eR a1), some (eI (a2)), some (eI (a3)), some (eR a4), some (eI (a5))]) (s2 := [eI (1), eI (a5), eR a4, eJ (v61), eJ (v52), eJ (v37), eJ (v22), eJ (v7), eR a0]) rfl rfl rfl ?_
  obtain ⟨v64, e65⟩ : ∃ zz : Int, zz = (a5) + (1) := ⟨_, rfl⟩
  have b66 : 1 ≤ v64 ∧ v64 ≤ 13 := by omega
  refine w_t (np := 61) (l2 := [some (eR a0), some (eR a1), some (eI (a2)), some (eI (a3)), some (eR a4), some (eI (a5))]) (s2 := [eI (v64), eR a4, eJ (v61), eJ (v52), eJ (v37), eJ (v22), eJ (v7), eR a0]) rfl (b_iadd (by rw [← e65]; exact ev_w_in (by omega) (by omega))) rfl ?_
  refine j_al (np := 62) rfl rfl hI gA4 (by decide) (n := 16) rfl rfl (lo := -2147483648) (hi := 2147483647) (fun _ => rfl) (by omega) (by omega) ?_
  intro v67 e68 b69
  refine w_t (np := 63) (l2 := [some (eR a0), some (eR a1), some (eI (a2)), some (eI (a3)), some (eR a4), some (eI (a5))]) (s2 := [eR a1, eI (v67), eJ (v61), eJ (v52), eJ (v37), eJ (v22), eJ (v7), eR a0]) rfl (s_an rfl (pos_g hI gA1 (by decide))) rfl ?_
  refine w_t (np := 64) (l2 := [some (eR a0), some (eR a1), some (eI (a2)), some (eI (a3)), some (eR a4), some (eI (a5))]) (s2 := [eI (a2), eR a1, eI (v67), eJ (v61), eJ (v52), eJ (v37), eJ (v22), eJ (v7), eR a0]) rfl rfl rfl ?_
  refine w_t (np := 65) (l2 := [some (eR a0), some (eR a1), some (eI (a2)), some (eI (a3)), some (eR a4), some (eI (a5))]) (s2 := [eI (1), eI (a2), eR a1, eI (v67), eJ (v61), eJ (v52), eJ (v37), eJ (v22), eJ (v7), eR a0]) rfl rfl rfl ?_
  obtain ⟨v70, e71⟩ : ∃ zz : Int, zz = (a2) + (1) := ⟨_, rfl⟩
  have b72 : 1 ≤ v70 ∧ v70 ≤ 13 := by omega
  refine w_t (np := 66) (l2 := [some (eR a0), some (eR a1), some (eI (a2)), some (eI (a3)), some (eR a4), some (eI (a5))]) (s2 := [eI (v70), eR a1, eI (v67), eJ (v61), eJ (v52), eJ (v37), eJ (v22), eJ (v7), eR a0]) rfl (b_iadd (by rw [← e71]; exact ev_w_in (by omega) (by omega))) rfl ?_
  refine j_al (np := 67) rfl rfl hI gA1 (by decide) (n := 16) rfl rfl (lo := -2147483648) (hi := 2147483647) (fun _ => rfl) (by omega) (by omega) ?_
  intro v73 e74 b75
  obtain ⟨v76, e77, b78⟩ : ∃ zz : Int, ev_w ((v67) - (v73)) = zz ∧ (-2147483648 ≤ zz ∧ zz ≤ 2147483647) := ⟨_, rfl, hw_bd _⟩
  refine w_t (np := 68) (l2 := [some (eR a0), some (eR a1), some (eI (a2)), some (eI (a3)), some (eR a4), some (eI (a5))]) (s2 := [eI (v76), eJ (v61), eJ (v52), eJ (v37), eJ (v22), eJ (v7), eR a0]) rfl (b_isub e77) rfl ?_
  refine w_t (np := 69) (l2 := [some (eR a0), some (eR a1), some (eI (a2)), some (eI (a3)), some (eR a4), some (eI (a5))]) (s2 := [eJ (v76), eJ (v61), eJ (v52), eJ (v37), eJ (v22), eJ (v7), eR a0]) rfl (b_i2l (ev_w_in (by omega) (by omega))) rfl ?_
  refine w_t (np := 71) (l2 := [some (eR a0), some (eR a1), some (eI (a2)), some (eI (a3)), some (eR a4), some (eI (a5))]) (s2 := [eR a4, eJ (v76), eJ (v61), eJ (v52), eJ (v37), eJ (v22), eJ (v7), eR a0]) rfl (s_ao rfl (pos_g hI gA4 (by decide))) rfl ?_
  refine w_t (np := 73) (l2 := [some (eR a0), some (eR a1), some (eI (a2)), some (eI (a3)), some (eR a4), some (eI (a5))]) (s2 := [eI (a5), eR a4, eJ (v76), eJ (v61), eJ (v52), eJ (v37), eJ (v22), eJ (v7), eR a0]) rfl rfl rfl ?_
  refine w_t (np := 74) (l2 := [some (eR a0), some (eR a1), some (eI (a2)), some (eI (a3)), some (eR a4), some (eI (a5))]) (s2 := [eI (2), eI (a5), eR a4, eJ (v76), eJ (v61), eJ (v52), eJ (v37), eJ (v22), eJ (v7), eR a0]) rfl rfl rfl ?_
  obtain ⟨v79, e80⟩ : ∃ zz : Int, zz = (a5) + (2) := ⟨_, rfl⟩
  have b81 : 2 ≤ v79 ∧ v79 ≤ 14 := by omega
  refine w_t (np := 75) (l2 := [some (eR a0), some (eR a1), some (eI (a2)), some (eI (a3)), some (eR a4), some (eI (a5))]) (s2 := [eI (v79), eR a4, eJ (v76), eJ (v61), eJ (v52), eJ (v37), eJ (v22), eJ (v7), eR a0]) rfl (b_iadd (by rw [← e80]; exact ev_w_in (by omega) (by omega))) rfl ?_
  refine j_al (np := 76) rfl rfl hI gA4 (by decide) (n := 16) rfl rfl (lo := -2147483648) (hi := 2147483647) (fun _ => rfl) (by omega) (by omega) ?_
  intro v82 e83 b84
  refine w_t (np := 77) (l2 := [some (eR a0), some (eR a1), some (eI (a2)), some (eI (a3)), some (eR a4), some (eI (a5))]) (s2 := [eR a1, eI (v82), eJ (v76), eJ (v61), eJ (v52), eJ (v37), eJ (v22), eJ (v7), eR a0]) rfl (s_an rfl (pos_g hI gA1 (by decide))) rfl ?_
  refine w_t (np := 78) (l2 := [some (eR a0), some (eR a1), some (eI (a2)), some (eI (a3)), some (eR a4), some (eI (a5))]) (s2 := [eI (a2), eR a1, eI (v82), eJ (v76), eJ (v61), eJ (v52), eJ (v37), eJ (v22), eJ (v7), eR a0]) rfl rfl rfl ?_
  refine w_t (np := 79) (l2 := [some (eR a0), some (eR a1), some (eI (a2)), some (eI (a3)), some (eR a4), some (eI (a5))]) (s2 := [eI (2), eI (a2), eR a1, eI (v82), eJ (v76), eJ (v61), eJ (v52), eJ (v37), eJ (v22), eJ (v7), eR a0]) rfl rfl rfl ?_
  obtain ⟨v85, e86⟩ : ∃ zz : Int, zz = (a2) + (2) := ⟨_, rfl⟩
  have b87 : 2 ≤ v85 ∧ v85 ≤ 14 := by omega
  refine w_t (np := 80) (l2 := [some (eR a0), some (eR a1), some (eI (a2)), some (eI (a3)), some (eR a4), some (eI (a5))]) (s2 := [eI (v85), eR a1, eI (v82), eJ (v76), eJ (v61), eJ (v52), eJ (v37), eJ (v22), eJ (v7), eR a0]) rfl (b_iadd (by rw [← e86]; exact ev_w_in (by omega) (by omega))) rfl ?_
  refine j_al (np := 81) rfl rfl hI gA1 (by decide) (n := 16) rfl rfl (lo := -2147483648) (hi := 2147483647) (fun _ => rfl) (by omega) (by omega) ?_
  intro v88 e89 b90
  obtain ⟨v91, e92, b93⟩ : ∃ zz : Int, ev_w ((v82) - (v88)) = zz ∧ (-2147483648 ≤ zz ∧ zz ≤ 2147483647) := ⟨_, rfl, hw_bd _⟩
  refine w_t (np := 82) (l2 := [some (eR a0), some (eR a1), some (eI (a2)), some (eI (a3)), some (eR a4), some (eI (a5))]) (s2 := [eI (v91), eJ (v76), eJ (v61), eJ (v52), eJ (v37), eJ (v22), eJ (v7), eR a0]) rfl (b_isub e92) rfl ?_
  refine w_t (np := 83) (l2 := [some (eR a0), some (eR a1), some (eI (a2)), some (eI (a3)), some (eR a4), some (eI (a5))]) (s2 := [eJ (v91), eJ (v76), eJ (v61), eJ (v52), eJ (v37), eJ (v22), eJ (v7), eR a0]) rfl (b_i2l (ev_w_in (by omega) (by omega))) rfl ?_
  refine w_t (np := 85) (l2 := [some (eR a0), some (eR a1), some (eI (a2)), some (eI (a3)), some (eR a4), some (eI (a5))]) (s2 := [eR a4, eJ (v91), eJ (v76), eJ (v61), eJ (v52), eJ (v37), eJ (v22), eJ (v7), eR a0]) rfl (s_ao rfl (pos_g hI gA4 (by decide))) rfl ?_
  refine w_t (np := 87) (l2 := [some (eR a0), some (eR a1), some (eI (a2)), some (eI (a3)), some (eR a4), some (eI (a5))]) (s2 := [eI (a5), eR a4, eJ (v91), eJ (v76), eJ (v61), eJ (v52), eJ (v37), eJ (v22), eJ (v7), eR a0]) rfl rfl rfl ?_
  refine w_t (np := 88) (l2 := [some (eR a0), some (eR a1), some (eI (a2)), some (eI (a3)), some (eR a4), some (eI (a5))]) (s2 := [eI (3), eI (a5), eR a4, eJ (v91), eJ (v76), eJ (v61), eJ (v52), eJ (v37), eJ (v22), eJ (v7), eR a0]) rfl rfl rfl ?_
  obtain ⟨v94, e95⟩ : ∃ zz : Int, zz = (a5) + (3) := ⟨_, rfl⟩
  have b96 : 3 ≤ v94 ∧ v94 ≤ 15 := by omega
  refine w_t (np := 89) (l2 := [some (eR a0), some (eR a1), some (eI (a2)), some (eI (a3)), some (eR a4), some (eI (a5))]) (s2 := [eI (v94), eR a4, eJ (v91), eJ (v76), eJ (v61), eJ (v52), eJ (v37), eJ (v22), eJ (v7), eR a0]) rfl (b_iadd (by rw [← e95]; exact ev_w_in (by omega) (by omega))) rfl ?_
  refine j_al (np := 90) rfl rfl hI gA4 (by decide) (n := 16) rfl rfl (lo := -2147483648) (hi := 2147483647) (fun _ => rfl) (by omega) (by omega) ?_
  intro v97 e98 b99
  refine w_t (np := 91) (l2 := [some (eR a0), some (eR a1), some (eI (a2)), some (eI (a3)), some (eR a4), some (eI (a5))]) (s2 := [eR a1, eI (v97), eJ (v91), eJ (v76), eJ (v61), eJ (v52), eJ (v37), eJ (v22), eJ (v7), eR a0]) rfl (s_an rfl (pos_g hI gA1 (by decide))) rfl ?_
  refine w_t (np := 92) (l2 := [some (eR a0), some (eR a1), some (eI (a2)), some (eI (a3)), some (eR a4), some (eI (a5))]) (s2 := [eI (a2), eR a1, eI (v97), eJ (v91), eJ (v76), eJ (v61), eJ (v52), eJ (v37), eJ (v22), eJ (v7), eR a0]) rfl rfl rfl ?_
  refine w_t (np := 93) (l2 := [some (eR a0), some (eR a1), some (eI (a2)), some (eI (a3)), some (eR a4), some (eI (a5))]) (s2 := [eI (3), eI (a2), eR a1, eI (v97), eJ (v91), eJ (v76), eJ (v61), eJ (v52), eJ (v37), eJ (v22), eJ (v7), eR a0]) rfl rfl rfl ?_
  obtain ⟨v100, e101⟩ : ∃ zz : Int, zz = (a2) + (3) := ⟨_, rfl⟩
  have b102 : 3 ≤ v100 ∧ v100 ≤ 15 := by omega
  refine w_t (np := 94) (l2 := [some (eR a0), some (eR a1), some (eI (a2)), some (eI (a3)), some (eR a4), some (eI (a5))]) (s2 := [eI (v100), eR a1, eI (v97), eJ (v91), eJ (v76), eJ (v61), eJ (v52), eJ (v37), eJ (v22), eJ (v7), eR a0]) rfl (b_iadd (by rw [← e101]; exact ev_w_in (by omega) (by omega))) rfl ?_
  refine j_al (np := 95) rfl rfl hI gA1 (by decide) (n := 16) rfl rfl (lo := -2147483648) (hi := 2147483647) (fun _ => rfl) (by omega) (by omega) ?_
  intro v103 e104 b105
  obtain ⟨v106, e107, b108⟩ : ∃ zz : Int, ev_w ((v97) - (v103)) = zz ∧ (-2147483648 ≤ zz ∧ zz ≤ 2147483647) := ⟨_, rfl, hw_bd _⟩
  refine w_t (np := 96) (l2 := [some (eR a0), some (eR a1), some (eI (a2)), some (eI (a3)), some (eR a4), some (eI (a5))]) (s2 := [eI (v106), eJ (v91), eJ (v76), eJ (v61), eJ (v52), eJ (v37), eJ (v22), eJ (v7), eR a0]) rfl (b_isub e107) rfl ?_
  refine w_t (np := 97) (l2 := [some (eR a0), some (eR a1), some (eI (a2)), some (eI (a3)), some (eR a4), some (eI (a5))]) (s2 := [eJ (v106), eJ (v91), eJ (v76), eJ (v61), eJ (v52), eJ (v37), eJ (v22), eJ (v7), eR a0]) rfl (b_i2l (ev_w_in (by omega) (by omega))) rfl ?_
  refine w_cw (np := 100) (as := [eJ (v7), eJ (v22), eJ (v37), eJ (v52), eJ (v61), eJ (v76), eJ (v91), eJ (v106)]) (l2 := [some (eR a0), some (eJ (v7)), none, some (eJ (v22)), none, some (eJ (v37)), none, some (eJ (v52)), none, some (eJ (v61)), none, some (eJ (v76)), none, some (eJ (v91)), none, some (eJ (v106)), none]) (rest := []) rfl rfl rfl (Nat.ble_eq.mp rfl) rfl rfl rfl (hI.kd gA0 (by decide) (n := 69) rfl) rfl ?_
  refine s_224 hI gA0 (by omega) (by omega) (by omega) (by omega) (by omega) (by omega) (by omega) (by omega) ?_
  intro m109 v112 I110 F111 b113
  have F114 : Fr l_305 0 0 g μ m109 := F0.t F111 rfl
  show ex_q (dt_fg L ρ) rc (d + 4, (305, 100, [some (eR a0), some (eR a1), some (eI (a2)), some (eI (a3)), some (eR a4), some (eI (a5))], [eI (v112)]), f :: F, m109)
  exact b_ri rfl rfl (K m109 (v112) I110 F114 (by omega))
def l_307 : List Nat := [13315, 13316, 13317, 13318]
theorem s_307 {L : Nat} {ρ : Nat → Int} {rc : eQ} {d : Nat} {f : eFr} {F : List eFr} {μ : eM} {g : Nat → Nat} {a0 : Nat} {a1 : Nat} {a2 : Int} {a3 : Int} {a4 : Nat} {a5 : Int} (hI : SI g μ) (gA0 : g a0 = 52) (gA1 : g a1 = 83) (bA2 : 0 ≤ a2 ∧ a2 ≤ 12) (bA3 : 0 ≤ a3 ∧ a3 ≤ 12) (gA4 : g a4 = 84) (bA5 : 0 ≤ a5 ∧ a5 ≤ 12) (K : ∀ (μ2 : eM) (v : Int), SI g μ2 → Fr l_307 0 0 g μ μ2 → (-1 ≤ v ∧ v ≤ 1) → ex_q (dt_fg L ρ) rc (d + 5, (f.1, f.2.1, f.2.2.1, eI v :: f.2.2.2), F, μ2)) : ex_q (dt_fg L ρ) rc (d + 4, (307, 0, [some (eR a0), some (eR a1), some (eI (a2)), some (eI (a3)), some (eR a4), some (eI (a5))], []), f :: F, μ) := by
  have F0 : Fr l_307 0 0 g μ μ := Fr.r
  refine w_t (np := 1) (l2 := [some (eR a0), some (eR a1), some (eI (a2)), some (eI (a3)), some (eR a4), some (eI (a5))]) (s2 := [eR a0]) rfl (s_an rfl (pos_g hI gA0 (by decide))) rfl ?_
  refine w_t (np := 2) (l2 := [some (eR a0), some (eR a1), some (eI (a2)), some (eI (a3)), some (eR a4), some (eI (a5))]) (s2 := [eR a1, eR a0]) rfl (s_an rfl (pos_g hI gA1 (by decide))) rfl ?_
  refine w_t (np := 3) (l2 := [some (eR a0), some (eR a1), some (eI (a2)), some (eI (a3)), some (eR a4), some (eI (a5))]) (s2 := [eI (a3), eR a1, eR a0]) rfl rfl rfl ?_
  refine j_al (np := 4) rfl rfl hI gA1 (by decide) (n := 16) rfl rfl (lo := -2147483648) (hi := 2147483647) (fun _ => rfl) (by omega) (by omega) ?_
  intro v1 e2 b3
  refine w_t (np := 5) (l2 := [some (eR a0), some (eR a1), some (eI (a2)), some (eI (a3)), some (eR a4), some (eI (a5))]) (s2 := [eR a1, eI (v1), eR a0]) rfl (s_an rfl (pos_g hI gA1 (by decide))) rfl ?_
  refine w_t (np := 6) (l2 := [some (eR a0), some (eR a1), some (eI (a2)), some (eI (a3)), some (eR a4), some (eI (a5))]) (s2 := [eI (a2), eR a1, eI (v1), eR a0]) rfl rfl rfl ?_
  refine j_al (np := 7) rfl rfl hI gA1 (by decide) (n := 16) rfl rfl (lo := -2147483648) (hi := 2147483647) (fun _ => rfl) (by omega) (by omega) ?_
  intro v4 e5 b6
  obtain ⟨v7, e8, b9⟩ : ∃ zz : Int, ev_w ((v1) - (v4)) = zz ∧ (-2147483648 ≤ zz ∧ zz ≤ 2147483647) := ⟨_, rfl, hw_bd _⟩
  refine w_t (np := 8) (l2 := [some (eR a0), some (eR a1), some (eI (a2)), some (eI (a3)), some (eR a4), some (eI (a5))]) (s2 := [eI (v7), eR a0]) rfl (b_isub e8) rfl ?_
  refine w_t (np := 9) (l2 := [some (eR a0), some (eR a1), some (eI (a2)), some (eI (a3)), some (eR a4), some (eI (a5))]) (s2 := [eJ (v7), eR a0]) rfl (b_i2l (ev_w_in (by omega) (by omega))) rfl ?_
  refine w_t (np := 10) (l2 := [some (eR a0), some (eR a1), some (eI (a2)), some (eI (a3)), some (eR a4), some (eI (a5))]) (s2 := [eR a1, eJ (v7), eR a0]) rfl (s_an rfl (pos_g hI gA1 (by decide))) rfl ?_
  refine w_t (np := 11) (l2 := [some (eR a0), some (eR a1), some (eI (a2)), some (eI (a3)), some (eR a4), some (eI (a5))]) (s2 := [eI (a3), eR a1, eJ (v7), eR a0]) rfl rfl rfl ?_
  refine w_t (np := 12) (l2 := [some (eR a0), some (eR a1), some (eI (a2)), some (eI (a3)), some (eR a4), some (eI (a5))]) (s2 := [eI (1), eI (a3), eR a1, eJ (v7), eR a0]) rfl rfl rfl ?_
  obtain ⟨v10, e11⟩ : ∃ zz : Int, zz = (a3) + (1) := ⟨_, rfl⟩
  have b12 : 1 ≤ v10 ∧ v10 ≤ 13 := by omega
  refine w_t (np := 13) (l2 := [some (eR a0), some (eR a1), some (eI (a2)), some (eI (a3)), some (eR a4), some (eI (a5))]) (s2 := [eI (v10), eR a1, eJ (v7), eR a0]) rfl (b_iadd (by rw [← e11]; exact ev_w_in (by omega) (by omega))) rfl ?_
  refine j_al (np := 14) rfl rfl hI gA1 (by decide) (n := 16) rfl rfl (lo := -2147483648) (hi := 2147483647) (fun _ => rfl) (by omega) (by omega) ?_
  intro v13 e14 b15
  refine w_t (np := 15) (l2 := [some (eR a0), some (eR a1), some (eI (a2)), some (eI (a3)), some (eR a4), some (eI (a5))]) (s2 := [eR a1, eI (v13), eJ (v7), eR a0]) rfl (s_an rfl (pos_g hI gA1 (by decide))) rfl ?_
  refine w_t (np := 16) (l2 := [some (eR a0), some (eR a1), some (eI (a2)), some (eI (a3)), some (eR a4), some (eI (a5))]) (s2 := [eI (a2), eR a1, eI (v13), eJ (v7), eR a0]) rfl rfl rfl ?_
  refine w_t (np := 17) (l2 := [some (eR a0), some (eR a1), some (eI (a2)), some (eI (a3)), some (eR a4), some (eI (a5))]) (s2 := [eI (1), eI (a2), eR a1, eI (v13), eJ (v7), eR a0]) rfl rfl rfl ?_
  obtain ⟨v16, e17⟩ : ∃ zz : Int, zz = (a2) + (1) := ⟨_, rfl⟩
  have b18 : 1 ≤ v16 ∧ v16 ≤ 13 := by omega
  refine w_t (np := 18) (l2 := [some (eR a0), some (eR a1), some (eI (a2)), some (eI (a3)), some (eR a4), some (eI (a5))]) (s2 := [eI (v16), eR a1, eI (v13), eJ (v7), eR a0]) rfl (b_iadd (by rw [← e17]; exact ev_w_in (by omega) (by omega))) rfl ?_
  refine j_al (np := 19) rfl rfl hI gA1 (by decide) (n := 16) rfl rfl (lo := -2147483648) (hi := 2147483647) (fun _ => rfl) (by omega) (by omega) ?_
  intro v19 e20 b21
  obtain ⟨v22, e23, b24⟩ : ∃ zz : Int, ev_w ((v13) - (v19)) = zz ∧ (-2147483648 ≤ zz ∧ zz ≤ 2147483647) := ⟨_, rfl, hw_bd _⟩
  refine w_t (np := 20) (l2 := [some (eR a0), some (eR a1), some (eI (a2)), some (eI (a3)), some (eR a4), some (eI (a5))]) (s2 := [eI (v22), eJ (v7), eR a0]) rfl (b_isub e23) rfl ?_
  refine w_t (np := 21) (l2 := [some (eR a0), some (eR a1), some (eI (a2)), some (eI (a3)), some (eR a4), some (eI (a5))]) (s2 := [eJ (v22), eJ (v7), eR a0]) rfl (b_i2l (ev_w_in (by omega) (by omega))) rfl ?_
  refine w_t (np := 22) (l2 := [some (eR a0), some (eR a1), some (eI (a2)), some (eI (a3)), some (eR a4), some (eI (a5))]) (s2 := [eR a1, eJ (v22), eJ (v7), eR a0]) rfl (s_an rfl (pos_g hI gA1 (by decide))) rfl ?_
  refine w_t (np := 23) (l2 := [some (eR a0), some (eR a1), some (eI (a2)), some (eI (a3)), some (eR a4), some (eI (a5))]) (s2 := [eI (a3), eR a1, eJ (v22), eJ (v7), eR a0]) rfl rfl rfl ?_
  refine w_t (np := 24) (l2 := [some (eR a0), some (eR a1), some (eI (a2)), some (eI (a3)), some (eR a4), some (eI (a5))]) (s2 := [eI (2), eI (a3), eR a1, eJ (v22), eJ (v7), eR a0]) rfl rfl rfl ?_
  obtain ⟨v25, e26⟩ : ∃ zz : Int, zz = (a3) + (2) := ⟨_, rfl⟩
  have b27 : 2 ≤ v25 ∧ v25 ≤ 14 := by omega
  refine w_t (np := 25) (l2 := [some (eR a0), some (eR a1), some (eI (a2)), some (eI (a3)), some (eR a4), some (eI (a5))]) (s2 := [eI (v25), eR a1, eJ (v22), eJ (v7), eR a0]) rfl (b_iadd (by rw [← e26]; exact ev_w_in (by omega) (by omega))) rfl ?_
  refine j_al (np := 26) rfl rfl hI gA1 (by decide) (n := 16) rfl rfl (lo := -2147483648) (hi := 2147483647) (fun _ => rfl) (by omega) (by omega) ?_
  intro v28 e29 b30
  refine w_t (np := 27) (l2 := [some (eR a0), some (eR a1), some (eI (a2)), some (eI (a3)), some (eR a4), some (eI (a5))]) (s2 := [eR a1, eI (v28), eJ (v22), eJ (v7), eR a0]) rfl (s_an rfl (pos_g hI gA1 (by decide))) rfl ?_
  refine w_t (np := 28) (l2 := [some (eR a0), some (eR a1), some (eI (a2)), some (eI (a3)), some (eR a4), some (eI (a5))]) (s2 := [eI (a2), eR a1, eI (v28), eJ (v22), eJ (v7), eR a0]) rfl rfl rfl ?_
  refine w_t (np := 29) (l2 := [some (eR a0), some (eR a1), some (eI (a2)), some (eI (a3)), some (eR a4), some (eI (a5))]) (s2 := [eI (2), eI (a2), eR a1, eI (v28), eJ (v22), eJ (v7), eR a0]) rfl rfl rfl ?_
  obtain ⟨v31, e32⟩ : ∃ zz : Int, zz = (a2) + (2) := ⟨_, rfl⟩
  have b33 : 2 ≤ v31 ∧ v31 ≤ 14 := by omega
  refine w_t (np := 30) (l2 := [some (eR a0), some (eR a1), some (eI (a2)), some (eI (a3)), some (eR a4), some (eI (a5))]) (s2 := [eI (v31), eR a1, eI (v28), eJ (v22), eJ (v7), eR a0]) rfl (b_iadd (by rw [← e32]; exact ev_w_in (by omega) (by omega))) rfl ?_
  refine j_al (np := 31) rfl rfl hI gA1 (by decide) (n := 16) rfl rfl (lo := -2147483648) (hi := 2147483647) (fun _ => rfl) (by omega) (by omega) ?_
  intro v34 e35 b36
  obtain ⟨v37, e38, b39⟩ : ∃ zz : Int, ev_w ((v28) - (v34)) = zz ∧ (-2147483648 ≤ zz ∧ zz ≤ 2147483647) := ⟨_, rfl, hw_bd _⟩
  refine w_t (np := 32) (l2 := [some (eR a0), some (eR a1), some (eI (a2)), some (eI (a3)), some (eR a4), some (eI (a5))]) (s2 := [eI (v37), eJ (v22), eJ (v7), eR a0]) rfl (b_isub e38) rfl ?_
  refine w_t (np := 33) (l2 := [some (eR a0), some (eR a1), some (eI (a2)), some (eI (a3)), some (eR a4), some (eI (a5))]) (s2 := [eJ (v37), eJ (v22), eJ (v7), eR a0]) rfl (b_i2l (ev_w_in (by omega) (by omega))) rfl ?_
  refine w_t (np := 34) (l2 := [some (eR a0), some (eR a1), some (eI (a2)), some (eI (a3)), some (eR a4), some (eI (a5))]) (s2 := [eR a1, eJ (v37), eJ (v22), eJ (v7), eR a0]) rfl (s_an rfl (pos_g hI gA1 (by decide))) rfl ?_
  refine w_t (np := 35) (l2 := [some (eR a0), some (eR a1), some (eI (a2)), some (eI (a3)), some (eR a4), some (eI (a5))]) (s2 := [eI (a3), eR a1, eJ (v37), eJ (v22), eJ (v7), eR a0]) rfl rfl rfl ?_
  refine w_t (np := 36) (l2 := [some (eR a0), some (eR a1), some (eI (a2)), some (eI (a3)), some (eR a4), some (eI (a5))]) (s2 := [eI (3), eI (a3), eR a1, eJ (v37), eJ (v22), eJ (v7), eR a0]) rfl rfl rfl ?_
  obtain ⟨v40, e41⟩ : ∃ zz : Int, zz = (a3) + (3) := ⟨_, rfl⟩
  have b42 : 3 ≤ v40 ∧ v40 ≤ 15 := by omega
  refine w_t (np := 37) (l2 := [some (eR a0), some (eR a1), some (eI (a2)), some (eI (a3)), some (eR a4), some (eI (a5))]) (s2 := [eI (v40), eR a1, eJ (v37), eJ (v22), eJ (v7), eR a0]) rfl (b_iadd (by rw [← e41]; exact ev_w_in (by omega) (by omega))) rfl ?_
  refine j_al (np := 38) rfl rfl hI gA1 (by decide) (n := 16) rfl rfl (lo := -2147483648) (hi := 2147483647) (fun _ => rfl) (by omega) (by omega) ?_
  intro v43 e44 b45
  refine w_t (np := 39) (l2 := [some (eR a0), some (eR a1), some (eI (a2)), some (eI (a3)), some (eR a4), some (eI (a5))]) (s2 := [eR a1, eI (v43), eJ (v37), eJ (v22), eJ (v7), eR a0]) rfl (s_an rfl (pos_g hI gA1 (by decide))) rfl ?_
  refine w_t (np := 40) (l2 := [some (eR a0), some (eR a1), some (eI (a2)), some (eI (a3)), some (eR a4), some (eI (a5))]) (s2 := [eI (a2), eR a1, eI (v43), eJ (v37), eJ (v22), eJ (v7), eR a0]) rfl rfl rfl ?_
  refine w_t (np := 41) (l2 := [some (eR a0), some (eR a1), some (eI (a2)), some (eI (a3)), some (eR a4), some (eI (a5))]) (s2 := [eI (3), eI (a2), eR a1, eI (v43), eJ (v37), eJ (v22), eJ (v7), eR a0]) rfl rfl rfl ?_
  obtain ⟨v46, e47⟩ : ∃ zz : Int, zz = (a2) + (3) := ⟨_, rfl⟩
  have b48 : 3 ≤ v46 ∧ v46 ≤ 15 := by omega
  refine w_t (np := 42) (l2 := [some (eR a0), some (eR a1), some (eI (a2)), some (eI (a3)), some (eR a4), some (eI (a5))]) (s2 := [eI (v46), eR a1, eI (v43), eJ (v37), eJ (v22), eJ (v7), eR a0]) rfl (b_iadd (by rw [← e47]; exact ev_w_in (by omega) (by omega))) rfl ?_
  refine j_al (np := 43) rfl rfl hI gA1 (by decide) (n := 16) rfl rfl (lo := -2147483648) (hi := 2147483647) (fun _ => rfl) (by omega) (by omega) ?_
  intro v49 e50 b51
  obtain ⟨v52, e53, b54⟩ : ∃ zz : Int, ev_w ((v43) - (v49)) = zz ∧ (-2147483648 ≤ zz ∧ zz ≤ 2147483647) := ⟨_, rfl, hw_bd _⟩
  refine w_t (np := 44) (l2 := [some (eR a0), some (eR a1), some (eI (a2)), some (eI (a3)), some (eR a4), some (eI (a5))]) (s2 := [eI (v52), eJ (v37), eJ (v22), eJ (v7), eR a0]) rfl (b_isub e53) rfl ?_
  refine w_t (np := 45) (l2 := [some (eR a0), some (eR a1), some (eI (a2)), some (eI (a3)), some (eR a4), some (eI (a5))]) (s2 := [eJ (v52), eJ (v37), eJ (v22), eJ (v7), eR a0]) rfl (b_i2l (ev_w_in (by omega) (by omega))) rfl ?_
  refine w_t (np := 47) (l2 := [some (eR a0), some (eR a1), some (eI (a2)), some (eI (a3)), some (eR a4), some (eI (a5))]) (s2 := [eR a4, eJ (v52), eJ (v37), eJ (v22), eJ (v7), eR a0]) rfl (s_ao rfl (pos_g hI gA4 (by decide))) rfl ?_
  refine w_t (np := 49) (l2 := [some (eR a0), some (eR a1), some (eI (a2)), some (eI (a3)), some (eR a4), some (eI (a5))]) (s2 := [eI (a5), eR a4, eJ (v52), eJ (v37), eJ (v22), eJ (v7), eR a0]) rfl rfl rfl ?_
  refine j_al (np := 50) rfl rfl hI gA4 (by decide) (n := 16) rfl rfl (lo := -2147483648) (hi := 2147483647) (fun _ => rfl) (by omega) (by omega) ?_
  intro v55 e56 b57
  refine w_t (np := 51) (l2 := [some (eR a0), some (eR a1), some (eI (a2)), some (eI (a3)), some (eR a4), some (eI (a5))]) (s2 := [eR a1, eI (v55), eJ (v52), eJ (v37), eJ (v22), eJ (v7), eR a0]) rfl (s_an rfl (pos_g hI gA1 (by decide))) rfl ?_
  refine w_t (np := 52) (l2 := [some (eR a0), some (eR a1), some (eI (a2)), some (eI (a3)), some (eR a4), some (eI (a5))]) (s2 := [eI (a2), eR a1, eI (v55), eJ (v52), eJ (v37), eJ (v22), eJ (v7), eR a0]) rfl rfl rfl ?_
  refine j_al (np := 53) rfl rfl hI gA1 (by decide) (n := 16) rfl rfl (lo := -2147483648) (hi := 2147483647) (fun _ => rfl) (by omega) (by omega) ?_
  intro v58 e59 b60
  have e59 := e59.symm.trans e5
  rw [e59]
  obtain ⟨v61, e62, b63⟩ : ∃ zz : Int, ev_w ((v55) - (v4)) = zz ∧ (-2147483648 ≤ zz ∧ zz ≤ 2147483647) := ⟨_, rfl, hw_bd _⟩
  refine w_t (np := 54) (l2 := [some (eR a0), some (eR a1), some (eI (a2)), some (eI (a3)), some (eR a4), some (eI (a5))]) (s2 := [eI (v61), eJ (v52), eJ (v37), eJ (v22), eJ (v7), eR a0]) rfl (b_isub e62) rfl ?_
  refine w_t (np := 55) (l2 := [some (eR a0), some (eR a1), some (eI (a2)), some (eI (a3)), some (eR a4), some (eI (a5))]) (s2 := [eJ (v61), eJ (v52), eJ (v37), eJ (v22), eJ (v7), eR a0]) rfl (b_i2l (ev_w_in (by omega) (by omega))) rfl ?_
  refine w_t (np := 57) (l2 := [some (eR a0), some (eR a1), some (eI (a2)), some (eI (a3)), some (eR a4), some (eI (a5))]) (s2 := [eR a4, eJ (v61), eJ (v52), eJ (v37), eJ (v22), eJ (v7), eR a0]) rfl (s_ao rfl (pos_g hI gA4 (by decide))) rfl ?_
  refine w_t (np := 59) (l2 := [some (eR a0), some (eR a1), some (eI (a2)), some (eI (a3)), some (eR a4), some (eI (a5))]) (s2 := [eI (a5), eR a4, eJ (v61), eJ (v52), eJ (v37), eJ (v22), eJ (v7), eR a0]) rfl rfl rfl ?_
  refine w_t (np := 60) (l2 := [some (eR a0), some (eR a1), some (eI (a2)), some (eI (a3)), some (eR a4), some (eI (a5))]) (s2 := [eI (1), eI (a5), eR a4, eJ (v61), eJ (v52), eJ (v37), eJ (v22), eJ (v7), eR a0]) rfl rfl rfl ?_
  obtain ⟨v64, e65⟩ : ∃ zz : Int, zz = (a5) + (1) := ⟨_, rfl⟩
  have b66 : 1 ≤ v64 ∧ v64 ≤ 13 := by omega
  refine w_t (np := 61) (l2 := [some (eR a0), some (eR a1), some (eI (a2)), some (eI (a3)), some (eR a4), some (eI (a5))]) (s2 := [eI (v64), eR a4, eJ (v61), eJ (v52), eJ (v37), eJ (v22), eJ (v7), eR a0]) rfl (b_iadd (by rw [← e65]; exact ev_w_in (by omega) (by omega))) rfl ?_
  refine j_al (np := 62) rfl rfl hI gA4 (by decide) (n := 16) rfl rfl (lo := -2147483648) (hi := 2147483647) (fun _ => rfl) (by omega) (by omega) ?_
  intro v67 e68 b69
  refine w_t (np := 63) (l2 := [some (eR a0), some (eR a1), some (eI (a2)), some (eI (a3)), some (eR a4), some (eI (a5))]) (s2 := [eR a1, eI (v67), eJ (v61), eJ (v52), eJ (v37), eJ (v22), eJ (v7), eR a0]) rfl (s_an rfl (pos_g hI gA1 (by decide))) rfl ?_
  refine w_t (np := 64) (l2 := [some (eR a0), some (eR a1), some (eI (a2)), some (eI (a3)), some (eR a4), some (eI (a5))]) (s2 := [eI (a2), eR a1, eI (v67), eJ (v61), eJ (v52), eJ (v37), eJ (v22), eJ (v7), eR a0]) rfl rfl rfl ?_
  refine w_t (np := 65) (l2 := [some (eR a0), some (eR a1), some (eI (a2)), some (eI (a3)), some (eR a4), some (eI (a5))]) (s2 := [eI (1), eI (a2), eR a1, eI (v67), eJ (v61), eJ (v52), eJ (v37), eJ (v22), eJ (v7), eR a0]) rfl rfl rfl ?_
  obtain ⟨v70, e71⟩ : ∃ zz : Int, zz = (a2) + (1) := ⟨_, rfl⟩
  have b72 : 1 ≤ v70 ∧ v70 ≤ 13 := by omega
  refine w_t (np := 66) (l2 := [some (eR a0), some (eR a1), some (eI (a2)), some (eI (a3)), some (eR a4), some (eI (a5))]) (s2 := [eI (v70), eR a1, eI (v67), eJ (v61), eJ (v52), eJ (v37), eJ (v22), eJ (v7), eR a0]) rfl (b_iadd (by rw [← e71]; exact ev_w_in (by omega) (by omega))) rfl ?_
  refine j_al (np := 67) rfl rfl hI gA1 (by decide) (n := 16) rfl rfl (lo := -2147483648) (hi := 2147483647) (fun _ => rfl) (by omega) (by omega) ?_
  intro v73 e74 b75
  obtain ⟨v76, e77, b78⟩ : ∃ zz : Int, ev_w ((v67) - (v73)) = zz ∧ (-2147483648 ≤ zz ∧ zz ≤ 2147483647) := ⟨_, rfl, hw_bd _⟩
  refine w_t (np := 68) (l2 := [some (eR a0), some (eR a1), some (eI (a2)), some (eI (a3)), some (eR a4), some (eI (a5))]) (s2 := [eI (v76), eJ (v61), eJ (v52), eJ (v37), eJ (v22), eJ (v7), eR a0]) rfl (b_isub e77) rfl ?_
  refine w_t (np := 69) (l2 := [some (eR a0), some (eR a1), some (eI (a2)), some (eI (a3)), some (eR a4), some (eI (a5))]) (s2 := [eJ (v76), eJ (v61), eJ (v52), eJ (v37), eJ (v22), eJ (v7), eR a0]) rfl (b_i2l (ev_w_in (by omega) (by omega))) rfl ?_
  refine w_t (np := 71) (l2 := [some (eR a0), some (eR a1), some (eI (a2)), some (eI (a3)), some (eR a4), some (eI (a5))]) (s2 := [eR a4, eJ (v76), eJ (v61), eJ (v52), eJ (v37), eJ (v22), eJ (v7), eR a0]) rfl (s_ao rfl (pos_g hI gA4 (by decide))) rfl ?_
  refine w_t (np := 73) (l2 := [some (eR a0), some (eR a1), some (eI (a2)), some (eI (a3)), some (eR a4), some (eI (a5))]) (s2 := [eI (a5), eR a4, eJ (v76), eJ (v61), eJ (v52), eJ (v37), eJ (v22), eJ (v7), eR a0]) rfl rfl rfl ?_
  refine w_t (np := 74) (l2 := [some (eR a0), some (eR a1), some (eI (a2)), some (eI (a3)), some (eR a4), some (eI (a5))]) (s2 := [eI (2), eI (a5), eR a4, eJ (v76), eJ (v61), eJ (v52), eJ (v37), eJ (v22), eJ (v7), eR a0]) rfl rfl rfl ?_
  obtain ⟨v79, e80⟩ : ∃ zz : Int, zz = (a5) + (2) := ⟨_, rfl⟩
  have b81 : 2 ≤ v79 ∧ v79 ≤ 14 := by omega
  refine w_t (np := 75) (l2 := [some (eR a0), some (eR a1), some (eI (a2)), some (eI (a3)), some (eR a4), some (eI (a5))]) (s2 := [eI (v79), eR a4, eJ (v76), eJ (v61), eJ (v52), eJ (v37), eJ (v22), eJ (v7), eR a0]) rfl (b_iadd (by rw [← e80]; exact ev_w_in (by omega) (by omega))) rfl ?_
  refine j_al (np := 76) rfl rfl hI gA4 (by decide) (n := 16) rfl rfl (lo := -2147483648) (hi := 2147483647) (fun _ => rfl) (by omega) (by omega) ?_
  intro v82 e83 b84
  refine w_t (np := 77) (l2 := [some (eR a0), some (eR a1), some (eI (a2)), some (eI (a3)), some (eR a4), some (eI (a5))]) (s2 := [eR a1, eI (v82), eJ (v76), eJ (v61), eJ (v52), eJ (v37), eJ (v22), eJ (v7), eR a0]) rfl (s_an rfl (pos_g hI gA1 (by decide))) rfl ?_
  refine w_t (np := 78) (l2 := [some (eR a0), some (eR a1), some (eI (a2)), some (eI (a3)), some (eR a4), some (eI (a5))]) (s2 := [eI (a2), eR a1, eI (v82), eJ (v76), eJ (v61), eJ (v52), eJ (v37), eJ (v22), eJ (v7), eR a0]) rfl rfl rfl ?_
  refine w_t (np := 79) (l2 := [some (eR a0), some (eR a1), some (eI (a2)), some (eI (a3)), some (eR a4), some (eI (a5))]) (s2 := [eI (2), eI (a2), eR a1, eI (v82), eJ (v76), eJ (v61), eJ (v52), eJ (v37), eJ (v22), eJ (v7), eR a0]) rfl rfl rfl ?_
  obtain ⟨v85, e86⟩ : ∃ zz : Int, zz = (a2) + (2) := ⟨_, rfl⟩
  have b87 : 2 ≤ v85 ∧ v85 ≤ 14 := by omega
  refine w_t (np := 80) (l2 := [some (eR a0), some (eR a1), some (eI (a2)), some (eI (a3)), some (eR a4), some (eI (a5))]) (s2 := [eI (v85), eR a1, eI (v82), eJ (v76), eJ (v61), eJ (v52), eJ (v37), eJ (v22), eJ (v7), eR a0]) rfl (b_iadd (by rw [← e86]; exact ev_w_in (by omega) (by omega))) rfl ?_
  refine j_al (np := 81) rfl rfl hI gA1 (by decide) (n := 16) rfl rfl (lo := -2147483648) (hi := 2147483647) (fun _ => rfl) (by omega) (by omega) ?_
  intro v88 e89 b90
  obtain ⟨v91, e92, b93⟩ : ∃ zz : Int, ev_w ((v82) - (v88)) = zz ∧ (-2147483648 ≤ zz ∧ zz ≤ 2147483647) := ⟨_, rfl, hw_bd _⟩
  refine w_t (np := 82) (l2 := [some (eR a0), some (eR a1), some (eI (a2)), some (eI (a3)), some (eR a4), some (eI (a5))]) (s2 := [eI (v91), eJ (v76), eJ (v61), eJ (v52), eJ (v37), eJ (v22), eJ (v7), eR a0]) rfl (b_isub e92) rfl ?_
  refine w_t (np := 83) (l2 := [some (eR a0), some (eR a1), some (eI (a2)), some (eI (a3)), some (eR a4), some (eI (a5))]) (s2 := [eJ (v91), eJ (v76), eJ (v61), eJ (v52), eJ (v37), eJ (v22), eJ (v7), eR a0]) rfl (b_i2l (ev_w_in (by omega) (by omega))) rfl ?_
  refine w_t (np := 85) (l2 := [some (eR a0), some (eR a1), some (eI (a2)), some (eI (a3)), some (eR a4), some (eI (a5))]) (s2 := [eR a4, eJ (v91), eJ (v76), eJ (v61), eJ (v52), eJ (v37), eJ (v22), eJ (v7), eR a0]) rfl (s_ao rfl (pos_g hI gA4 (by decide))) rfl ?_
  refine w_t (np := 87) (l2 := [some (eR a0), some (eR a1), some (eI (a2)), some (eI (a3)), some (eR a4), some (eI (a5))]) (s2 := [eI (a5), eR a4, eJ (v91), eJ (v76), eJ (v61), eJ (v52), eJ (v37), eJ (v22), eJ (v7), eR a0]) rfl rfl rfl ?_
  refine w_t (np := 88) (l2 := [some (eR a0), some (eR a1), some (eI (a2)), some (eI (a3)), some (eR a4), some (eI (a5))]) (s2 := [eI (3), eI (a5), eR a4, eJ (v91), eJ (v76), eJ (v61), eJ (v52), eJ (v37), eJ (v22), eJ (v7), eR a0]) rfl rfl rfl ?_
  obtain ⟨v94, e95⟩ : ∃ zz : Int, zz = (a5) + (3) := ⟨_, rfl⟩
  have b96 : 3 ≤ v94 ∧ v94 ≤ 15 := by omega
  refine w_t (np := 89) (l2 := [some (eR a0), some (eR a1), some (eI (a2)), some (eI (a3)), some (eR a4), some (eI (a5))]) (s2 := [eI (v94), eR a4, eJ (v91), eJ (v76), eJ (v61), eJ (v52), eJ (v37), eJ (v22), eJ (v7), eR a0]) rfl (b_iadd (by rw [← e95]; exact ev_w_in (by omega) (by omega))) rfl ?_
  refine j_al (np := 90) rfl rfl hI gA4 (by decide) (n := 16) rfl rfl (lo := -2147483648) (hi := 2147483647) (fun _ => rfl) (by omega) (by omega) ?_
  intro v97 e98 b99
  refine w_t (np := 91) (l2 := [some (eR a0), some (eR a1), some (eI (a2)), some (eI (a3)), some (eR a4), some (eI (a5))]) (s2 := [eR a1, eI (v97), eJ (v91), eJ (v76), eJ (v61), eJ (v52), eJ (v37), eJ (v22), eJ (v7), eR a0]) rfl (s_an rfl (pos_g hI gA1 (by decide))) rfl ?_
  refine w_t (np := 92) (l2 := [some (eR a0), some (eR a1), some (eI (a2)), some (eI (a3)), some (eR a4), some (eI (a5))]) (s2 := [eI (a2), eR a1, eI (v97), eJ (v91), eJ (v76), eJ (v61), eJ (v52), eJ (v37), eJ (v22), eJ (v7), eR a0]) rfl rfl rfl ?_
  refine w_t (np := 93) (l2 := [some (eR a0), some (eR a1), some (eI (a2)), some (eI (a3)), some (eR a4), some (eI (a5))]) (s2 := [eI (3), eI (a2), eR a1, eI (v97), eJ (v91), eJ (v76), eJ (v61), eJ (v52), eJ (v37), eJ (v22), eJ (v7), eR a0]) rfl rfl rfl ?_
  obtain ⟨v100, e101⟩ : ∃ zz : Int, zz = (a2) + (3) := ⟨_, rfl⟩
  have b102 : 3 ≤ v100 ∧ v100 ≤ 15 := by omega
  refine w_t (np := 94) (l2 := [some (eR a0), some (eR a1), some (eI (a2)), some (eI (a3)), some (eR a4), some (eI (a5))]) (s2 := [eI (v100), eR a1, eI (v97), eJ (v91), eJ (v76), eJ (v61), eJ (v52), eJ (v37), eJ (v22), eJ (v7), eR a0]) rfl (b_iadd (by rw [← e101]; exact ev_w_in (by omega) (by omega))) rfl ?_
  refine j_al (np := 95) rfl rfl hI gA1 (by decide) (n := 16) rfl rfl (lo := -2147483648) (hi := 2147483647) (fun _ => rfl) (by omega) (by omega) ?_
  intro v103 e104 b105
  obtain ⟨v106, e107, b108⟩ : ∃ zz : Int, ev_w ((v97) - (v103)) = zz ∧ (-2147483648 ≤ zz ∧ zz ≤ 2147483647) := ⟨_, rfl, hw_bd _⟩
  refine w_t (np := 96) (l2 := [some (eR a0), some (eR a1), some (eI (a2)), some (eI (a3)), some (eR a4), some (eI (a5))]) (s2 := [eI (v106), eJ (v91), eJ (v76), eJ (v61), eJ (v52), eJ (v37), eJ (v22), eJ (v7), eR a0]) rfl (b_isub e107) rfl ?_
  refine w_t (np := 97) (l2 := [some (eR a0), some (eR a1), some (eI (a2)), some (eI (a3)), some (eR a4), some (eI (a5))]) (s2 := [eJ (v106), eJ (v91), eJ (v76), eJ (v61), eJ (v52), eJ (v37), eJ (v22), eJ (v7), eR a0]) rfl (b_i2l (ev_w_in (by omega) (by omega))) rfl ?_
  refine w_cw (np := 100) (as := [eJ (v7), eJ (v22), eJ (v37), eJ (v52), eJ (v61), eJ (v76), eJ (v91), eJ (v106)]) (l2 := [some (eR a0), some (eJ (v7)), none, some (eJ (v22)), none, some (eJ (v37)), none, some (eJ (v52)), none, some (eJ (v61)), none, some (eJ (v76)), none, some (eJ (v91)), none, some (eJ (v106)), none]) (rest := []) rfl rfl rfl (Nat.ble_eq.mp rfl) rfl rfl rfl (hI.kd gA0 (by decide) (n := 69) rfl) rfl ?_
  refine s_225 hI gA0 (by omega) (by omega) (by omega) (by omega) (by omega) (by omega) (by omega) (by omega) ?_
  intro m109 v112 I110 F111 b113
  have F114 : Fr l_307 0 0 g μ m109 := F0.t F111 rfl
  show ex_q (dt_fg L ρ) rc (d + 4, (307, 100, [some (eR a0), some (eR a1), some (eI (a2)), some (eI (a3)), some (eR a4), some (eI (a5))], [eI (v112)]), f :: F, m109)
  exact b_ri rfl rfl (K m109 (v112) I110 F114 (by omega))
def l_318 : List Nat := [13313, 13314, 13362]
theorem s_318 {L : Nat} {ρ : Nat → Int} {rc : eQ} {d : Nat} {f : eFr} {F : List eFr} {μ : eM} {g : Nat → Nat} {a0 : Nat} (hI : SI g μ) (gA0 : g a0 = 52) (K : ∀ (μ2 : eM) (v : Int), SI g μ2 → Fr l_318 0 0 g μ μ2 → (-2147483648 ≤ v ∧ v ≤ 2147483647) → ex_q (dt_fg L ρ) rc (d + 2, (f.1, f.2.1, f.2.2.1, eI v :: f.2.2.2), F, μ2)) : ex_q (dt_fg L ρ) rc (d + 1, (318, 0, [some (eR a0), none], []), f :: F, μ) := by
  have F0 : Fr l_318 0 0 g μ μ := Fr.r
  refine w_t (np := 1) (l2 := [some (eR a0), none]) (s2 := [eR a0]) rfl (s_an rfl (pos_g hI gA0 (by decide))) rfl ?_
  refine w_t (np := 2) (l2 := [some (eR a0), none]) (s2 := [eI (0), eR a0]) rfl rfl rfl ?_
  refine w_cw (np := 5) (as := [eI (0)]) (l2 := [some (eR a0), some (eI (0))]) (rest := []) rfl rfl rfl (Nat.ble_eq.mp rfl) rfl rfl rfl (hI.kd gA0 (by decide) (n := 69) rfl) rfl ?_
  refine w_t (np := 1) (l2 := [some (eR a0), some (eI (0))]) (s2 := [eR a0]) rfl (s_an rfl (pos_g hI gA0 (by decide))) rfl ?_
  refine w_t (np := 2) (l2 := [some (eR a0), some (eI (0))]) (s2 := [eI (0), eR a0]) rfl rfl rfl ?_
  refine j_pf (np := 5) (w := 0) rfl rfl hI gA0 (by decide) (n := 69) rfl rfl (hO_i (lo := -2147483648) (hi := 2147483647) rfl (by decide)) ?_
  intro m1 I2 W3
  have F4 : Fr l_318 0 0 g μ m1 := F0.w W3 gA0 rfl
  refine w_t (np := 6) (l2 := [some (eR a0), some (eI (0))]) (s2 := [eR a0]) rfl (s_an rfl (pos_g I2 gA0 (by decide))) rfl ?_
  refine w_t (np := 7) (l2 := [some (eR a0), some (eI (0))]) (s2 := [eI (0), eR a0]) rfl rfl rfl ?_
  refine j_pf (np := 10) (w := 0) rfl rfl I2 gA0 (by decide) (n := 69) rfl rfl (hO_i (lo := -2147483648) (hi := 2147483647) rfl (by decide)) ?_
  intro m5 I6 W7
  have F8 : Fr l_318 0 0 g μ m5 := F4.w W7 gA0 rfl
  refine w_t (np := 11) (l2 := [some (eR a0), some (eI (0))]) (s2 := [eI (0)]) rfl rfl rfl ?_
  refine b_ine (t1 := 18) (t2 := 14) rfl rfl rfl rfl (fun g9 => absurd g9 (by decide)) (fun g9 => ?_)
  refine w_t (np := 15) (l2 := [some (eR a0), some (eI (0))]) (s2 := [eI (1)]) rfl rfl rfl ?_
  refine w_go (t1 := 19) rfl rfl ?_
  refine b_rz rfl rfl (Or.inr rfl) ?_
  show ex_q (dt_fg L ρ) rc (d + 1, (318, 5, [some (eR a0), none], [eI (1)]), f :: F, m5)
  refine w_t (np := 6) (l2 := [some (eR a0), none]) (s2 := []) rfl rfl rfl ?_
  refine w_t (np := 7) (l2 := [some (eR a0), none]) (s2 := [eR a0]) rfl (s_an rfl (pos_g I6 gA0 (by decide))) rfl ?_
  refine j_gi (np := 10) rfl rfl rfl I6 gA0 (by decide) (n := 69) rfl rfl (lo := 0) (hi := 24) rfl ?_
  intro v10 e11 b12
  refine w_t (np := 11) (l2 := [some (eR a0), some (eI (v10))]) (s2 := []) rfl rfl rfl ?_
  refine w_t (np := 12) (l2 := [some (eR a0), some (eI (v10))]) (s2 := [eR a0]) rfl (s_an rfl (pos_g I6 gA0 (by decide))) rfl ?_
  refine w_t (np := 13) (l2 := [some (eR a0), some (eI (v10))]) (s2 := [eI (0), eR a0]) rfl rfl rfl ?_
  refine j_pf (np := 16) (w := 0) rfl rfl I6 gA0 (by decide) (n := 69) rfl rfl (hO_i (lo := 0) (hi := 24) rfl (by decide)) ?_
  intro m13 I14 W15
  have F16 : Fr l_318 0 0 g μ m13 := F8.w W15 gA0 rfl
  refine w_t (np := 17) (l2 := [some (eR a0), some (eI (v10))]) (s2 := [eI (v10)]) rfl rfl rfl ?_
  exact b_ri rfl rfl (K m13 (v10) I14 F16 (by omega))
def l_319 : List Nat := [13313, 13314]
theorem s_319 {L : Nat} {ρ : Nat → Int} {rc : eQ} {d : Nat} {f : eFr} {F : List eFr} {μ : eM} {g : Nat → Nat} {a0 : Nat} {a1 : Int} {a2 : Int} (hI : SI g μ) (gA0 : g a0 = 52) (bA1 : -2147483648 ≤ a1 ∧ a1 ≤ 2147483647) (bA2 : -2147483648 ≤ a2 ∧ a2 ≤ 2147483647) (K : ∀ (μ2 : eM) (v : Int), SI g μ2 → Fr l_319 0 0 g μ μ2 → (-2147483648 ≤ v ∧ v ≤ 2147483647) → ex_q (dt_fg L ρ) rc (d + 3, (f.1, f.2.1, f.2.2.1, eI v :: f.2.2.2), F, μ2)) : ex_q (dt_fg L ρ) rc (d + 2, (319, 0, [some (eR a0), some (eI (a1)), some (eI (a2))], []), f :: F, μ) := by
  have F0 : Fr l_319 0 0 g μ μ := Fr.r
  refine w_t (np := 1) (l2 := [some (eR a0), some (eI (a1)), some (eI (a2))]) (s2 := [eR a0]) rfl (s_an rfl (pos_g hI gA0 (by decide))) rfl ?_
  refine w_t (np := 2) (l2 := [some (eR a0), some (eI (a1)), some (eI (a2))]) (s2 := [eI (a2), eR a0]) rfl rfl rfl ?_
  refine w_t (np := 3) (l2 := [some (eR a0), some (eI (a1)), some (eI (a2))]) (s2 := [eI (0), eI (a2), eR a0]) rfl rfl rfl ?_
  refine w_t (np := 4) (l2 := [some (eR a0), some (eI (a1)), some (eI (a2))]) (s2 := [eI (2), eI (0), eI (a2), eR a0]) rfl rfl rfl ?_
  refine w_cu (np := 7) (as := [eI (a2), eI (0), eI (2)]) (l2 := [some (eI (a2)), some (eI (0)), some (eI (2))]) (rest := [eR a0]) rfl rfl rfl (Nat.ble_eq.mp rfl) rfl rfl rfl rfl ?_
  refine w_t (np := 1) (l2 := [some (eI (a2)), some (eI (0)), some (eI (2))]) (s2 := [eI (a2)]) rfl rfl rfl ?_
  refine w_t (np := 2) (l2 := [some (eI (a2)), some (eI (0)), some (eI (2))]) (s2 := [eI (0), eI (a2)]) rfl rfl rfl ?_
  refine b_clt (t1 := 14) (t2 := 5) rfl rfl rfl (ev_w_in (by omega) (by omega)) rfl (fun g1 => ?_) (fun g1 => ?_)
  · have b2 : -2147483648 ≤ a2 ∧ a2 ≤ -1 := by omega
    refine w_t (np := 15) (l2 := [some (eI (a2)), some (eI (0)), some (eI (2))]) (s2 := [eI (0)]) rfl rfl rfl ?_
    refine b_rz rfl rfl (Or.inl rfl) ?_
    show ex_q (dt_fg L ρ) rc (d + 2, (319, 7, [some (eR a0), some (eI (a1)), some (eI (a2))], [eI (0), eR a0]), f :: F, μ)
    refine b_ine (t1 := 14) (t2 := 10) rfl rfl rfl rfl (fun g2 => absurd g2 (by decide)) (fun g2 => ?_)
    refine w_t (np := 11) (l2 := [some (eR a0), some (eI (a1)), some (eI (a2))]) (s2 := [eI (1), eR a0]) rfl rfl rfl ?_
    refine w_go (t1 := 27) rfl rfl ?_
    refine w_cw (np := 30) (as := [eI (1)]) (l2 := [some (eR a0), some (eI (1))]) (rest := []) rfl rfl rfl (Nat.ble_eq.mp rfl) rfl rfl rfl (hI.kd gA0 (by decide) (n := 69) rfl) rfl ?_
    refine w_t (np := 1) (l2 := [some (eR a0), some (eI (1))]) (s2 := [eR a0]) rfl (s_an rfl (pos_g hI gA0 (by decide))) rfl ?_
    refine w_t (np := 2) (l2 := [some (eR a0), some (eI (1))]) (s2 := [eI (0), eR a0]) rfl rfl rfl ?_
    refine j_pf (np := 5) (w := 0) rfl rfl hI gA0 (by decide) (n := 69) rfl rfl (hO_i (lo := -2147483648) (hi := 2147483647) rfl (by decide)) ?_
    intro m3 I4 W5
    have F6 : Fr l_319 0 0 g μ m3 := F0.w W5 gA0 rfl
    refine w_t (np := 6) (l2 := [some (eR a0), some (eI (1))]) (s2 := [eR a0]) rfl (s_an rfl (pos_g I4 gA0 (by decide))) rfl ?_
    refine w_t (np := 7) (l2 := [some (eR a0), some (eI (1))]) (s2 := [eI (1), eR a0]) rfl rfl rfl ?_
    refine j_pf (np := 10) (w := 1) rfl rfl I4 gA0 (by decide) (n := 69) rfl rfl (hO_i (lo := -2147483648) (hi := 2147483647) rfl (by decide)) ?_
    intro m7 I8 W9
    have F10 : Fr l_319 0 0 g μ m7 := F6.w W9 gA0 rfl
    refine w_t (np := 11) (l2 := [some (eR a0), some (eI (1))]) (s2 := [eI (1)]) rfl rfl rfl ?_
    refine b_ine (t1 := 18) (t2 := 14) rfl rfl rfl rfl (fun g11 => ?_) (fun g11 => absurd g11 (by decide))
    refine w_t (np := 19) (l2 := [some (eR a0), some (eI (1))]) (s2 := [eI (0)]) rfl rfl rfl ?_
    refine b_rz rfl rfl (Or.inl rfl) ?_
    show ex_q (dt_fg L ρ) rc (d + 2, (319, 30, [some (eR a0), some (eI (a1)), some (eI (a2))], [eI (0)]), f :: F, m7)
    refine b_ine (t1 := 35) (t2 := 33) rfl rfl rfl rfl (fun g12 => absurd g12 (by decide)) (fun g12 => ?_)
    refine w_t (np := 34) (l2 := [some (eR a0), some (eI (a1)), some (eI (a2))]) (s2 := [eI (-1)]) rfl rfl rfl ?_
    exact b_ri rfl rfl (K m7 (-1) I8 F10 (by decide))
  · have b2 : 0 ≤ a2 ∧ a2 ≤ 2147483647 := by omega
    refine w_t (np := 6) (l2 := [some (eI (a2)), some (eI (0)), some (eI (2))]) (s2 := [eI (a2)]) rfl rfl rfl ?_
    refine w_t (np := 7) (l2 := [some (eI (a2)), some (eI (0)), some (eI (2))]) (s2 := [eI (2), eI (a2)]) rfl rfl rfl ?_
    refine b_cgt (t1 := 14) (t2 := 10) rfl rfl rfl (ev_w_in (by omega) (by omega)) rfl (fun g2 => ?_) (fun g2 => ?_)
    · have b3 : 3 ≤ a2 ∧ a2 ≤ 2147483647 := by omega
      refine w_t (np := 15) (l2 := [some (eI (a2)), some (eI (0)), some (eI (2))]) (s2 := [eI (0)]) rfl rfl rfl ?_
      refine b_rz rfl rfl (Or.inl rfl) ?_
      show ex_q (dt_fg L ρ) rc (d + 2, (319, 7, [some (eR a0), some (eI (a1)), some (eI (a2))], [eI (0), eR a0]), f :: F, μ)
      refine b_ine (t1 := 14) (t2 := 10) rfl rfl rfl rfl (fun g3 => absurd g3 (by decide)) (fun g3 => ?_)
      refine w_t (np := 11) (l2 := [some (eR a0), some (eI (a1)), some (eI (a2))]) (s2 := [eI (1), eR a0]) rfl rfl rfl ?_
      refine w_go (t1 := 27) rfl rfl ?_
      refine w_cw (np := 30) (as := [eI (1)]) (l2 := [some (eR a0), some (eI (1))]) (rest := []) rfl rfl rfl (Nat.ble_eq.mp rfl) rfl rfl rfl (hI.kd gA0 (by decide) (n := 69) rfl) rfl ?_
      refine w_t (np := 1) (l2 := [some (eR a0), some (eI (1))]) (s2 := [eR a0]) rfl (s_an rfl (pos_g hI gA0 (by decide))) rfl ?_
      refine w_t (np := 2) (l2 := [some (eR a0), some (eI (1))]) (s2 := [eI (0), eR a0]) rfl rfl rfl ?_
      refine j_pf (np := 5) (w := 0) rfl rfl hI gA0 (by decide) (n := 69) rfl rfl (hO_i (lo := -2147483648) (hi := 2147483647) rfl (by decide)) ?_
      intro m4 I5 W6
      have F7 : Fr l_319 0 0 g μ m4 := F0.w W6 gA0 rfl
      refine w_t (np := 6) (l2 := [some (eR a0), some (eI (1))]) (s2 := [eR a0]) rfl (s_an rfl (pos_g I5 gA0 (by decide))) rfl ?_
      refine w_t (np := 7) (l2 := [some (eR a0), some (eI (1))]) (s2 := [eI (1), eR a0]) rfl rfl rfl ?_
      refine j_pf (np := 10) (w := 1) rfl rfl I5 gA0 (by decide) (n := 69) rfl rfl (hO_i (lo := -2147483648) (hi := 2147483647) rfl (by decide)) ?_
      intro m8 I9 W10
      have F11 : Fr l_319 0 0 g μ m8 := F7.w W10 gA0 rfl
      refine w_t (np := 11) (l2 := [some (eR a0), some (eI (1))]) (s2 := [eI (1)]) rfl rfl rfl ?_
      refine b_ine (t1 := 18) (t2 := 14) rfl rfl rfl rfl (fun g12 => ?_) (fun g12 => absurd g12 (by decide))
      refine w_t (np := 19) (l2 := [some (eR a0), some (eI (1))]) (s2 := [eI (0)]) rfl rfl rfl ?_
      refine b_rz rfl rfl (Or.inl rfl) ?_
      show ex_q (dt_fg L ρ) rc (d + 2, (319, 30, [some (eR a0), some (eI (a1)), some (eI (a2))], [eI (0)]), f :: F, m8)
      refine b_ine (t1 := 35) (t2 := 33) rfl rfl rfl rfl (fun g13 => absurd g13 (by decide)) (fun g13 => ?_)
      refine w_t (np := 34) (l2 := [some (eR a0), some (eI (a1)), some (eI (a2))]) (s2 := [eI (-1)]) rfl rfl rfl ?_
      exact b_ri rfl rfl (K m8 (-1) I9 F11 (by decide))
    · have b3 : 0 ≤ a2 ∧ a2 ≤ 2 := by omega
      refine w_t (np := 11) (l2 := [some (eI (a2)), some (eI (0)), some (eI (2))]) (s2 := [eI (1)]) rfl rfl rfl ?_
      refine w_go (t1 := 15) rfl rfl ?_
      refine b_rz rfl rfl (Or.inr rfl) ?_
      show ex_q (dt_fg L ρ) rc (d + 2, (319, 7, [some (eR a0), some (eI (a1)), some (eI (a2))], [eI (1), eR a0]), f :: F, μ)
      refine b_ine (t1 := 14) (t2 := 10) rfl rfl rfl rfl (fun g3 => ?_) (fun g3 => absurd g3 (by decide))
      refine w_t (np := 15) (l2 := [some (eR a0), some (eI (a1)), some (eI (a2))]) (s2 := [eR a0, eR a0]) rfl (s_an rfl (pos_g hI gA0 (by decide))) rfl ?_
      refine w_t (np := 16) (l2 := [some (eR a0), some (eI (a1)), some (eI (a2))]) (s2 := [eI (a1), eR a0, eR a0]) rfl rfl rfl ?_
      refine w_cw (np := 19) (as := [eI (a1)]) (l2 := [some (eR a0), some (eI (a1))]) (rest := [eR a0]) rfl rfl rfl (Nat.ble_eq.mp rfl) rfl rfl rfl (hI.kd gA0 (by decide) (n := 69) rfl) rfl ?_
      refine w_t (np := 1) (l2 := [some (eR a0), some (eI (a1))]) (s2 := [eI (a1)]) rfl rfl rfl ?_
      refine w_t (np := 2) (l2 := [some (eR a0), some (eI (a1))]) (s2 := [eI (0), eI (a1)]) rfl rfl rfl ?_
      refine w_t (np := 3) (l2 := [some (eR a0), some (eI (a1))]) (s2 := [eR a0, eI (0), eI (a1)]) rfl (s_an rfl (pos_g hI gA0 (by decide))) rfl ?_
      refine j_gi (np := 6) rfl rfl rfl hI gA0 (by decide) (n := 69) rfl rfl (lo := 0) (hi := 24) rfl ?_
      intro v4 e5 b6
      refine w_t (np := 7) (l2 := [some (eR a0), some (eI (a1))]) (s2 := [eI (1), eI (v4), eI (0), eI (a1)]) rfl rfl rfl ?_
      obtain ⟨v7, e8⟩ : ∃ zz : Int, zz = (v4) - (1) := ⟨_, rfl⟩
      have b9 : -1 ≤ v7 ∧ v7 ≤ 23 := by omega
      refine w_t (np := 8) (l2 := [some (eR a0), some (eI (a1))]) (s2 := [eI (v7), eI (0), eI (a1)]) rfl (b_isub (by rw [← e8]; exact ev_w_in (by omega) (by omega))) rfl ?_
      refine w_cu (np := 11) (as := [eI (a1), eI (0), eI (v7)]) (l2 := [some (eI (a1)), some (eI (0)), some (eI (v7))]) (rest := []) rfl rfl rfl (Nat.ble_eq.mp rfl) rfl rfl rfl rfl ?_
      refine w_t (np := 1) (l2 := [some (eI (a1)), some (eI (0)), some (eI (v7))]) (s2 := [eI (a1)]) rfl rfl rfl ?_
      refine w_t (np := 2) (l2 := [some (eI (a1)), some (eI (0)), some (eI (v7))]) (s2 := [eI (0), eI (a1)]) rfl rfl rfl ?_
      refine b_clt (t1 := 14) (t2 := 5) rfl rfl rfl (ev_w_in (by omega) (by omega)) rfl (fun g10 => ?_) (fun g10 => ?_)
      · have b11 : -2147483648 ≤ a1 ∧ a1 ≤ -1 := by omega
        refine w_t (np := 15) (l2 := [some (eI (a1)), some (eI (0)), some (eI (v7))]) (s2 := [eI (0)]) rfl rfl rfl ?_
        refine b_rz rfl rfl (Or.inl rfl) ?_
        show ex_q (dt_fg L ρ) rc (d + 1, (316, 11, [some (eR a0), some (eI (a1))], [eI (0)]), (319, 19, [some (eR a0), some (eI (a1)), some (eI (a2))], [eR a0]) :: f :: F, μ)
        refine b_rz rfl rfl (Or.inl rfl) ?_
        show ex_q (dt_fg L ρ) rc (d + 2, (319, 19, [some (eR a0), some (eI (a1)), some (eI (a2))], [eI (0), eR a0]), f :: F, μ)
        refine b_ieq (t1 := 26) (t2 := 22) rfl rfl rfl rfl (fun g11 => ?_) (fun g11 => absurd g11 (by decide))
        refine w_t (np := 27) (l2 := [some (eR a0), some (eI (a1)), some (eI (a2))]) (s2 := [eI (2), eR a0]) rfl rfl rfl ?_
        refine w_cw (np := 30) (as := [eI (2)]) (l2 := [some (eR a0), some (eI (2))]) (rest := []) rfl rfl rfl (Nat.ble_eq.mp rfl) rfl rfl rfl (hI.kd gA0 (by decide) (n := 69) rfl) rfl ?_
        refine w_t (np := 1) (l2 := [some (eR a0), some (eI (2))]) (s2 := [eR a0]) rfl (s_an rfl (pos_g hI gA0 (by decide))) rfl ?_
        refine w_t (np := 2) (l2 := [some (eR a0), some (eI (2))]) (s2 := [eI (0), eR a0]) rfl rfl rfl ?_
        refine j_pf (np := 5) (w := 0) rfl rfl hI gA0 (by decide) (n := 69) rfl rfl (hO_i (lo := -2147483648) (hi := 2147483647) rfl (by decide)) ?_
        intro m12 I13 W14
        have F15 : Fr l_319 0 0 g μ m12 := F0.w W14 gA0 rfl
        refine w_t (np := 6) (l2 := [some (eR a0), some (eI (2))]) (s2 := [eR a0]) rfl (s_an rfl (pos_g I13 gA0 (by decide))) rfl ?_
        refine w_t (np := 7) (l2 := [some (eR a0), some (eI (2))]) (s2 := [eI (2), eR a0]) rfl rfl rfl ?_
        refine j_pf (np := 10) (w := 2) rfl rfl I13 gA0 (by decide) (n := 69) rfl rfl (hO_i (lo := -2147483648) (hi := 2147483647) rfl (by decide)) ?_
        intro m16 I17 W18
        have F19 : Fr l_319 0 0 g μ m16 := F15.w W18 gA0 rfl
        refine w_t (np := 11) (l2 := [some (eR a0), some (eI (2))]) (s2 := [eI (2)]) rfl rfl rfl ?_
        refine b_ine (t1 := 18) (t2 := 14) rfl rfl rfl rfl (fun g20 => ?_) (fun g20 => absurd g20 (by decide))
        refine w_t (np := 19) (l2 := [some (eR a0), some (eI (2))]) (s2 := [eI (0)]) rfl rfl rfl ?_
        refine b_rz rfl rfl (Or.inl rfl) ?_
        show ex_q (dt_fg L ρ) rc (d + 2, (319, 30, [some (eR a0), some (eI (a1)), some (eI (a2))], [eI (0)]), f :: F, m16)
        refine b_ine (t1 := 35) (t2 := 33) rfl rfl rfl rfl (fun g21 => absurd g21 (by decide)) (fun g21 => ?_)
        refine w_t (np := 34) (l2 := [some (eR a0), some (eI (a1)), some (eI (a2))]) (s2 := [eI (-1)]) rfl rfl rfl ?_
        exact b_ri rfl rfl (K m16 (-1) I17 F19 (by decide))
      · have b11 : 0 ≤ a1 ∧ a1 ≤ 2147483647 := by omega
        refine w_t (np := 6) (l2 := [some (eI (a1)), some (eI (0)), some (eI (v7))]) (s2 := [eI (a1)]) rfl rfl rfl ?_
        refine w_t (np := 7) (l2 := [some (eI (a1)), some (eI (0)), some (eI (v7))]) (s2 := [eI (v7), eI (a1)]) rfl rfl rfl ?_
        refine b_cgt (t1 := 14) (t2 := 10) rfl rfl rfl (ev_w_in (by omega) (by omega)) (ev_w_in (by omega) (by omega)) (fun g11 => ?_) (fun g11 => ?_)
        · refine w_t (np := 15) (l2 := [some (eI (a1)), some (eI (0)), some (eI (v7))]) (s2 := [eI (0)]) rfl rfl rfl ?_
          refine b_rz rfl rfl (Or.inl rfl) ?_
          show ex_q (dt_fg L ρ) rc (d + 1, (316, 11, [some (eR a0), some (eI (a1))], [eI (0)]), (319, 19, [some (eR a0), some (eI (a1)), some (eI (a2))], [eR a0]) :: f :: F, μ)
          refine b_rz rfl rfl (Or.inl rfl) ?_
          show ex_q (dt_fg L ρ) rc (d + 2, (319, 19, [some (eR a0), some (eI (a1)), some (eI (a2))], [eI (0), eR a0]), f :: F, μ)
          refine b_ieq (t1 := 26) (t2 := 22) rfl rfl rfl rfl (fun g12 => ?_) (fun g12 => absurd g12 (by decide))
          refine w_t (np := 27) (l2 := [some (eR a0), some (eI (a1)), some (eI (a2))]) (s2 := [eI (2), eR a0]) rfl rfl rfl ?_
          refine w_cw (np := 30) (as := [eI (2)]) (l2 := [some (eR a0), some (eI (2))]) (rest := []) rfl rfl rfl (Nat.ble_eq.mp rfl) rfl rfl rfl (hI.kd gA0 (by decide) (n := 69) rfl) rfl ?_
          refine w_t (np := 1) (l2 := [some (eR a0), some (eI (2))]) (s2 := [eR a0]) rfl (s_an rfl (pos_g hI gA0 (by decide))) rfl ?_
          refine w_t (np := 2) (l2 := [some (eR a0), some (eI (2))]) (s2 := [eI (0), eR a0]) rfl rfl rfl ?_
          refine j_pf (np := 5) (w := 0) rfl rfl hI gA0 (by decide) (n := 69) rfl rfl (hO_i (lo := -2147483648) (hi := 2147483647) rfl (by decide)) ?_
          intro m13 I14 W15
          have F16 : Fr l_319 0 0 g μ m13 := F0.w W15 gA0 rfl
          refine w_t (np := 6) (l2 := [some (eR a0), some (eI (2))]) (s2 := [eR a0]) rfl (s_an rfl (pos_g I14 gA0 (by decide))) rfl ?_
          refine w_t (np := 7) (l2 := [some (eR a0), some (eI (2))]) (s2 := [eI (2), eR a0]) rfl rfl rfl ?_
          refine j_pf (np := 10) (w := 2) rfl rfl I14 gA0 (by decide) (n := 69) rfl rfl (hO_i (lo := -2147483648) (hi := 2147483647) rfl (by decide)) ?_
          intro m17 I18 W19
          have F20 : Fr l_319 0 0 g μ m17 := F16.w W19 gA0 rfl
          refine w_t (np := 11) (l2 := [some (eR a0), some (eI (2))]) (s2 := [eI (2)]) rfl rfl rfl ?_
          refine b_ine (t1 := 18) (t2 := 14) rfl rfl rfl rfl (fun g21 => ?_) (fun g21 => absurd g21 (by decide))
          refine w_t (np := 19) (l2 := [some (eR a0), some (eI (2))]) (s2 := [eI (0)]) rfl rfl rfl ?_
          refine b_rz rfl rfl (Or.inl rfl) ?_
          show ex_q (dt_fg L ρ) rc (d + 2, (319, 30, [some (eR a0), some (eI (a1)), some (eI (a2))], [eI (0)]), f :: F, m17)
          refine b_ine (t1 := 35) (t2 := 33) rfl rfl rfl rfl (fun g22 => absurd g22 (by decide)) (fun g22 => ?_)
          refine w_t (np := 34) (l2 := [some (eR a0), some (eI (a1)), some (eI (a2))]) (s2 := [eI (-1)]) rfl rfl rfl ?_
          exact b_ri rfl rfl (K m17 (-1) I18 F20 (by decide))
        · have b12 : 0 ≤ a1 ∧ a1 ≤ 23 := by omega
          have b13 : 0 ≤ v7 ∧ v7 ≤ 23 := by omega
          refine w_t (np := 11) (l2 := [some (eI (a1)), some (eI (0)), some (eI (v7))]) (s2 := [eI (1)]) rfl rfl rfl ?_
          refine w_go (t1 := 15) rfl rfl ?_
          refine b_rz rfl rfl (Or.inr rfl) ?_
          show ex_q (dt_fg L ρ) rc (d + 1, (316, 11, [some (eR a0), some (eI (a1))], [eI (1)]), (319, 19, [some (eR a0), some (eI (a1)), some (eI (a2))], [eR a0]) :: f :: F, μ)
          refine b_rz rfl rfl (Or.inr rfl) ?_
          show ex_q (dt_fg L ρ) rc (d + 2, (319, 19, [some (eR a0), some (eI (a1)), some (eI (a2))], [eI (1), eR a0]), f :: F, μ)
          refine b_ieq (t1 := 26) (t2 := 22) rfl rfl rfl rfl (fun g12 => absurd g12 (by decide)) (fun g12 => ?_)
          refine w_t (np := 23) (l2 := [some (eR a0), some (eI (a1)), some (eI (a2))]) (s2 := [eI (0), eR a0]) rfl rfl rfl ?_
          refine w_go (t1 := 27) rfl rfl ?_
          refine w_cw (np := 30) (as := [eI (0)]) (l2 := [some (eR a0), some (eI (0))]) (rest := []) rfl rfl rfl (Nat.ble_eq.mp rfl) rfl rfl rfl (hI.kd gA0 (by decide) (n := 69) rfl) rfl ?_
          refine w_t (np := 1) (l2 := [some (eR a0), some (eI (0))]) (s2 := [eR a0]) rfl (s_an rfl (pos_g hI gA0 (by decide))) rfl ?_
          refine w_t (np := 2) (l2 := [some (eR a0), some (eI (0))]) (s2 := [eI (0), eR a0]) rfl rfl rfl ?_
          refine j_pf (np := 5) (w := 0) rfl rfl hI gA0 (by decide) (n := 69) rfl rfl (hO_i (lo := -2147483648) (hi := 2147483647) rfl (by decide)) ?_
          intro m13 I14 W15
          have F16 : Fr l_319 0 0 g μ m13 := F0.w W15 gA0 rfl
          refine w_t (np := 6) (l2 := [some (eR a0), some (eI (0))]) (s2 := [eR a0]) rfl (s_an rfl (pos_g I14 gA0 (by decide))) rfl ?_
          refine w_t (np := 7) (l2 := [some (eR a0), some (eI (0))]) (s2 := [eI (0), eR a0]) rfl rfl rfl ?_
          refine j_pf (np := 10) (w := 0) rfl rfl I14 gA0 (by decide) (n := 69) rfl rfl (hO_i (lo := -2147483648) (hi := 2147483647) rfl (by decide)) ?_
          intro m17 I18 W19
          have F20 : Fr l_319 0 0 g μ m17 := F16.w W19 gA0 rfl
          refine w_t (np := 11) (l2 := [some (eR a0), some (eI (0))]) (s2 := [eI (0)]) rfl rfl rfl ?_
          refine b_ine (t1 := 18) (t2 := 14) rfl rfl rfl rfl (fun g21 => absurd g21 (by decide)) (fun g21 => ?_)
          refine w_t (np := 15) (l2 := [some (eR a0), some (eI (0))]) (s2 := [eI (1)]) rfl rfl rfl ?_
          refine w_go (t1 := 19) rfl rfl ?_
          refine b_rz rfl rfl (Or.inr rfl) ?_
          show ex_q (dt_fg L ρ) rc (d + 2, (319, 30, [some (eR a0), some (eI (a1)), some (eI (a2))], [eI (1)]), f :: F, m17)
          refine b_ine (t1 := 35) (t2 := 33) rfl rfl rfl rfl (fun g22 => ?_) (fun g22 => absurd g22 (by decide))
          refine w_t (np := 36) (l2 := [some (eR a0), some (eI (a1)), some (eI (a2))]) (s2 := [eR a0]) rfl (s_an rfl (pos_g I18 gA0 (by decide))) rfl ?_
          refine j_gr (np := 39) rfl rfl I18 gA0 (by decide) (n := 69) rfl rfl rfl ?_
          intro v23 e24 b25 z26
          have b25 : g v23 = 79 := Nat.eq_of_beq_eq_true b25
          refine w_t (np := 41) (l2 := [some (eR a0), some (eI (a1)), some (eI (a2))]) (s2 := [eI (7), eR v23]) rfl rfl rfl ?_
          refine w_t (np := 42) (l2 := [some (eR a0), some (eI (a1)), some (eI (a2))]) (s2 := [eI (a1), eI (7), eR v23]) rfl rfl rfl ?_
          obtain ⟨v27, e28⟩ : ∃ zz : Int, zz = (7) * (a1) := ⟨_, rfl⟩
          have b29 : 0 ≤ v27 ∧ v27 ≤ 161 := by omega
          refine w_t (np := 43) (l2 := [some (eR a0), some (eI (a1)), some (eI (a2))]) (s2 := [eI (v27), eR v23]) rfl (b_imul (by rw [← e28]; exact ev_w_in (by omega) (by omega))) rfl ?_
          refine w_t (np := 44) (l2 := [some (eR a0), some (eI (a1)), some (eI (a2))]) (s2 := [eI (a2), eI (v27), eR v23]) rfl rfl rfl ?_
          refine b_ine (t1 := 51) (t2 := 47) rfl rfl rfl (ev_w_in (by omega) (by omega)) (fun g30 => ?_) (fun g30 => ?_)
          · have b31 : 1 ≤ a2 ∧ a2 ≤ 2 := by omega
            refine w_t (np := 52) (l2 := [some (eR a0), some (eI (a1)), some (eI (a2))]) (s2 := [eI (4), eI (v27), eR v23]) rfl rfl rfl ?_
            refine w_t (np := 53) (l2 := [some (eR a0), some (eI (a1)), some (eI (a2))]) (s2 := [eI (a2), eI (4), eI (v27), eR v23]) rfl rfl rfl ?_
            obtain ⟨v31, e32⟩ : ∃ zz : Int, zz = (4) + (a2) := ⟨_, rfl⟩
            have b33 : 5 ≤ v31 ∧ v31 ≤ 6 := by omega
            refine w_t (np := 54) (l2 := [some (eR a0), some (eI (a1)), some (eI (a2))]) (s2 := [eI (v31), eI (v27), eR v23]) rfl (b_iadd (by rw [← e32]; exact ev_w_in (by omega) (by omega))) rfl ?_
            obtain ⟨v34, e35⟩ : ∃ zz : Int, zz = (v27) + (v31) := ⟨_, rfl⟩
            have b36 : 5 ≤ v34 ∧ v34 ≤ 167 := by omega
            refine w_t (np := 55) (l2 := [some (eR a0), some (eI (a1)), some (eI (a2))]) (s2 := [eI (v34), eR v23]) rfl (b_iadd (by rw [← e35]; exact ev_w_in (by omega) (by omega))) rfl ?_
            refine j_al (np := 56) rfl rfl I18 b25 (by decide) (n := 168) rfl rfl (lo := -2147483648) (hi := 2147483647) (fun _ => rfl) (by omega) (by omega) ?_
            intro v37 e38 b39
            exact b_ri rfl rfl (K m17 (v37) I18 F20 (by omega))
          · have b31 : 0 ≤ a2 ∧ a2 ≤ 0 := by omega
            refine w_t (np := 48) (l2 := [some (eR a0), some (eI (a1)), some (eI (a2))]) (s2 := [eI (0), eI (v27), eR v23]) rfl rfl rfl ?_
            refine w_go (t1 := 54) rfl rfl ?_
            refine w_t (np := 55) (l2 := [some (eR a0), some (eI (a1)), some (eI (a2))]) (s2 := [eI (v27), eR v23]) rfl (b_iadd (by rw [Int.add_zero]; exact ev_w_in (by omega) (by omega))) rfl ?_
            refine j_al (np := 56) rfl rfl I18 b25 (by decide) (n := 168) rfl rfl (lo := -2147483648) (hi := 2147483647) (fun _ => rfl) (by omega) (by omega) ?_
            intro v31 e32 b33
            exact b_ri rfl rfl (K m17 (v31) I18 F20 (by omega))
def l_320 : List Nat := [13313, 13314, 21248]
theorem s_320 {L : Nat} {ρ : Nat → Int} {rc : eQ} {d : Nat} {f : eFr} {F : List eFr} {μ : eM} {g : Nat → Nat} {a0 : Nat} {a1 : Int} {a2 : Int} {a3 : Int} (hI : SI g μ) (gA0 : g a0 = 52) (bA1 : -2147483648 ≤ a1 ∧ a1 ≤ 2147483647) (bA2 : -2147483648 ≤ a2 ∧ a2 ≤ 2147483647) (bA3 : -2147483648 ≤ a3 ∧ a3 ≤ 2147483647) (K : ∀ (μ2 : eM) (v : Int), SI g μ2 → Fr l_320 0 0 g μ μ2 → (-2147483648 ≤ v ∧ v ≤ 2147483647) → ex_q (dt_fg L ρ) rc (d + 4, (f.1, f.2.1, f.2.2.1, eI v :: f.2.2.2), F, μ2)) : ex_q (dt_fg L ρ) rc (d + 3, (320, 0, [some (eR a0), some (eI (a1)), some (eI (a2)), some (eI (a3))], []), f :: F, μ) := by
  have F0 : Fr l_320 0 0 g μ μ := Fr.r
  refine w_t (np := 1) (l2 := [some (eR a0), some (eI (a1)), some (eI (a2)), some (eI (a3))]) (s2 := [eR a0]) rfl (s_an rfl (pos_g hI gA0 (by decide))) rfl ?_
  refine w_t (np := 2) (l2 := [some (eR a0), some (eI (a1)), some (eI (a2)), some (eI (a3))]) (s2 := [eI (a2), eR a0]) rfl rfl rfl ?_
  refine w_t (np := 3) (l2 := [some (eR a0), some (eI (a1)), some (eI (a2)), some (eI (a3))]) (s2 := [eI (0), eI (a2), eR a0]) rfl rfl rfl ?_
  refine w_t (np := 4) (l2 := [some (eR a0), some (eI (a1)), some (eI (a2)), some (eI (a3))]) (s2 := [eI (3), eI (0), eI (a2), eR a0]) rfl rfl rfl ?_
  refine w_cu (np := 7) (as := [eI (a2), eI (0), eI (3)]) (l2 := [some (eI (a2)), some (eI (0)), some (eI (3))]) (rest := [eR a0]) rfl rfl rfl (Nat.ble_eq.mp rfl) rfl rfl rfl rfl ?_
  refine w_t (np := 1) (l2 := [some (eI (a2)), some (eI (0)), some (eI (3))]) (s2 := [eI (a2)]) rfl rfl rfl ?_
  refine w_t (np := 2) (l2 := [some (eI (a2)), some (eI (0)), some (eI (3))]) (s2 := [eI (0), eI (a2)]) rfl rfl rfl ?_
  refine b_clt (t1 := 14) (t2 := 5) rfl rfl rfl (ev_w_in (by omega) (by omega)) rfl (fun g1 => ?_) (fun g1 => ?_)
  · have b2 : -2147483648 ≤ a2 ∧ a2 ≤ -1 := by omega
    refine w_t (np := 15) (l2 := [some (eI (a2)), some (eI (0)), some (eI (3))]) (s2 := [eI (0)]) rfl rfl rfl ?_
    refine b_rz rfl rfl (Or.inl rfl) ?_
    show ex_q (dt_fg L ρ) rc (d + 3, (320, 7, [some (eR a0), some (eI (a1)), some (eI (a2)), some (eI (a3))], [eI (0), eR a0]), f :: F, μ)
    refine b_ieq (t1 := 19) (t2 := 10) rfl rfl rfl rfl (fun g2 => ?_) (fun g2 => absurd g2 (by decide))
    refine w_t (np := 20) (l2 := [some (eR a0), some (eI (a1)), some (eI (a2)), some (eI (a3))]) (s2 := [eI (1), eR a0]) rfl rfl rfl ?_
    refine w_go (t1 := 36) rfl rfl ?_
    refine w_cw (np := 39) (as := [eI (1)]) (l2 := [some (eR a0), some (eI (1))]) (rest := []) rfl rfl rfl (Nat.ble_eq.mp rfl) rfl rfl rfl (hI.kd gA0 (by decide) (n := 69) rfl) rfl ?_
    refine w_t (np := 1) (l2 := [some (eR a0), some (eI (1))]) (s2 := [eR a0]) rfl (s_an rfl (pos_g hI gA0 (by decide))) rfl ?_
    refine w_t (np := 2) (l2 := [some (eR a0), some (eI (1))]) (s2 := [eI (0), eR a0]) rfl rfl rfl ?_
    refine j_pf (np := 5) (w := 0) rfl rfl hI gA0 (by decide) (n := 69) rfl rfl (hO_i (lo := -2147483648) (hi := 2147483647) rfl (by decide)) ?_
    intro m3 I4 W5
    have F6 : Fr l_320 0 0 g μ m3 := F0.w W5 gA0 rfl
    refine w_t (np := 6) (l2 := [some (eR a0), some (eI (1))]) (s2 := [eR a0]) rfl (s_an rfl (pos_g I4 gA0 (by decide))) rfl ?_
    refine w_t (np := 7) (l2 := [some (eR a0), some (eI (1))]) (s2 := [eI (1), eR a0]) rfl rfl rfl ?_
    refine j_pf (np := 10) (w := 1) rfl rfl I4 gA0 (by decide) (n := 69) rfl rfl (hO_i (lo := -2147483648) (hi := 2147483647) rfl (by decide)) ?_
    intro m7 I8 W9
    have F10 : Fr l_320 0 0 g μ m7 := F6.w W9 gA0 rfl
    refine w_t (np := 11) (l2 := [some (eR a0), some (eI (1))]) (s2 := [eI (1)]) rfl rfl rfl ?_
    refine b_ine (t1 := 18) (t2 := 14) rfl rfl rfl rfl (fun g11 => ?_) (fun g11 => absurd g11 (by decide))
    refine w_t (np := 19) (l2 := [some (eR a0), some (eI (1))]) (s2 := [eI (0)]) rfl rfl rfl ?_
    refine b_rz rfl rfl (Or.inl rfl) ?_
    show ex_q (dt_fg L ρ) rc (d + 3, (320, 39, [some (eR a0), some (eI (a1)), some (eI (a2)), some (eI (a3))], [eI (0)]), f :: F, m7)
    refine b_ine (t1 := 44) (t2 := 42) rfl rfl rfl rfl (fun g12 => absurd g12 (by decide)) (fun g12 => ?_)
    refine w_t (np := 43) (l2 := [some (eR a0), some (eI (a1)), some (eI (a2)), some (eI (a3))]) (s2 := [eI (-1)]) rfl rfl rfl ?_
    exact b_ri rfl rfl (K m7 (-1) I8 F10 (by decide))
  · have b2 : 0 ≤ a2 ∧ a2 ≤ 2147483647 := by omega
    refine w_t (np := 6) (l2 := [some (eI (a2)), some (eI (0)), some (eI (3))]) (s2 := [eI (a2)]) rfl rfl rfl ?_
    refine w_t (np := 7) (l2 := [some (eI (a2)), some (eI (0)), some (eI (3))]) (s2 := [eI (3), eI (a2)]) rfl rfl rfl ?_
    refine b_cgt (t1 := 14) (t2 := 10) rfl rfl rfl (ev_w_in (by omega) (by omega)) rfl (fun g2 => ?_) (fun g2 => ?_)
    · have b3 : 4 ≤ a2 ∧ a2 ≤ 2147483647 := by omega
      refine w_t (np := 15) (l2 := [some (eI (a2)), some (eI (0)), some (eI (3))]) (s2 := [eI (0)]) rfl rfl rfl ?_
      refine b_rz rfl rfl (Or.inl rfl) ?_
      show ex_q (dt_fg L ρ) rc (d + 3, (320, 7, [some (eR a0), some (eI (a1)), some (eI (a2)), some (eI (a3))], [eI (0), eR a0]), f :: F, μ)
      refine b_ieq (t1 := 19) (t2 := 10) rfl rfl rfl rfl (fun g3 => ?_) (fun g3 => absurd g3 (by decide))
      refine w_t (np := 20) (l2 := [some (eR a0), some (eI (a1)), some (eI (a2)), some (eI (a3))]) (s2 := [eI (1), eR a0]) rfl rfl rfl ?_
      refine w_go (t1 := 36) rfl rfl ?_
      refine w_cw (np := 39) (as := [eI (1)]) (l2 := [some (eR a0), some (eI (1))]) (rest := []) rfl rfl rfl (Nat.ble_eq.mp rfl) rfl rfl rfl (hI.kd gA0 (by decide) (n := 69) rfl) rfl ?_
      refine w_t (np := 1) (l2 := [some (eR a0), some (eI (1))]) (s2 := [eR a0]) rfl (s_an rfl (pos_g hI gA0 (by decide))) rfl ?_
      refine w_t (np := 2) (l2 := [some (eR a0), some (eI (1))]) (s2 := [eI (0), eR a0]) rfl rfl rfl ?_
      refine j_pf (np := 5) (w := 0) rfl rfl hI gA0 (by decide) (n := 69) rfl rfl (hO_i (lo := -2147483648) (hi := 2147483647) rfl (by decide)) ?_
      intro m4 I5 W6
      have F7 : Fr l_320 0 0 g μ m4 := F0.w W6 gA0 rfl
      refine w_t (np := 6) (l2 := [some (eR a0), some (eI (1))]) (s2 := [eR a0]) rfl (s_an rfl (pos_g I5 gA0 (by decide))) rfl ?_
      refine w_t (np := 7) (l2 := [some (eR a0), some (eI (1))]) (s2 := [eI (1), eR a0]) rfl rfl rfl ?_
      refine j_pf (np := 10) (w := 1) rfl rfl I5 gA0 (by decide) (n := 69) rfl rfl (hO_i (lo := -2147483648) (hi := 2147483647) rfl (by decide)) ?_
      intro m8 I9 W10
      have F11 : Fr l_320 0 0 g μ m8 := F7.w W10 gA0 rfl
      refine w_t (np := 11) (l2 := [some (eR a0), some (eI (1))]) (s2 := [eI (1)]) rfl rfl rfl ?_
      refine b_ine (t1 := 18) (t2 := 14) rfl rfl rfl rfl (fun g12 => ?_) (fun g12 => absurd g12 (by decide))
      refine w_t (np := 19) (l2 := [some (eR a0), some (eI (1))]) (s2 := [eI (0)]) rfl rfl rfl ?_
      refine b_rz rfl rfl (Or.inl rfl) ?_
      show ex_q (dt_fg L ρ) rc (d + 3, (320, 39, [some (eR a0), some (eI (a1)), some (eI (a2)), some (eI (a3))], [eI (0)]), f :: F, m8)
      refine b_ine (t1 := 44) (t2 := 42) rfl rfl rfl rfl (fun g13 => absurd g13 (by decide)) (fun g13 => ?_)
      refine w_t (np := 43) (l2 := [some (eR a0), some (eI (a1)), some (eI (a2)), some (eI (a3))]) (s2 := [eI (-1)]) rfl rfl rfl ?_
      exact b_ri rfl rfl (K m8 (-1) I9 F11 (by decide))
    · have b3 : 0 ≤ a2 ∧ a2 ≤ 3 := by omega
      refine w_t (np := 11) (l2 := [some (eI (a2)), some (eI (0)), some (eI (3))]) (s2 := [eI (1)]) rfl rfl rfl ?_
      refine w_go (t1 := 15) rfl rfl ?_
      refine b_rz rfl rfl (Or.inr rfl) ?_
      show ex_q (dt_fg L ρ) rc (d + 3, (320, 7, [some (eR a0), some (eI (a1)), some (eI (a2)), some (eI (a3))], [eI (1), eR a0]), f :: F, μ)
      refine b_ieq (t1 := 19) (t2 := 10) rfl rfl rfl rfl (fun g3 => absurd g3 (by decide)) (fun g3 => ?_)
      refine w_t (np := 11) (l2 := [some (eR a0), some (eI (a1)), some (eI (a2)), some (eI (a3))]) (s2 := [eI (a3), eR a0]) rfl rfl rfl ?_
      refine w_t (np := 12) (l2 := [some (eR a0), some (eI (a1)), some (eI (a2)), some (eI (a3))]) (s2 := [eI (0), eI (a3), eR a0]) rfl rfl rfl ?_
      refine w_t (np := 13) (l2 := [some (eR a0), some (eI (a1)), some (eI (a2)), some (eI (a3))]) (s2 := [eI (3), eI (0), eI (a3), eR a0]) rfl rfl rfl ?_
      refine w_cu (np := 16) (as := [eI (a3), eI (0), eI (3)]) (l2 := [some (eI (a3)), some (eI (0)), some (eI (3))]) (rest := [eR a0]) rfl rfl rfl (Nat.ble_eq.mp rfl) rfl rfl rfl rfl ?_
      refine w_t (np := 1) (l2 := [some (eI (a3)), some (eI (0)), some (eI (3))]) (s2 := [eI (a3)]) rfl rfl rfl ?_
      refine w_t (np := 2) (l2 := [some (eI (a3)), some (eI (0)), some (eI (3))]) (s2 := [eI (0), eI (a3)]) rfl rfl rfl ?_
      refine b_clt (t1 := 14) (t2 := 5) rfl rfl rfl (ev_w_in (by omega) (by omega)) rfl (fun g4 => ?_) (fun g4 => ?_)
      · have b5 : -2147483648 ≤ a3 ∧ a3 ≤ -1 := by omega
        refine w_t (np := 15) (l2 := [some (eI (a3)), some (eI (0)), some (eI (3))]) (s2 := [eI (0)]) rfl rfl rfl ?_
        refine b_rz rfl rfl (Or.inl rfl) ?_
        show ex_q (dt_fg L ρ) rc (d + 3, (320, 16, [some (eR a0), some (eI (a1)), some (eI (a2)), some (eI (a3))], [eI (0), eR a0]), f :: F, μ)
        refine b_ine (t1 := 23) (t2 := 19) rfl rfl rfl rfl (fun g5 => absurd g5 (by decide)) (fun g5 => ?_)
        refine w_t (np := 20) (l2 := [some (eR a0), some (eI (a1)), some (eI (a2)), some (eI (a3))]) (s2 := [eI (1), eR a0]) rfl rfl rfl ?_
        refine w_go (t1 := 36) rfl rfl ?_
        refine w_cw (np := 39) (as := [eI (1)]) (l2 := [some (eR a0), some (eI (1))]) (rest := []) rfl rfl rfl (Nat.ble_eq.mp rfl) rfl rfl rfl (hI.kd gA0 (by decide) (n := 69) rfl) rfl ?_
        refine w_t (np := 1) (l2 := [some (eR a0), some (eI (1))]) (s2 := [eR a0]) rfl (s_an rfl (pos_g hI gA0 (by decide))) rfl ?_
        refine w_t (np := 2) (l2 := [some (eR a0), some (eI (1))]) (s2 := [eI (0), eR a0]) rfl rfl rfl ?_
        refine j_pf (np := 5) (w := 0) rfl rfl hI gA0 (by decide) (n := 69) rfl rfl (hO_i (lo := -2147483648) (hi := 2147483647) rfl (by decide)) ?_
        intro m6 I7 W8
        have F9 : Fr l_320 0 0 g μ m6 := F0.w W8 gA0 rfl
        refine w_t (np := 6) (l2 := [some (eR a0), some (eI (1))]) (s2 := [eR a0]) rfl (s_an rfl (pos_g I7 gA0 (by decide))) rfl ?_
        refine w_t (np := 7) (l2 := [some (eR a0), some (eI (1))]) (s2 := [eI (1), eR a0]) rfl rfl rfl ?_
        refine j_pf (np := 10) (w := 1) rfl rfl I7 gA0 (by decide) (n := 69) rfl rfl (hO_i (lo := -2147483648) (hi := 2147483647) rfl (by decide)) ?_
        intro m10 I11 W12
        have F13 : Fr l_320 0 0 g μ m10 := F9.w W12 gA0 rfl
        refine w_t (np := 11) (l2 := [some (eR a0), some (eI (1))]) (s2 := [eI (1)]) rfl rfl rfl ?_
        refine b_ine (t1 := 18) (t2 := 14) rfl rfl rfl rfl (fun g14 => ?_) (fun g14 => absurd g14 (by decide))
        refine w_t (np := 19) (l2 := [some (eR a0), some (eI (1))]) (s2 := [eI (0)]) rfl rfl rfl ?_
        refine b_rz rfl rfl (Or.inl rfl) ?_
        show ex_q (dt_fg L ρ) rc (d + 3, (320, 39, [some (eR a0), some (eI (a1)), some (eI (a2)), some (eI (a3))], [eI (0)]), f :: F, m10)
        refine b_ine (t1 := 44) (t2 := 42) rfl rfl rfl rfl (fun g15 => absurd g15 (by decide)) (fun g15 => ?_)
        refine w_t (np := 43) (l2 := [some (eR a0), some (eI (a1)), some (eI (a2)), some (eI (a3))]) (s2 := [eI (-1)]) rfl rfl rfl ?_
        exact b_ri rfl rfl (K m10 (-1) I11 F13 (by decide))
      · have b5 : 0 ≤ a3 ∧ a3 ≤ 2147483647 := by omega
        refine w_t (np := 6) (l2 := [some (eI (a3)), some (eI (0)), some (eI (3))]) (s2 := [eI (a3)]) rfl rfl rfl ?_
        refine w_t (np := 7) (l2 := [some (eI (a3)), some (eI (0)), some (eI (3))]) (s2 := [eI (3), eI (a3)]) rfl rfl rfl ?_
        refine b_cgt (t1 := 14) (t2 := 10) rfl rfl rfl (ev_w_in (by omega) (by omega)) rfl (fun g5 => ?_) (fun g5 => ?_)
        · have b6 : 4 ≤ a3 ∧ a3 ≤ 2147483647 := by omega
          refine w_t (np := 15) (l2 := [some (eI (a3)), some (eI (0)), some (eI (3))]) (s2 := [eI (0)]) rfl rfl rfl ?_
          refine b_rz rfl rfl (Or.inl rfl) ?_
          show ex_q (dt_fg L ρ) rc (d + 3, (320, 16, [some (eR a0), some (eI (a1)), some (eI (a2)), some (eI (a3))], [eI (0), eR a0]), f :: F, μ)
          refine b_ine (t1 := 23) (t2 := 19) rfl rfl rfl rfl (fun g6 => absurd g6 (by decide)) (fun g6 => ?_)
          refine w_t (np := 20) (l2 := [some (eR a0), some (eI (a1)), some (eI (a2)), some (eI (a3))]) (s2 := [eI (1), eR a0]) rfl rfl rfl ?_
          refine w_go (t1 := 36) rfl rfl ?_
          refine w_cw (np := 39) (as := [eI (1)]) (l2 := [some (eR a0), some (eI (1))]) (rest := []) rfl rfl rfl (Nat.ble_eq.mp rfl) rfl rfl rfl (hI.kd gA0 (by decide) (n := 69) rfl) rfl ?_
          refine w_t (np := 1) (l2 := [some (eR a0), some (eI (1))]) (s2 := [eR a0]) rfl (s_an rfl (pos_g hI gA0 (by decide))) rfl ?_
          refine w_t (np := 2) (l2 := [some (eR a0), some (eI (1))]) (s2 := [eI (0), eR a0]) rfl rfl rfl ?_
          refine j_pf (np := 5) (w := 0) rfl rfl hI gA0 (by decide) (n := 69) rfl rfl (hO_i (lo := -2147483648) (hi := 2147483647) rfl (by decide)) ?_
          intro m7 I8 W9
          have F10 : Fr l_320 0 0 g μ m7 := F0.w W9 gA0 rfl
          refine w_t (np := 6) (l2 := [some (eR a0), some (eI (1))]) (s2 := [eR a0]) rfl (s_an rfl (pos_g I8 gA0 (by decide))) rfl ?_
          refine w_t (np := 7) (l2 := [some (eR a0), some (eI (1))]) (s2 := [eI (1), eR a0]) rfl rfl rfl ?_
          refine j_pf (np := 10) (w := 1) rfl rfl I8 gA0 (by decide) (n := 69) rfl rfl (hO_i (lo := -2147483648) (hi := 2147483647) rfl (by decide)) ?_
          intro m11 I12 W13
          have F14 : Fr l_320 0 0 g μ m11 := F10.w W13 gA0 rfl
          refine w_t (np := 11) (l2 := [some (eR a0), some (eI (1))]) (s2 := [eI (1)]) rfl rfl rfl ?_
          refine b_ine (t1 := 18) (t2 := 14) rfl rfl rfl rfl (fun g15 => ?_) (fun g15 => absurd g15 (by decide))
          refine w_t (np := 19) (l2 := [some (eR a0), some (eI (1))]) (s2 := [eI (0)]) rfl rfl rfl ?_
          refine b_rz rfl rfl (Or.inl rfl) ?_
          show ex_q (dt_fg L ρ) rc (d + 3, (320, 39, [some (eR a0), some (eI (a1)), some (eI (a2)), some (eI (a3))], [eI (0)]), f :: F, m11)
          refine b_ine (t1 := 44) (t2 := 42) rfl rfl rfl rfl (fun g16 => absurd g16 (by decide)) (fun g16 => ?_)
          refine w_t (np := 43) (l2 := [some (eR a0), some (eI (a1)), some (eI (a2)), some (eI (a3))]) (s2 := [eI (-1)]) rfl rfl rfl ?_
          exact b_ri rfl rfl (K m11 (-1) I12 F14 (by decide))
        · have b6 : 0 ≤ a3 ∧ a3 ≤ 3 := by omega
          refine w_t (np := 11) (l2 := [some (eI (a3)), some (eI (0)), some (eI (3))]) (s2 := [eI (1)]) rfl rfl rfl ?_
          refine w_go (t1 := 15) rfl rfl ?_
          refine b_rz rfl rfl (Or.inr rfl) ?_
          show ex_q (dt_fg L ρ) rc (d + 3, (320, 16, [some (eR a0), some (eI (a1)), some (eI (a2)), some (eI (a3))], [eI (1), eR a0]), f :: F, μ)
          refine b_ine (t1 := 23) (t2 := 19) rfl rfl rfl rfl (fun g6 => ?_) (fun g6 => absurd g6 (by decide))
          refine w_t (np := 24) (l2 := [some (eR a0), some (eI (a1)), some (eI (a2)), some (eI (a3))]) (s2 := [eR a0, eR a0]) rfl (s_an rfl (pos_g hI gA0 (by decide))) rfl ?_
          refine w_t (np := 25) (l2 := [some (eR a0), some (eI (a1)), some (eI (a2)), some (eI (a3))]) (s2 := [eI (a1), eR a0, eR a0]) rfl rfl rfl ?_
          refine w_cw (np := 28) (as := [eI (a1)]) (l2 := [some (eR a0), some (eI (a1))]) (rest := [eR a0]) rfl rfl rfl (Nat.ble_eq.mp rfl) rfl rfl rfl (hI.kd gA0 (by decide) (n := 69) rfl) rfl ?_
          refine w_t (np := 1) (l2 := [some (eR a0), some (eI (a1))]) (s2 := [eI (a1)]) rfl rfl rfl ?_
          refine w_t (np := 2) (l2 := [some (eR a0), some (eI (a1))]) (s2 := [eI (0), eI (a1)]) rfl rfl rfl ?_
          refine w_t (np := 3) (l2 := [some (eR a0), some (eI (a1))]) (s2 := [eR a0, eI (0), eI (a1)]) rfl (s_an rfl (pos_g hI gA0 (by decide))) rfl ?_
          refine j_gi (np := 6) rfl rfl rfl hI gA0 (by decide) (n := 69) rfl rfl (lo := 0) (hi := 24) rfl ?_
          intro v7 e8 b9
          refine w_t (np := 7) (l2 := [some (eR a0), some (eI (a1))]) (s2 := [eI (1), eI (v7), eI (0), eI (a1)]) rfl rfl rfl ?_
          obtain ⟨v10, e11⟩ : ∃ zz : Int, zz = (v7) - (1) := ⟨_, rfl⟩
          have b12 : -1 ≤ v10 ∧ v10 ≤ 23 := by omega
          refine w_t (np := 8) (l2 := [some (eR a0), some (eI (a1))]) (s2 := [eI (v10), eI (0), eI (a1)]) rfl (b_isub (by rw [← e11]; exact ev_w_in (by omega) (by omega))) rfl ?_
          refine w_cu (np := 11) (as := [eI (a1), eI (0), eI (v10)]) (l2 := [some (eI (a1)), some (eI (0)), some (eI (v10))]) (rest := []) rfl rfl rfl (Nat.ble_eq.mp rfl) rfl rfl rfl rfl ?_
          refine w_t (np := 1) (l2 := [some (eI (a1)), some (eI (0)), some (eI (v10))]) (s2 := [eI (a1)]) rfl rfl rfl ?_
          refine w_t (np := 2) (l2 := [some (eI (a1)), some (eI (0)), some (eI (v10))]) (s2 := [eI (0), eI (a1)]) rfl rfl rfl ?_
          refine b_clt (t1 := 14) (t2 := 5) rfl rfl rfl (ev_w_in (by omega) (by omega)) rfl (fun g13 => ?_) (fun g13 => ?_)
          · have b14 : -2147483648 ≤ a1 ∧ a1 ≤ -1 := by omega
            refine w_t (np := 15) (l2 := [some (eI (a1)), some (eI (0)), some (eI (v10))]) (s2 := [eI (0)]) rfl rfl rfl ?_
            refine b_rz rfl rfl (Or.inl rfl) ?_
            show ex_q (dt_fg L ρ) rc (d + 2, (316, 11, [some (eR a0), some (eI (a1))], [eI (0)]), (320, 28, [some (eR a0), some (eI (a1)), some (eI (a2)), some (eI (a3))], [eR a0]) :: f :: F, μ)
            refine b_rz rfl rfl (Or.inl rfl) ?_
            show ex_q (dt_fg L ρ) rc (d + 3, (320, 28, [some (eR a0), some (eI (a1)), some (eI (a2)), some (eI (a3))], [eI (0), eR a0]), f :: F, μ)
            refine b_ieq (t1 := 35) (t2 := 31) rfl rfl rfl rfl (fun g14 => ?_) (fun g14 => absurd g14 (by decide))
            refine w_t (np := 36) (l2 := [some (eR a0), some (eI (a1)), some (eI (a2)), some (eI (a3))]) (s2 := [eI (2), eR a0]) rfl rfl rfl ?_
            refine w_cw (np := 39) (as := [eI (2)]) (l2 := [some (eR a0), some (eI (2))]) (rest := []) rfl rfl rfl (Nat.ble_eq.mp rfl) rfl rfl rfl (hI.kd gA0 (by decide) (n := 69) rfl) rfl ?_
            refine w_t (np := 1) (l2 := [some (eR a0), some (eI (2))]) (s2 := [eR a0]) rfl (s_an rfl (pos_g hI gA0 (by decide))) rfl ?_
            refine w_t (np := 2) (l2 := [some (eR a0), some (eI (2))]) (s2 := [eI (0), eR a0]) rfl rfl rfl ?_
            refine j_pf (np := 5) (w := 0) rfl rfl hI gA0 (by decide) (n := 69) rfl rfl (hO_i (lo := -2147483648) (hi := 2147483647) rfl (by decide)) ?_
            intro m15 I16 W17
            have F18 : Fr l_320 0 0 g μ m15 := F0.w W17 gA0 rfl
            refine w_t (np := 6) (l2 := [some (eR a0), some (eI (2))]) (s2 := [eR a0]) rfl (s_an rfl (pos_g I16 gA0 (by decide))) rfl ?_
            refine w_t (np := 7) (l2 := [some (eR a0), some (eI (2))]) (s2 := [eI (2), eR a0]) rfl rfl rfl ?_
            refine j_pf (np := 10) (w := 2) rfl rfl I16 gA0 (by decide) (n := 69) rfl rfl (hO_i (lo := -2147483648) (hi := 2147483647) rfl (by decide)) ?_
            intro m19 I20 W21
            have F22 : Fr l_320 0 0 g μ m19 := F18.w W21 gA0 rfl
            refine w_t (np := 11) (l2 := [some (eR a0), some (eI (2))]) (s2 := [eI (2)]) rfl rfl rfl ?_
            refine b_ine (t1 := 18) (t2 := 14) rfl rfl rfl rfl (fun g23 => ?_) (fun g23 => absurd g23 (by decide))
            refine w_t (np := 19) (l2 := [some (eR a0), some (eI (2))]) (s2 := [eI (0)]) rfl rfl rfl ?_
            refine b_rz rfl rfl (Or.inl rfl) ?_
            show ex_q (dt_fg L ρ) rc (d + 3, (320, 39, [some (eR a0), some (eI (a1)), some (eI (a2)), some (eI (a3))], [eI (0)]), f :: F, m19)
            refine b_ine (t1 := 44) (t2 := 42) rfl rfl rfl rfl (fun g24 => absurd g24 (by decide)) (fun g24 => ?_)
            refine w_t (np := 43) (l2 := [some (eR a0), some (eI (a1)), some (eI (a2)), some (eI (a3))]) (s2 := [eI (-1)]) rfl rfl rfl ?_
            exact b_ri rfl rfl (K m19 (-1) I20 F22 (by decide))
          · have b14 : 0 ≤ a1 ∧ a1 ≤ 2147483647 := by omega
            refine w_t (np := 6) (l2 := [some (eI (a1)), some (eI (0)), some (eI (v10))]) (s2 := [eI (a1)]) rfl rfl rfl ?_
            refine w_t (np := 7) (l2 := [some (eI (a1)), some (eI (0)), some (eI (v10))]) (s2 := [eI (v10), eI (a1)]) rfl rfl rfl ?_
            refine b_cgt (t1 := 14) (t2 := 10) rfl rfl rfl (ev_w_in (by omega) (by omega)) (ev_w_in (by omega) (by omega)) (fun g14 => ?_) (fun g14 => ?_)
            · refine w_t (np := 15) (l2 := [some (eI (a1)), some (eI (0)), some (eI (v10))]) (s2 := [eI (0)]) rfl rfl rfl ?_
              refine b_rz rfl rfl (Or.inl rfl) ?_
              show ex_q (dt_fg L ρ) rc (d + 2, (316, 11, [some (eR a0), some (eI (a1))], [eI (0)]), (320, 28, [some (eR a0), some (eI (a1)), some (eI (a2)), some (eI (a3))], [eR a0]) :: f :: F, μ)
              refine b_rz rfl rfl (Or.inl rfl) ?_
              show ex_q (dt_fg L ρ) rc (d + 3, (320, 28, [some (eR a0), some (eI (a1)), some (eI (a2)), some (eI (a3))], [eI (0), eR a0]), f :: F, μ)
              refine b_ieq (t1 := 35) (t2 := 31) rfl rfl rfl rfl (fun g15 => ?_) (fun g15 => absurd g15 (by decide))
              refine w_t (np := 36) (l2 := [some (eR a0), some (eI (a1)), some (eI (a2)), some (eI (a3))]) (s2 := [eI (2), eR a0]) rfl rfl rfl ?_
              refine w_cw (np := 39) (as := [eI (2)]) (l2 := [some (eR a0), some (eI (2))]) (rest := []) rfl rfl rfl (Nat.ble_eq.mp rfl) rfl rfl rfl (hI.kd gA0 (by decide) (n := 69) rfl) rfl ?_
              refine w_t (np := 1) (l2 := [some (eR a0), some (eI (2))]) (s2 := [eR a0]) rfl (s_an rfl (pos_g hI gA0 (by decide))) rfl ?_
              refine w_t (np := 2) (l2 := [some (eR a0), some (eI (2))]) (s2 := [eI (0), eR a0]) rfl rfl rfl ?_
              refine j_pf (np := 5) (w := 0) rfl rfl hI gA0 (by decide) (n := 69) rfl rfl (hO_i (lo := -2147483648) (hi := 2147483647) rfl (by decide)) ?_
              intro m16 I17 W18
              have F19 : Fr l_320 0 0 g μ m16 := F0.w W18 gA0 rfl
              refine w_t (np := 6) (l2 := [some (eR a0), some (eI (2))]) (s2 := [eR a0]) rfl (s_an rfl (pos_g I17 gA0 (by decide))) rfl ?_
              refine w_t (np := 7) (l2 := [some (eR a0), some (eI (2))]) (s2 := [eI (2), eR a0]) rfl rfl rfl ?_
              refine j_pf (np := 10) (w := 2) rfl rfl I17 gA0 (by decide) (n := 69) rfl rfl (hO_i (lo := -2147483648) (hi := 2147483647) rfl (by decide)) ?_
              intro m20 I21 W22
              have F23 : Fr l_320 0 0 g μ m20 := F19.w W22 gA0 rfl
              refine w_t (np := 11) (l2 := [some (eR a0), some (eI (2))]) (s2 := [eI (2)]) rfl rfl rfl ?_
              refine b_ine (t1 := 18) (t2 := 14) rfl rfl rfl rfl (fun g24 => ?_) (fun g24 => absurd g24 (by decide))
              refine w_t (np := 19) (l2 := [some (eR a0), some (eI (2))]) (s2 := [eI (0)]) rfl rfl rfl ?_
              refine b_rz rfl rfl (Or.inl rfl) ?_
              show ex_q (dt_fg L ρ) rc (d + 3, (320, 39, [some (eR a0), some (eI (a1)), some (eI (a2)), some (eI (a3))], [eI (0)]), f :: F, m20)
              refine b_ine (t1 := 44) (t2 := 42) rfl rfl rfl rfl (fun g25 => absurd g25 (by decide)) (fun g25 => ?_)
              refine w_t (np := 43) (l2 := [some (eR a0), some (eI (a1)), some (eI (a2)), some (eI (a3))]) (s2 := [eI (-1)]) rfl rfl rfl ?_
              exact b_ri rfl rfl (K m20 (-1) I21 F23 (by decide))
            · have b15 : 0 ≤ a1 ∧ a1 ≤ 23 := by omega
              have b16 : 0 ≤ v10 ∧ v10 ≤ 23 := by omega
              refine w_t (np := 11) (l2 := [some (eI (a1)), some (eI (0)), some (eI (v10))]) (s2 := [eI (1)]) rfl rfl rfl ?_
              refine w_go (t1 := 15) rfl rfl ?_
              refine b_rz rfl rfl (Or.inr rfl) ?_
              show ex_q (dt_fg L ρ) rc (d + 2, (316, 11, [some (eR a0), some (eI (a1))], [eI (1)]), (320, 28, [some (eR a0), some (eI (a1)), some (eI (a2)), some (eI (a3))], [eR a0]) :: f :: F, μ)
              refine b_rz rfl rfl (Or.inr rfl) ?_
              show ex_q (dt_fg L ρ) rc (d + 3, (320, 28, [some (eR a0), some (eI (a1)), some (eI (a2)), some (eI (a3))], [eI (1), eR a0]), f :: F, μ)
              refine b_ieq (t1 := 35) (t2 := 31) rfl rfl rfl rfl (fun g15 => absurd g15 (by decide)) (fun g15 => ?_)
              refine w_t (np := 32) (l2 := [some (eR a0), some (eI (a1)), some (eI (a2)), some (eI (a3))]) (s2 := [eI (0), eR a0]) rfl rfl rfl ?_
              refine w_go (t1 := 36) rfl rfl ?_
              refine w_cw (np := 39) (as := [eI (0)]) (l2 := [some (eR a0), some (eI (0))]) (rest := []) rfl rfl rfl (Nat.ble_eq.mp rfl) rfl rfl rfl (hI.kd gA0 (by decide) (n := 69) rfl) rfl ?_
              refine w_t (np := 1) (l2 := [some (eR a0), some (eI (0))]) (s2 := [eR a0]) rfl (s_an rfl (pos_g hI gA0 (by decide))) rfl ?_
              refine w_t (np := 2) (l2 := [some (eR a0), some (eI (0))]) (s2 := [eI (0), eR a0]) rfl rfl rfl ?_
              refine j_pf (np := 5) (w := 0) rfl rfl hI gA0 (by decide) (n := 69) rfl rfl (hO_i (lo := -2147483648) (hi := 2147483647) rfl (by decide)) ?_
              intro m16 I17 W18
              have F19 : Fr l_320 0 0 g μ m16 := F0.w W18 gA0 rfl
              refine w_t (np := 6) (l2 := [some (eR a0), some (eI (0))]) (s2 := [eR a0]) rfl (s_an rfl (pos_g I17 gA0 (by decide))) rfl ?_
              refine w_t (np := 7) (l2 := [some (eR a0), some (eI (0))]) (s2 := [eI (0), eR a0]) rfl rfl rfl ?_
              refine j_pf (np := 10) (w := 0) rfl rfl I17 gA0 (by decide) (n := 69) rfl rfl (hO_i (lo := -2147483648) (hi := 2147483647) rfl (by decide)) ?_
              intro m20 I21 W22
              have F23 : Fr l_320 0 0 g μ m20 := F19.w W22 gA0 rfl
              refine w_t (np := 11) (l2 := [some (eR a0), some (eI (0))]) (s2 := [eI (0)]) rfl rfl rfl ?_
              refine b_ine (t1 := 18) (t2 := 14) rfl rfl rfl rfl (fun g24 => absurd g24 (by decide)) (fun g24 => ?_)
              refine w_t (np := 15) (l2 := [some (eR a0), some (eI (0))]) (s2 := [eI (1)]) rfl rfl rfl ?_
              refine w_go (t1 := 19) rfl rfl ?_
              refine b_rz rfl rfl (Or.inr rfl) ?_
              show ex_q (dt_fg L ρ) rc (d + 3, (320, 39, [some (eR a0), some (eI (a1)), some (eI (a2)), some (eI (a3))], [eI (1)]), f :: F, m20)
              refine b_ine (t1 := 44) (t2 := 42) rfl rfl rfl rfl (fun g25 => ?_) (fun g25 => absurd g25 (by decide))
              refine w_t (np := 45) (l2 := [some (eR a0), some (eI (a1)), some (eI (a2)), some (eI (a3))]) (s2 := [eR a0]) rfl (s_an rfl (pos_g I21 gA0 (by decide))) rfl ?_
              refine w_t (np := 46) (l2 := [some (eR a0), some (eI (a1)), some (eI (a2)), some (eI (a3))]) (s2 := [eI (a1), eR a0]) rfl rfl rfl ?_
              refine w_t (np := 47) (l2 := [some (eR a0), some (eI (a1)), some (eI (a2)), some (eI (a3))]) (s2 := [eR a0, eI (a1), eR a0]) rfl (s_an rfl (pos_g I21 gA0 (by decide))) rfl ?_
              refine j_gr (np := 50) rfl rfl I21 gA0 (by decide) (n := 69) rfl rfl rfl ?_
              intro v26 e27 b28 z29
              have b28 : g v26 = 83 := Nat.eq_of_beq_eq_true b28
              refine w_cw (np := 53) (as := [eI (a1), eR v26]) (l2 := [some (eR a0), some (eI (a1)), some (eR v26), none, none, none, none]) (rest := []) rfl rfl rfl (Nat.ble_eq.mp rfl) rfl rfl rfl (I21.kd gA0 (by decide) (n := 69) rfl) rfl ?_
              refine s_302 (a1 := a1) I21 gA0 (by omega) b28 ?_
              intro m30 I31 F32
              have F33 : Fr l_320 0 0 g μ m30 := F23.t F32 rfl
              show ex_q (dt_fg L ρ) rc (d + 3, (320, 53, [some (eR a0), some (eI (a1)), some (eI (a2)), some (eI (a3))], []), f :: F, m30)
              refine w_t (np := 54) (l2 := [some (eR a0), some (eI (a1)), some (eI (a2)), some (eI (a3))]) (s2 := [eR a0]) rfl (s_an rfl (pos_g I31 gA0 (by decide))) rfl ?_
              refine w_gf (np := 57) (v := eR v26) rfl rfl (I31.kd gA0 (by decide) (n := 69) rfl) (by rw [(F32.k e27 gA0 (by decide) rfl)]; rfl) ?_
              refine w_t (np := 58) (l2 := [some (eR a0), some (eI (a1)), some (eI (a2)), some (eI (a3))]) (s2 := [eI (4), eR v26]) rfl rfl rfl ?_
              refine w_t (np := 59) (l2 := [some (eR a0), some (eI (a1)), some (eI (a2)), some (eI (a3))]) (s2 := [eI (a2), eI (4), eR v26]) rfl rfl rfl ?_
              obtain ⟨v34, e35⟩ : ∃ zz : Int, zz = (4) * (a2) := ⟨_, rfl⟩
              have b36 : 0 ≤ v34 ∧ v34 ≤ 12 := by omega
              refine w_t (np := 60) (l2 := [some (eR a0), some (eI (a1)), some (eI (a2)), some (eI (a3))]) (s2 := [eI (v34), eR v26]) rfl (b_imul (by rw [← e35]; exact ev_w_in (by omega) (by omega))) rfl ?_
              refine w_t (np := 61) (l2 := [some (eR a0), some (eI (a1)), some (eI (a2)), some (eI (a3))]) (s2 := [eI (a3), eI (v34), eR v26]) rfl rfl rfl ?_
              obtain ⟨v37, e38⟩ : ∃ zz : Int, zz = (v34) + (a3) := ⟨_, rfl⟩
              have b39 : 0 ≤ v37 ∧ v37 ≤ 15 := by omega
              refine w_t (np := 62) (l2 := [some (eR a0), some (eI (a1)), some (eI (a2)), some (eI (a3))]) (s2 := [eI (v37), eR v26]) rfl (b_iadd (by rw [← e38]; exact ev_w_in (by omega) (by omega))) rfl ?_
              refine j_al (np := 63) rfl rfl I31 b28 (by decide) (n := 16) rfl rfl (lo := -2147483648) (hi := 2147483647) (fun _ => rfl) (by omega) (by omega) ?_
              intro v40 e41 b42
              exact b_ri rfl rfl (K m30 (v40) I31 F33 (by omega))
theorem s_324 {L : Nat} {ρ : Nat → Int} {rc : eQ} {d : Nat} {f : eFr} {F : List eFr} {μ : eM} {g : Nat → Nat} {a0 : Nat} (hI : SI g μ) (gA0 : g a0 = 52) (K : ∀ (v : Int), (-2147483648 ≤ v ∧ v ≤ 2147483647) → ex_q (dt_fg L ρ) rc (d + 1, (f.1, f.2.1, f.2.2.1, eI v :: f.2.2.2), F, μ)) : ex_q (dt_fg L ρ) rc (d, (324, 0, [some (eR a0), none, none], []), f :: F, μ) := by
  refine w_t (np := 1) (l2 := [some (eR a0), none, none]) (s2 := [eI (0)]) rfl rfl rfl ?_
  refine w_t (np := 2) (l2 := [some (eR a0), some (eI (0)), none]) (s2 := []) rfl rfl rfl ?_
  refine w_t (np := 3) (l2 := [some (eR a0), some (eI (0)), none]) (s2 := [eI (0)]) rfl rfl rfl ?_
  refine w_t (np := 4) (l2 := [some (eR a0), some (eI (0)), some (eI (0))]) (s2 := []) rfl rfl rfl ?_
  have hL4 : ∀ (n1 : Nat) (i3 : Int) (i5 : Int), (-2147483648 ≤ i3 ∧ i3 ≤ 2147483647) → (0 ≤ i5 ∧ i5 ≤ 10) → n1 = (10 - i5).toNat → ex_q (dt_fg L ρ) rc (d, (324, 4, [some (eR a0), some (eI (i3)), some (eI (i5))], []), f :: F, μ) := by
    intro n1
    induction n1 using Nat.strongRecOn with
    | _ n1 ih2 =>
    intro i3 i5 b4 b6 hn7
    refine w_t (np := 5) (l2 := [some (eR a0), some (eI (i3)), some (eI (i5))]) (s2 := [eI (i5)]) rfl rfl rfl ?_
    refine w_t (np := 7) (l2 := [some (eR a0), some (eI (i3)), some (eI (i5))]) (s2 := [eI (10), eI (i5)]) rfl rfl rfl ?_
    refine b_cge (t1 := 33) (t2 := 10) rfl rfl rfl (ev_w_in (by omega) (by omega)) rfl (fun g8 => ?_) (fun g8 => ?_)
    · have b9 : 10 ≤ i5 ∧ i5 ≤ 10 := by omega
      refine w_t (np := 34) (l2 := [some (eR a0), some (eI (i3)), some (eI (i5))]) (s2 := [eI (i3)]) rfl rfl rfl ?_
      exact b_ri rfl rfl (K (i3) (by omega))
    · have b9 : 0 ≤ i5 ∧ i5 ≤ 9 := by omega
      refine w_t (np := 11) (l2 := [some (eR a0), some (eI (i3)), some (eI (i5))]) (s2 := [eI (i3)]) rfl rfl rfl ?_
      refine w_t (np := 12) (l2 := [some (eR a0), some (eI (i3)), some (eI (i5))]) (s2 := [eR a0, eI (i3)]) rfl (s_an rfl (pos_g hI gA0 (by decide))) rfl ?_
      refine j_gr (np := 15) rfl rfl hI gA0 (by decide) (n := 69) rfl rfl rfl ?_
      intro v9 e10 b11 z12
      have b11 : g v9 = 85 := Nat.eq_of_beq_eq_true b11
      refine w_t (np := 16) (l2 := [some (eR a0), some (eI (i3)), some (eI (i5))]) (s2 := [eI (i5), eR v9, eI (i3)]) rfl rfl rfl ?_
      refine j_b3 (np := 17) rfl rfl hI b11 (by decide) (n := 10) rfl rfl (lo := 0) (hi := 1) (fun _ => rfl) (by omega) (by omega) ?_
      intro v13 e14 b15
      refine b_ieq (t1 := 24) (t2 := 20) rfl rfl rfl (ev_w_in (by omega) (by omega)) (fun g16 => ?_) (fun g16 => ?_)
      · have b17 : 0 ≤ v13 ∧ v13 ≤ 0 := by omega
        refine w_t (np := 25) (l2 := [some (eR a0), some (eI (i3)), some (eI (i5))]) (s2 := [eI (0), eI (i3)]) rfl rfl rfl ?_
        refine w_t (np := 26) (l2 := [some (eR a0), some (eI (i3)), some (eI (i5))]) (s2 := [eI (i3)]) rfl (b_iadd (by rw [Int.add_zero]; exact ev_w_in (by omega) (by omega))) rfl ?_
        refine w_t (np := 27) (l2 := [some (eR a0), some (eI (i3)), some (eI (i5))]) (s2 := []) rfl rfl rfl ?_
        obtain ⟨v17, e18⟩ : ∃ zz : Int, zz = (i5) + (1) := ⟨_, rfl⟩
        have b19 : 1 ≤ v17 ∧ v17 ≤ 10 := by omega
        refine w_t (np := 30) (l2 := [some (eR a0), some (eI (i3)), some (eI (v17))]) (s2 := []) rfl (b_iinc rfl (by rw [← e18]; exact ev_w_in (by omega) (by omega)) rfl) rfl ?_
        refine w_go (t1 := 4) rfl rfl ?_
        exact ih2 (10 - (v17)).toNat (by omega) (i3) (v17) (by omega) (by omega)   rfl
      · have b17 : 1 ≤ v13 ∧ v13 ≤ 1 := by omega
        refine w_t (np := 21) (l2 := [some (eR a0), some (eI (i3)), some (eI (i5))]) (s2 := [eI (1), eI (i3)]) rfl rfl rfl ?_
        refine w_go (t1 := 25) rfl rfl ?_
        obtain ⟨v17, e18, b19⟩ : ∃ zz : Int, ev_w ((i3) + (1)) = zz ∧ (-2147483648 ≤ zz ∧ zz ≤ 2147483647) := ⟨_, rfl, hw_bd _⟩
        refine w_t (np := 26) (l2 := [some (eR a0), some (eI (i3)), some (eI (i5))]) (s2 := [eI (v17)]) rfl (b_iadd e18) rfl ?_
        refine w_t (np := 27) (l2 := [some (eR a0), some (eI (v17)), some (eI (i5))]) (s2 := []) rfl rfl rfl ?_
        obtain ⟨v20, e21⟩ : ∃ zz : Int, zz = (i5) + (1) := ⟨_, rfl⟩
        have b22 : 1 ≤ v20 ∧ v20 ≤ 10 := by omega
        refine w_t (np := 30) (l2 := [some (eR a0), some (eI (v17)), some (eI (v20))]) (s2 := []) rfl (b_iinc rfl (by rw [← e21]; exact ev_w_in (by omega) (by omega)) rfl) rfl ?_
        refine w_go (t1 := 4) rfl rfl ?_
        exact ih2 (10 - (v20)).toNat (by omega) (v17) (v20) (by omega) (by omega)   rfl
  exact hL4 _ (0) (0) (by decide) (by decide)   rfl
def l_341 : List Nat := [13313, 13314]
theorem s_341 {L : Nat} {ρ : Nat → Int} {rc : eQ} {d : Nat} {f : eFr} {F : List eFr} {μ : eM} {g : Nat → Nat} {a0 : Nat} {a1 : Int} (hI : SI g μ) (gA0 : g a0 = 52) (bA1 : -2147483648 ≤ a1 ∧ a1 ≤ 2147483647) (K : ∀ (μ2 : eM) (v : Int), SI g μ2 → Fr l_341 0 0 g μ μ2 → (-2147483648 ≤ v ∧ v ≤ 2147483647) → ex_q (dt_fg L ρ) rc (d + 2, (f.1, f.2.1, f.2.2.1, eI v :: f.2.2.2), F, μ2)) : ex_q (dt_fg L ρ) rc (d + 1, (341, 0, [some (eR a0), some (eI (a1)), none, none], []), f :: F, μ) := by
  have F0 : Fr l_341 0 0 g μ μ := Fr.r
  refine w_t (np := 1) (l2 := [some (eR a0), some (eI (a1)), none, none]) (s2 := [eR a0]) rfl (s_an rfl (pos_g hI gA0 (by decide))) rfl ?_
  refine w_t (np := 2) (l2 := [some (eR a0), some (eI (a1)), none, none]) (s2 := [eI (a1), eR a0]) rfl rfl rfl ?_
  refine w_t (np := 3) (l2 := [some (eR a0), some (eI (a1)), none, none]) (s2 := [eI (0), eI (a1), eR a0]) rfl rfl rfl ?_
  refine w_t (np := 4) (l2 := [some (eR a0), some (eI (a1)), none, none]) (s2 := [eI (1), eI (0), eI (a1), eR a0]) rfl rfl rfl ?_
  refine w_cu (np := 7) (as := [eI (a1), eI (0), eI (1)]) (l2 := [some (eI (a1)), some (eI (0)), some (eI (1))]) (rest := [eR a0]) rfl rfl rfl (Nat.ble_eq.mp rfl) rfl rfl rfl rfl ?_
  refine w_t (np := 1) (l2 := [some (eI (a1)), some (eI (0)), some (eI (1))]) (s2 := [eI (a1)]) rfl rfl rfl ?_
  refine w_t (np := 2) (l2 := [some (eI (a1)), some (eI (0)), some (eI (1))]) (s2 := [eI (0), eI (a1)]) rfl rfl rfl ?_
  refine b_clt (t1 := 14) (t2 := 5) rfl rfl rfl (ev_w_in (by omega) (by omega)) rfl (fun g1 => ?_) (fun g1 => ?_)
  · have b2 : -2147483648 ≤ a1 ∧ a1 ≤ -1 := by omega
    refine w_t (np := 15) (l2 := [some (eI (a1)), some (eI (0)), some (eI (1))]) (s2 := [eI (0)]) rfl rfl rfl ?_
    refine b_rz rfl rfl (Or.inl rfl) ?_
    show ex_q (dt_fg L ρ) rc (d + 1, (341, 7, [some (eR a0), some (eI (a1)), none, none], [eI (0), eR a0]), f :: F, μ)
    refine b_ieq (t1 := 14) (t2 := 10) rfl rfl rfl rfl (fun g2 => ?_) (fun g2 => absurd g2 (by decide))
    refine w_t (np := 15) (l2 := [some (eR a0), some (eI (a1)), none, none]) (s2 := [eI (1), eR a0]) rfl rfl rfl ?_
    refine w_cw (np := 18) (as := [eI (1)]) (l2 := [some (eR a0), some (eI (1))]) (rest := []) rfl rfl rfl (Nat.ble_eq.mp rfl) rfl rfl rfl (hI.kd gA0 (by decide) (n := 69) rfl) rfl ?_
    refine w_t (np := 1) (l2 := [some (eR a0), some (eI (1))]) (s2 := [eR a0]) rfl (s_an rfl (pos_g hI gA0 (by decide))) rfl ?_
    refine w_t (np := 2) (l2 := [some (eR a0), some (eI (1))]) (s2 := [eI (0), eR a0]) rfl rfl rfl ?_
    refine j_pf (np := 5) (w := 0) rfl rfl hI gA0 (by decide) (n := 69) rfl rfl (hO_i (lo := -2147483648) (hi := 2147483647) rfl (by decide)) ?_
    intro m3 I4 W5
    have F6 : Fr l_341 0 0 g μ m3 := F0.w W5 gA0 rfl
    refine w_t (np := 6) (l2 := [some (eR a0), some (eI (1))]) (s2 := [eR a0]) rfl (s_an rfl (pos_g I4 gA0 (by decide))) rfl ?_
    refine w_t (np := 7) (l2 := [some (eR a0), some (eI (1))]) (s2 := [eI (1), eR a0]) rfl rfl rfl ?_
    refine j_pf (np := 10) (w := 1) rfl rfl I4 gA0 (by decide) (n := 69) rfl rfl (hO_i (lo := -2147483648) (hi := 2147483647) rfl (by decide)) ?_
    intro m7 I8 W9
    have F10 : Fr l_341 0 0 g μ m7 := F6.w W9 gA0 rfl
    refine w_t (np := 11) (l2 := [some (eR a0), some (eI (1))]) (s2 := [eI (1)]) rfl rfl rfl ?_
    refine b_ine (t1 := 18) (t2 := 14) rfl rfl rfl rfl (fun g11 => ?_) (fun g11 => absurd g11 (by decide))
    refine w_t (np := 19) (l2 := [some (eR a0), some (eI (1))]) (s2 := [eI (0)]) rfl rfl rfl ?_
    refine b_rz rfl rfl (Or.inl rfl) ?_
    show ex_q (dt_fg L ρ) rc (d + 1, (341, 18, [some (eR a0), some (eI (a1)), none, none], [eI (0)]), f :: F, m7)
    refine b_ine (t1 := 23) (t2 := 21) rfl rfl rfl rfl (fun g12 => absurd g12 (by decide)) (fun g12 => ?_)
    refine w_t (np := 22) (l2 := [some (eR a0), some (eI (a1)), none, none]) (s2 := [eI (-1)]) rfl rfl rfl ?_
    exact b_ri rfl rfl (K m7 (-1) I8 F10 (by decide))
  · have b2 : 0 ≤ a1 ∧ a1 ≤ 2147483647 := by omega
    refine w_t (np := 6) (l2 := [some (eI (a1)), some (eI (0)), some (eI (1))]) (s2 := [eI (a1)]) rfl rfl rfl ?_
    refine w_t (np := 7) (l2 := [some (eI (a1)), some (eI (0)), some (eI (1))]) (s2 := [eI (1), eI (a1)]) rfl rfl rfl ?_
    refine b_cgt (t1 := 14) (t2 := 10) rfl rfl rfl (ev_w_in (by omega) (by omega)) rfl (fun g2 => ?_) (fun g2 => ?_)
    · have b3 : 2 ≤ a1 ∧ a1 ≤ 2147483647 := by omega
      refine w_t (np := 15) (l2 := [some (eI (a1)), some (eI (0)), some (eI (1))]) (s2 := [eI (0)]) rfl rfl rfl ?_
      refine b_rz rfl rfl (Or.inl rfl) ?_
      show ex_q (dt_fg L ρ) rc (d + 1, (341, 7, [some (eR a0), some (eI (a1)), none, none], [eI (0), eR a0]), f :: F, μ)
      refine b_ieq (t1 := 14) (t2 := 10) rfl rfl rfl rfl (fun g3 => ?_) (fun g3 => absurd g3 (by decide))
      refine w_t (np := 15) (l2 := [some (eR a0), some (eI (a1)), none, none]) (s2 := [eI (1), eR a0]) rfl rfl rfl ?_
      refine w_cw (np := 18) (as := [eI (1)]) (l2 := [some (eR a0), some (eI (1))]) (rest := []) rfl rfl rfl (Nat.ble_eq.mp rfl) rfl rfl rfl (hI.kd gA0 (by decide) (n := 69) rfl) rfl ?_
      refine w_t (np := 1) (l2 := [some (eR a0), some (eI (1))]) (s2 := [eR a0]) rfl (s_an rfl (pos_g hI gA0 (by decide))) rfl ?_
      refine w_t (np := 2) (l2 := [some (eR a0), some (eI (1))]) (s2 := [eI (0), eR a0]) rfl rfl rfl ?_
      refine j_pf (np := 5) (w := 0) rfl rfl hI gA0 (by decide) (n := 69) rfl rfl (hO_i (lo := -2147483648) (hi := 2147483647) rfl (by decide)) ?_
      intro m4 I5 W6
      have F7 : Fr l_341 0 0 g μ m4 := F0.w W6 gA0 rfl
      refine w_t (np := 6) (l2 := [some (eR a0), some (eI (1))]) (s2 := [eR a0]) rfl (s_an rfl (pos_g I5 gA0 (by decide))) rfl ?_
      refine w_t (np := 7) (l2 := [some (eR a0), some (eI (1))]) (s2 := [eI (1), eR a0]) rfl rfl rfl ?_
      refine j_pf (np := 10) (w := 1) rfl rfl I5 gA0 (by decide) (n := 69) rfl rfl (hO_i (lo := -2147483648) (hi := 2147483647) rfl (by decide)) ?_
      intro m8 I9 W10
      have F11 : Fr l_341 0 0 g μ m8 := F7.w W10 gA0 rfl
      refine w_t (np := 11) (l2 := [some (eR a0), some (eI (1))]) (s2 := [eI (1)]) rfl rfl rfl ?_
      refine b_ine (t1 := 18) (t2 := 14) rfl rfl rfl rfl (fun g12 => ?_) (fun g12 => absurd g12 (by decide))
      refine w_t (np := 19) (l2 := [some (eR a0), some (eI (1))]) (s2 := [eI (0)]) rfl rfl rfl ?_
      refine b_rz rfl rfl (Or.inl rfl) ?_
      show ex_q (dt_fg L ρ) rc (d + 1, (341, 18, [some (eR a0), some (eI (a1)), none, none], [eI (0)]), f :: F, m8)
      refine b_ine (t1 := 23) (t2 := 21) rfl rfl rfl rfl (fun g13 => absurd g13 (by decide)) (fun g13 => ?_)
      refine w_t (np := 22) (l2 := [some (eR a0), some (eI (a1)), none, none]) (s2 := [eI (-1)]) rfl rfl rfl ?_
      exact b_ri rfl rfl (K m8 (-1) I9 F11 (by decide))
    · have b3 : 0 ≤ a1 ∧ a1 ≤ 1 := by omega
      refine w_t (np := 11) (l2 := [some (eI (a1)), some (eI (0)), some (eI (1))]) (s2 := [eI (1)]) rfl rfl rfl ?_
      refine w_go (t1 := 15) rfl rfl ?_
      refine b_rz rfl rfl (Or.inr rfl) ?_
      show ex_q (dt_fg L ρ) rc (d + 1, (341, 7, [some (eR a0), some (eI (a1)), none, none], [eI (1), eR a0]), f :: F, μ)
      refine b_ieq (t1 := 14) (t2 := 10) rfl rfl rfl rfl (fun g3 => absurd g3 (by decide)) (fun g3 => ?_)
      refine w_t (np := 11) (l2 := [some (eR a0), some (eI (a1)), none, none]) (s2 := [eI (0), eR a0]) rfl rfl rfl ?_
      refine w_go (t1 := 15) rfl rfl ?_
      refine w_cw (np := 18) (as := [eI (0)]) (l2 := [some (eR a0), some (eI (0))]) (rest := []) rfl rfl rfl (Nat.ble_eq.mp rfl) rfl rfl rfl (hI.kd gA0 (by decide) (n := 69) rfl) rfl ?_
      refine w_t (np := 1) (l2 := [some (eR a0), some (eI (0))]) (s2 := [eR a0]) rfl (s_an rfl (pos_g hI gA0 (by decide))) rfl ?_
      refine w_t (np := 2) (l2 := [some (eR a0), some (eI (0))]) (s2 := [eI (0), eR a0]) rfl rfl rfl ?_
      refine j_pf (np := 5) (w := 0) rfl rfl hI gA0 (by decide) (n := 69) rfl rfl (hO_i (lo := -2147483648) (hi := 2147483647) rfl (by decide)) ?_
      intro m4 I5 W6
      have F7 : Fr l_341 0 0 g μ m4 := F0.w W6 gA0 rfl
      refine w_t (np := 6) (l2 := [some (eR a0), some (eI (0))]) (s2 := [eR a0]) rfl (s_an rfl (pos_g I5 gA0 (by decide))) rfl ?_
      refine w_t (np := 7) (l2 := [some (eR a0), some (eI (0))]) (s2 := [eI (0), eR a0]) rfl rfl rfl ?_
      refine j_pf (np := 10) (w := 0) rfl rfl I5 gA0 (by decide) (n := 69) rfl rfl (hO_i (lo := -2147483648) (hi := 2147483647) rfl (by decide)) ?_
      intro m8 I9 W10
      have F11 : Fr l_341 0 0 g μ m8 := F7.w W10 gA0 rfl
      refine w_t (np := 11) (l2 := [some (eR a0), some (eI (0))]) (s2 := [eI (0)]) rfl rfl rfl ?_
      refine b_ine (t1 := 18) (t2 := 14) rfl rfl rfl rfl (fun g12 => absurd g12 (by decide)) (fun g12 => ?_)
      refine w_t (np := 15) (l2 := [some (eR a0), some (eI (0))]) (s2 := [eI (1)]) rfl rfl rfl ?_
      refine w_go (t1 := 19) rfl rfl ?_
      refine b_rz rfl rfl (Or.inr rfl) ?_
      show ex_q (dt_fg L ρ) rc (d + 1, (341, 18, [some (eR a0), some (eI (a1)), none, none], [eI (1)]), f :: F, m8)
      refine b_ine (t1 := 23) (t2 := 21) rfl rfl rfl rfl (fun g13 => ?_) (fun g13 => absurd g13 (by decide))
      refine w_t (np := 24) (l2 := [some (eR a0), some (eI (a1)), none, none]) (s2 := [eI (0)]) rfl rfl rfl ?_
      refine w_t (np := 25) (l2 := [some (eR a0), some (eI (a1)), some (eI (0)), none]) (s2 := []) rfl rfl rfl ?_
      refine w_t (np := 26) (l2 := [some (eR a0), some (eI (a1)), some (eI (0)), none]) (s2 := [eI (0)]) rfl rfl rfl ?_
      refine w_t (np := 27) (l2 := [some (eR a0), some (eI (a1)), some (eI (0)), some (eI (0))]) (s2 := []) rfl rfl rfl ?_
      have hL27 : ∀ (n14 : Nat) (m20 : eM) (i16 : Int) (i18 : Int), SI g m20 → Fr l_341 0 0 g μ m20 → (-2147483648 ≤ i16 ∧ i16 ≤ 2147483647) → (0 ≤ i18 ∧ i18 ≤ 24) → m20.1 a0 1 = 0 → m20.1 a0 0 = 0 → n14 = (24 - i18).toNat → ex_q (dt_fg L ρ) rc (d + 1, (341, 27, [some (eR a0), some (eI (a1)), some (eI (i16)), some (eI (i18))], []), f :: F, m20) := by
        intro n14
        induction n14 using Nat.strongRecOn with
        | _ n14 ih15 =>
        intro m20 i16 i18 I21 F22 b17 b19 k23 k24 hn25
        refine w_t (np := 28) (l2 := [some (eR a0), some (eI (a1)), some (eI (i16)), some (eI (i18))]) (s2 := [eI (i18)]) rfl rfl rfl ?_
        refine w_t (np := 29) (l2 := [some (eR a0), some (eI (a1)), some (eI (i16)), some (eI (i18))]) (s2 := [eR a0, eI (i18)]) rfl (s_an rfl (pos_g I21 gA0 (by decide))) rfl ?_
        refine j_gi (np := 32) rfl rfl rfl I21 gA0 (by decide) (n := 69) rfl rfl (lo := 0) (hi := 24) rfl ?_
        intro v26 e27 b28
        refine b_cge (t1 := 62) (t2 := 35) rfl rfl rfl (ev_w_in (by omega) (by omega)) (ev_w_in (by omega) (by omega)) (fun g29 => ?_) (fun g29 => ?_)
        · refine w_t (np := 63) (l2 := [some (eR a0), some (eI (a1)), some (eI (i16)), some (eI (i18))]) (s2 := [eI (i16)]) rfl rfl rfl ?_
          exact b_ri rfl rfl (K m20 (i16) I21 F22 (by omega))
        · have b30 : 0 ≤ i18 ∧ i18 ≤ 23 := by omega
          have b31 : 1 ≤ v26 ∧ v26 ≤ 24 := by omega
          refine w_t (np := 36) (l2 := [some (eR a0), some (eI (a1)), some (eI (i16)), some (eI (i18))]) (s2 := [eI (i16)]) rfl rfl rfl ?_
          refine w_t (np := 37) (l2 := [some (eR a0), some (eI (a1)), some (eI (i16)), some (eI (i18))]) (s2 := [eR a0, eI (i16)]) rfl (s_an rfl (pos_g I21 gA0 (by decide))) rfl ?_
          refine j_gr (np := 40) rfl rfl I21 gA0 (by decide) (n := 69) rfl rfl rfl ?_
          intro v30 e31 b32 z33
          have b32 : g v30 = 79 := Nat.eq_of_beq_eq_true b32
          refine w_t (np := 42) (l2 := [some (eR a0), some (eI (a1)), some (eI (i16)), some (eI (i18))]) (s2 := [eI (7), eR v30, eI (i16)]) rfl rfl rfl ?_
          refine w_t (np := 43) (l2 := [some (eR a0), some (eI (a1)), some (eI (i16)), some (eI (i18))]) (s2 := [eI (i18), eI (7), eR v30, eI (i16)]) rfl rfl rfl ?_
          obtain ⟨v34, e35⟩ : ∃ zz : Int, zz = (7) * (i18) := ⟨_, rfl⟩
          have b36 : 0 ≤ v34 ∧ v34 ≤ 161 := by omega
          refine w_t (np := 44) (l2 := [some (eR a0), some (eI (a1)), some (eI (i16)), some (eI (i18))]) (s2 := [eI (v34), eR v30, eI (i16)]) rfl (b_imul (by rw [← e35]; exact ev_w_in (by omega) (by omega))) rfl ?_
          refine j_al (np := 45) rfl rfl I21 b32 (by decide) (n := 168) rfl rfl (lo := -2147483648) (hi := 2147483647) (fun _ => rfl) (by omega) (by omega) ?_
          intro v37 e38 b39
          refine w_t (np := 46) (l2 := [some (eR a0), some (eI (a1)), some (eI (i16)), some (eI (i18))]) (s2 := [eI (a1), eI (v37), eI (i16)]) rfl rfl rfl ?_
          refine b_cne (t1 := 53) (t2 := 49) rfl rfl rfl (ev_w_in (by omega) (by omega)) (ev_w_in (by omega) (by omega)) (fun g40 => ?_) (fun g40 => ?_)
          · refine w_t (np := 54) (l2 := [some (eR a0), some (eI (a1)), some (eI (i16)), some (eI (i18))]) (s2 := [eI (0), eI (i16)]) rfl rfl rfl ?_
            refine w_t (np := 55) (l2 := [some (eR a0), some (eI (a1)), some (eI (i16)), some (eI (i18))]) (s2 := [eI (i16)]) rfl (b_iadd (by rw [Int.add_zero]; exact ev_w_in (by omega) (by omega))) rfl ?_
            refine w_t (np := 56) (l2 := [some (eR a0), some (eI (a1)), some (eI (i16)), some (eI (i18))]) (s2 := []) rfl rfl rfl ?_
            obtain ⟨v41, e42⟩ : ∃ zz : Int, zz = (i18) + (1) := ⟨_, rfl⟩
            have b43 : 1 ≤ v41 ∧ v41 ≤ 24 := by omega
            refine w_t (np := 59) (l2 := [some (eR a0), some (eI (a1)), some (eI (i16)), some (eI (v41))]) (s2 := []) rfl (b_iinc rfl (by rw [← e42]; exact ev_w_in (by omega) (by omega)) rfl) rfl ?_
            refine w_go (t1 := 27) rfl rfl ?_
            exact ih15 (24 - (v41)).toNat (by omega) m20 (i16) (v41) I21 F22 (by omega) (by omega) k23 k24  rfl
          · have b41 : 0 ≤ v37 ∧ v37 ≤ 1 := by omega
            refine w_t (np := 50) (l2 := [some (eR a0), some (eI (a1)), some (eI (i16)), some (eI (i18))]) (s2 := [eI (2), eI (i16)]) rfl rfl rfl ?_
            refine w_go (t1 := 54) rfl rfl ?_
            obtain ⟨v41, e42, b43⟩ : ∃ zz : Int, ev_w ((i16) + (2)) = zz ∧ (-2147483648 ≤ zz ∧ zz ≤ 2147483647) := ⟨_, rfl, hw_bd _⟩
            refine w_t (np := 55) (l2 := [some (eR a0), some (eI (a1)), some (eI (i16)), some (eI (i18))]) (s2 := [eI (v41)]) rfl (b_iadd e42) rfl ?_
            refine w_t (np := 56) (l2 := [some (eR a0), some (eI (a1)), some (eI (v41)), some (eI (i18))]) (s2 := []) rfl rfl rfl ?_
            obtain ⟨v44, e45⟩ : ∃ zz : Int, zz = (i18) + (1) := ⟨_, rfl⟩
            have b46 : 1 ≤ v44 ∧ v44 ≤ 24 := by omega
            refine w_t (np := 59) (l2 := [some (eR a0), some (eI (a1)), some (eI (v41)), some (eI (v44))]) (s2 := []) rfl (b_iinc rfl (by rw [← e45]; exact ev_w_in (by omega) (by omega)) rfl) rfl ?_
            refine w_go (t1 := 27) rfl rfl ?_
            exact ih15 (24 - (v44)).toNat (by omega) m20 (v41) (v44) I21 F22 (by omega) (by omega) k23 k24  rfl
      exact hL27 _ m8 (0) (0) I9 F11 (by decide) (by decide) (W10.slot W6.at (by decide)) W10.at  rfl
def l_354 : List Nat := [13314]
theorem s_354 {L : Nat} {ρ : Nat → Int} {rc : eQ} {d : Nat} {f : eFr} {F : List eFr} {μ : eM} {g : Nat → Nat} {a0 : Nat} {a1 : Int} (hI : SI g μ) (gA0 : g a0 = 52) (bA1 : -2147483648 ≤ a1 ∧ a1 ≤ 2147483647) (K : ∀ (μ2 : eM) (v : Int), SI g μ2 → Fr l_354 0 0 g μ μ2 → (-2147483648 ≤ v ∧ v ≤ 2147483647) → ex_q (dt_fg L ρ) rc (d + 1, (f.1, f.2.1, f.2.2.1, eI v :: f.2.2.2), F, μ2)) : ex_q (dt_fg L ρ) rc (d, (354, 0, [some (eR a0), some (eI (a1))], []), f :: F, μ) := by
  have F0 : Fr l_354 0 0 g μ μ := Fr.r
  refine w_t (np := 1) (l2 := [some (eR a0), some (eI (a1))]) (s2 := [eR a0]) rfl (s_an rfl (pos_g hI gA0 (by decide))) rfl ?_
  refine w_t (np := 2) (l2 := [some (eR a0), some (eI (a1))]) (s2 := [eI (0), eR a0]) rfl rfl rfl ?_
  refine j_pf (np := 5) (w := 0) rfl rfl hI gA0 (by decide) (n := 69) rfl rfl (hO_i (lo := -2147483648) (hi := 2147483647) rfl (by decide)) ?_
  intro m1 I2 W3
  have F4 : Fr l_354 0 0 g μ m1 := F0.w W3 gA0 rfl
  refine w_t (np := 6) (l2 := [some (eR a0), some (eI (a1))]) (s2 := [eI (a1)]) rfl rfl rfl ?_
  refine b_ine (t1 := 16) (t2 := 9) rfl rfl rfl (ev_w_in (by omega) (by omega)) (fun g5 => ?_) (fun g5 => ?_)
  · refine w_t (np := 17) (l2 := [some (eR a0), some (eI (a1))]) (s2 := [eI (a1)]) rfl rfl rfl ?_
    refine w_t (np := 18) (l2 := [some (eR a0), some (eI (a1))]) (s2 := [eI (1), eI (a1)]) rfl rfl rfl ?_
    refine b_cne (t1 := 28) (t2 := 21) rfl rfl rfl (ev_w_in (by omega) (by omega)) rfl (fun g6 => ?_) (fun g6 => ?_)
    · refine w_t (np := 29) (l2 := [some (eR a0), some (eI (a1))]) (s2 := [eI (-1)]) rfl rfl rfl ?_
      exact b_ri rfl rfl (K m1 (-1) I2 F4 (by decide))
    · have b7 : 1 ≤ a1 ∧ a1 ≤ 1 := by omega
      refine w_t (np := 22) (l2 := [some (eR a0), some (eI (a1))]) (s2 := [eR a0]) rfl (s_an rfl (pos_g I2 gA0 (by decide))) rfl ?_
      refine j_gi (np := 25) rfl rfl rfl I2 gA0 (by decide) (n := 69) rfl rfl (lo := -2147483648) (hi := 2147483647) rfl ?_
      intro v7 e8 b9
      refine w_go (t1 := 29) rfl rfl ?_
      exact b_ri rfl rfl (K m1 (v7) I2 F4 (by omega))
  · have b6 : 0 ≤ a1 ∧ a1 ≤ 0 := by omega
    refine w_t (np := 10) (l2 := [some (eR a0), some (eI (a1))]) (s2 := [eR a0]) rfl (s_an rfl (pos_g I2 gA0 (by decide))) rfl ?_
    refine j_gi (np := 13) rfl rfl rfl I2 gA0 (by decide) (n := 69) rfl rfl (lo := -2147483648) (hi := 2147483647) rfl ?_
    intro v6 e7 b8
    refine w_go (t1 := 29) rfl rfl ?_
    exact b_ri rfl rfl (K m1 (v6) I2 F4 (by omega))
def l_358 : List Nat := [13313, 13314]
theorem s_358 {L : Nat} {ρ : Nat → Int} {rc : eQ} {d : Nat} {f : eFr} {F : List eFr} {μ : eM} {g : Nat → Nat} {a0 : Nat} {a1 : Int} (hI : SI g μ) (gA0 : g a0 = 52) (bA1 : -2147483648 ≤ a1 ∧ a1 ≤ 2147483647) (K : ∀ (μ2 : eM) (v : Int), SI g μ2 → Fr l_358 0 0 g μ μ2 → (-2147483648 ≤ v ∧ v ≤ 2147483647) → ex_q (dt_fg L ρ) rc (d + 2, (f.1, f.2.1, f.2.2.1, eI v :: f.2.2.2), F, μ2)) : ex_q (dt_fg L ρ) rc (d + 1, (358, 0, [some (eR a0), some (eI (a1))], []), f :: F, μ) := by
  have F0 : Fr l_358 0 0 g μ μ := Fr.r
  refine w_t (np := 1) (l2 := [some (eR a0), some (eI (a1))]) (s2 := [eR a0]) rfl (s_an rfl (pos_g hI gA0 (by decide))) rfl ?_
  refine w_t (np := 2) (l2 := [some (eR a0), some (eI (a1))]) (s2 := [eI (a1), eR a0]) rfl rfl rfl ?_
  refine b_ige (t1 := 9) (t2 := 5) rfl rfl rfl (ev_w_in (by omega) (by omega)) (fun g1 => ?_) (fun g1 => ?_)
  · have b2 : 0 ≤ a1 ∧ a1 ≤ 2147483647 := by omega
    refine w_t (np := 10) (l2 := [some (eR a0), some (eI (a1))]) (s2 := [eI (a1), eR a0]) rfl rfl rfl ?_
    refine w_t (np := 11) (l2 := [some (eR a0), some (eI (a1))]) (s2 := [eR a0, eI (a1), eR a0]) rfl (s_an rfl (pos_g hI gA0 (by decide))) rfl ?_
    refine j_gi (np := 14) rfl rfl rfl hI gA0 (by decide) (n := 69) rfl rfl (lo := 0) (hi := 2000) rfl ?_
    intro v2 e3 b4
    refine b_clt (t1 := 21) (t2 := 17) rfl rfl rfl (ev_w_in (by omega) (by omega)) (ev_w_in (by omega) (by omega)) (fun g5 => ?_) (fun g5 => ?_)
    · have b6 : 0 ≤ a1 ∧ a1 ≤ 1999 := by omega
      have b7 : 1 ≤ v2 ∧ v2 ≤ 2000 := by omega
      refine w_t (np := 22) (l2 := [some (eR a0), some (eI (a1))]) (s2 := [eI (0), eR a0]) rfl rfl rfl ?_
      refine w_cw (np := 25) (as := [eI (0)]) (l2 := [some (eR a0), some (eI (0))]) (rest := []) rfl rfl rfl (Nat.ble_eq.mp rfl) rfl rfl rfl (hI.kd gA0 (by decide) (n := 69) rfl) rfl ?_
      refine w_t (np := 1) (l2 := [some (eR a0), some (eI (0))]) (s2 := [eR a0]) rfl (s_an rfl (pos_g hI gA0 (by decide))) rfl ?_
      refine w_t (np := 2) (l2 := [some (eR a0), some (eI (0))]) (s2 := [eI (0), eR a0]) rfl rfl rfl ?_
      refine j_pf (np := 5) (w := 0) rfl rfl hI gA0 (by decide) (n := 69) rfl rfl (hO_i (lo := -2147483648) (hi := 2147483647) rfl (by decide)) ?_
      intro m6 I7 W8
      have F9 : Fr l_358 0 0 g μ m6 := F0.w W8 gA0 rfl
      refine w_t (np := 6) (l2 := [some (eR a0), some (eI (0))]) (s2 := [eR a0]) rfl (s_an rfl (pos_g I7 gA0 (by decide))) rfl ?_
      refine w_t (np := 7) (l2 := [some (eR a0), some (eI (0))]) (s2 := [eI (0), eR a0]) rfl rfl rfl ?_
      refine j_pf (np := 10) (w := 0) rfl rfl I7 gA0 (by decide) (n := 69) rfl rfl (hO_i (lo := -2147483648) (hi := 2147483647) rfl (by decide)) ?_
      intro m10 I11 W12
      have F13 : Fr l_358 0 0 g μ m10 := F9.w W12 gA0 rfl
      refine w_t (np := 11) (l2 := [some (eR a0), some (eI (0))]) (s2 := [eI (0)]) rfl rfl rfl ?_
      refine b_ine (t1 := 18) (t2 := 14) rfl rfl rfl rfl (fun g14 => absurd g14 (by decide)) (fun g14 => ?_)
      refine w_t (np := 15) (l2 := [some (eR a0), some (eI (0))]) (s2 := [eI (1)]) rfl rfl rfl ?_
      refine w_go (t1 := 19) rfl rfl ?_
      refine b_rz rfl rfl (Or.inr rfl) ?_
      show ex_q (dt_fg L ρ) rc (d + 1, (358, 25, [some (eR a0), some (eI (a1))], [eI (1)]), f :: F, m10)
      refine b_ieq (t1 := 37) (t2 := 28) rfl rfl rfl rfl (fun g15 => absurd g15 (by decide)) (fun g15 => ?_)
      refine w_t (np := 29) (l2 := [some (eR a0), some (eI (a1))]) (s2 := [eR a0]) rfl (s_an rfl (pos_g I11 gA0 (by decide))) rfl ?_
      refine j_gr (np := 32) rfl rfl I11 gA0 (by decide) (n := 69) rfl rfl rfl ?_
      intro v16 e17 b18 z19
      have b18 : g v16 = 89 := Nat.eq_of_beq_eq_true b18
      refine w_t (np := 33) (l2 := [some (eR a0), some (eI (a1))]) (s2 := [eI (a1), eR v16]) rfl rfl rfl ?_
      refine j_al (np := 34) rfl rfl I11 b18 (by decide) (n := 2000) rfl rfl (lo := -2147483648) (hi := 2147483647) (fun _ => rfl) (by omega) (by omega) ?_
      intro v20 e21 b22
      refine w_go (t1 := 38) rfl rfl ?_
      exact b_ri rfl rfl (K m10 (v20) I11 F13 (by omega))
    · refine w_t (np := 18) (l2 := [some (eR a0), some (eI (a1))]) (s2 := [eI (5), eR a0]) rfl rfl rfl ?_
      refine w_go (t1 := 22) rfl rfl ?_
      refine w_cw (np := 25) (as := [eI (5)]) (l2 := [some (eR a0), some (eI (5))]) (rest := []) rfl rfl rfl (Nat.ble_eq.mp rfl) rfl rfl rfl (hI.kd gA0 (by decide) (n := 69) rfl) rfl ?_
      refine w_t (np := 1) (l2 := [some (eR a0), some (eI (5))]) (s2 := [eR a0]) rfl (s_an rfl (pos_g hI gA0 (by decide))) rfl ?_
      refine w_t (np := 2) (l2 := [some (eR a0), some (eI (5))]) (s2 := [eI (0), eR a0]) rfl rfl rfl ?_
      refine j_pf (np := 5) (w := 0) rfl rfl hI gA0 (by decide) (n := 69) rfl rfl (hO_i (lo := -2147483648) (hi := 2147483647) rfl (by decide)) ?_
      intro m6 I7 W8
      have F9 : Fr l_358 0 0 g μ m6 := F0.w W8 gA0 rfl
      refine w_t (np := 6) (l2 := [some (eR a0), some (eI (5))]) (s2 := [eR a0]) rfl (s_an rfl (pos_g I7 gA0 (by decide))) rfl ?_
      refine w_t (np := 7) (l2 := [some (eR a0), some (eI (5))]) (s2 := [eI (5), eR a0]) rfl rfl rfl ?_
      refine j_pf (np := 10) (w := 5) rfl rfl I7 gA0 (by decide) (n := 69) rfl rfl (hO_i (lo := -2147483648) (hi := 2147483647) rfl (by decide)) ?_
      intro m10 I11 W12
      have F13 : Fr l_358 0 0 g μ m10 := F9.w W12 gA0 rfl
      refine w_t (np := 11) (l2 := [some (eR a0), some (eI (5))]) (s2 := [eI (5)]) rfl rfl rfl ?_
      refine b_ine (t1 := 18) (t2 := 14) rfl rfl rfl rfl (fun g14 => ?_) (fun g14 => absurd g14 (by decide))
      refine w_t (np := 19) (l2 := [some (eR a0), some (eI (5))]) (s2 := [eI (0)]) rfl rfl rfl ?_
      refine b_rz rfl rfl (Or.inl rfl) ?_
      show ex_q (dt_fg L ρ) rc (d + 1, (358, 25, [some (eR a0), some (eI (a1))], [eI (0)]), f :: F, m10)
      refine b_ieq (t1 := 37) (t2 := 28) rfl rfl rfl rfl (fun g15 => ?_) (fun g15 => absurd g15 (by decide))
      refine w_t (np := 38) (l2 := [some (eR a0), some (eI (a1))]) (s2 := [eI (-1)]) rfl rfl rfl ?_
      exact b_ri rfl rfl (K m10 (-1) I11 F13 (by decide))
  · have b2 : -2147483648 ≤ a1 ∧ a1 ≤ -1 := by omega
    refine w_t (np := 6) (l2 := [some (eR a0), some (eI (a1))]) (s2 := [eI (1), eR a0]) rfl rfl rfl ?_
    refine w_go (t1 := 22) rfl rfl ?_
    refine w_cw (np := 25) (as := [eI (1)]) (l2 := [some (eR a0), some (eI (1))]) (rest := []) rfl rfl rfl (Nat.ble_eq.mp rfl) rfl rfl rfl (hI.kd gA0 (by decide) (n := 69) rfl) rfl ?_
    refine w_t (np := 1) (l2 := [some (eR a0), some (eI (1))]) (s2 := [eR a0]) rfl (s_an rfl (pos_g hI gA0 (by decide))) rfl ?_
    refine w_t (np := 2) (l2 := [some (eR a0), some (eI (1))]) (s2 := [eI (0), eR a0]) rfl rfl rfl ?_
    refine j_pf (np := 5) (w := 0) rfl rfl hI gA0 (by decide) (n := 69) rfl rfl (hO_i (lo := -2147483648) (hi := 2147483647) rfl (by decide)) ?_
    intro m2 I3 W4
    have F5 : Fr l_358 0 0 g μ m2 := F0.w W4 gA0 rfl
    refine w_t (np := 6) (l2 := [some (eR a0), some (eI (1))]) (s2 := [eR a0]) rfl (s_an rfl (pos_g I3 gA0 (by decide))) rfl ?_
    refine w_t (np := 7) (l2 := [some (eR a0), some (eI (1))]) (s2 := [eI (1), eR a0]) rfl rfl rfl ?_
    refine j_pf (np := 10) (w := 1) rfl rfl I3 gA0 (by decide) (n := 69) rfl rfl (hO_i (lo := -2147483648) (hi := 2147483647) rfl (by decide)) ?_
    intro m6 I7 W8
    have F9 : Fr l_358 0 0 g μ m6 := F5.w W8 gA0 rfl
    refine w_t (np := 11) (l2 := [some (eR a0), some (eI (1))]) (s2 := [eI (1)]) rfl rfl rfl ?_
    refine b_ine (t1 := 18) (t2 := 14) rfl rfl rfl rfl (fun g10 => ?_) (fun g10 => absurd g10 (by decide))
    refine w_t (np := 19) (l2 := [some (eR a0), some (eI (1))]) (s2 := [eI (0)]) rfl rfl rfl ?_
    refine b_rz rfl rfl (Or.inl rfl) ?_
    show ex_q (dt_fg L ρ) rc (d + 1, (358, 25, [some (eR a0), some (eI (a1))], [eI (0)]), f :: F, m6)
    refine b_ieq (t1 := 37) (t2 := 28) rfl rfl rfl rfl (fun g11 => ?_) (fun g11 => absurd g11 (by decide))
    refine w_t (np := 38) (l2 := [some (eR a0), some (eI (a1))]) (s2 := [eI (-1)]) rfl rfl rfl ?_
    exact b_ri rfl rfl (K m6 (-1) I7 F9 (by decide))
