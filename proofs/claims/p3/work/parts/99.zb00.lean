/-! methods, walked -/
theorem s_217e {L : Nat} {ρ : Nat → Int} {rc : eQ} {d : Nat} {f : eFr} {F : List eFr} {μ : eM} {g : Nat → Nat} {a0 : Int} (hI : SI g μ) (bA0 : -2147483648 ≤ a0 ∧ a0 ≤ 2147483647) (K : ∀ (v : Int), (0 ≤ v ∧ v ≤ 9) → (v = a0 % 10) → ex_q (dt_fg L ρ) rc (d + 1, (f.1, f.2.1, f.2.2.1, eI v :: f.2.2.2), F, μ)) : ex_q (dt_fg L ρ) rc (d, (217, 0, [some (eI (a0))], []), f :: F, μ) := by
  refine w_t (np := 1) (l2 := [some (eI (a0))]) (s2 := [eI (a0)]) rfl rfl rfl ?_
  refine w_t (np := 3) (l2 := [some (eI (a0))]) (s2 := [eI (10), eI (a0)]) rfl rfl rfl ?_
  obtain ⟨v1, e2, b3, q4, h5⟩ := h_iremq (a := a0) (k := 10) (by decide) (by decide) bA0
  have b6 : -9 ≤ v1 ∧ v1 ≤ 9 := by omega
  refine w_t (np := 4) (l2 := [some (eI (a0))]) (s2 := [eI (v1)]) rfl (e2 _ _) rfl ?_
  refine w_t (np := 6) (l2 := [some (eI (a0))]) (s2 := [eI (10), eI (v1)]) rfl rfl rfl ?_
  obtain ⟨v7, e8⟩ : ∃ zz : Int, zz = (v1) + (10) := ⟨_, rfl⟩
  have b9 : 1 ≤ v7 ∧ v7 ≤ 19 := by omega
  refine w_t (np := 7) (l2 := [some (eI (a0))]) (s2 := [eI (v7)]) rfl (b_iadd (by rw [← e8]; exact ev_w_in (by omega) (by omega))) rfl ?_
  refine w_t (np := 9) (l2 := [some (eI (a0))]) (s2 := [eI (10), eI (v7)]) rfl rfl rfl ?_
  obtain ⟨v10, e11, b12, q13, h14⟩ := h_iremq (a := v7) (k := 10) (by decide) (by decide) (show (-2147483648 : Int) ≤ v7 ∧ (v7 : Int) ≤ 2147483647 by omega)
  have b15 : 0 ≤ v10 ∧ v10 ≤ 9 := by omega
  refine w_t (np := 10) (l2 := [some (eI (a0))]) (s2 := [eI (v10)]) rfl (e11 _ _) rfl ?_
  exact b_ri rfl rfl (K (v10) (by omega) (by omega))
theorem s_218e {L : Nat} {ρ : Nat → Int} {rc : eQ} {d : Nat} {f : eFr} {F : List eFr} {μ : eM} {g : Nat → Nat} {a0 : Int} {a1 : Int} (hI : SI g μ) (bA0 : -2147483648 ≤ a0 ∧ a0 ≤ 2147483647) (bA1 : 0 ≤ a1 ∧ a1 ≤ 3) (K : ∀ (v : Int), (-1 ≤ v ∧ v ≤ 1) → (v = sS a0 a1) → ex_q (dt_fg L ρ) rc (d + 2, (f.1, f.2.1, f.2.2.1, eI v :: f.2.2.2), F, μ)) : ex_q (dt_fg L ρ) rc (d + 1, (218, 0, [some (eI (a0)), some (eI (a1))], []), f :: F, μ) := by
  refine v_gs (np := 3) rfl rfl ?_
  refine w_t (np := 4) (l2 := [some (eI (a0)), some (eI (a1))]) (s2 := [eI (4), eR 21]) rfl rfl rfl ?_
  refine w_t (np := 5) (l2 := [some (eI (a0)), some (eI (a1))]) (s2 := [eI (a0), eI (4), eR 21]) rfl rfl rfl ?_
  refine w_cu (np := 8) (as := [eI (a0)]) (l2 := [some (eI (a0))]) (rest := [eI (4), eR 21]) rfl rfl rfl (Nat.ble_eq.mp rfl) rfl rfl rfl rfl ?_
  refine s_217e (a0 := a0) hI (by omega) ?_
  intro v1 b2 h3
  show ex_q (dt_fg L ρ) rc (d + 1, (218, 8, [some (eI (a0)), some (eI (a1))], [eI (v1), eI (4), eR 21]), f :: F, μ)
  obtain ⟨v4, e5⟩ : ∃ zz : Int, zz = (4) * (v1) := ⟨_, rfl⟩
  have b6 : 0 ≤ v4 ∧ v4 ≤ 36 := by omega
  refine w_t (np := 9) (l2 := [some (eI (a0)), some (eI (a1))]) (s2 := [eI (v4), eR 21]) rfl (b_imul (by rw [← e5]; exact ev_w_in (by omega) (by omega))) rfl ?_
  refine w_t (np := 10) (l2 := [some (eI (a0)), some (eI (a1))]) (s2 := [eI (a1), eI (v4), eR 21]) rfl rfl rfl ?_
  obtain ⟨v7, e8⟩ : ∃ zz : Int, zz = (v4) + (a1) := ⟨_, rfl⟩
  have b9 : 0 ≤ v7 ∧ v7 ≤ 39 := by omega
  refine w_t (np := 11) (l2 := [some (eI (a0)), some (eI (a1))]) (s2 := [eI (v7), eR 21]) rfl (b_iadd (by rw [← e8]; exact ev_w_in (by omega) (by omega))) rfl ?_
  refine j_sx (np := 12) (n := 40) (lo := -1) (hi := 1) rfl rfl rfl (by decide) (by decide) (by decide) rfl rfl (by decide) (by omega) (by omega) ?_
  intro v10 e11 b12
  exact b_ri rfl rfl (K (v10) (by omega) (e11.trans (by unfold sS; rw [show v7 = 4 * (a0 % 10) + a1 by omega])))
def l_302e : List Nat := [21248]
theorem s_302e {L : Nat} {ρ : Nat → Int} {rc : eQ} {d : Nat} {f : eFr} {F : List eFr} {μ : eM} {g : Nat → Nat} {a0 : Nat} {a1 : Int} {a2 : Nat} (hI : SI g μ) (gA0 : g a0 = 52) (bA1 : 0 ≤ a1 ∧ a1 ≤ 23) (gA2 : g a2 = 83) (K : ∀ (μ2 : eM), SI g μ2 → Fr l_302e 0 0 g μ μ2 → CR g μ2 → ex_q (dt_fg L ρ) rc (d + 3, (f.1, f.2.1, f.2.2.1, f.2.2.2), F, μ2)) : ex_q (dt_fg L ρ) rc (d + 2, (302, 0, [some (eR a0), some (eI (a1)), some (eR a2), none, none, none, none], []), f :: F, μ) := by
  have F0 : Fr l_302e 0 0 g μ μ := Fr.r
  refine w_t (np := 2) (l2 := [some (eR a0), some (eI (a1)), some (eR a2), none, none, none, none]) (s2 := [eI (7)]) rfl rfl rfl ?_
  refine w_t (np := 3) (l2 := [some (eR a0), some (eI (a1)), some (eR a2), none, none, none, none]) (s2 := [eI (a1), eI (7)]) rfl rfl rfl ?_
  obtain ⟨v1, e2⟩ : ∃ zz : Int, zz = (7) * (a1) := ⟨_, rfl⟩
  have b3 : 0 ≤ v1 ∧ v1 ≤ 161 := by omega
  refine w_t (np := 4) (l2 := [some (eR a0), some (eI (a1)), some (eR a2), none, none, none, none]) (s2 := [eI (v1)]) rfl (b_imul (by rw [← e2]; exact ev_w_in (by omega) (by omega))) rfl ?_
  refine w_t (np := 5) (l2 := [some (eR a0), some (eI (a1)), some (eR a2), some (eI (v1)), none, none, none]) (s2 := []) rfl rfl rfl ?_
  refine w_t (np := 6) (l2 := [some (eR a0), some (eI (a1)), some (eR a2), some (eI (v1)), none, none, none]) (s2 := [eR a0]) rfl (s_an rfl (pos_g hI gA0 (by decide))) rfl ?_
  refine j_gr (np := 9) rfl rfl hI gA0 (by decide) (n := 69) rfl rfl rfl ?_
  intro v4 e5 b6 z7
  have b6 : g v4 = 79 := Nat.eq_of_beq_eq_true b6
  refine w_t (np := 10) (l2 := [some (eR a0), some (eI (a1)), some (eR a2), some (eI (v1)), none, none, none]) (s2 := [eI (v1), eR v4]) rfl rfl rfl ?_
  refine w_t (np := 11) (l2 := [some (eR a0), some (eI (a1)), some (eR a2), some (eI (v1)), none, none, none]) (s2 := [eI (5), eI (v1), eR v4]) rfl rfl rfl ?_
  obtain ⟨v8, e9⟩ : ∃ zz : Int, zz = (v1) + (5) := ⟨_, rfl⟩
  have b10 : 5 ≤ v8 ∧ v8 ≤ 166 := by omega
  refine w_t (np := 12) (l2 := [some (eR a0), some (eI (a1)), some (eR a2), some (eI (v1)), none, none, none]) (s2 := [eI (v8), eR v4]) rfl (b_iadd (by rw [← e9]; exact ev_w_in (by omega) (by omega))) rfl ?_
  refine j_al (np := 13) rfl rfl hI b6 (by decide) (n := 168) rfl rfl (lo := -2147483648) (hi := 2147483647) (fun _ => rfl) (by omega) (by omega) ?_
  intro v11 e12 b13
  refine w_t (np := 15) (l2 := [some (eR a0), some (eI (a1)), some (eR a2), some (eI (v1)), some (eI (v11)), none, none]) (s2 := []) rfl rfl rfl ?_
  refine w_t (np := 16) (l2 := [some (eR a0), some (eI (a1)), some (eR a2), some (eI (v1)), some (eI (v11)), none, none]) (s2 := [eR a0]) rfl (s_an rfl (pos_g hI gA0 (by decide))) rfl ?_
  refine w_gf (np := 19) (v := eR v4) rfl rfl (hI.kd gA0 (by decide) (n := 69) rfl) (by rw [e5]; rfl) ?_
  refine w_t (np := 20) (l2 := [some (eR a0), some (eI (a1)), some (eR a2), some (eI (v1)), some (eI (v11)), none, none]) (s2 := [eI (v1), eR v4]) rfl rfl rfl ?_
  refine w_t (np := 22) (l2 := [some (eR a0), some (eI (a1)), some (eR a2), some (eI (v1)), some (eI (v11)), none, none]) (s2 := [eI (6), eI (v1), eR v4]) rfl rfl rfl ?_
  obtain ⟨v14, e15⟩ : ∃ zz : Int, zz = (v1) + (6) := ⟨_, rfl⟩
  have b16 : 6 ≤ v14 ∧ v14 ≤ 167 := by omega
  refine w_t (np := 23) (l2 := [some (eR a0), some (eI (a1)), some (eR a2), some (eI (v1)), some (eI (v11)), none, none]) (s2 := [eI (v14), eR v4]) rfl (b_iadd (by rw [← e15]; exact ev_w_in (by omega) (by omega))) rfl ?_
  refine j_al (np := 24) rfl rfl hI b6 (by decide) (n := 168) rfl rfl (lo := -2147483648) (hi := 2147483647) (fun _ => rfl) (by omega) (by omega) ?_
  intro v17 e18 b19
  refine b_ine (t1 := 42) (t2 := 27) rfl rfl rfl (ev_w_in (by omega) (by omega)) (fun g20 => ?_) (fun g20 => ?_)
  · refine w_t (np := 44) (l2 := [some (eR a0), some (eI (a1)), some (eR a2), some (eI (v1)), some (eI (v11)), none, none]) (s2 := [eI (v11)]) rfl rfl rfl ?_
    refine w_t (np := 45) (l2 := [some (eR a0), some (eI (a1)), some (eR a2), some (eI (v1)), some (eI (v11)), none, none]) (s2 := [eR a0, eI (v11)]) rfl (s_an rfl (pos_g hI gA0 (by decide))) rfl ?_
    refine w_gf (np := 48) (v := eR v4) rfl rfl (hI.kd gA0 (by decide) (n := 69) rfl) (by rw [e5]; rfl) ?_
    refine w_t (np := 49) (l2 := [some (eR a0), some (eI (a1)), some (eR a2), some (eI (v1)), some (eI (v11)), none, none]) (s2 := [eI (v1), eR v4, eI (v11)]) rfl rfl rfl ?_
    refine j_al (np := 50) rfl rfl hI b6 (by decide) (n := 168) rfl rfl (lo := -2147483648) (hi := 2147483647) (fun _ => rfl) (by omega) (by omega) ?_
    intro v21 e22 b23
    refine w_cu (np := 53) (as := [eI (v21)]) (l2 := [some (eI (v21))]) (rest := [eI (v11)]) rfl rfl rfl (Nat.ble_eq.mp rfl) rfl rfl rfl rfl ?_
    refine w_t (np := 1) (l2 := [some (eI (v21))]) (s2 := [eI (v21)]) rfl rfl rfl ?_
    refine b_ine (t1 := 8) (t2 := 4) rfl rfl rfl (ev_w_in (by omega) (by omega)) (fun g24 => ?_) (fun g24 => ?_)
    · refine w_t (np := 9) (l2 := [some (eI (v21))]) (s2 := [eI (3)]) rfl rfl rfl ?_
      refine b_ri rfl rfl ?_
      show ex_q (dt_fg L ρ) rc (d + 2, (302, 53, [some (eR a0), some (eI (a1)), some (eR a2), some (eI (v1)), some (eI (v11)), none, none], [eI (3), eI (v11)]), f :: F, μ)
      obtain ⟨v25, e26, b27⟩ : ∃ zz : Int, ev_w ((v11) - (3)) = zz ∧ (-2147483648 ≤ zz ∧ zz ≤ 2147483647) := ⟨_, rfl, hw_bd _⟩
      refine w_t (np := 54) (l2 := [some (eR a0), some (eI (a1)), some (eR a2), some (eI (v1)), some (eI (v11)), none, none]) (s2 := [eI (v25)]) rfl (b_isub e26) rfl ?_
      refine w_t (np := 56) (l2 := [some (eR a0), some (eI (a1)), some (eR a2), some (eI (v1)), some (eI (v11)), some (eI (v25)), none]) (s2 := []) rfl rfl rfl ?_
      refine w_t (np := 57) (l2 := [some (eR a0), some (eI (a1)), some (eR a2), some (eI (v1)), some (eI (v11)), some (eI (v25)), none]) (s2 := [eI (0)]) rfl rfl rfl ?_
      refine w_t (np := 59) (l2 := [some (eR a0), some (eI (a1)), some (eR a2), some (eI (v1)), some (eI (v11)), some (eI (v25)), some (eI (0))]) (s2 := []) rfl rfl rfl ?_
      refine w_t (np := 61) (l2 := [some (eR a0), some (eI (a1)), some (eR a2), some (eI (v1)), some (eI (v11)), some (eI (v25)), some (eI (0))]) (s2 := [eI (0)]) rfl rfl rfl ?_
      refine w_t (np := 62) (l2 := [some (eR a0), some (eI (a1)), some (eR a2), some (eI (v1)), some (eI (v11)), some (eI (v25)), some (eI (0))]) (s2 := [eI (4), eI (0)]) rfl rfl rfl ?_
      refine b_cge (t1 := 149) (t2 := 65) rfl rfl rfl rfl rfl (fun g28 => absurd g28 (by decide)) (fun g28 => ?_)
      refine w_t (np := 66) (l2 := [some (eR a0), some (eI (a1)), some (eR a2), some (eI (v1)), some (eI (v11)), some (eI (v25)), some (eI (0))]) (s2 := [eR a2]) rfl (s_an rfl (pos_g hI gA2 (by decide))) rfl ?_
      refine w_t (np := 68) (l2 := [some (eR a0), some (eI (a1)), some (eR a2), some (eI (v1)), some (eI (v11)), some (eI (v25)), some (eI (0))]) (s2 := [eI (0), eR a2]) rfl rfl rfl ?_
      refine w_t (np := 69) (l2 := [some (eR a0), some (eI (a1)), some (eR a2), some (eI (v1)), some (eI (v11)), some (eI (v25)), some (eI (0))]) (s2 := [eR a0, eI (0), eR a2]) rfl (s_an rfl (pos_g hI gA0 (by decide))) rfl ?_
      refine w_gf (np := 72) (v := eR v4) rfl rfl (hI.kd gA0 (by decide) (n := 69) rfl) (by rw [e5]; rfl) ?_
      refine w_t (np := 73) (l2 := [some (eR a0), some (eI (a1)), some (eR a2), some (eI (v1)), some (eI (v11)), some (eI (v25)), some (eI (0))]) (s2 := [eI (v1), eR v4, eI (0), eR a2]) rfl rfl rfl ?_
      refine w_t (np := 74) (l2 := [some (eR a0), some (eI (a1)), some (eR a2), some (eI (v1)), some (eI (v11)), some (eI (v25)), some (eI (0))]) (s2 := [eI (1), eI (v1), eR v4, eI (0), eR a2]) rfl rfl rfl ?_
      obtain ⟨v29, e30⟩ : ∃ zz : Int, zz = (v1) + (1) := ⟨_, rfl⟩
      have b31 : 1 ≤ v29 ∧ v29 ≤ 162 := by omega
      refine w_t (np := 75) (l2 := [some (eR a0), some (eI (a1)), some (eR a2), some (eI (v1)), some (eI (v11)), some (eI (v25)), some (eI (0))]) (s2 := [eI (v29), eR v4, eI (0), eR a2]) rfl (b_iadd (by rw [← e30]; exact ev_w_in (by omega) (by omega))) rfl ?_
      refine w_t (np := 77) (l2 := [some (eR a0), some (eI (a1)), some (eR a2), some (eI (v1)), some (eI (v11)), some (eI (v25)), some (eI (0))]) (s2 := [eI (0), eI (v29), eR v4, eI (0), eR a2]) rfl rfl rfl ?_
      refine w_t (np := 78) (l2 := [some (eR a0), some (eI (a1)), some (eR a2), some (eI (v1)), some (eI (v11)), some (eI (v25)), some (eI (0))]) (s2 := [eI (v29), eR v4, eI (0), eR a2]) rfl (b_iadd (by rw [Int.add_zero]; exact ev_w_in (by omega) (by omega))) rfl ?_
      refine j_al (np := 79) rfl rfl hI b6 (by decide) (n := 168) rfl rfl (lo := -2147483648) (hi := 2147483647) (fun _ => rfl) (by omega) (by omega) ?_
      intro v32 e33 b34
      refine j_as (np := 80) rfl rfl hI gA2 (by decide) (n := 16) rfl rfl (lo := -2147483648) (hi := 2147483647) (fun _ => rfl) (by decide) (by decide) (by omega) ?_
      intro m35 I36 W37
      have F38 : Fr l_302e 0 0 g μ m35 := F0.v W37 gA2 rfl rfl
      refine w_t (np := 81) (l2 := [some (eR a0), some (eI (a1)), some (eR a2), some (eI (v1)), some (eI (v11)), some (eI (v25)), some (eI (0))]) (s2 := [eR a2]) rfl (s_an rfl (pos_g I36 gA2 (by decide))) rfl ?_
      refine w_t (np := 82) (l2 := [some (eR a0), some (eI (a1)), some (eR a2), some (eI (v1)), some (eI (v11)), some (eI (v25)), some (eI (0))]) (s2 := [eI (4), eR a2]) rfl rfl rfl ?_
      refine w_t (np := 84) (l2 := [some (eR a0), some (eI (a1)), some (eR a2), some (eI (v1)), some (eI (v11)), some (eI (v25)), some (eI (0))]) (s2 := [eI (0), eI (4), eR a2]) rfl rfl rfl ?_
      refine w_t (np := 85) (l2 := [some (eR a0), some (eI (a1)), some (eR a2), some (eI (v1)), some (eI (v11)), some (eI (v25)), some (eI (0))]) (s2 := [eI (4), eR a2]) rfl (b_iadd rfl) rfl ?_
      refine w_t (np := 86) (l2 := [some (eR a0), some (eI (a1)), some (eR a2), some (eI (v1)), some (eI (v11)), some (eI (v25)), some (eI (0))]) (s2 := [eR a2, eI (4), eR a2]) rfl (s_an rfl (pos_g I36 gA2 (by decide))) rfl ?_
      refine w_t (np := 88) (l2 := [some (eR a0), some (eI (a1)), some (eR a2), some (eI (v1)), some (eI (v11)), some (eI (v25)), some (eI (0))]) (s2 := [eI (0), eR a2, eI (4), eR a2]) rfl rfl rfl ?_
      refine j_al (np := 89) rfl rfl I36 gA2 (by decide) (n := 16) rfl rfl (lo := -2147483648) (hi := 2147483647) (fun _ => rfl) (by decide) (by decide) ?_
      intro v39 e40 b41
      have e40 := e40.symm.trans W37.at
      rw [e40]
      refine w_t (np := 91) (l2 := [some (eR a0), some (eI (a1)), some (eR a2), some (eI (v1)), some (eI (v11)), some (eI (v25)), some (eI (0))]) (s2 := [eI (v11), eI (v32), eI (4), eR a2]) rfl rfl rfl ?_
      refine w_t (np := 93) (l2 := [some (eR a0), some (eI (a1)), some (eR a2), some (eI (v1)), some (eI (v11)), some (eI (v25)), some (eI (0))]) (s2 := [eI (0), eI (v11), eI (v32), eI (4), eR a2]) rfl rfl rfl ?_
      refine w_cu (np := 96) (as := [eI (v11), eI (0)]) (l2 := [some (eI (v11)), some (eI (0))]) (rest := [eI (v32), eI (4), eR a2]) rfl rfl rfl (Nat.ble_eq.mp rfl) rfl rfl rfl rfl ?_
      refine s_218e (a0 := v11) (a1 := 0) I36 (by omega) (by decide) ?_
      intro v42 b43 h44
      show ex_q (dt_fg L ρ) rc (d + 2, (302, 96, [some (eR a0), some (eI (a1)), some (eR a2), some (eI (v1)), some (eI (v11)), some (eI (v25)), some (eI (0))], [eI (v42), eI (v32), eI (4), eR a2]), f :: F, m35)
      obtain ⟨v45, e46, b47⟩ : ∃ zz : Int, ev_w ((v32) + (v42)) = zz ∧ (-2147483648 ≤ zz ∧ zz ≤ 2147483647) := ⟨_, rfl, hw_bd _⟩
      refine w_t (np := 97) (l2 := [some (eR a0), some (eI (a1)), some (eR a2), some (eI (v1)), some (eI (v11)), some (eI (v25)), some (eI (0))]) (s2 := [eI (v45), eI (4), eR a2]) rfl (b_iadd e46) rfl ?_
      refine j_as (np := 98) rfl rfl I36 gA2 (by decide) (n := 16) rfl rfl (lo := -2147483648) (hi := 2147483647) (fun _ => rfl) (by decide) (by decide) (by omega) ?_
      intro m48 I49 W50
      have F51 : Fr l_302e 0 0 g μ m48 := F38.v W50 gA2 rfl rfl
      refine w_t (np := 99) (l2 := [some (eR a0), some (eI (a1)), some (eR a2), some (eI (v1)), some (eI (v11)), some (eI (v25)), some (eI (0))]) (s2 := [eR a2]) rfl (s_an rfl (pos_g I49 gA2 (by decide))) rfl ?_
      refine w_t (np := 101) (l2 := [some (eR a0), some (eI (a1)), some (eR a2), some (eI (v1)), some (eI (v11)), some (eI (v25)), some (eI (0))]) (s2 := [eI (12), eR a2]) rfl rfl rfl ?_
      refine w_t (np := 103) (l2 := [some (eR a0), some (eI (a1)), some (eR a2), some (eI (v1)), some (eI (v11)), some (eI (v25)), some (eI (0))]) (s2 := [eI (0), eI (12), eR a2]) rfl rfl rfl ?_
      refine w_t (np := 104) (l2 := [some (eR a0), some (eI (a1)), some (eR a2), some (eI (v1)), some (eI (v11)), some (eI (v25)), some (eI (0))]) (s2 := [eI (12), eR a2]) rfl (b_iadd rfl) rfl ?_
      refine w_t (np := 105) (l2 := [some (eR a0), some (eI (a1)), some (eR a2), some (eI (v1)), some (eI (v11)), some (eI (v25)), some (eI (0))]) (s2 := [eR a2, eI (12), eR a2]) rfl (s_an rfl (pos_g I49 gA2 (by decide))) rfl ?_
      refine w_t (np := 107) (l2 := [some (eR a0), some (eI (a1)), some (eR a2), some (eI (v1)), some (eI (v11)), some (eI (v25)), some (eI (0))]) (s2 := [eI (0), eR a2, eI (12), eR a2]) rfl rfl rfl ?_
      refine j_al (np := 108) rfl rfl I49 gA2 (by decide) (n := 16) rfl rfl (lo := -2147483648) (hi := 2147483647) (fun _ => rfl) (by decide) (by decide) ?_
      intro v52 e53 b54
      have e53 := e53.symm.trans (W50.slot W37.at (by decide))
      rw [e53]
      refine w_t (np := 110) (l2 := [some (eR a0), some (eI (a1)), some (eR a2), some (eI (v1)), some (eI (v11)), some (eI (v25)), some (eI (0))]) (s2 := [eI (v25), eI (v32), eI (12), eR a2]) rfl rfl rfl ?_
      refine w_t (np := 112) (l2 := [some (eR a0), some (eI (a1)), some (eR a2), some (eI (v1)), some (eI (v11)), some (eI (v25)), some (eI (0))]) (s2 := [eI (0), eI (v25), eI (v32), eI (12), eR a2]) rfl rfl rfl ?_
      refine w_cu (np := 115) (as := [eI (v25), eI (0)]) (l2 := [some (eI (v25)), some (eI (0))]) (rest := [eI (v32), eI (12), eR a2]) rfl rfl rfl (Nat.ble_eq.mp rfl) rfl rfl rfl rfl ?_
      refine s_218e (a0 := v25) (a1 := 0) I49 (by omega) (by decide) ?_
      intro v55 b56 h57
      show ex_q (dt_fg L ρ) rc (d + 2, (302, 115, [some (eR a0), some (eI (a1)), some (eR a2), some (eI (v1)), some (eI (v11)), some (eI (v25)), some (eI (0))], [eI (v55), eI (v32), eI (12), eR a2]), f :: F, m48)
      obtain ⟨v58, e59, b60⟩ : ∃ zz : Int, ev_w ((v32) + (v55)) = zz ∧ (-2147483648 ≤ zz ∧ zz ≤ 2147483647) := ⟨_, rfl, hw_bd _⟩
      refine w_t (np := 116) (l2 := [some (eR a0), some (eI (a1)), some (eR a2), some (eI (v1)), some (eI (v11)), some (eI (v25)), some (eI (0))]) (s2 := [eI (v58), eI (12), eR a2]) rfl (b_iadd e59) rfl ?_
      refine j_as (np := 117) rfl rfl I49 gA2 (by decide) (n := 16) rfl rfl (lo := -2147483648) (hi := 2147483647) (fun _ => rfl) (by decide) (by decide) (by omega) ?_
      intro m61 I62 W63
      have F64 : Fr l_302e 0 0 g μ m61 := F51.v W63 gA2 rfl rfl
      refine w_t (np := 118) (l2 := [some (eR a0), some (eI (a1)), some (eR a2), some (eI (v1)), some (eI (v11)), some (eI (v25)), some (eI (0))]) (s2 := [eR a2]) rfl (s_an rfl (pos_g I62 gA2 (by decide))) rfl ?_
      refine w_t (np := 120) (l2 := [some (eR a0), some (eI (a1)), some (eR a2), some (eI (v1)), some (eI (v11)), some (eI (v25)), some (eI (0))]) (s2 := [eI (8), eR a2]) rfl rfl rfl ?_
      refine w_t (np := 122) (l2 := [some (eR a0), some (eI (a1)), some (eR a2), some (eI (v1)), some (eI (v11)), some (eI (v25)), some (eI (0))]) (s2 := [eI (0), eI (8), eR a2]) rfl rfl rfl ?_
      refine w_t (np := 123) (l2 := [some (eR a0), some (eI (a1)), some (eR a2), some (eI (v1)), some (eI (v11)), some (eI (v25)), some (eI (0))]) (s2 := [eI (8), eR a2]) rfl (b_iadd rfl) rfl ?_
      refine w_t (np := 124) (l2 := [some (eR a0), some (eI (a1)), some (eR a2), some (eI (v1)), some (eI (v11)), some (eI (v25)), some (eI (0))]) (s2 := [eR a2, eI (8), eR a2]) rfl (s_an rfl (pos_g I62 gA2 (by decide))) rfl ?_
      refine w_t (np := 125) (l2 := [some (eR a0), some (eI (a1)), some (eR a2), some (eI (v1)), some (eI (v11)), some (eI (v25)), some (eI (0))]) (s2 := [eI (4), eR a2, eI (8), eR a2]) rfl rfl rfl ?_
      refine w_t (np := 127) (l2 := [some (eR a0), some (eI (a1)), some (eR a2), some (eI (v1)), some (eI (v11)), some (eI (v25)), some (eI (0))]) (s2 := [eI (0), eI (4), eR a2, eI (8), eR a2]) rfl rfl rfl ?_
      refine w_t (np := 128) (l2 := [some (eR a0), some (eI (a1)), some (eR a2), some (eI (v1)), some (eI (v11)), some (eI (v25)), some (eI (0))]) (s2 := [eI (4), eR a2, eI (8), eR a2]) rfl (b_iadd rfl) rfl ?_
      refine j_al (np := 129) rfl rfl I62 gA2 (by decide) (n := 16) rfl rfl (lo := -2147483648) (hi := 2147483647) (fun _ => rfl) (by decide) (by decide) ?_
      intro v65 e66 b67
      have e66 := e66.symm.trans (W63.slot W50.at (by decide))
      rw [e66]
      refine w_t (np := 130) (l2 := [some (eR a0), some (eI (a1)), some (eR a2), some (eI (v1)), some (eI (v11)), some (eI (v25)), some (eI (0))]) (s2 := [eR a2, eI (v45), eI (8), eR a2]) rfl (s_an rfl (pos_g I62 gA2 (by decide))) rfl ?_
      refine w_t (np := 132) (l2 := [some (eR a0), some (eI (a1)), some (eR a2), some (eI (v1)), some (eI (v11)), some (eI (v25)), some (eI (0))]) (s2 := [eI (12), eR a2, eI (v45), eI (8), eR a2]) rfl rfl rfl ?_
      refine w_t (np := 134) (l2 := [some (eR a0), some (eI (a1)), some (eR a2), some (eI (v1)), some (eI (v11)), some (eI (v25)), some (eI (0))]) (s2 := [eI (0), eI (12), eR a2, eI (v45), eI (8), eR a2]) rfl rfl rfl ?_
      refine w_t (np := 135) (l2 := [some (eR a0), some (eI (a1)), some (eR a2), some (eI (v1)), some (eI (v11)), some (eI (v25)), some (eI (0))]) (s2 := [eI (12), eR a2, eI (v45), eI (8), eR a2]) rfl (b_iadd rfl) rfl ?_
      refine j_al (np := 136) rfl rfl I62 gA2 (by decide) (n := 16) rfl rfl (lo := -2147483648) (hi := 2147483647) (fun _ => rfl) (by decide) (by decide) ?_
      intro v68 e69 b70
      have e69 := e69.symm.trans W63.at
      rw [e69]
      obtain ⟨v71, e72, b73⟩ : ∃ zz : Int, ev_w ((v45) + (v58)) = zz ∧ (-2147483648 ≤ zz ∧ zz ≤ 2147483647) := ⟨_, rfl, hw_bd _⟩
      refine w_t (np := 137) (l2 := [some (eR a0), some (eI (a1)), some (eR a2), some (eI (v1)), some (eI (v11)), some (eI (v25)), some (eI (0))]) (s2 := [eI (v71), eI (8), eR a2]) rfl (b_iadd e72) rfl ?_
      refine w_t (np := 138) (l2 := [some (eR a0), some (eI (a1)), some (eR a2), some (eI (v1)), some (eI (v11)), some (eI (v25)), some (eI (0))]) (s2 := [eR a2, eI (v71), eI (8), eR a2]) rfl (s_an rfl (pos_g I62 gA2 (by decide))) rfl ?_
      refine w_t (np := 140) (l2 := [some (eR a0), some (eI (a1)), some (eR a2), some (eI (v1)), some (eI (v11)), some (eI (v25)), some (eI (0))]) (s2 := [eI (0), eR a2, eI (v71), eI (8), eR a2]) rfl rfl rfl ?_
      refine j_al (np := 141) rfl rfl I62 gA2 (by decide) (n := 16) rfl rfl (lo := -2147483648) (hi := 2147483647) (fun _ => rfl) (by decide) (by decide) ?_
      intro v74 e75 b76
      have e75 := e75.symm.trans (W63.slot (W50.slot W37.at (by decide)) (by decide))
      rw [e75]
      obtain ⟨v77, e78, b79⟩ : ∃ zz : Int, ev_w ((v71) - (v32)) = zz ∧ (-2147483648 ≤ zz ∧ zz ≤ 2147483647) := ⟨_, rfl, hw_bd _⟩
      refine w_t (np := 142) (l2 := [some (eR a0), some (eI (a1)), some (eR a2), some (eI (v1)), some (eI (v11)), some (eI (v25)), some (eI (0))]) (s2 := [eI (v77), eI (8), eR a2]) rfl (b_isub e78) rfl ?_
      refine j_as (np := 143) rfl rfl I62 gA2 (by decide) (n := 16) rfl rfl (lo := -2147483648) (hi := 2147483647) (fun _ => rfl) (by decide) (by decide) (by omega) ?_
      intro m80 I81 W82
      have F83 : Fr l_302e 0 0 g μ m80 := F64.v W82 gA2 rfl rfl
      refine w_t (np := 146) (l2 := [some (eR a0), some (eI (a1)), some (eR a2), some (eI (v1)), some (eI (v11)), some (eI (v25)), some (eI (1))]) (s2 := []) rfl (b_iinc rfl rfl rfl) rfl ?_
      refine w_go (t1 := 59) rfl rfl ?_
      refine w_t (np := 61) (l2 := [some (eR a0), some (eI (a1)), some (eR a2), some (eI (v1)), some (eI (v11)), some (eI (v25)), some (eI (1))]) (s2 := [eI (1)]) rfl rfl rfl ?_
      refine w_t (np := 62) (l2 := [some (eR a0), some (eI (a1)), some (eR a2), some (eI (v1)), some (eI (v11)), some (eI (v25)), some (eI (1))]) (s2 := [eI (4), eI (1)]) rfl rfl rfl ?_
      refine b_cge (t1 := 149) (t2 := 65) rfl rfl rfl rfl rfl (fun g84 => absurd g84 (by decide)) (fun g84 => ?_)
      refine w_t (np := 66) (l2 := [some (eR a0), some (eI (a1)), some (eR a2), some (eI (v1)), some (eI (v11)), some (eI (v25)), some (eI (1))]) (s2 := [eR a2]) rfl (s_an rfl (pos_g I81 gA2 (by decide))) rfl ?_
      refine w_t (np := 68) (l2 := [some (eR a0), some (eI (a1)), some (eR a2), some (eI (v1)), some (eI (v11)), some (eI (v25)), some (eI (1))]) (s2 := [eI (1), eR a2]) rfl rfl rfl ?_
      refine w_t (np := 69) (l2 := [some (eR a0), some (eI (a1)), some (eR a2), some (eI (v1)), some (eI (v11)), some (eI (v25)), some (eI (1))]) (s2 := [eR a0, eI (1), eR a2]) rfl (s_an rfl (pos_g I81 gA0 (by decide))) rfl ?_
      refine w_gf (np := 72) (v := eR v4) rfl rfl (I81.kd gA0 (by decide) (n := 69) rfl) (by rw [(W82.addr (W63.addr (W50.addr (W37.addr e5 gA2 gA0 (by decide)) gA2 gA0 (by decide)) gA2 gA0 (by decide)) gA2 gA0 (by decide))]; rfl) ?_
      refine w_t (np := 73) (l2 := [some (eR a0), some (eI (a1)), some (eR a2), some (eI (v1)), some (eI (v11)), some (eI (v25)), some (eI (1))]) (s2 := [eI (v1), eR v4, eI (1), eR a2]) rfl rfl rfl ?_
      refine w_t (np := 74) (l2 := [some (eR a0), some (eI (a1)), some (eR a2), some (eI (v1)), some (eI (v11)), some (eI (v25)), some (eI (1))]) (s2 := [eI (1), eI (v1), eR v4, eI (1), eR a2]) rfl rfl rfl ?_
      obtain ⟨v85, e86⟩ : ∃ zz : Int, zz = (v1) + (1) := ⟨_, rfl⟩
      have b87 : 1 ≤ v85 ∧ v85 ≤ 162 := by omega
      refine w_t (np := 75) (l2 := [some (eR a0), some (eI (a1)), some (eR a2), some (eI (v1)), some (eI (v11)), some (eI (v25)), some (eI (1))]) (s2 := [eI (v85), eR v4, eI (1), eR a2]) rfl (b_iadd (by rw [← e86]; exact ev_w_in (by omega) (by omega))) rfl ?_
      refine w_t (np := 77) (l2 := [some (eR a0), some (eI (a1)), some (eR a2), some (eI (v1)), some (eI (v11)), some (eI (v25)), some (eI (1))]) (s2 := [eI (1), eI (v85), eR v4, eI (1), eR a2]) rfl rfl rfl ?_
      obtain ⟨v88, e89⟩ : ∃ zz : Int, zz = (v85) + (1) := ⟨_, rfl⟩
      have b90 : 2 ≤ v88 ∧ v88 ≤ 163 := by omega
      refine w_t (np := 78) (l2 := [some (eR a0), some (eI (a1)), some (eR a2), some (eI (v1)), some (eI (v11)), some (eI (v25)), some (eI (1))]) (s2 := [eI (v88), eR v4, eI (1), eR a2]) rfl (b_iadd (by rw [← e89]; exact ev_w_in (by omega) (by omega))) rfl ?_
      refine j_al (np := 79) rfl rfl I81 b6 (by decide) (n := 168) rfl rfl (lo := -2147483648) (hi := 2147483647) (fun _ => rfl) (by omega) (by omega) ?_
      intro v91 e92 b93
      refine j_as (np := 80) rfl rfl I81 gA2 (by decide) (n := 16) rfl rfl (lo := -2147483648) (hi := 2147483647) (fun _ => rfl) (by decide) (by decide) (by omega) ?_
      intro m94 I95 W96
      have F97 : Fr l_302e 0 0 g μ m94 := F83.v W96 gA2 rfl rfl
      refine w_t (np := 81) (l2 := [some (eR a0), some (eI (a1)), some (eR a2), some (eI (v1)), some (eI (v11)), some (eI (v25)), some (eI (1))]) (s2 := [eR a2]) rfl (s_an rfl (pos_g I95 gA2 (by decide))) rfl ?_
      refine w_t (np := 82) (l2 := [some (eR a0), some (eI (a1)), some (eR a2), some (eI (v1)), some (eI (v11)), some (eI (v25)), some (eI (1))]) (s2 := [eI (4), eR a2]) rfl rfl rfl ?_
      refine w_t (np := 84) (l2 := [some (eR a0), some (eI (a1)), some (eR a2), some (eI (v1)), some (eI (v11)), some (eI (v25)), some (eI (1))]) (s2 := [eI (1), eI (4), eR a2]) rfl rfl rfl ?_
      refine w_t (np := 85) (l2 := [some (eR a0), some (eI (a1)), some (eR a2), some (eI (v1)), some (eI (v11)), some (eI (v25)), some (eI (1))]) (s2 := [eI (5), eR a2]) rfl (b_iadd rfl) rfl ?_
      refine w_t (np := 86) (l2 := [some (eR a0), some (eI (a1)), some (eR a2), some (eI (v1)), some (eI (v11)), some (eI (v25)), some (eI (1))]) (s2 := [eR a2, eI (5), eR a2]) rfl (s_an rfl (pos_g I95 gA2 (by decide))) rfl ?_
      refine w_t (np := 88) (l2 := [some (eR a0), some (eI (a1)), some (eR a2), some (eI (v1)), some (eI (v11)), some (eI (v25)), some (eI (1))]) (s2 := [eI (1), eR a2, eI (5), eR a2]) rfl rfl rfl ?_
      refine j_al (np := 89) rfl rfl I95 gA2 (by decide) (n := 16) rfl rfl (lo := -2147483648) (hi := 2147483647) (fun _ => rfl) (by decide) (by decide) ?_
      intro v98 e99 b100
      have e99 := e99.symm.trans W96.at
      rw [e99]
      refine w_t (np := 91) (l2 := [some (eR a0), some (eI (a1)), some (eR a2), some (eI (v1)), some (eI (v11)), some (eI (v25)), some (eI (1))]) (s2 := [eI (v11), eI (v91), eI (5), eR a2]) rfl rfl rfl ?_
      refine w_t (np := 93) (l2 := [some (eR a0), some (eI (a1)), some (eR a2), some (eI (v1)), some (eI (v11)), some (eI (v25)), some (eI (1))]) (s2 := [eI (1), eI (v11), eI (v91), eI (5), eR a2]) rfl rfl rfl ?_
      refine w_cu (np := 96) (as := [eI (v11), eI (1)]) (l2 := [some (eI (v11)), some (eI (1))]) (rest := [eI (v91), eI (5), eR a2]) rfl rfl rfl (Nat.ble_eq.mp rfl) rfl rfl rfl rfl ?_
      refine s_218e (a0 := v11) (a1 := 1) I95 (by omega) (by decide) ?_
      intro v101 b102 h103
      show ex_q (dt_fg L ρ) rc (d + 2, (302, 96, [some (eR a0), some (eI (a1)), some (eR a2), some (eI (v1)), some (eI (v11)), some (eI (v25)), some (eI (1))], [eI (v101), eI (v91), eI (5), eR a2]), f :: F, m94)
      obtain ⟨v104, e105, b106⟩ : ∃ zz : Int, ev_w ((v91) + (v101)) = zz ∧ (-2147483648 ≤ zz ∧ zz ≤ 2147483647) := ⟨_, rfl, hw_bd _⟩
      refine w_t (np := 97) (l2 := [some (eR a0), some (eI (a1)), some (eR a2), some (eI (v1)), some (eI (v11)), some (eI (v25)), some (eI (1))]) (s2 := [eI (v104), eI (5), eR a2]) rfl (b_iadd e105) rfl ?_
      refine j_as (np := 98) rfl rfl I95 gA2 (by decide) (n := 16) rfl rfl (lo := -2147483648) (hi := 2147483647) (fun _ => rfl) (by decide) (by decide) (by omega) ?_
      intro m107 I108 W109
      have F110 : Fr l_302e 0 0 g μ m107 := F97.v W109 gA2 rfl rfl
      refine w_t (np := 99) (l2 := [some (eR a0), some (eI (a1)), some (eR a2), some (eI (v1)), some (eI (v11)), some (eI (v25)), some (eI (1))]) (s2 := [eR a2]) rfl (s_an rfl (pos_g I108 gA2 (by decide))) rfl ?_
      refine w_t (np := 101) (l2 := [some (eR a0), some (eI (a1)), some (eR a2), some (eI (v1)), some (eI (v11)), some (eI (v25)), some (eI (1))]) (s2 := [eI (12), eR a2]) rfl rfl rfl ?_
      refine w_t (np := 103) (l2 := [some (eR a0), some (eI (a1)), some (eR a2), some (eI (v1)), some (eI (v11)), some (eI (v25)), some (eI (1))]) (s2 := [eI (1), eI (12), eR a2]) rfl rfl rfl ?_
      refine w_t (np := 104) (l2 := [some (eR a0), some (eI (a1)), some (eR a2), some (eI (v1)), some (eI (v11)), some (eI (v25)), some (eI (1))]) (s2 := [eI (13), eR a2]) rfl (b_iadd rfl) rfl ?_
      refine w_t (np := 105) (l2 := [some (eR a0), some (eI (a1)), some (eR a2), some (eI (v1)), some (eI (v11)), some (eI (v25)), some (eI (1))]) (s2 := [eR a2, eI (13), eR a2]) rfl (s_an rfl (pos_g I108 gA2 (by decide))) rfl ?_
      refine w_t (np := 107) (l2 := [some (eR a0), some (eI (a1)), some (eR a2), some (eI (v1)), some (eI (v11)), some (eI (v25)), some (eI (1))]) (s2 := [eI (1), eR a2, eI (13), eR a2]) rfl rfl rfl ?_
      refine j_al (np := 108) rfl rfl I108 gA2 (by decide) (n := 16) rfl rfl (lo := -2147483648) (hi := 2147483647) (fun _ => rfl) (by decide) (by decide) ?_
      intro v111 e112 b113
      have e112 := e112.symm.trans (W109.slot W96.at (by decide))
      rw [e112]
      refine w_t (np := 110) (l2 := [some (eR a0), some (eI (a1)), some (eR a2), some (eI (v1)), some (eI (v11)), some (eI (v25)), some (eI (1))]) (s2 := [eI (v25), eI (v91), eI (13), eR a2]) rfl rfl rfl ?_
      refine w_t (np := 112) (l2 := [some (eR a0), some (eI (a1)), some (eR a2), some (eI (v1)), some (eI (v11)), some (eI (v25)), some (eI (1))]) (s2 := [eI (1), eI (v25), eI (v91), eI (13), eR a2]) rfl rfl rfl ?_
      refine w_cu (np := 115) (as := [eI (v25), eI (1)]) (l2 := [some (eI (v25)), some (eI (1))]) (rest := [eI (v91), eI (13), eR a2]) rfl rfl rfl (Nat.ble_eq.mp rfl) rfl rfl rfl rfl ?_
      refine s_218e (a0 := v25) (a1 := 1) I108 (by omega) (by decide) ?_
      intro v114 b115 h116
      show ex_q (dt_fg L ρ) rc (d + 2, (302, 115, [some (eR a0), some (eI (a1)), some (eR a2), some (eI (v1)), some (eI (v11)), some (eI (v25)), some (eI (1))], [eI (v114), eI (v91), eI (13), eR a2]), f :: F, m107)
      obtain ⟨v117, e118, b119⟩ : ∃ zz : Int, ev_w ((v91) + (v114)) = zz ∧ (-2147483648 ≤ zz ∧ zz ≤ 2147483647) := ⟨_, rfl, hw_bd _⟩
      refine w_t (np := 116) (l2 := [some (eR a0), some (eI (a1)), some (eR a2), some (eI (v1)), some (eI (v11)), some (eI (v25)), some (eI (1))]) (s2 := [eI (v117), eI (13), eR a2]) rfl (b_iadd e118) rfl ?_
      refine j_as (np := 117) rfl rfl I108 gA2 (by decide) (n := 16) rfl rfl (lo := -2147483648) (hi := 2147483647) (fun _ => rfl) (by decide) (by decide) (by omega) ?_
      intro m120 I121 W122
      have F123 : Fr l_302e 0 0 g μ m120 := F110.v W122 gA2 rfl rfl
      refine w_t (np := 118) (l2 := [some (eR a0), some (eI (a1)), some (eR a2), some (eI (v1)), some (eI (v11)), some (eI (v25)), some (eI (1))]) (s2 := [eR a2]) rfl (s_an rfl (pos_g I121 gA2 (by decide))) rfl ?_
      refine w_t (np := 120) (l2 := [some (eR a0), some (eI (a1)), some (eR a2), some (eI (v1)), some (eI (v11)), some (eI (v25)), some (eI (1))]) (s2 := [eI (8), eR a2]) rfl rfl rfl ?_
      refine w_t (np := 122) (l2 := [some (eR a0), some (eI (a1)), some (eR a2), some (eI (v1)), some (eI (v11)), some (eI (v25)), some (eI (1))]) (s2 := [eI (1), eI (8), eR a2]) rfl rfl rfl ?_
      refine w_t (np := 123) (l2 := [some (eR a0), some (eI (a1)), some (eR a2), some (eI (v1)), some (eI (v11)), some (eI (v25)), some (eI (1))]) (s2 := [eI (9), eR a2]) rfl (b_iadd rfl) rfl ?_
      refine w_t (np := 124) (l2 := [some (eR a0), some (eI (a1)), some (eR a2), some (eI (v1)), some (eI (v11)), some (eI (v25)), some (eI (1))]) (s2 := [eR a2, eI (9), eR a2]) rfl (s_an rfl (pos_g I121 gA2 (by decide))) rfl ?_
      refine w_t (np := 125) (l2 := [some (eR a0), some (eI (a1)), some (eR a2), some (eI (v1)), some (eI (v11)), some (eI (v25)), some (eI (1))]) (s2 := [eI (4), eR a2, eI (9), eR a2]) rfl rfl rfl ?_
      refine w_t (np := 127) (l2 := [some (eR a0), some (eI (a1)), some (eR a2), some (eI (v1)), some (eI (v11)), some (eI (v25)), some (eI (1))]) (s2 := [eI (1), eI (4), eR a2, eI (9), eR a2]) rfl rfl rfl ?_
      refine w_t (np := 128) (l2 := [some (eR a0), some (eI (a1)), some (eR a2), some (eI (v1)), some (eI (v11)), some (eI (v25)), some (eI (1))]) (s2 := [eI (5), eR a2, eI (9), eR a2]) rfl (b_iadd rfl) rfl ?_
      refine j_al (np := 129) rfl rfl I121 gA2 (by decide) (n := 16) rfl rfl (lo := -2147483648) (hi := 2147483647) (fun _ => rfl) (by decide) (by decide) ?_
      intro v124 e125 b126
      have e125 := e125.symm.trans (W122.slot W109.at (by decide))
      rw [e125]
      refine w_t (np := 130) (l2 := [some (eR a0), some (eI (a1)), some (eR a2), some (eI (v1)), some (eI (v11)), some (eI (v25)), some (eI (1))]) (s2 := [eR a2, eI (v104), eI (9), eR a2]) rfl (s_an rfl (pos_g I121 gA2 (by decide))) rfl ?_
      refine w_t (np := 132) (l2 := [some (eR a0), some (eI (a1)), some (eR a2), some (eI (v1)), some (eI (v11)), some (eI (v25)), some (eI (1))]) (s2 := [eI (12), eR a2, eI (v104), eI (9), eR a2]) rfl rfl rfl ?_
      refine w_t (np := 134) (l2 := [some (eR a0), some (eI (a1)), some (eR a2), some (eI (v1)), some (eI (v11)), some (eI (v25)), some (eI (1))]) (s2 := [eI (1), eI (12), eR a2, eI (v104), eI (9), eR a2]) rfl rfl rfl ?_
      refine w_t (np := 135) (l2 := [some (eR a0), some (eI (a1)), some (eR a2), some (eI (v1)), some (eI (v11)), some (eI (v25)), some (eI (1))]) (s2 := [eI (13), eR a2, eI (v104), eI (9), eR a2]) rfl (b_iadd rfl) rfl ?_
      refine j_al (np := 136) rfl rfl I121 gA2 (by decide) (n := 16) rfl rfl (lo := -2147483648) (hi := 2147483647) (fun _ => rfl) (by decide) (by decide) ?_
      intro v127 e128 b129
      have e128 := e128.symm.trans W122.at
      rw [e128]
      obtain ⟨v130, e131, b132⟩ : ∃ zz : Int, ev_w ((v104) + (v117)) = zz ∧ (-2147483648 ≤ zz ∧ zz ≤ 2147483647) := ⟨_, rfl, hw_bd _⟩
      refine w_t (np := 137) (l2 := [some (eR a0), some (eI (a1)), some (eR a2), some (eI (v1)), some (eI (v11)), some (eI (v25)), some (eI (1))]) (s2 := [eI (v130), eI (9), eR a2]) rfl (b_iadd e131) rfl ?_
      refine w_t (np := 138) (l2 := [some (eR a0), some (eI (a1)), some (eR a2), some (eI (v1)), some (eI (v11)), some (eI (v25)), some (eI (1))]) (s2 := [eR a2, eI (v130), eI (9), eR a2]) rfl (s_an rfl (pos_g I121 gA2 (by decide))) rfl ?_
      refine w_t (np := 140) (l2 := [some (eR a0), some (eI (a1)), some (eR a2), some (eI (v1)), some (eI (v11)), some (eI (v25)), some (eI (1))]) (s2 := [eI (1), eR a2, eI (v130), eI (9), eR a2]) rfl rfl rfl ?_
      refine j_al (np := 141) rfl rfl I121 gA2 (by decide) (n := 16) rfl rfl (lo := -2147483648) (hi := 2147483647) (fun _ => rfl) (by decide) (by decide) ?_
      intro v133 e134 b135
      have e134 := e134.symm.trans (W122.slot (W109.slot W96.at (by decide)) (by decide))
      rw [e134]
      obtain ⟨v136, e137, b138⟩ : ∃ zz : Int, ev_w ((v130) - (v91)) = zz ∧ (-2147483648 ≤ zz ∧ zz ≤ 2147483647) := ⟨_, rfl, hw_bd _⟩
      refine w_t (np := 142) (l2 := [some (eR a0), some (eI (a1)), some (eR a2), some (eI (v1)), some (eI (v11)), some (eI (v25)), some (eI (1))]) (s2 := [eI (v136), eI (9), eR a2]) rfl (b_isub e137) rfl ?_
      refine j_as (np := 143) rfl rfl I121 gA2 (by decide) (n := 16) rfl rfl (lo := -2147483648) (hi := 2147483647) (fun _ => rfl) (by decide) (by decide) (by omega) ?_
      intro m139 I140 W141
      have F142 : Fr l_302e 0 0 g μ m139 := F123.v W141 gA2 rfl rfl
      refine w_t (np := 146) (l2 := [some (eR a0), some (eI (a1)), some (eR a2), some (eI (v1)), some (eI (v11)), some (eI (v25)), some (eI (2))]) (s2 := []) rfl (b_iinc rfl rfl rfl) rfl ?_
      refine w_go (t1 := 59) rfl rfl ?_
      refine w_t (np := 61) (l2 := [some (eR a0), some (eI (a1)), some (eR a2), some (eI (v1)), some (eI (v11)), some (eI (v25)), some (eI (2))]) (s2 := [eI (2)]) rfl rfl rfl ?_
      refine w_t (np := 62) (l2 := [some (eR a0), some (eI (a1)), some (eR a2), some (eI (v1)), some (eI (v11)), some (eI (v25)), some (eI (2))]) (s2 := [eI (4), eI (2)]) rfl rfl rfl ?_
      refine b_cge (t1 := 149) (t2 := 65) rfl rfl rfl rfl rfl (fun g143 => absurd g143 (by decide)) (fun g143 => ?_)
      refine w_t (np := 66) (l2 := [some (eR a0), some (eI (a1)), some (eR a2), some (eI (v1)), some (eI (v11)), some (eI (v25)), some (eI (2))]) (s2 := [eR a2]) rfl (s_an rfl (pos_g I140 gA2 (by decide))) rfl ?_
      refine w_t (np := 68) (l2 := [some (eR a0), some (eI (a1)), some (eR a2), some (eI (v1)), some (eI (v11)), some (eI (v25)), some (eI (2))]) (s2 := [eI (2), eR a2]) rfl rfl rfl ?_
      refine w_t (np := 69) (l2 := [some (eR a0), some (eI (a1)), some (eR a2), some (eI (v1)), some (eI (v11)), some (eI (v25)), some (eI (2))]) (s2 := [eR a0, eI (2), eR a2]) rfl (s_an rfl (pos_g I140 gA0 (by decide))) rfl ?_
      refine w_gf (np := 72) (v := eR v4) rfl rfl (I140.kd gA0 (by decide) (n := 69) rfl) (by rw [(W141.addr (W122.addr (W109.addr (W96.addr (W82.addr (W63.addr (W50.addr (W37.addr e5 gA2 gA0 (by decide)) gA2 gA0 (by decide)) gA2 gA0 (by decide)) gA2 gA0 (by decide)) gA2 gA0 (by decide)) gA2 gA0 (by decide)) gA2 gA0 (by decide)) gA2 gA0 (by decide))]; rfl) ?_
      refine w_t (np := 73) (l2 := [some (eR a0), some (eI (a1)), some (eR a2), some (eI (v1)), some (eI (v11)), some (eI (v25)), some (eI (2))]) (s2 := [eI (v1), eR v4, eI (2), eR a2]) rfl rfl rfl ?_
      refine w_t (np := 74) (l2 := [some (eR a0), some (eI (a1)), some (eR a2), some (eI (v1)), some (eI (v11)), some (eI (v25)), some (eI (2))]) (s2 := [eI (1), eI (v1), eR v4, eI (2), eR a2]) rfl rfl rfl ?_
      obtain ⟨v144, e145⟩ : ∃ zz : Int, zz = (v1) + (1) := ⟨_, rfl⟩
      have b146 : 1 ≤ v144 ∧ v144 ≤ 162 := by omega
      refine w_t (np := 75) (l2 := [some (eR a0), some (eI (a1)), some (eR a2), some (eI (v1)), some (eI (v11)), some (eI (v25)), some (eI (2))]) (s2 := [eI (v144), eR v4, eI (2), eR a2]) rfl (b_iadd (by rw [← e145]; exact ev_w_in (by omega) (by omega))) rfl ?_
      refine w_t (np := 77) (l2 := [some (eR a0), some (eI (a1)), some (eR a2), some (eI (v1)), some (eI (v11)), some (eI (v25)), some (eI (2))]) (s2 := [eI (2), eI (v144), eR v4, eI (2), eR a2]) rfl rfl rfl ?_
      obtain ⟨v147, e148⟩ : ∃ zz : Int, zz = (v144) + (2) := ⟨_, rfl⟩
      have b149 : 3 ≤ v147 ∧ v147 ≤ 164 := by omega
      refine w_t (np := 78) (l2 := [some (eR a0), some (eI (a1)), some (eR a2), some (eI (v1)), some (eI (v11)), some (eI (v25)), some (eI (2))]) (s2 := [eI (v147), eR v4, eI (2), eR a2]) rfl (b_iadd (by rw [← e148]; exact ev_w_in (by omega) (by omega))) rfl ?_
      refine j_al (np := 79) rfl rfl I140 b6 (by decide) (n := 168) rfl rfl (lo := -2147483648) (hi := 2147483647) (fun _ => rfl) (by omega) (by omega) ?_
      intro v150 e151 b152
      refine j_as (np := 80) rfl rfl I140 gA2 (by decide) (n := 16) rfl rfl (lo := -2147483648) (hi := 2147483647) (fun _ => rfl) (by decide) (by decide) (by omega) ?_
      intro m153 I154 W155
      have F156 : Fr l_302e 0 0 g μ m153 := F142.v W155 gA2 rfl rfl
      refine w_t (np := 81) (l2 := [some (eR a0), some (eI (a1)), some (eR a2), some (eI (v1)), some (eI (v11)), some (eI (v25)), some (eI (2))]) (s2 := [eR a2]) rfl (s_an rfl (pos_g I154 gA2 (by decide))) rfl ?_
      refine w_t (np := 82) (l2 := [some (eR a0), some (eI (a1)), some (eR a2), some (eI (v1)), some (eI (v11)), some (eI (v25)), some (eI (2))]) (s2 := [eI (4), eR a2]) rfl rfl rfl ?_
      refine w_t (np := 84) (l2 := [some (eR a0), some (eI (a1)), some (eR a2), some (eI (v1)), some (eI (v11)), some (eI (v25)), some (eI (2))]) (s2 := [eI (2), eI (4), eR a2]) rfl rfl rfl ?_
      refine w_t (np := 85) (l2 := [some (eR a0), some (eI (a1)), some (eR a2), some (eI (v1)), some (eI (v11)), some (eI (v25)), some (eI (2))]) (s2 := [eI (6), eR a2]) rfl (b_iadd rfl) rfl ?_
      refine w_t (np := 86) (l2 := [some (eR a0), some (eI (a1)), some (eR a2), some (eI (v1)), some (eI (v11)), some (eI (v25)), some (eI (2))]) (s2 := [eR a2, eI (6), eR a2]) rfl (s_an rfl (pos_g I154 gA2 (by decide))) rfl ?_
      refine w_t (np := 88) (l2 := [some (eR a0), some (eI (a1)), some (eR a2), some (eI (v1)), some (eI (v11)), some (eI (v25)), some (eI (2))]) (s2 := [eI (2), eR a2, eI (6), eR a2]) rfl rfl rfl ?_
      refine j_al (np := 89) rfl rfl I154 gA2 (by decide) (n := 16) rfl rfl (lo := -2147483648) (hi := 2147483647) (fun _ => rfl) (by decide) (by decide) ?_
      intro v157 e158 b159
      have e158 := e158.symm.trans W155.at
      rw [e158]
      refine w_t (np := 91) (l2 := [some (eR a0), some (eI (a1)), some (eR a2), some (eI (v1)), some (eI (v11)), some (eI (v25)), some (eI (2))]) (s2 := [eI (v11), eI (v150), eI (6), eR a2]) rfl rfl rfl ?_
      refine w_t (np := 93) (l2 := [some (eR a0), some (eI (a1)), some (eR a2), some (eI (v1)), some (eI (v11)), some (eI (v25)), some (eI (2))]) (s2 := [eI (2), eI (v11), eI (v150), eI (6), eR a2]) rfl rfl rfl ?_
      refine w_cu (np := 96) (as := [eI (v11), eI (2)]) (l2 := [some (eI (v11)), some (eI (2))]) (rest := [eI (v150), eI (6), eR a2]) rfl rfl rfl (Nat.ble_eq.mp rfl) rfl rfl rfl rfl ?_
      refine s_218e (a0 := v11) (a1 := 2) I154 (by omega) (by decide) ?_
      intro v160 b161 h162
      show ex_q (dt_fg L ρ) rc (d + 2, (302, 96, [some (eR a0), some (eI (a1)), some (eR a2), some (eI (v1)), some (eI (v11)), some (eI (v25)), some (eI (2))], [eI (v160), eI (v150), eI (6), eR a2]), f :: F, m153)
      obtain ⟨v163, e164, b165⟩ : ∃ zz : Int, ev_w ((v150) + (v160)) = zz ∧ (-2147483648 ≤ zz ∧ zz ≤ 2147483647) := ⟨_, rfl, hw_bd _⟩
      refine w_t (np := 97) (l2 := [some (eR a0), some (eI (a1)), some (eR a2), some (eI (v1)), some (eI (v11)), some (eI (v25)), some (eI (2))]) (s2 := [eI (v163), eI (6), eR a2]) rfl (b_iadd e164) rfl ?_
      refine j_as (np := 98) rfl rfl I154 gA2 (by decide) (n := 16) rfl rfl (lo := -2147483648) (hi := 2147483647) (fun _ => rfl) (by decide) (by decide) (by omega) ?_
      intro m166 I167 W168
      have F169 : Fr l_302e 0 0 g μ m166 := F156.v W168 gA2 rfl rfl
      refine w_t (np := 99) (l2 := [some (eR a0), some (eI (a1)), some (eR a2), some (eI (v1)), some (eI (v11)), some (eI (v25)), some (eI (2))]) (s2 := [eR a2]) rfl (s_an rfl (pos_g I167 gA2 (by decide))) rfl ?_
      refine w_t (np := 101) (l2 := [some (eR a0), some (eI (a1)), some (eR a2), some (eI (v1)), some (eI (v11)), some (eI (v25)), some (eI (2))]) (s2 := [eI (12), eR a2]) rfl rfl rfl ?_
      refine w_t (np := 103) (l2 := [some (eR a0), some (eI (a1)), some (eR a2), some (eI (v1)), some (eI (v11)), some (eI (v25)), some (eI (2))]) (s2 := [eI (2), eI (12), eR a2]) rfl rfl rfl ?_
      refine w_t (np := 104) (l2 := [some (eR a0), some (eI (a1)), some (eR a2), some (eI (v1)), some (eI (v11)), some (eI (v25)), some (eI (2))]) (s2 := [eI (14), eR a2]) rfl (b_iadd rfl) rfl ?_
      refine w_t (np := 105) (l2 := [some (eR a0), some (eI (a1)), some (eR a2), some (eI (v1)), some (eI (v11)), some (eI (v25)), some (eI (2))]) (s2 := [eR a2, eI (14), eR a2]) rfl (s_an rfl (pos_g I167 gA2 (by decide))) rfl ?_
      refine w_t (np := 107) (l2 := [some (eR a0), some (eI (a1)), some (eR a2), some (eI (v1)), some (eI (v11)), some (eI (v25)), some (eI (2))]) (s2 := [eI (2), eR a2, eI (14), eR a2]) rfl rfl rfl ?_
      refine j_al (np := 108) rfl rfl I167 gA2 (by decide) (n := 16) rfl rfl (lo := -2147483648) (hi := 2147483647) (fun _ => rfl) (by decide) (by decide) ?_
      intro v170 e171 b172
      have e171 := e171.symm.trans (W168.slot W155.at (by decide))
      rw [e171]
      refine w_t (np := 110) (l2 := [some (eR a0), some (eI (a1)), some (eR a2), some (eI (v1)), some (eI (v11)), some (eI (v25)), some (eI (2))]) (s2 := [eI (v25), eI (v150), eI (14), eR a2]) rfl rfl rfl ?_
      refine w_t (np := 112) (l2 := [some (eR a0), some (eI (a1)), some (eR a2), some (eI (v1)), some (eI (v11)), some (eI (v25)), some (eI (2))]) (s2 := [eI (2), eI (v25), eI (v150), eI (14), eR a2]) rfl rfl rfl ?_
      refine w_cu (np := 115) (as := [eI (v25), eI (2)]) (l2 := [some (eI (v25)), some (eI (2))]) (rest := [eI (v150), eI (14), eR a2]) rfl rfl rfl (Nat.ble_eq.mp rfl) rfl rfl rfl rfl ?_
      refine s_218e (a0 := v25) (a1 := 2) I167 (by omega) (by decide) ?_
      intro v173 b174 h175
      show ex_q (dt_fg L ρ) rc (d + 2, (302, 115, [some (eR a0), some (eI (a1)), some (eR a2), some (eI (v1)), some (eI (v11)), some (eI (v25)), some (eI (2))], [eI (v173), eI (v150), eI (14), eR a2]), f :: F, m166)
      obtain ⟨v176, e177, b178⟩ : ∃ zz : Int, ev_w ((v150) + (v173)) = zz ∧ (-2147483648 ≤ zz ∧ zz ≤ 2147483647) := ⟨_, rfl, hw_bd _⟩
      refine w_t (np := 116) (l2 := [some (eR a0), some (eI (a1)), some (eR a2), some (eI (v1)), some (eI (v11)), some (eI (v25)), some (eI (2))]) (s2 := [eI (v176), eI (14), eR a2]) rfl (b_iadd e177) rfl ?_
      refine j_as (np := 117) rfl rfl I167 gA2 (by decide) (n := 16) rfl rfl (lo := -2147483648) (hi := 2147483647) (fun _ => rfl) (by decide) (by decide) (by omega) ?_
      intro m179 I180 W181
      have F182 : Fr l_302e 0 0 g μ m179 := F169.v W181 gA2 rfl rfl
      refine w_t (np := 118) (l2 := [some (eR a0), some (eI (a1)), some (eR a2), some (eI (v1)), some (eI (v11)), some (eI (v25)), some (eI (2))]) (s2 := [eR a2]) rfl (s_an rfl (pos_g I180 gA2 (by decide))) rfl ?_
      refine w_t (np := 120) (l2 := [some (eR a0), some (eI (a1)), some (eR a2), some (eI (v1)), some (eI (v11)), some (eI (v25)), some (eI (2))]) (s2 := [eI (8), eR a2]) rfl rfl rfl ?_
      refine w_t (np := 122) (l2 := [some (eR a0), some (eI (a1)), some (eR a2), some (eI (v1)), some (eI (v11)), some (eI (v25)), some (eI (2))]) (s2 := [eI (2), eI (8), eR a2]) rfl rfl rfl ?_
      refine w_t (np := 123) (l2 := [some (eR a0), some (eI (a1)), some (eR a2), some (eI (v1)), some (eI (v11)), some (eI (v25)), some (eI (2))]) (s2 := [eI (10), eR a2]) rfl (b_iadd rfl) rfl ?_
      refine w_t (np := 124) (l2 := [some (eR a0), some (eI (a1)), some (eR a2), some (eI (v1)), some (eI (v11)), some (eI (v25)), some (eI (2))]) (s2 := [eR a2, eI (10), eR a2]) rfl (s_an rfl (pos_g I180 gA2 (by decide))) rfl ?_
      refine w_t (np := 125) (l2 := [some (eR a0), some (eI (a1)), some (eR a2), some (eI (v1)), some (eI (v11)), some (eI (v25)), some (eI (2))]) (s2 := [eI (4), eR a2, eI (10), eR a2]) rfl rfl rfl ?_
      refine w_t (np := 127) (l2 := [some (eR a0), some (eI (a1)), some (eR a2), some (eI (v1)), some (eI (v11)), some (eI (v25)), some (eI (2))]) (s2 := [eI (2), eI (4), eR a2, eI (10), eR a2]) rfl rfl rfl ?_
      refine w_t (np := 128) (l2 := [some (eR a0), some (eI (a1)), some (eR a2), some (eI (v1)), some (eI (v11)), some (eI (v25)), some (eI (2))]) (s2 := [eI (6), eR a2, eI (10), eR a2]) rfl (b_iadd rfl) rfl ?_
      refine j_al (np := 129) rfl rfl I180 gA2 (by decide) (n := 16) rfl rfl (lo := -2147483648) (hi := 2147483647) (fun _ => rfl) (by decide) (by decide) ?_
      intro v183 e184 b185
      have e184 := e184.symm.trans (W181.slot W168.at (by decide))
      rw [e184]
      refine w_t (np := 130) (l2 := [some (eR a0), some (eI (a1)), some (eR a2), some (eI (v1)), some (eI (v11)), some (eI (v25)), some (eI (2))]) (s2 := [eR a2, eI (v163), eI (10), eR a2]) rfl (s_an rfl (pos_g I180 gA2 (by decide))) rfl ?_
      refine w_t (np := 132) (l2 := [some (eR a0), some (eI (a1)), some (eR a2), some (eI (v1)), some (eI (v11)), some (eI (v25)), some (eI (2))]) (s2 := [eI (12), eR a2, eI (v163), eI (10), eR a2]) rfl rfl rfl ?_
      refine w_t (np := 134) (l2 := [some (eR a0), some (eI (a1)), some (eR a2), some (eI (v1)), some (eI (v11)), some (eI (v25)), some (eI (2))]) (s2 := [eI (2), eI (12), eR a2, eI (v163), eI (10), eR a2]) rfl rfl rfl ?_
      refine w_t (np := 135) (l2 := [some (eR a0), some (eI (a1)), some (eR a2), some (eI (v1)), some (eI (v11)), some (eI (v25)), some (eI (2))]) (s2 := [eI (14), eR a2, eI (v163), eI (10), eR a2]) rfl (b_iadd rfl) rfl ?_
      refine j_al (np := 136) rfl rfl I180 gA2 (by decide) (n := 16) rfl rfl (lo := -2147483648) (hi := 2147483647) (fun _ => rfl) (by decide) (by decide) ?_
      intro v186 e187 b188
      have e187 := e187.symm.trans W181.at
      rw [e187]
      obtain ⟨v189, e190, b191⟩ : ∃ zz : Int, ev_w ((v163) + (v176)) = zz ∧ (-2147483648 ≤ zz ∧ zz ≤ 2147483647) := ⟨_, rfl, hw_bd _⟩
      refine w_t (np := 137) (l2 := [some (eR a0), some (eI (a1)), some (eR a2), some (eI (v1)), some (eI (v11)), some (eI (v25)), some (eI (2))]) (s2 := [eI (v189), eI (10), eR a2]) rfl (b_iadd e190) rfl ?_
      refine w_t (np := 138) (l2 := [some (eR a0), some (eI (a1)), some (eR a2), some (eI (v1)), some (eI (v11)), some (eI (v25)), some (eI (2))]) (s2 := [eR a2, eI (v189), eI (10), eR a2]) rfl (s_an rfl (pos_g I180 gA2 (by decide))) rfl ?_
      refine w_t (np := 140) (l2 := [some (eR a0), some (eI (a1)), some (eR a2), some (eI (v1)), some (eI (v11)), some (eI (v25)), some (eI (2))]) (s2 := [eI (2), eR a2, eI (v189), eI (10), eR a2]) rfl rfl rfl ?_
      refine j_al (np := 141) rfl rfl I180 gA2 (by decide) (n := 16) rfl rfl (lo := -2147483648) (hi := 2147483647) (fun _ => rfl) (by decide) (by decide) ?_
      intro v192 e193 b194
      have e193 := e193.symm.trans (W181.slot (W168.slot W155.at (by decide)) (by decide))
      rw [e193]
      obtain ⟨v195, e196, b197⟩ : ∃ zz : Int, ev_w ((v189) - (v150)) = zz ∧ (-2147483648 ≤ zz ∧ zz ≤ 2147483647) := ⟨_, rfl, hw_bd _⟩
      refine w_t (np := 142) (l2 := [some (eR a0), some (eI (a1)), some (eR a2), some (eI (v1)), some (eI (v11)), some (eI (v25)), some (eI (2))]) (s2 := [eI (v195), eI (10), eR a2]) rfl (b_isub e196) rfl ?_
      refine j_as (np := 143) rfl rfl I180 gA2 (by decide) (n := 16) rfl rfl (lo := -2147483648) (hi := 2147483647) (fun _ => rfl) (by decide) (by decide) (by omega) ?_
      intro m198 I199 W200
      have F201 : Fr l_302e 0 0 g μ m198 := F182.v W200 gA2 rfl rfl
      refine w_t (np := 146) (l2 := [some (eR a0), some (eI (a1)), some (eR a2), some (eI (v1)), some (eI (v11)), some (eI (v25)), some (eI (3))]) (s2 := []) rfl (b_iinc rfl rfl rfl) rfl ?_
      refine w_go (t1 := 59) rfl rfl ?_
      refine w_t (np := 61) (l2 := [some (eR a0), some (eI (a1)), some (eR a2), some (eI (v1)), some (eI (v11)), some (eI (v25)), some (eI (3))]) (s2 := [eI (3)]) rfl rfl rfl ?_
      refine w_t (np := 62) (l2 := [some (eR a0), some (eI (a1)), some (eR a2), some (eI (v1)), some (eI (v11)), some (eI (v25)), some (eI (3))]) (s2 := [eI (4), eI (3)]) rfl rfl rfl ?_
      refine b_cge (t1 := 149) (t2 := 65) rfl rfl rfl rfl rfl (fun g202 => absurd g202 (by decide)) (fun g202 => ?_)
      refine w_t (np := 66) (l2 := [some (eR a0), some (eI (a1)), some (eR a2), some (eI (v1)), some (eI (v11)), some (eI (v25)), some (eI (3))]) (s2 := [eR a2]) rfl (s_an rfl (pos_g I199 gA2 (by decide))) rfl ?_
      refine w_t (np := 68) (l2 := [some (eR a0), some (eI (a1)), some (eR a2), some (eI (v1)), some (eI (v11)), some (eI (v25)), some (eI (3))]) (s2 := [eI (3), eR a2]) rfl rfl rfl ?_
      refine w_t (np := 69) (l2 := [some (eR a0), some (eI (a1)), some (eR a2), some (eI (v1)), some (eI (v11)), some (eI (v25)), some (eI (3))]) (s2 := [eR a0, eI (3), eR a2]) rfl (s_an rfl (pos_g I199 gA0 (by decide))) rfl ?_
      refine w_gf (np := 72) (v := eR v4) rfl rfl (I199.kd gA0 (by decide) (n := 69) rfl) (by rw [(W200.addr (W181.addr (W168.addr (W155.addr (W141.addr (W122.addr (W109.addr (W96.addr (W82.addr (W63.addr (W50.addr (W37.addr e5 gA2 gA0 (by decide)) gA2 gA0 (by decide)) gA2 gA0 (by decide)) gA2 gA0 (by decide)) gA2 gA0 (by decide)) gA2 gA0 (by decide)) gA2 gA0 (by decide)) gA2 gA0 (by decide)) gA2 gA0 (by decide)) gA2 gA0 (by decide)) gA2 gA0 (by decide)) gA2 gA0 (by decide))]; rfl) ?_
      refine w_t (np := 73) (l2 := [some (eR a0), some (eI (a1)), some (eR a2), some (eI (v1)), some (eI (v11)), some (eI (v25)), some (eI (3))]) (s2 := [eI (v1), eR v4, eI (3), eR a2]) rfl rfl rfl ?_
      refine w_t (np := 74) (l2 := [some (eR a0), some (eI (a1)), some (eR a2), some (eI (v1)), some (eI (v11)), some (eI (v25)), some (eI (3))]) (s2 := [eI (1), eI (v1), eR v4, eI (3), eR a2]) rfl rfl rfl ?_
      obtain ⟨v203, e204⟩ : ∃ zz : Int, zz = (v1) + (1) := ⟨_, rfl⟩
      have b205 : 1 ≤ v203 ∧ v203 ≤ 162 := by omega
      refine w_t (np := 75) (l2 := [some (eR a0), some (eI (a1)), some (eR a2), some (eI (v1)), some (eI (v11)), some (eI (v25)), some (eI (3))]) (s2 := [eI (v203), eR v4, eI (3), eR a2]) rfl (b_iadd (by rw [← e204]; exact ev_w_in (by omega) (by omega))) rfl ?_
      refine w_t (np := 77) (l2 := [some (eR a0), some (eI (a1)), some (eR a2), some (eI (v1)), some (eI (v11)), some (eI (v25)), some (eI (3))]) (s2 := [eI (3), eI (v203), eR v4, eI (3), eR a2]) rfl rfl rfl ?_
      obtain ⟨v206, e207⟩ : ∃ zz : Int, zz = (v203) + (3) := ⟨_, rfl⟩
      have b208 : 4 ≤ v206 ∧ v206 ≤ 165 := by omega
      refine w_t (np := 78) (l2 := [some (eR a0), some (eI (a1)), some (eR a2), some (eI (v1)), some (eI (v11)), some (eI (v25)), some (eI (3))]) (s2 := [eI (v206), eR v4, eI (3), eR a2]) rfl (b_iadd (by rw [← e207]; exact ev_w_in (by omega) (by omega))) rfl ?_
      refine j_al (np := 79) rfl rfl I199 b6 (by decide) (n := 168) rfl rfl (lo := -2147483648) (hi := 2147483647) (fun _ => rfl) (by omega) (by omega) ?_
      intro v209 e210 b211
      refine j_as (np := 80) rfl rfl I199 gA2 (by decide) (n := 16) rfl rfl (lo := -2147483648) (hi := 2147483647) (fun _ => rfl) (by decide) (by decide) (by omega) ?_
      intro m212 I213 W214
      have F215 : Fr l_302e 0 0 g μ m212 := F201.v W214 gA2 rfl rfl
      refine w_t (np := 81) (l2 := [some (eR a0), some (eI (a1)), some (eR a2), some (eI (v1)), some (eI (v11)), some (eI (v25)), some (eI (3))]) (s2 := [eR a2]) rfl (s_an rfl (pos_g I213 gA2 (by decide))) rfl ?_
      refine w_t (np := 82) (l2 := [some (eR a0), some (eI (a1)), some (eR a2), some (eI (v1)), some (eI (v11)), some (eI (v25)), some (eI (3))]) (s2 := [eI (4), eR a2]) rfl rfl rfl ?_
      refine w_t (np := 84) (l2 := [some (eR a0), some (eI (a1)), some (eR a2), some (eI (v1)), some (eI (v11)), some (eI (v25)), some (eI (3))]) (s2 := [eI (3), eI (4), eR a2]) rfl rfl rfl ?_
      refine w_t (np := 85) (l2 := [some (eR a0), some (eI (a1)), some (eR a2), some (eI (v1)), some (eI (v11)), some (eI (v25)), some (eI (3))]) (s2 := [eI (7), eR a2]) rfl (b_iadd rfl) rfl ?_
      refine w_t (np := 86) (l2 := [some (eR a0), some (eI (a1)), some (eR a2), some (eI (v1)), some (eI (v11)), some (eI (v25)), some (eI (3))]) (s2 := [eR a2, eI (7), eR a2]) rfl (s_an rfl (pos_g I213 gA2 (by decide))) rfl ?_
      refine w_t (np := 88) (l2 := [some (eR a0), some (eI (a1)), some (eR a2), some (eI (v1)), some (eI (v11)), some (eI (v25)), some (eI (3))]) (s2 := [eI (3), eR a2, eI (7), eR a2]) rfl rfl rfl ?_
      refine j_al (np := 89) rfl rfl I213 gA2 (by decide) (n := 16) rfl rfl (lo := -2147483648) (hi := 2147483647) (fun _ => rfl) (by decide) (by decide) ?_
      intro v216 e217 b218
      have e217 := e217.symm.trans W214.at
      rw [e217]
      refine w_t (np := 91) (l2 := [some (eR a0), some (eI (a1)), some (eR a2), some (eI (v1)), some (eI (v11)), some (eI (v25)), some (eI (3))]) (s2 := [eI (v11), eI (v209), eI (7), eR a2]) rfl rfl rfl ?_
      refine w_t (np := 93) (l2 := [some (eR a0), some (eI (a1)), some (eR a2), some (eI (v1)), some (eI (v11)), some (eI (v25)), some (eI (3))]) (s2 := [eI (3), eI (v11), eI (v209), eI (7), eR a2]) rfl rfl rfl ?_
      refine w_cu (np := 96) (as := [eI (v11), eI (3)]) (l2 := [some (eI (v11)), some (eI (3))]) (rest := [eI (v209), eI (7), eR a2]) rfl rfl rfl (Nat.ble_eq.mp rfl) rfl rfl rfl rfl ?_
      refine s_218e (a0 := v11) (a1 := 3) I213 (by omega) (by decide) ?_
      intro v219 b220 h221
      show ex_q (dt_fg L ρ) rc (d + 2, (302, 96, [some (eR a0), some (eI (a1)), some (eR a2), some (eI (v1)), some (eI (v11)), some (eI (v25)), some (eI (3))], [eI (v219), eI (v209), eI (7), eR a2]), f :: F, m212)
      obtain ⟨v222, e223, b224⟩ : ∃ zz : Int, ev_w ((v209) + (v219)) = zz ∧ (-2147483648 ≤ zz ∧ zz ≤ 2147483647) := ⟨_, rfl, hw_bd _⟩
      refine w_t (np := 97) (l2 := [some (eR a0), some (eI (a1)), some (eR a2), some (eI (v1)), some (eI (v11)), some (eI (v25)), some (eI (3))]) (s2 := [eI (v222), eI (7), eR a2]) rfl (b_iadd e223) rfl ?_
      refine j_as (np := 98) rfl rfl I213 gA2 (by decide) (n := 16) rfl rfl (lo := -2147483648) (hi := 2147483647) (fun _ => rfl) (by decide) (by decide) (by omega) ?_
      intro m225 I226 W227
      have F228 : Fr l_302e 0 0 g μ m225 := F215.v W227 gA2 rfl rfl
      refine w_t (np := 99) (l2 := [some (eR a0), some (eI (a1)), some (eR a2), some (eI (v1)), some (eI (v11)), some (eI (v25)), some (eI (3))]) (s2 := [eR a2]) rfl (s_an rfl (pos_g I226 gA2 (by decide))) rfl ?_
      refine w_t (np := 101) (l2 := [some (eR a0), some (eI (a1)), some (eR a2), some (eI (v1)), some (eI (v11)), some (eI (v25)), some (eI (3))]) (s2 := [eI (12), eR a2]) rfl rfl rfl ?_
      refine w_t (np := 103) (l2 := [some (eR a0), some (eI (a1)), some (eR a2), some (eI (v1)), some (eI (v11)), some (eI (v25)), some (eI (3))]) (s2 := [eI (3), eI (12), eR a2]) rfl rfl rfl ?_
      refine w_t (np := 104) (l2 := [some (eR a0), some (eI (a1)), some (eR a2), some (eI (v1)), some (eI (v11)), some (eI (v25)), some (eI (3))]) (s2 := [eI (15), eR a2]) rfl (b_iadd rfl) rfl ?_
      refine w_t (np := 105) (l2 := [some (eR a0), some (eI (a1)), some (eR a2), some (eI (v1)), some (eI (v11)), some (eI (v25)), some (eI (3))]) (s2 := [eR a2, eI (15), eR a2]) rfl (s_an rfl (pos_g I226 gA2 (by decide))) rfl ?_
      refine w_t (np := 107) (l2 := [some (eR a0), some (eI (a1)), some (eR a2), some (eI (v1)), some (eI (v11)), some (eI (v25)), some (eI (3))]) (s2 := [eI (3), eR a2, eI (15), eR a2]) rfl rfl rfl ?_
      refine j_al (np := 108) rfl rfl I226 gA2 (by decide) (n := 16) rfl rfl (lo := -2147483648) (hi := 2147483647) (fun _ => rfl) (by decide) (by decide) ?_
      intro v229 e230 b231
      have e230 := e230.symm.trans (W227.slot W214.at (by decide))
      rw [e230]
      refine w_t (np := 110) (l2 := [some (eR a0), some (eI (a1)), some (eR a2), some (eI (v1)), some (eI (v11)), some (eI (v25)), some (eI (3))]) (s2 := [eI (v25), eI (v209), eI (15), eR a2]) rfl rfl rfl ?_
      refine w_t (np := 112) (l2 := [some (eR a0), some (eI (a1)), some (eR a2), some (eI (v1)), some (eI (v11)), some (eI (v25)), some (eI (3))]) (s2 := [eI (3), eI (v25), eI (v209), eI (15), eR a2]) rfl rfl rfl ?_
      refine w_cu (np := 115) (as := [eI (v25), eI (3)]) (l2 := [some (eI (v25)), some (eI (3))]) (rest := [eI (v209), eI (15), eR a2]) rfl rfl rfl (Nat.ble_eq.mp rfl) rfl rfl rfl rfl ?_
      refine s_218e (a0 := v25) (a1 := 3) I226 (by omega) (by decide) ?_
      intro v232 b233 h234
      show ex_q (dt_fg L ρ) rc (d + 2, (302, 115, [some (eR a0), some (eI (a1)), some (eR a2), some (eI (v1)), some (eI (v11)), some (eI (v25)), some (eI (3))], [eI (v232), eI (v209), eI (15), eR a2]), f :: F, m225)
      obtain ⟨v235, e236, b237⟩ : ∃ zz : Int, ev_w ((v209) + (v232)) = zz ∧ (-2147483648 ≤ zz ∧ zz ≤ 2147483647) := ⟨_, rfl, hw_bd _⟩
      refine w_t (np := 116) (l2 := [some (eR a0), some (eI (a1)), some (eR a2), some (eI (v1)), some (eI (v11)), some (eI (v25)), some (eI (3))]) (s2 := [eI (v235), eI (15), eR a2]) rfl (b_iadd e236) rfl ?_
      refine j_as (np := 117) rfl rfl I226 gA2 (by decide) (n := 16) rfl rfl (lo := -2147483648) (hi := 2147483647) (fun _ => rfl) (by decide) (by decide) (by omega) ?_
      intro m238 I239 W240
      have F241 : Fr l_302e 0 0 g μ m238 := F228.v W240 gA2 rfl rfl
      refine w_t (np := 118) (l2 := [some (eR a0), some (eI (a1)), some (eR a2), some (eI (v1)), some (eI (v11)), some (eI (v25)), some (eI (3))]) (s2 := [eR a2]) rfl (s_an rfl (pos_g I239 gA2 (by decide))) rfl ?_
      refine w_t (np := 120) (l2 := [some (eR a0), some (eI (a1)), some (eR a2), some (eI (v1)), some (eI (v11)), some (eI (v25)), some (eI (3))]) (s2 := [eI (8), eR a2]) rfl rfl rfl ?_
      refine w_t (np := 122) (l2 := [some (eR a0), some (eI (a1)), some (eR a2), some (eI (v1)), some (eI (v11)), some (eI (v25)), some (eI (3))]) (s2 := [eI (3), eI (8), eR a2]) rfl rfl rfl ?_
      refine w_t (np := 123) (l2 := [some (eR a0), some (eI (a1)), some (eR a2), some (eI (v1)), some (eI (v11)), some (eI (v25)), some (eI (3))]) (s2 := [eI (11), eR a2]) rfl (b_iadd rfl) rfl ?_
      refine w_t (np := 124) (l2 := [some (eR a0), some (eI (a1)), some (eR a2), some (eI (v1)), some (eI (v11)), some (eI (v25)), some (eI (3))]) (s2 := [eR a2, eI (11), eR a2]) rfl (s_an rfl (pos_g I239 gA2 (by decide))) rfl ?_
      refine w_t (np := 125) (l2 := [some (eR a0), some (eI (a1)), some (eR a2), some (eI (v1)), some (eI (v11)), some (eI (v25)), some (eI (3))]) (s2 := [eI (4), eR a2, eI (11), eR a2]) rfl rfl rfl ?_
      refine w_t (np := 127) (l2 := [some (eR a0), some (eI (a1)), some (eR a2), some (eI (v1)), some (eI (v11)), some (eI (v25)), some (eI (3))]) (s2 := [eI (3), eI (4), eR a2, eI (11), eR a2]) rfl rfl rfl ?_
      refine w_t (np := 128) (l2 := [some (eR a0), some (eI (a1)), some (eR a2), some (eI (v1)), some (eI (v11)), some (eI (v25)), some (eI (3))]) (s2 := [eI (7), eR a2, eI (11), eR a2]) rfl (b_iadd rfl) rfl ?_
      refine j_al (np := 129) rfl rfl I239 gA2 (by decide) (n := 16) rfl rfl (lo := -2147483648) (hi := 2147483647) (fun _ => rfl) (by decide) (by decide) ?_
      intro v242 e243 b244
      have e243 := e243.symm.trans (W240.slot W227.at (by decide))
      rw [e243]
      refine w_t (np := 130) (l2 := [some (eR a0), some (eI (a1)), some (eR a2), some (eI (v1)), some (eI (v11)), some (eI (v25)), some (eI (3))]) (s2 := [eR a2, eI (v222), eI (11), eR a2]) rfl (s_an rfl (pos_g I239 gA2 (by decide))) rfl ?_
      refine w_t (np := 132) (l2 := [some (eR a0), some (eI (a1)), some (eR a2), some (eI (v1)), some (eI (v11)), some (eI (v25)), some (eI (3))]) (s2 := [eI (12), eR a2, eI (v222), eI (11), eR a2]) rfl rfl rfl ?_
      refine w_t (np := 134) (l2 := [some (eR a0), some (eI (a1)), some (eR a2), some (eI (v1)), some (eI (v11)), some (eI (v25)), some (eI (3))]) (s2 := [eI (3), eI (12), eR a2, eI (v222), eI (11), eR a2]) rfl rfl rfl ?_
      refine w_t (np := 135) (l2 := [some (eR a0), some (eI (a1)), some (eR a2), some (eI (v1)), some (eI (v11)), some (eI (v25)), some (eI (3))]) (s2 := [eI (15), eR a2, eI (v222), eI (11), eR a2]) rfl (b_iadd rfl) rfl ?_
      refine j_al (np := 136) rfl rfl I239 gA2 (by decide) (n := 16) rfl rfl (lo := -2147483648) (hi := 2147483647) (fun _ => rfl) (by decide) (by decide) ?_
      intro v245 e246 b247
      have e246 := e246.symm.trans W240.at
      rw [e246]
      obtain ⟨v248, e249, b250⟩ : ∃ zz : Int, ev_w ((v222) + (v235)) = zz ∧ (-2147483648 ≤ zz ∧ zz ≤ 2147483647) := ⟨_, rfl, hw_bd _⟩
      refine w_t (np := 137) (l2 := [some (eR a0), some (eI (a1)), some (eR a2), some (eI (v1)), some (eI (v11)), some (eI (v25)), some (eI (3))]) (s2 := [eI (v248), eI (11), eR a2]) rfl (b_iadd e249) rfl ?_
      refine w_t (np := 138) (l2 := [some (eR a0), some (eI (a1)), some (eR a2), some (eI (v1)), some (eI (v11)), some (eI (v25)), some (eI (3))]) (s2 := [eR a2, eI (v248), eI (11), eR a2]) rfl (s_an rfl (pos_g I239 gA2 (by decide))) rfl ?_
      refine w_t (np := 140) (l2 := [some (eR a0), some (eI (a1)), some (eR a2), some (eI (v1)), some (eI (v11)), some (eI (v25)), some (eI (3))]) (s2 := [eI (3), eR a2, eI (v248), eI (11), eR a2]) rfl rfl rfl ?_
      refine j_al (np := 141) rfl rfl I239 gA2 (by decide) (n := 16) rfl rfl (lo := -2147483648) (hi := 2147483647) (fun _ => rfl) (by decide) (by decide) ?_
      intro v251 e252 b253
      have e252 := e252.symm.trans (W240.slot (W227.slot W214.at (by decide)) (by decide))
      rw [e252]
      obtain ⟨v254, e255, b256⟩ : ∃ zz : Int, ev_w ((v248) - (v209)) = zz ∧ (-2147483648 ≤ zz ∧ zz ≤ 2147483647) := ⟨_, rfl, hw_bd _⟩
      refine w_t (np := 142) (l2 := [some (eR a0), some (eI (a1)), some (eR a2), some (eI (v1)), some (eI (v11)), some (eI (v25)), some (eI (3))]) (s2 := [eI (v254), eI (11), eR a2]) rfl (b_isub e255) rfl ?_
      refine j_as (np := 143) rfl rfl I239 gA2 (by decide) (n := 16) rfl rfl (lo := -2147483648) (hi := 2147483647) (fun _ => rfl) (by decide) (by decide) (by omega) ?_
      intro m257 I258 W259
      have F260 : Fr l_302e 0 0 g μ m257 := F241.v W259 gA2 rfl rfl
      refine w_t (np := 146) (l2 := [some (eR a0), some (eI (a1)), some (eR a2), some (eI (v1)), some (eI (v11)), some (eI (v25)), some (eI (4))]) (s2 := []) rfl (b_iinc rfl rfl rfl) rfl ?_
      refine w_go (t1 := 59) rfl rfl ?_
      refine w_t (np := 61) (l2 := [some (eR a0), some (eI (a1)), some (eR a2), some (eI (v1)), some (eI (v11)), some (eI (v25)), some (eI (4))]) (s2 := [eI (4)]) rfl rfl rfl ?_
      refine w_t (np := 62) (l2 := [some (eR a0), some (eI (a1)), some (eR a2), some (eI (v1)), some (eI (v11)), some (eI (v25)), some (eI (4))]) (s2 := [eI (4), eI (4)]) rfl rfl rfl ?_
      refine b_cge (t1 := 149) (t2 := 65) rfl rfl rfl rfl rfl (fun g261 => ?_) (fun g261 => absurd g261 (by decide))
      exact v_rv rfl rfl (K m257 I258 F260 (CR.in I258 gA2 (CRr.mk (P := fun c => m257.1 a2 c) (d := v11) (e := v25) (fun _ _ => rfl) (fun c hc => match c, hc with | 0, _ => (by show m257.1 a2 4 = ev_w (m257.1 a2 0 + sS v11 0); rw [(show m257.1 a2 4 = v45 from (W259.slot (W240.slot (W227.slot (W214.slot (W200.slot (W181.slot (W168.slot (W155.slot (W141.slot (W122.slot (W109.slot (W96.slot (W82.slot (W63.slot W50.at (by decide)) (by decide)) (by decide)) (by decide)) (by decide)) (by decide)) (by decide)) (by decide)) (by decide)) (by decide)) (by decide)) (by decide)) (by decide)) (by decide))), (show m257.1 a2 0 = v32 from (W259.slot (W240.slot (W227.slot (W214.slot (W200.slot (W181.slot (W168.slot (W155.slot (W141.slot (W122.slot (W109.slot (W96.slot (W82.slot (W63.slot (W50.slot W37.at (by decide)) (by decide)) (by decide)) (by decide)) (by decide)) (by decide)) (by decide)) (by decide)) (by decide)) (by decide)) (by decide)) (by decide)) (by decide)) (by decide)) (by decide))), ← h44]; exact e46.symm) | 1, _ => (by show m257.1 a2 5 = ev_w (m257.1 a2 1 + sS v11 1); rw [(show m257.1 a2 5 = v104 from (W259.slot (W240.slot (W227.slot (W214.slot (W200.slot (W181.slot (W168.slot (W155.slot (W141.slot (W122.slot W109.at (by decide)) (by decide)) (by decide)) (by decide)) (by decide)) (by decide)) (by decide)) (by decide)) (by decide)) (by decide))), (show m257.1 a2 1 = v91 from (W259.slot (W240.slot (W227.slot (W214.slot (W200.slot (W181.slot (W168.slot (W155.slot (W141.slot (W122.slot (W109.slot W96.at (by decide)) (by decide)) (by decide)) (by decide)) (by decide)) (by decide)) (by decide)) (by decide)) (by decide)) (by decide)) (by decide))), ← h103]; exact e105.symm) | 2, _ => (by show m257.1 a2 6 = ev_w (m257.1 a2 2 + sS v11 2); rw [(show m257.1 a2 6 = v163 from (W259.slot (W240.slot (W227.slot (W214.slot (W200.slot (W181.slot W168.at (by decide)) (by decide)) (by decide)) (by decide)) (by decide)) (by decide))), (show m257.1 a2 2 = v150 from (W259.slot (W240.slot (W227.slot (W214.slot (W200.slot (W181.slot (W168.slot W155.at (by decide)) (by decide)) (by decide)) (by decide)) (by decide)) (by decide)) (by decide))), ← h162]; exact e164.symm) | 3, _ => (by show m257.1 a2 7 = ev_w (m257.1 a2 3 + sS v11 3); rw [(show m257.1 a2 7 = v222 from (W259.slot (W240.slot W227.at (by decide)) (by decide))), (show m257.1 a2 3 = v209 from (W259.slot (W240.slot (W227.slot W214.at (by decide)) (by decide)) (by decide))), ← h221]; exact e223.symm) | c + 4, h => absurd h (by omega)) (fun c hc => match c, hc with | 0, _ => (by show m257.1 a2 12 = ev_w (m257.1 a2 0 + sS v25 0); rw [(show m257.1 a2 12 = v58 from (W259.slot (W240.slot (W227.slot (W214.slot (W200.slot (W181.slot (W168.slot (W155.slot (W141.slot (W122.slot (W109.slot (W96.slot (W82.slot W63.at (by decide)) (by decide)) (by decide)) (by decide)) (by decide)) (by decide)) (by decide)) (by decide)) (by decide)) (by decide)) (by decide)) (by decide)) (by decide))), (show m257.1 a2 0 = v32 from (W259.slot (W240.slot (W227.slot (W214.slot (W200.slot (W181.slot (W168.slot (W155.slot (W141.slot (W122.slot (W109.slot (W96.slot (W82.slot (W63.slot (W50.slot W37.at (by decide)) (by decide)) (by decide)) (by decide)) (by decide)) (by decide)) (by decide)) (by decide)) (by decide)) (by decide)) (by decide)) (by decide)) (by decide)) (by decide)) (by decide))), ← h57]; exact e59.symm) | 1, _ => (by show m257.1 a2 13 = ev_w (m257.1 a2 1 + sS v25 1); rw [(show m257.1 a2 13 = v117 from (W259.slot (W240.slot (W227.slot (W214.slot (W200.slot (W181.slot (W168.slot (W155.slot (W141.slot W122.at (by decide)) (by decide)) (by decide)) (by decide)) (by decide)) (by decide)) (by decide)) (by decide)) (by decide))), (show m257.1 a2 1 = v91 from (W259.slot (W240.slot (W227.slot (W214.slot (W200.slot (W181.slot (W168.slot (W155.slot (W141.slot (W122.slot (W109.slot W96.at (by decide)) (by decide)) (by decide)) (by decide)) (by decide)) (by decide)) (by decide)) (by decide)) (by decide)) (by decide)) (by decide))), ← h116]; exact e118.symm) | 2, _ => (by show m257.1 a2 14 = ev_w (m257.1 a2 2 + sS v25 2); rw [(show m257.1 a2 14 = v176 from (W259.slot (W240.slot (W227.slot (W214.slot (W200.slot W181.at (by decide)) (by decide)) (by decide)) (by decide)) (by decide))), (show m257.1 a2 2 = v150 from (W259.slot (W240.slot (W227.slot (W214.slot (W200.slot (W181.slot (W168.slot W155.at (by decide)) (by decide)) (by decide)) (by decide)) (by decide)) (by decide)) (by decide))), ← h175]; exact e177.symm) | 3, _ => (by show m257.1 a2 15 = ev_w (m257.1 a2 3 + sS v25 3); rw [(show m257.1 a2 15 = v235 from (W259.slot W240.at (by decide))), (show m257.1 a2 3 = v209 from (W259.slot (W240.slot (W227.slot W214.at (by decide)) (by decide)) (by decide))), ← h234]; exact e236.symm) | c + 4, h => absurd h (by omega)) (fun c hc => match c, hc with | 0, _ => (by show m257.1 a2 8 = ev_w (ev_w (m257.1 a2 4 + m257.1 a2 12) - m257.1 a2 0); rw [(show m257.1 a2 8 = v77 from (W259.slot (W240.slot (W227.slot (W214.slot (W200.slot (W181.slot (W168.slot (W155.slot (W141.slot (W122.slot (W109.slot (W96.slot W82.at (by decide)) (by decide)) (by decide)) (by decide)) (by decide)) (by decide)) (by decide)) (by decide)) (by decide)) (by decide)) (by decide)) (by decide))), (show m257.1 a2 4 = v45 from (W259.slot (W240.slot (W227.slot (W214.slot (W200.slot (W181.slot (W168.slot (W155.slot (W141.slot (W122.slot (W109.slot (W96.slot (W82.slot (W63.slot W50.at (by decide)) (by decide)) (by decide)) (by decide)) (by decide)) (by decide)) (by decide)) (by decide)) (by decide)) (by decide)) (by decide)) (by decide)) (by decide)) (by decide))), (show m257.1 a2 12 = v58 from (W259.slot (W240.slot (W227.slot (W214.slot (W200.slot (W181.slot (W168.slot (W155.slot (W141.slot (W122.slot (W109.slot (W96.slot (W82.slot W63.at (by decide)) (by decide)) (by decide)) (by decide)) (by decide)) (by decide)) (by decide)) (by decide)) (by decide)) (by decide)) (by decide)) (by decide)) (by decide))), (show m257.1 a2 0 = v32 from (W259.slot (W240.slot (W227.slot (W214.slot (W200.slot (W181.slot (W168.slot (W155.slot (W141.slot (W122.slot (W109.slot (W96.slot (W82.slot (W63.slot (W50.slot W37.at (by decide)) (by decide)) (by decide)) (by decide)) (by decide)) (by decide)) (by decide)) (by decide)) (by decide)) (by decide)) (by decide)) (by decide)) (by decide)) (by decide)) (by decide))), e72]; exact e78.symm) | 1, _ => (by show m257.1 a2 9 = ev_w (ev_w (m257.1 a2 5 + m257.1 a2 13) - m257.1 a2 1); rw [(show m257.1 a2 9 = v136 from (W259.slot (W240.slot (W227.slot (W214.slot (W200.slot (W181.slot (W168.slot (W155.slot W141.at (by decide)) (by decide)) (by decide)) (by decide)) (by decide)) (by decide)) (by decide)) (by decide))), (show m257.1 a2 5 = v104 from (W259.slot (W240.slot (W227.slot (W214.slot (W200.slot (W181.slot (W168.slot (W155.slot (W141.slot (W122.slot W109.at (by decide)) (by decide)) (by decide)) (by decide)) (by decide)) (by decide)) (by decide)) (by decide)) (by decide)) (by decide))), (show m257.1 a2 13 = v117 from (W259.slot (W240.slot (W227.slot (W214.slot (W200.slot (W181.slot (W168.slot (W155.slot (W141.slot W122.at (by decide)) (by decide)) (by decide)) (by decide)) (by decide)) (by decide)) (by decide)) (by decide)) (by decide))), (show m257.1 a2 1 = v91 from (W259.slot (W240.slot (W227.slot (W214.slot (W200.slot (W181.slot (W168.slot (W155.slot (W141.slot (W122.slot (W109.slot W96.at (by decide)) (by decide)) (by decide)) (by decide)) (by decide)) (by decide)) (by decide)) (by decide)) (by decide)) (by decide)) (by decide))), e131]; exact e137.symm) | 2, _ => (by show m257.1 a2 10 = ev_w (ev_w (m257.1 a2 6 + m257.1 a2 14) - m257.1 a2 2); rw [(show m257.1 a2 10 = v195 from (W259.slot (W240.slot (W227.slot (W214.slot W200.at (by decide)) (by decide)) (by decide)) (by decide))), (show m257.1 a2 6 = v163 from (W259.slot (W240.slot (W227.slot (W214.slot (W200.slot (W181.slot W168.at (by decide)) (by decide)) (by decide)) (by decide)) (by decide)) (by decide))), (show m257.1 a2 14 = v176 from (W259.slot (W240.slot (W227.slot (W214.slot (W200.slot W181.at (by decide)) (by decide)) (by decide)) (by decide)) (by decide))), (show m257.1 a2 2 = v150 from (W259.slot (W240.slot (W227.slot (W214.slot (W200.slot (W181.slot (W168.slot W155.at (by decide)) (by decide)) (by decide)) (by decide)) (by decide)) (by decide)) (by decide))), e190]; exact e196.symm) | 3, _ => (by show m257.1 a2 11 = ev_w (ev_w (m257.1 a2 7 + m257.1 a2 15) - m257.1 a2 3); rw [(show m257.1 a2 11 = v254 from W259.at), (show m257.1 a2 7 = v222 from (W259.slot (W240.slot W227.at (by decide)) (by decide))), (show m257.1 a2 15 = v235 from (W259.slot W240.at (by decide))), (show m257.1 a2 3 = v209 from (W259.slot (W240.slot (W227.slot W214.at (by decide)) (by decide)) (by decide))), e249]; exact e255.symm) | c + 4, h => absurd h (by omega)))))
    · have b25 : 0 ≤ v21 ∧ v21 ≤ 0 := by omega
      refine w_t (np := 5) (l2 := [some (eI (v21))]) (s2 := [eI (1)]) rfl rfl rfl ?_
      refine w_go (t1 := 9) rfl rfl ?_
      refine b_ri rfl rfl ?_
      show ex_q (dt_fg L ρ) rc (d + 2, (302, 53, [some (eR a0), some (eI (a1)), some (eR a2), some (eI (v1)), some (eI (v11)), none, none], [eI (1), eI (v11)]), f :: F, μ)
      obtain ⟨v25, e26, b27⟩ : ∃ zz : Int, ev_w ((v11) - (1)) = zz ∧ (-2147483648 ≤ zz ∧ zz ≤ 2147483647) := ⟨_, rfl, hw_bd _⟩
      refine w_t (np := 54) (l2 := [some (eR a0), some (eI (a1)), some (eR a2), some (eI (v1)), some (eI (v11)), none, none]) (s2 := [eI (v25)]) rfl (b_isub e26) rfl ?_
      refine w_t (np := 56) (l2 := [some (eR a0), some (eI (a1)), some (eR a2), some (eI (v1)), some (eI (v11)), some (eI (v25)), none]) (s2 := []) rfl rfl rfl ?_
      refine w_t (np := 57) (l2 := [some (eR a0), some (eI (a1)), some (eR a2), some (eI (v1)), some (eI (v11)), some (eI (v25)), none]) (s2 := [eI (0)]) rfl rfl rfl ?_
      refine w_t (np := 59) (l2 := [some (eR a0), some (eI (a1)), some (eR a2), some (eI (v1)), some (eI (v11)), some (eI (v25)), some (eI (0))]) (s2 := []) rfl rfl rfl ?_
      refine w_t (np := 61) (l2 := [some (eR a0), some (eI (a1)), some (eR a2), some (eI (v1)), some (eI (v11)), some (eI (v25)), some (eI (0))]) (s2 := [eI (0)]) rfl rfl rfl ?_
      refine w_t (np := 62) (l2 := [some (eR a0), some (eI (a1)), some (eR a2), some (eI (v1)), some (eI (v11)), some (eI (v25)), some (eI (0))]) (s2 := [eI (4), eI (0)]) rfl rfl rfl ?_
      refine b_cge (t1 := 149) (t2 := 65) rfl rfl rfl rfl rfl (fun g28 => absurd g28 (by decide)) (fun g28 => ?_)
      refine w_t (np := 66) (l2 := [some (eR a0), some (eI (a1)), some (eR a2), some (eI (v1)), some (eI (v11)), some (eI (v25)), some (eI (0))]) (s2 := [eR a2]) rfl (s_an rfl (pos_g hI gA2 (by decide))) rfl ?_
      refine w_t (np := 68) (l2 := [some (eR a0), some (eI (a1)), some (eR a2), some (eI (v1)), some (eI (v11)), some (eI (v25)), some (eI (0))]) (s2 := [eI (0), eR a2]) rfl rfl rfl ?_
      refine w_t (np := 69) (l2 := [some (eR a0), some (eI (a1)), some (eR a2), some (eI (v1)), some (eI (v11)), some (eI (v25)), some (eI (0))]) (s2 := [eR a0, eI (0), eR a2]) rfl (s_an rfl (pos_g hI gA0 (by decide))) rfl ?_
      refine w_gf (np := 72) (v := eR v4) rfl rfl (hI.kd gA0 (by decide) (n := 69) rfl) (by rw [e5]; rfl) ?_
      refine w_t (np := 73) (l2 := [some (eR a0), some (eI (a1)), some (eR a2), some (eI (v1)), some (eI (v11)), some (eI (v25)), some (eI (0))]) (s2 := [eI (v1), eR v4, eI (0), eR a2]) rfl rfl rfl ?_
      refine w_t (np := 74) (l2 := [some (eR a0), some (eI (a1)), some (eR a2), some (eI (v1)), some (eI (v11)), some (eI (v25)), some (eI (0))]) (s2 := [eI (1), eI (v1), eR v4, eI (0), eR a2]) rfl rfl rfl ?_
      obtain ⟨v29, e30⟩ : ∃ zz : Int, zz = (v1) + (1) := ⟨_, rfl⟩
      have b31 : 1 ≤ v29 ∧ v29 ≤ 162 := by omega
      refine w_t (np := 75) (l2 := [some (eR a0), some (eI (a1)), some (eR a2), some (eI (v1)), some (eI (v11)), some (eI (v25)), some (eI (0))]) (s2 := [eI (v29), eR v4, eI (0), eR a2]) rfl (b_iadd (by rw [← e30]; exact ev_w_in (by omega) (by omega))) rfl ?_
      refine w_t (np := 77) (l2 := [some (eR a0), some (eI (a1)), some (eR a2), some (eI (v1)), some (eI (v11)), some (eI (v25)), some (eI (0))]) (s2 := [eI (0), eI (v29), eR v4, eI (0), eR a2]) rfl rfl rfl ?_
      refine w_t (np := 78) (l2 := [some (eR a0), some (eI (a1)), some (eR a2), some (eI (v1)), some (eI (v11)), some (eI (v25)), some (eI (0))]) (s2 := [eI (v29), eR v4, eI (0), eR a2]) rfl (b_iadd (by rw [Int.add_zero]; exact ev_w_in (by omega) (by omega))) rfl ?_
      refine j_al (np := 79) rfl rfl hI b6 (by decide) (n := 168) rfl rfl (lo := -2147483648) (hi := 2147483647) (fun _ => rfl) (by omega) (by omega) ?_
      intro v32 e33 b34
      refine j_as (np := 80) rfl rfl hI gA2 (by decide) (n := 16) rfl rfl (lo := -2147483648) (hi := 2147483647) (fun _ => rfl) (by decide) (by decide) (by omega) ?_
      intro m35 I36 W37
      have F38 : Fr l_302e 0 0 g μ m35 := F0.v W37 gA2 rfl rfl
      refine w_t (np := 81) (l2 := [some (eR a0), some (eI (a1)), some (eR a2), some (eI (v1)), some (eI (v11)), some (eI (v25)), some (eI (0))]) (s2 := [eR a2]) rfl (s_an rfl (pos_g I36 gA2 (by decide))) rfl ?_
      refine w_t (np := 82) (l2 := [some (eR a0), some (eI (a1)), some (eR a2), some (eI (v1)), some (eI (v11)), some (eI (v25)), some (eI (0))]) (s2 := [eI (4), eR a2]) rfl rfl rfl ?_
      refine w_t (np := 84) (l2 := [some (eR a0), some (eI (a1)), some (eR a2), some (eI (v1)), some (eI (v11)), some (eI (v25)), some (eI (0))]) (s2 := [eI (0), eI (4), eR a2]) rfl rfl rfl ?_
      refine w_t (np := 85) (l2 := [some (eR a0), some (eI (a1)), some (eR a2), some (eI (v1)), some (eI (v11)), some (eI (v25)), some (eI (0))]) (s2 := [eI (4), eR a2]) rfl (b_iadd rfl) rfl ?_
      refine w_t (np := 86) (l2 := [some (eR a0), some (eI (a1)), some (eR a2), some (eI (v1)), some (eI (v11)), some (eI (v25)), some (eI (0))]) (s2 := [eR a2, eI (4), eR a2]) rfl (s_an rfl (pos_g I36 gA2 (by decide))) rfl ?_
      refine w_t (np := 88) (l2 := [some (eR a0), some (eI (a1)), some (eR a2), some (eI (v1)), some (eI (v11)), some (eI (v25)), some (eI (0))]) (s2 := [eI (0), eR a2, eI (4), eR a2]) rfl rfl rfl ?_
      refine j_al (np := 89) rfl rfl I36 gA2 (by decide) (n := 16) rfl rfl (lo := -2147483648) (hi := 2147483647) (fun _ => rfl) (by decide) (by decide) ?_
      intro v39 e40 b41
      have e40 := e40.symm.trans W37.at
      rw [e40]
      refine w_t (np := 91) (l2 := [some (eR a0), some (eI (a1)), some (eR a2), some (eI (v1)), some (eI (v11)), some (eI (v25)), some (eI (0))]) (s2 := [eI (v11), eI (v32), eI (4), eR a2]) rfl rfl rfl ?_
      refine w_t (np := 93) (l2 := [some (eR a0), some (eI (a1)), some (eR a2), some (eI (v1)), some (eI (v11)), some (eI (v25)), some (eI (0))]) (s2 := [eI (0), eI (v11), eI (v32), eI (4), eR a2]) rfl rfl rfl ?_
      refine w_cu (np := 96) (as := [eI (v11), eI (0)]) (l2 := [some (eI (v11)), some (eI (0))]) (rest := [eI (v32), eI (4), eR a2]) rfl rfl rfl (Nat.ble_eq.mp rfl) rfl rfl rfl rfl ?_
      refine s_218e (a0 := v11) (a1 := 0) I36 (by omega) (by decide) ?_
      intro v42 b43 h44
      show ex_q (dt_fg L ρ) rc (d + 2, (302, 96, [some (eR a0), some (eI (a1)), some (eR a2), some (eI (v1)), some (eI (v11)), some (eI (v25)), some (eI (0))], [eI (v42), eI (v32), eI (4), eR a2]), f :: F, m35)
      obtain ⟨v45, e46, b47⟩ : ∃ zz : Int, ev_w ((v32) + (v42)) = zz ∧ (-2147483648 ≤ zz ∧ zz ≤ 2147483647) := ⟨_, rfl, hw_bd _⟩
      refine w_t (np := 97) (l2 := [some (eR a0), some (eI (a1)), some (eR a2), some (eI (v1)), some (eI (v11)), some (eI (v25)), some (eI (0))]) (s2 := [eI (v45), eI (4), eR a2]) rfl (b_iadd e46) rfl ?_
      refine j_as (np := 98) rfl rfl I36 gA2 (by decide) (n := 16) rfl rfl (lo := -2147483648) (hi := 2147483647) (fun _ => rfl) (by decide) (by decide) (by omega) ?_
      intro m48 I49 W50
      have F51 : Fr l_302e 0 0 g μ m48 := F38.v W50 gA2 rfl rfl
      refine w_t (np := 99) (l2 := [some (eR a0), some (eI (a1)), some (eR a2), some (eI (v1)), some (eI (v11)), some (eI (v25)), some (eI (0))]) (s2 := [eR a2]) rfl (s_an rfl (pos_g I49 gA2 (by decide))) rfl ?_
      refine w_t (np := 101) (l2 := [some (eR a0), some (eI (a1)), some (eR a2), some (eI (v1)), some (eI (v11)), some (eI (v25)), some (eI (0))]) (s2 := [eI (12), eR a2]) rfl rfl rfl ?_
      refine w_t (np := 103) (l2 := [some (eR a0), some (eI (a1)), some (eR a2), some (eI (v1)), some (eI (v11)), some (eI (v25)), some (eI (0))]) (s2 := [eI (0), eI (12), eR a2]) rfl rfl rfl ?_
      refine w_t (np := 104) (l2 := [some (eR a0), some (eI (a1)), some (eR a2), some (eI (v1)), some (eI (v11)), some (eI (v25)), some (eI (0))]) (s2 := [eI (12), eR a2]) rfl (b_iadd rfl) rfl ?_
      refine w_t (np := 105) (l2 := [some (eR a0), some (eI (a1)), some (eR a2), some (eI (v1)), some (eI (v11)), some (eI (v25)), some (eI (0))]) (s2 := [eR a2, eI (12), eR a2]) rfl (s_an rfl (pos_g I49 gA2 (by decide))) rfl ?_
      refine w_t (np := 107) (l2 := [some (eR a0), some (eI (a1)), some (eR a2), some (eI (v1)), some (eI (v11)), some (eI (v25)), some (eI (0))]) (s2 := [eI (0), eR a2, eI (12), eR a2]) rfl rfl rfl ?_
      refine j_al (np := 108) rfl rfl I49 gA2 (by decide) (n := 16) rfl rfl (lo := -2147483648) (hi := 2147483647) (fun _ => rfl) (by decide) (by decide) ?_
      intro v52 e53 b54
      have e53 := e53.symm.trans (W50.slot W37.at (by decide))
      rw [e53]
      refine w_t (np := 110) (l2 := [some (eR a0), some (eI (a1)), some (eR a2), some (eI (v1)), some (eI (v11)), some (eI (v25)), some (eI (0))]) (s2 := [eI (v25), eI (v32), eI (12), eR a2]) rfl rfl rfl ?_
      refine w_t (np := 112) (l2 := [some (eR a0), some (eI (a1)), some (eR a2), some (eI (v1)), some (eI (v11)), some (eI (v25)), some (eI (0))]) (s2 := [eI (0), eI (v25), eI (v32), eI (12), eR a2]) rfl rfl rfl ?_
      refine w_cu (np := 115) (as := [eI (v25), eI (0)]) (l2 := [some (eI (v25)), some (eI (0))]) (rest := [eI (v32), eI (12), eR a2]) rfl rfl rfl (Nat.ble_eq.mp rfl) rfl rfl rfl rfl ?_
      refine s_218e (a0 := v25) (a1 := 0) I49 (by omega) (by decide) ?_
      intro v55 b56 h57
      show ex_q (dt_fg L ρ) rc (d + 2, (302, 115, [some (eR a0), some (eI (a1)), some (eR a2), some (eI (v1)), some (eI (v11)), some (eI (v25)), some (eI (0))], [eI (v55), eI (v32), eI (12), eR a2]), f :: F, m48)
      obtain ⟨v58, e59, b60⟩ : ∃ zz : Int, ev_w ((v32) + (v55)) = zz ∧ (-2147483648 ≤ zz ∧ zz ≤ 2147483647) := ⟨_, rfl, hw_bd _⟩
      refine w_t (np := 116) (l2 := [some (eR a0), some (eI (a1)), some (eR a2), some (eI (v1)), some (eI (v11)), some (eI (v25)), some (eI (0))]) (s2 := [eI (v58), eI (12), eR a2]) rfl (b_iadd e59) rfl ?_
      refine j_as (np := 117) rfl rfl I49 gA2 (by decide) (n := 16) rfl rfl (lo := -2147483648) (hi := 2147483647) (fun _ => rfl) (by decide) (by decide) (by omega) ?_
      intro m61 I62 W63
      have F64 : Fr l_302e 0 0 g μ m61 := F51.v W63 gA2 rfl rfl
      refine w_t (np := 118) (l2 := [some (eR a0), some (eI (a1)), some (eR a2), some (eI (v1)), some (eI (v11)), some (eI (v25)), some (eI (0))]) (s2 := [eR a2]) rfl (s_an rfl (pos_g I62 gA2 (by decide))) rfl ?_
      refine w_t (np := 120) (l2 := [some (eR a0), some (eI (a1)), some (eR a2), some (eI (v1)), some (eI (v11)), some (eI (v25)), some (eI (0))]) (s2 := [eI (8), eR a2]) rfl rfl rfl ?_
      refine w_t (np := 122) (l2 := [some (eR a0), some (eI (a1)), some (eR a2), some (eI (v1)), some (eI (v11)), some (eI (v25)), some (eI (0))]) (s2 := [eI (0), eI (8), eR a2]) rfl rfl rfl ?_
      refine w_t (np := 123) (l2 := [some (eR a0), some (eI (a1)), some (eR a2), some (eI (v1)), some (eI (v11)), some (eI (v25)), some (eI (0))]) (s2 := [eI (8), eR a2]) rfl (b_iadd rfl) rfl ?_
      refine w_t (np := 124) (l2 := [some (eR a0), some (eI (a1)), some (eR a2), some (eI (v1)), some (eI (v11)), some (eI (v25)), some (eI (0))]) (s2 := [eR a2, eI (8), eR a2]) rfl (s_an rfl (pos_g I62 gA2 (by decide))) rfl ?_
      refine w_t (np := 125) (l2 := [some (eR a0), some (eI (a1)), some (eR a2), some (eI (v1)), some (eI (v11)), some (eI (v25)), some (eI (0))]) (s2 := [eI (4), eR a2, eI (8), eR a2]) rfl rfl rfl ?_
      refine w_t (np := 127) (l2 := [some (eR a0), some (eI (a1)), some (eR a2), some (eI (v1)), some (eI (v11)), some (eI (v25)), some (eI (0))]) (s2 := [eI (0), eI (4), eR a2, eI (8), eR a2]) rfl rfl rfl ?_
      refine w_t (np := 128) (l2 := [some (eR a0), some (eI (a1)), some (eR a2), some (eI (v1)), some (eI (v11)), some (eI (v25)), some (eI (0))]) (s2 := [eI (4), eR a2, eI (8), eR a2]) rfl (b_iadd rfl) rfl ?_
      refine j_al (np := 129) rfl rfl I62 gA2 (by decide) (n := 16) rfl rfl (lo := -2147483648) (hi := 2147483647) (fun _ => rfl) (by decide) (by decide) ?_
      intro v65 e66 b67
      have e66 := e66.symm.trans (W63.slot W50.at (by decide))
      rw [e66]
      refine w_t (np := 130) (l2 := [some (eR a0), some (eI (a1)), some (eR a2), some (eI (v1)), some (eI (v11)), some (eI (v25)), some (eI (0))]) (s2 := [eR a2, eI (v45), eI (8), eR a2]) rfl (s_an rfl (pos_g I62 gA2 (by decide))) rfl ?_
      refine w_t (np := 132) (l2 := [some (eR a0), some (eI (a1)), some (eR a2), some (eI (v1)), some (eI (v11)), some (eI (v25)), some (eI (0))]) (s2 := [eI (12), eR a2, eI (v45), eI (8), eR a2]) rfl rfl rfl ?_
      refine w_t (np := 134) (l2 := [some (eR a0), some (eI (a1)), some (eR a2), some (eI (v1)), some (eI (v11)), some (eI (v25)), some (eI (0))]) (s2 := [eI (0), eI (12), eR a2, eI (v45), eI (8), eR a2]) rfl rfl rfl ?_
      refine w_t (np := 135) (l2 := [some (eR a0), some (eI (a1)), some (eR a2), some (eI (v1)), some (eI (v11)), some (eI (v25)), some (eI (0))]) (s2 := [eI (12), eR a2, eI (v45), eI (8), eR a2]) rfl (b_iadd rfl) rfl ?_
      refine j_al (np := 136) rfl rfl I62 gA2 (by decide) (n := 16) rfl rfl (lo := -2147483648) (hi := 2147483647) (fun _ => rfl) (by decide) (by decide) ?_
      intro v68 e69 b70
      have e69 := e69.symm.trans W63.at
      rw [e69]
      obtain ⟨v71, e72, b73⟩ : ∃ zz : Int, ev_w ((v45) + (v58)) = zz ∧ (-2147483648 ≤ zz ∧ zz ≤ 2147483647) := ⟨_, rfl, hw_bd _⟩
      refine w_t (np := 137) (l2 := [some (eR a0), some (eI (a1)), some (eR a2), some (eI (v1)), some (eI (v11)), some (eI (v25)), some (eI (0))]) (s2 := [eI (v71), eI (8), eR a2]) rfl (b_iadd e72) rfl ?_
      refine w_t (np := 138) (l2 := [some (eR a0), some (eI (a1)), some (eR a2), some (eI (v1)), some (eI (v11)), some (eI (v25)), some (eI (0))]) (s2 := [eR a2, eI (v71), eI (8), eR a2]) rfl (s_an rfl (pos_g I62 gA2 (by decide))) rfl ?_
      refine w_t (np := 140) (l2 := [some (eR a0), some (eI (a1)), some (eR a2), some (eI (v1)), some (eI (v11)), some (eI (v25)), some (eI (0))]) (s2 := [eI (0), eR a2, eI (v71), eI (8), eR a2]) rfl rfl rfl ?_
      refine j_al (np := 141) rfl rfl I62 gA2 (by decide) (n := 16) rfl rfl (lo := -2147483648) (hi := 2147483647) (fun _ => rfl) (by decide) (by decide) ?_
      intro v74 e75 b76
      have e75 := e75.symm.trans (W63.slot (W50.slot W37.at (by decide)) (by decide))
      rw [e75]
      obtain ⟨v77, e78, b79⟩ : ∃ zz : Int, ev_w ((v71) - (v32)) = zz ∧ (-2147483648 ≤ zz ∧ zz ≤ 2147483647) := ⟨_, rfl, hw_bd _⟩
      refine w_t (np := 142) (l2 := [some (eR a0), some (eI (a1)), some (eR a2), some (eI (v1)), some (eI (v11)), some (eI (v25)), some (eI (0))]) (s2 := [eI (v77), eI (8), eR a2]) rfl (b_isub e78) rfl ?_
      refine j_as (np := 143) rfl rfl I62 gA2 (by decide) (n := 16) rfl rfl (lo := -2147483648) (hi := 2147483647) (fun _ => rfl) (by decide) (by decide) (by omega) ?_
      intro m80 I81 W82
      have F83 : Fr l_302e 0 0 g μ m80 := F64.v W82 gA2 rfl rfl
      refine w_t (np := 146) (l2 := [some (eR a0), some (eI (a1)), some (eR a2), some (eI (v1)), some (eI (v11)), some (eI (v25)), some (eI (1))]) (s2 := []) rfl (b_iinc rfl rfl rfl) rfl ?_
      refine w_go (t1 := 59) rfl rfl ?_
      refine w_t (np := 61) (l2 := [some (eR a0), some (eI (a1)), some (eR a2), some (eI (v1)), some (eI (v11)), some (eI (v25)), some (eI (1))]) (s2 := [eI (1)]) rfl rfl rfl ?_
      refine w_t (np := 62) (l2 := [some (eR a0), some (eI (a1)), some (eR a2), some (eI (v1)), some (eI (v11)), some (eI (v25)), some (eI (1))]) (s2 := [eI (4), eI (1)]) rfl rfl rfl ?_
      refine b_cge (t1 := 149) (t2 := 65) rfl rfl rfl rfl rfl (fun g84 => absurd g84 (by decide)) (fun g84 => ?_)
      refine w_t (np := 66) (l2 := [some (eR a0), some (eI (a1)), some (eR a2), some (eI (v1)), some (eI (v11)), some (eI (v25)), some (eI (1))]) (s2 := [eR a2]) rfl (s_an rfl (pos_g I81 gA2 (by decide))) rfl ?_
      refine w_t (np := 68) (l2 := [some (eR a0), some (eI (a1)), some (eR a2), some (eI (v1)), some (eI (v11)), some (eI (v25)), some (eI (1))]) (s2 := [eI (1), eR a2]) rfl rfl rfl ?_
      refine w_t (np := 69) (l2 := [some (eR a0), some (eI (a1)), some (eR a2), some (eI (v1)), some (eI (v11)), some (eI (v25)), some (eI (1))]) (s2 := [eR a0, eI (1), eR a2]) rfl (s_an rfl (pos_g I81 gA0 (by decide))) rfl ?_
      refine w_gf (np := 72) (v := eR v4) rfl rfl (I81.kd gA0 (by decide) (n := 69) rfl) (by rw [(W82.addr (W63.addr (W50.addr (W37.addr e5 gA2 gA0 (by decide)) gA2 gA0 (by decide)) gA2 gA0 (by decide)) gA2 gA0 (by decide))]; rfl) ?_
      refine w_t (np := 73) (l2 := [some (eR a0), some (eI (a1)), some (eR a2), some (eI (v1)), some (eI (v11)), some (eI (v25)), some (eI (1))]) (s2 := [eI (v1), eR v4, eI (1), eR a2]) rfl rfl rfl ?_
      refine w_t (np := 74) (l2 := [some (eR a0), some (eI (a1)), some (eR a2), some (eI (v1)), some (eI (v11)), some (eI (v25)), some (eI (1))]) (s2 := [eI (1), eI (v1), eR v4, eI (1), eR a2]) rfl rfl rfl ?_
      obtain ⟨v85, e86⟩ : ∃ zz : Int, zz = (v1) + (1) := ⟨_, rfl⟩
      have b87 : 1 ≤ v85 ∧ v85 ≤ 162 := by omega
      refine w_t (np := 75) (l2 := [some (eR a0), some (eI (a1)), some (eR a2), some (eI (v1)), some (eI (v11)), some (eI (v25)), some (eI (1))]) (s2 := [eI (v85), eR v4, eI (1), eR a2]) rfl (b_iadd (by rw [← e86]; exact ev_w_in (by omega) (by omega))) rfl ?_
      refine w_t (np := 77) (l2 := [some (eR a0), some (eI (a1)), some (eR a2), some (eI (v1)), some (eI (v11)), some (eI (v25)), some (eI (1))]) (s2 := [eI (1), eI (v85), eR v4, eI (1), eR a2]) rfl rfl rfl ?_
      obtain ⟨v88, e89⟩ : ∃ zz : Int, zz = (v85) + (1) := ⟨_, rfl⟩
      have b90 : 2 ≤ v88 ∧ v88 ≤ 163 := by omega
      refine w_t (np := 78) (l2 := [some (eR a0), some (eI (a1)), some (eR a2), some (eI (v1)), some (eI (v11)), some (eI (v25)), some (eI (1))]) (s2 := [eI (v88), eR v4, eI (1), eR a2]) rfl (b_iadd (by rw [← e89]; exact ev_w_in (by omega) (by omega))) rfl ?_
      refine j_al (np := 79) rfl rfl I81 b6 (by decide) (n := 168) rfl rfl (lo := -2147483648) (hi := 2147483647) (fun _ => rfl) (by omega) (by omega) ?_
      intro v91 e92 b93
      refine j_as (np := 80) rfl rfl I81 gA2 (by decide) (n := 16) rfl rfl (lo := -2147483648) (hi := 2147483647) (fun _ => rfl) (by decide) (by decide) (by omega) ?_
      intro m94 I95 W96
      have F97 : Fr l_302e 0 0 g μ m94 := F83.v W96 gA2 rfl rfl
      refine w_t (np := 81) (l2 := [some (eR a0), some (eI (a1)), some (eR a2), some (eI (v1)), some (eI (v11)), some (eI (v25)), some (eI (1))]) (s2 := [eR a2]) rfl (s_an rfl (pos_g I95 gA2 (by decide))) rfl ?_
      refine w_t (np := 82) (l2 := [some (eR a0), some (eI (a1)), some (eR a2), some (eI (v1)), some (eI (v11)), some (eI (v25)), some (eI (1))]) (s2 := [eI (4), eR a2]) rfl rfl rfl ?_
      refine w_t (np := 84) (l2 := [some (eR a0), some (eI (a1)), some (eR a2), some (eI (v1)), some (eI (v11)), some (eI (v25)), some (eI (1))]) (s2 := [eI (1), eI (4), eR a2]) rfl rfl rfl ?_
      refine w_t (np := 85) (l2 := [some (eR a0), some (eI (a1)), some (eR a2), some (eI (v1)), some (eI (v11)), some (eI (v25)), some (eI (1))]) (s2 := [eI (5), eR a2]) rfl (b_iadd rfl) rfl ?_
      refine w_t (np := 86) (l2 := [some (eR a0), some (eI (a1)), some (eR a2), some (eI (v1)), some (eI (v11)), some (eI (v25)), some (eI (1))]) (s2 := [eR a2, eI (5), eR a2]) rfl (s_an rfl (pos_g I95 gA2 (by decide))) rfl ?_
      refine w_t (np := 88) (l2 := [some (eR a0), some (eI (a1)), some (eR a2), some (eI (v1)), some (eI (v11)), some (eI (v25)), some (eI (1))]) (s2 := [eI (1), eR a2, eI (5), eR a2]) rfl rfl rfl ?_
      refine j_al (np := 89) rfl rfl I95 gA2 (by decide) (n := 16) rfl rfl (lo := -2147483648) (hi := 2147483647) (fun _ => rfl) (by decide) (by decide) ?_
      intro v98 e99 b100
      have e99 := e99.symm.trans W96.at
      rw [e99]
      refine w_t (np := 91) (l2 := [some (eR a0), some (eI (a1)), some (eR a2), some (eI (v1)), some (eI (v11)), some (eI (v25)), some (eI (1))]) (s2 := [eI (v11), eI (v91), eI (5), eR a2]) rfl rfl rfl ?_
      refine w_t (np := 93) (l2 := [some (eR a0), some (eI (a1)), some (eR a2), some (eI (v1)), some (eI (v11)), some (eI (v25)), some (eI (1))]) (s2 := [eI (1), eI (v11), eI (v91), eI (5), eR a2]) rfl rfl rfl ?_
      refine w_cu (np := 96) (as := [eI (v11), eI (1)]) (l2 := [some (eI (v11)), some (eI (1))]) (rest := [eI (v91), eI (5), eR a2]) rfl rfl rfl (Nat.ble_eq.mp rfl) rfl rfl rfl rfl ?_
      refine s_218e (a0 := v11) (a1 := 1) I95 (by omega) (by decide) ?_
      intro v101 b102 h103
      show ex_q (dt_fg L ρ) rc (d + 2, (302, 96, [some (eR a0), some (eI (a1)), some (eR a2), some (eI (v1)), some (eI (v11)), some (eI (v25)), some (eI (1))], [eI (v101), eI (v91), eI (5), eR a2]), f :: F, m94)
      obtain ⟨v104, e105, b106⟩ : ∃ zz : Int, ev_w ((v91) + (v101)) = zz ∧ (-2147483648 ≤ zz ∧ zz ≤ 2147483647) := ⟨_, rfl, hw_bd _⟩
      refine w_t (np := 97) (l2 := [some (eR a0), some (eI (a1)), some (eR a2), some (eI (v1)), some (eI (v11)), some (eI (v25)), some (eI (1))]) (s2 := [eI (v104), eI (5), eR a2]) rfl (b_iadd e105) rfl ?_
      refine j_as (np := 98) rfl rfl I95 gA2 (by decide) (n := 16) rfl rfl (lo := -2147483648) (hi := 2147483647) (fun _ => rfl) (by decide) (by decide) (by omega) ?_
      intro m107 I108 W109
      have F110 : Fr l_302e 0 0 g μ m107 := F97.v W109 gA2 rfl rfl
      refine w_t (np := 99) (l2 := [some (eR a0), some (eI (a1)), some (eR a2), some (eI (v1)), some (eI (v11)), some (eI (v25)), some (eI (1))]) (s2 := [eR a2]) rfl (s_an rfl (pos_g I108 gA2 (by decide))) rfl ?_
      refine w_t (np := 101) (l2 := [some (eR a0), some (eI (a1)), some (eR a2), some (eI (v1)), some (eI (v11)), some (eI (v25)), some (eI (1))]) (s2 := [eI (12), eR a2]) rfl rfl rfl ?_
      refine w_t (np := 103) (l2 := [some (eR a0), some (eI (a1)), some (eR a2), some (eI (v1)), some (eI (v11)), some (eI (v25)), some (eI (1))]) (s2 := [eI (1), eI (12), eR a2]) rfl rfl rfl ?_
      refine w_t (np := 104) (l2 := [some (eR a0), some (eI (a1)), some (eR a2), some (eI (v1)), some (eI (v11)), some (eI (v25)), some (eI (1))]) (s2 := [eI (13), eR a2]) rfl (b_iadd rfl) rfl ?_
      refine w_t (np := 105) (l2 := [some (eR a0), some (eI (a1)), some (eR a2), some (eI (v1)), some (eI (v11)), some (eI (v25)), some (eI (1))]) (s2 := [eR a2, eI (13), eR a2]) rfl (s_an rfl (pos_g I108 gA2 (by decide))) rfl ?_
      refine w_t (np := 107) (l2 := [some (eR a0), some (eI (a1)), some (eR a2), some (eI (v1)), some (eI (v11)), some (eI (v25)), some (eI (1))]) (s2 := [eI (1), eR a2, eI (13), eR a2]) rfl rfl rfl ?_
      refine j_al (np := 108) rfl rfl I108 gA2 (by decide) (n := 16) rfl rfl (lo := -2147483648) (hi := 2147483647) (fun _ => rfl) (by decide) (by decide) ?_
      intro v111 e112 b113
      have e112 := e112.symm.trans (W109.slot W96.at (by decide))
      rw [e112]
      refine w_t (np := 110) (l2 := [some (eR a0), some (eI (a1)), some (eR a2), some (eI (v1)), some (eI (v11)), some (eI (v25)), some (eI (1))]) (s2 := [eI (v25), eI (v91), eI (13), eR a2]) rfl rfl rfl ?_
      refine w_t (np := 112) (l2 := [some (eR a0), some (eI (a1)), some (eR a2), some (eI (v1)), some (eI (v11)), some (eI (v25)), some (eI (1))]) (s2 := [eI (1), eI (v25), eI (v91), eI (13), eR a2]) rfl rfl rfl ?_
      refine w_cu (np := 115) (as := [eI (v25), eI (1)]) (l2 := [some (eI (v25)), some (eI (1))]) (rest := [eI (v91), eI (13), eR a2]) rfl rfl rfl (Nat.ble_eq.mp rfl) rfl rfl rfl rfl ?_
      refine s_218e (a0 := v25) (a1 := 1) I108 (by omega) (by decide) ?_
      intro v114 b115 h116
      show ex_q (dt_fg L ρ) rc (d + 2, (302, 115, [some (eR a0), some (eI (a1)), some (eR a2), some (eI (v1)), some (eI (v11)), some (eI (v25)), some (eI (1))], [eI (v114), eI (v91), eI (13), eR a2]), f :: F, m107)
      obtain ⟨v117, e118, b119⟩ : ∃ zz : Int, ev_w ((v91) + (v114)) = zz ∧ (-2147483648 ≤ zz ∧ zz ≤ 2147483647) := ⟨_, rfl, hw_bd _⟩
      refine w_t (np := 116) (l2 := [some (eR a0), some (eI (a1)), some (eR a2), some (eI (v1)), some (eI (v11)), some (eI (v25)), some (eI (1))]) (s2 := [eI (v117), eI (13), eR a2]) rfl (b_iadd e118) rfl ?_
      refine j_as (np := 117) rfl rfl I108 gA2 (by decide) (n := 16) rfl rfl (lo := -2147483648) (hi := 2147483647) (fun _ => rfl) (by decide) (by decide) (by omega) ?_
      intro m120 I121 W122
      have F123 : Fr l_302e 0 0 g μ m120 := F110.v W122 gA2 rfl rfl
      refine w_t (np := 118) (l2 := [some (eR a0), some (eI (a1)), some (eR a2), some (eI (v1)), some (eI (v11)), some (eI (v25)), some (eI (1))]) (s2 := [eR a2]) rfl (s_an rfl (pos_g I121 gA2 (by decide))) rfl ?_
      refine w_t (np := 120) (l2 := [some (eR a0), some (eI (a1)), some (eR a2), some (eI (v1)), some (eI (v11)), some (eI (v25)), some (eI (1))]) (s2 := [eI (8), eR a2]) rfl rfl rfl ?_
      refine w_t (np := 122) (l2 := [some (eR a0), some (eI (a1)), some (eR a2), some (eI (v1)), some (eI (v11)), some (eI (v25)), some (eI (1))]) (s2 := [eI (1), eI (8), eR a2]) rfl rfl rfl ?_
      refine w_t (np := 123) (l2 := [some (eR a0), some (eI (a1)), some (eR a2), some (eI (v1)), some (eI (v11)), some (eI (v25)), some (eI (1))]) (s2 := [eI (9), eR a2]) rfl (b_iadd rfl) rfl ?_
      refine w_t (np := 124) (l2 := [some (eR a0), some (eI (a1)), some (eR a2), some (eI (v1)), some (eI (v11)), some (eI (v25)), some (eI (1))]) (s2 := [eR a2, eI (9), eR a2]) rfl (s_an rfl (pos_g I121 gA2 (by decide))) rfl ?_
      refine w_t (np := 125) (l2 := [some (eR a0), some (eI (a1)), some (eR a2), some (eI (v1)), some (eI (v11)), some (eI (v25)), some (eI (1))]) (s2 := [eI (4), eR a2, eI (9), eR a2]) rfl rfl rfl ?_
      refine w_t (np := 127) (l2 := [some (eR a0), some (eI (a1)), some (eR a2), some (eI (v1)), some (eI (v11)), some (eI (v25)), some (eI (1))]) (s2 := [eI (1), eI (4), eR a2, eI (9), eR a2]) rfl rfl rfl ?_
      refine w_t (np := 128) (l2 := [some (eR a0), some (eI (a1)), some (eR a2), some (eI (v1)), some (eI (v11)), some (eI (v25)), some (eI (1))]) (s2 := [eI (5), eR a2, eI (9), eR a2]) rfl (b_iadd rfl) rfl ?_
      refine j_al (np := 129) rfl rfl I121 gA2 (by decide) (n := 16) rfl rfl (lo := -2147483648) (hi := 2147483647) (fun _ => rfl) (by decide) (by decide) ?_
      intro v124 e125 b126
      have e125 := e125.symm.trans (W122.slot W109.at (by decide))
      rw [e125]
      refine w_t (np := 130) (l2 := [some (eR a0), some (eI (a1)), some (eR a2), some (eI (v1)), some (eI (v11)), some (eI (v25)), some (eI (1))]) (s2 := [eR a2, eI (v104), eI (9), eR a2]) rfl (s_an rfl (pos_g I121 gA2 (by decide))) rfl ?_
      refine w_t (np := 132) (l2 := [some (eR a0), some (eI (a1)), some (eR a2), some (eI (v1)), some (eI (v11)), some (eI (v25)), some (eI (1))]) (s2 := [eI (12), eR a2, eI (v104), eI (9), eR a2]) rfl rfl rfl ?_
      refine w_t (np := 134) (l2 := [some (eR a0), some (eI (a1)), some (eR a2), some (eI (v1)), some (eI (v11)), some (eI (v25)), some (eI (1))]) (s2 := [eI (1), eI (12), eR a2, eI (v104), eI (9), eR a2]) rfl rfl rfl ?_
      refine w_t (np := 135) (l2 := [some (eR a0), some (eI (a1)), some (eR a2), some (eI (v1)), some (eI (v11)), some (eI (v25)), some (eI (1))]) (s2 := [eI (13), eR a2, eI (v104), eI (9), eR a2]) rfl (b_iadd rfl) rfl ?_
      refine j_al (np := 136) rfl rfl I121 gA2 (by decide) (n := 16) rfl rfl (lo := -2147483648) (hi := 2147483647) (fun _ => rfl) (by decide) (by decide) ?_
      intro v127 e128 b129
      have e128 := e128.symm.trans W122.at
      rw [e128]
      obtain ⟨v130, e131, b132⟩ : ∃ zz : Int, ev_w ((v104) + (v117)) = zz ∧ (-2147483648 ≤ zz ∧ zz ≤ 2147483647) := ⟨_, rfl, hw_bd _⟩
      refine w_t (np := 137) (l2 := [some (eR a0), some (eI (a1)), some (eR a2), some (eI (v1)), some (eI (v11)), some (eI (v25)), some (eI (1))]) (s2 := [eI (v130), eI (9), eR a2]) rfl (b_iadd e131) rfl ?_
      refine w_t (np := 138) (l2 := [some (eR a0), some (eI (a1)), some (eR a2), some (eI (v1)), some (eI (v11)), some (eI (v25)), some (eI (1))]) (s2 := [eR a2, eI (v130), eI (9), eR a2]) rfl (s_an rfl (pos_g I121 gA2 (by decide))) rfl ?_
      refine w_t (np := 140) (l2 := [some (eR a0), some (eI (a1)), some (eR a2), some (eI (v1)), some (eI (v11)), some (eI (v25)), some (eI (1))]) (s2 := [eI (1), eR a2, eI (v130), eI (9), eR a2]) rfl rfl rfl ?_
      refine j_al (np := 141) rfl rfl I121 gA2 (by decide) (n := 16) rfl rfl (lo := -2147483648) (hi := 2147483647) (fun _ => rfl) (by decide) (by decide) ?_
      intro v133 e134 b135
      have e134 := e134.symm.trans (W122.slot (W109.slot W96.at (by decide)) (by decide))
      rw [e134]
      obtain ⟨v136, e137, b138⟩ : ∃ zz : Int, ev_w ((v130) - (v91)) = zz ∧ (-2147483648 ≤ zz ∧ zz ≤ 2147483647) := ⟨_, rfl, hw_bd _⟩
      refine w_t (np := 142) (l2 := [some (eR a0), some (eI (a1)), some (eR a2), some (eI (v1)), some (eI (v11)), some (eI (v25)), some (eI (1))]) (s2 := [eI (v136), eI (9), eR a2]) rfl (b_isub e137) rfl ?_
      refine j_as (np := 143) rfl rfl I121 gA2 (by decide) (n := 16) rfl rfl (lo := -2147483648) (hi := 2147483647) (fun _ => rfl) (by decide) (by decide) (by omega) ?_
      intro m139 I140 W141
      have F142 : Fr l_302e 0 0 g μ m139 := F123.v W141 gA2 rfl rfl
      refine w_t (np := 146) (l2 := [some (eR a0), some (eI (a1)), some (eR a2), some (eI (v1)), some (eI (v11)), some (eI (v25)), some (eI (2))]) (s2 := []) rfl (b_iinc rfl rfl rfl) rfl ?_
      refine w_go (t1 := 59) rfl rfl ?_
      refine w_t (np := 61) (l2 := [some (eR a0), some (eI (a1)), some (eR a2), some (eI (v1)), some (eI (v11)), some (eI (v25)), some (eI (2))]) (s2 := [eI (2)]) rfl rfl rfl ?_
      refine w_t (np := 62) (l2 := [some (eR a0), some (eI (a1)), some (eR a2), some (eI (v1)), some (eI (v11)), some (eI (v25)), some (eI (2))]) (s2 := [eI (4), eI (2)]) rfl rfl rfl ?_
      refine b_cge (t1 := 149) (t2 := 65) rfl rfl rfl rfl rfl (fun g143 => absurd g143 (by decide)) (fun g143 => ?_)
      refine w_t (np := 66) (l2 := [some (eR a0), some (eI (a1)), some (eR a2), some (eI (v1)), some (eI (v11)), some (eI (v25)), some (eI (2))]) (s2 := [eR a2]) rfl (s_an rfl (pos_g I140 gA2 (by decide))) rfl ?_
      refine w_t (np := 68) (l2 := [some (eR a0), some (eI (a1)), some (eR a2), some (eI (v1)), some (eI (v11)), some (eI (v25)), some (eI (2))]) (s2 := [eI (2), eR a2]) rfl rfl rfl ?_
      refine w_t (np := 69) (l2 := [some (eR a0), some (eI (a1)), some (eR a2), some (eI (v1)), some (eI (v11)), some (eI (v25)), some (eI (2))]) (s2 := [eR a0, eI (2), eR a2]) rfl (s_an rfl (pos_g I140 gA0 (by decide))) rfl ?_
      refine w_gf (np := 72) (v := eR v4) rfl rfl (I140.kd gA0 (by decide) (n := 69) rfl) (by rw [(W141.addr (W122.addr (W109.addr (W96.addr (W82.addr (W63.addr (W50.addr (W37.addr e5 gA2 gA0 (by decide)) gA2 gA0 (by decide)) gA2 gA0 (by decide)) gA2 gA0 (by decide)) gA2 gA0 (by decide)) gA2 gA0 (by decide)) gA2 gA0 (by decide)) gA2 gA0 (by decide))]; rfl) ?_
      refine w_t (np := 73) (l2 := [some (eR a0), some (eI (a1)), some (eR a2), some (eI (v1)), some (eI (v11)), some (eI (v25)), some (eI (2))]) (s2 := [eI (v1), eR v4, eI (2), eR a2]) rfl rfl rfl ?_
      refine w_t (np := 74) (l2 := [some (eR a0), some (eI (a1)), some (eR a2), some (eI (v1)), some (eI (v11)), some (eI (v25)), some (eI (2))]) (s2 := [eI (1), eI (v1), eR v4, eI (2), eR a2]) rfl rfl rfl ?_
      obtain ⟨v144, e145⟩ : ∃ zz : Int, zz = (v1) + (1) := ⟨_, rfl⟩
      have b146 : 1 ≤ v144 ∧ v144 ≤ 162 := by omega
      refine w_t (np := 75) (l2 := [some (eR a0), some (eI (a1)), some (eR a2), some (eI (v1)), some (eI (v11)), some (eI (v25)), some (eI (2))]) (s2 := [eI (v144), eR v4, eI (2), eR a2]) rfl (b_iadd (by rw [← e145]; exact ev_w_in (by omega) (by omega))) rfl ?_
      refine w_t (np := 77) (l2 := [some (eR a0), some (eI (a1)), some (eR a2), some (eI (v1)), some (eI (v11)), some (eI (v25)), some (eI (2))]) (s2 := [eI (2), eI (v144), eR v4, eI (2), eR a2]) rfl rfl rfl ?_
      obtain ⟨v147, e148⟩ : ∃ zz : Int, zz = (v144) + (2) := ⟨_, rfl⟩
      have b149 : 3 ≤ v147 ∧ v147 ≤ 164 := by omega
      refine w_t (np := 78) (l2 := [some (eR a0), some (eI (a1)), some (eR a2), some (eI (v1)), some (eI (v11)), some (eI (v25)), some (eI (2))]) (s2 := [eI (v147), eR v4, eI (2), eR a2]) rfl (b_iadd (by rw [← e148]; exact ev_w_in (by omega) (by omega))) rfl ?_
      refine j_al (np := 79) rfl rfl I140 b6 (by decide) (n := 168) rfl rfl (lo := -2147483648) (hi := 2147483647) (fun _ => rfl) (by omega) (by omega) ?_
      intro v150 e151 b152
      refine j_as (np := 80) rfl rfl I140 gA2 (by decide) (n := 16) rfl rfl (lo := -2147483648) (hi := 2147483647) (fun _ => rfl) (by decide) (by decide) (by omega) ?_
      intro m153 I154 W155
      have F156 : Fr l_302e 0 0 g μ m153 := F142.v W155 gA2 rfl rfl
      refine w_t (np := 81) (l2 := [some (eR a0), some (eI (a1)), some (eR a2), some (eI (v1)), some (eI (v11)), some (eI (v25)), some (eI (2))]) (s2 := [eR a2]) rfl (s_an rfl (pos_g I154 gA2 (by decide))) rfl ?_
      refine w_t (np := 82) (l2 := [some (eR a0), some (eI (a1)), some (eR a2), some (eI (v1)), some (eI (v11)), some (eI (v25)), some (eI (2))]) (s2 := [eI (4), eR a2]) rfl rfl rfl ?_
      refine w_t (np := 84) (l2 := [some (eR a0), some (eI (a1)), some (eR a2), some (eI (v1)), some (eI (v11)), some (eI (v25)), some (eI (2))]) (s2 := [eI (2), eI (4), eR a2]) rfl rfl rfl ?_
      refine w_t (np := 85) (l2 := [some (eR a0), some (eI (a1)), some (eR a2), some (eI (v1)), some (eI (v11)), some (eI (v25)), some (eI (2))]) (s2 := [eI (6), eR a2]) rfl (b_iadd rfl) rfl ?_
      refine w_t (np := 86) (l2 := [some (eR a0), some (eI (a1)), some (eR a2), some (eI (v1)), some (eI (v11)), some (eI (v25)), some (eI (2))]) (s2 := [eR a2, eI (6), eR a2]) rfl (s_an rfl (pos_g I154 gA2 (by decide))) rfl ?_
      refine w_t (np := 88) (l2 := [some (eR a0), some (eI (a1)), some (eR a2), some (eI (v1)), some (eI (v11)), some (eI (v25)), some (eI (2))]) (s2 := [eI (2), eR a2, eI (6), eR a2]) rfl rfl rfl ?_
      refine j_al (np := 89) rfl rfl I154 gA2 (by decide) (n := 16) rfl rfl (lo := -2147483648) (hi := 2147483647) (fun _ => rfl) (by decide) (by decide) ?_
      intro v157 e158 b159
      have e158 := e158.symm.trans W155.at
      rw [e158]
      refine w_t (np := 91) (l2 := [some (eR a0), some (eI (a1)), some (eR a2), some (eI (v1)), some (eI (v11)), some (eI (v25)), some (eI (2))]) (s2 := [eI (v11), eI (v150), eI (6), eR a2]) rfl rfl rfl ?_
      refine w_t (np := 93) (l2 := [some (eR a0), some (eI (a1)), some (eR a2), some (eI (v1)), some (eI (v11)), some (eI (v25)), some (eI (2))]) (s2 := [eI (2), eI (v11), eI (v150), eI (6), eR a2]) rfl rfl rfl ?_
      refine w_cu (np := 96) (as := [eI (v11), eI (2)]) (l2 := [some (eI (v11)), some (eI (2))]) (rest := [eI (v150), eI (6), eR a2]) rfl rfl rfl (Nat.ble_eq.mp rfl) rfl rfl rfl rfl ?_
      refine s_218e (a0 := v11) (a1 := 2) I154 (by omega) (by decide) ?_
      intro v160 b161 h162
      show ex_q (dt_fg L ρ) rc (d + 2, (302, 96, [some (eR a0), some (eI (a1)), some (eR a2), some (eI (v1)), some (eI (v11)), some (eI (v25)), some (eI (2))], [eI (v160), eI (v150), eI (6), eR a2]), f :: F, m153)
      obtain ⟨v163, e164, b165⟩ : ∃ zz : Int, ev_w ((v150) + (v160)) = zz ∧ (-2147483648 ≤ zz ∧ zz ≤ 2147483647) := ⟨_, rfl, hw_bd _⟩
      refine w_t (np := 97) (l2 := [some (eR a0), some (eI (a1)), some (eR a2), some (eI (v1)), some (eI (v11)), some (eI (v25)), some (eI (2))]) (s2 := [eI (v163), eI (6), eR a2]) rfl (b_iadd e164) rfl ?_
      refine j_as (np := 98) rfl rfl I154 gA2 (by decide) (n := 16) rfl rfl (lo := -2147483648) (hi := 2147483647) (fun _ => rfl) (by decide) (by decide) (by omega) ?_
      intro m166 I167 W168
      have F169 : Fr l_302e 0 0 g μ m166 := F156.v W168 gA2 rfl rfl
      refine w_t (np := 99) (l2 := [some (eR a0), some (eI (a1)), some (eR a2), some (eI (v1)), some (eI (v11)), some (eI (v25)), some (eI (2))]) (s2 := [eR a2]) rfl (s_an rfl (pos_g I167 gA2 (by decide))) rfl ?_
      refine w_t (np := 101) (l2 := [some (eR a0), some (eI (a1)), some (eR a2), some (eI (v1)), some (eI (v11)), some (eI (v25)), some (eI (2))]) (s2 := [eI (12), eR a2]) rfl rfl rfl ?_
      refine w_t (np := 103) (l2 := [some (eR a0), some (eI (a1)), some (eR a2), some (eI (v1)), some (eI (v11)), some (eI (v25)), some (eI (2))]) (s2 := [eI (2), eI (12), eR a2]) rfl rfl rfl ?_
      refine w_t (np := 104) (l2 := [some (eR a0), some (eI (a1)), some (eR a2), some (eI (v1)), some (eI (v11)), some (eI (v25)), some (eI (2))]) (s2 := [eI (14), eR a2]) rfl (b_iadd rfl) rfl ?_
      refine w_t (np := 105) (l2 := [some (eR a0), some (eI (a1)), some (eR a2), some (eI (v1)), some (eI (v11)), some (eI (v25)), some (eI (2))]) (s2 := [eR a2, eI (14), eR a2]) rfl (s_an rfl (pos_g I167 gA2 (by decide))) rfl ?_
      refine w_t (np := 107) (l2 := [some (eR a0), some (eI (a1)), some (eR a2), some (eI (v1)), some (eI (v11)), some (eI (v25)), some (eI (2))]) (s2 := [eI (2), eR a2, eI (14), eR a2]) rfl rfl rfl ?_
      refine j_al (np := 108) rfl rfl I167 gA2 (by decide) (n := 16) rfl rfl (lo := -2147483648) (hi := 2147483647) (fun _ => rfl) (by decide) (by decide) ?_
      intro v170 e171 b172
      have e171 := e171.symm.trans (W168.slot W155.at (by decide))
      rw [e171]
      refine w_t (np := 110) (l2 := [some (eR a0), some (eI (a1)), some (eR a2), some (eI (v1)), some (eI (v11)), some (eI (v25)), some (eI (2))]) (s2 := [eI (v25), eI (v150), eI (14), eR a2]) rfl rfl rfl ?_
      refine w_t (np := 112) (l2 := [some (eR a0), some (eI (a1)), some (eR a2), some (eI (v1)), some (eI (v11)), some (eI (v25)), some (eI (2))]) (s2 := [eI (2), eI (v25), eI (v150), eI (14), eR a2]) rfl rfl rfl ?_
      refine w_cu (np := 115) (as := [eI (v25), eI (2)]) (l2 := [some (eI (v25)), some (eI (2))]) (rest := [eI (v150), eI (14), eR a2]) rfl rfl rfl (Nat.ble_eq.mp rfl) rfl rfl rfl rfl ?_
      refine s_218e (a0 := v25) (a1 := 2) I167 (by omega) (by decide) ?_
      intro v173 b174 h175
      show ex_q (dt_fg L ρ) rc (d + 2, (302, 115, [some (eR a0), some (eI (a1)), some (eR a2), some (eI (v1)), some (eI (v11)), some (eI (v25)), some (eI (2))], [eI (v173), eI (v150), eI (14), eR a2]), f :: F, m166)
      obtain ⟨v176, e177, b178⟩ : ∃ zz : Int, ev_w ((v150) + (v173)) = zz ∧ (-2147483648 ≤ zz ∧ zz ≤ 2147483647) := ⟨_, rfl, hw_bd _⟩
      refine w_t (np := 116) (l2 := [some (eR a0), some (eI (a1)), some (eR a2), some (eI (v1)), some (eI (v11)), some (eI (v25)), some (eI (2))]) (s2 := [eI (v176), eI (14), eR a2]) rfl (b_iadd e177) rfl ?_
      refine j_as (np := 117) rfl rfl I167 gA2 (by decide) (n := 16) rfl rfl (lo := -2147483648) (hi := 2147483647) (fun _ => rfl) (by decide) (by decide) (by omega) ?_
      intro m179 I180 W181
      have F182 : Fr l_302e 0 0 g μ m179 := F169.v W181 gA2 rfl rfl
      refine w_t (np := 118) (l2 := [some (eR a0), some (eI (a1)), some (eR a2), some (eI (v1)), some (eI (v11)), some (eI (v25)), some (eI (2))]) (s2 := [eR a2]) rfl (s_an rfl (pos_g I180 gA2 (by decide))) rfl ?_
      refine w_t (np := 120) (l2 := [some (eR a0), some (eI (a1)), some (eR a2), some (eI (v1)), some (eI (v11)), some (eI (v25)), some (eI (2))]) (s2 := [eI (8), eR a2]) rfl rfl rfl ?_
      refine w_t (np := 122) (l2 := [some (eR a0), some (eI (a1)), some (eR a2), some (eI (v1)), some (eI (v11)), some (eI (v25)), some (eI (2))]) (s2 := [eI (2), eI (8), eR a2]) rfl rfl rfl ?_
      refine w_t (np := 123) (l2 := [some (eR a0), some (eI (a1)), some (eR a2), some (eI (v1)), some (eI (v11)), some (eI (v25)), some (eI (2))]) (s2 := [eI (10), eR a2]) rfl (b_iadd rfl) rfl ?_
      refine w_t (np := 124) (l2 := [some (eR a0), some (eI (a1)), some (eR a2), some (eI (v1)), some (eI (v11)), some (eI (v25)), some (eI (2))]) (s2 := [eR a2, eI (10), eR a2]) rfl (s_an rfl (pos_g I180 gA2 (by decide))) rfl ?_
      refine w_t (np := 125) (l2 := [some (eR a0), some (eI (a1)), some (eR a2), some (eI (v1)), some (eI (v11)), some (eI (v25)), some (eI (2))]) (s2 := [eI (4), eR a2, eI (10), eR a2]) rfl rfl rfl ?_
      refine w_t (np := 127) (l2 := [some (eR a0), some (eI (a1)), some (eR a2), some (eI (v1)), some (eI (v11)), some (eI (v25)), some (eI (2))]) (s2 := [eI (2), eI (4), eR a2, eI (10), eR a2]) rfl rfl rfl ?_
      refine w_t (np := 128) (l2 := [some (eR a0), some (eI (a1)), some (eR a2), some (eI (v1)), some (eI (v11)), some (eI (v25)), some (eI (2))]) (s2 := [eI (6), eR a2, eI (10), eR a2]) rfl (b_iadd rfl) rfl ?_
      refine j_al (np := 129) rfl rfl I180 gA2 (by decide) (n := 16) rfl rfl (lo := -2147483648) (hi := 2147483647) (fun _ => rfl) (by decide) (by decide) ?_
      intro v183 e184 b185
      have e184 := e184.symm.trans (W181.slot W168.at (by decide))
      rw [e184]
      refine w_t (np := 130) (l2 := [some (eR a0), some (eI (a1)), some (eR a2), some (eI (v1)), some (eI (v11)), some (eI (v25)), some (eI (2))]) (s2 := [eR a2, eI (v163), eI (10), eR a2]) rfl (s_an rfl (pos_g I180 gA2 (by decide))) rfl ?_
      refine w_t (np := 132) (l2 := [some (eR a0), some (eI (a1)), some (eR a2), some (eI (v1)), some (eI (v11)), some (eI (v25)), some (eI (2))]) (s2 := [eI (12), eR a2, eI (v163), eI (10), eR a2]) rfl rfl rfl ?_
      refine w_t (np := 134) (l2 := [some (eR a0), some (eI (a1)), some (eR a2), some (eI (v1)), some (eI (v11)), some (eI (v25)), some (eI (2))]) (s2 := [eI (2), eI (12), eR a2, eI (v163), eI (10), eR a2]) rfl rfl rfl ?_
      refine w_t (np := 135) (l2 := [some (eR a0), some (eI (a1)), some (eR a2), some (eI (v1)), some (eI (v11)), some (eI (v25)), some (eI (2))]) (s2 := [eI (14), eR a2, eI (v163), eI (10), eR a2]) rfl (b_iadd rfl) rfl ?_
      refine j_al (np := 136) rfl rfl I180 gA2 (by decide) (n := 16) rfl rfl (lo := -2147483648) (hi := 2147483647) (fun _ => rfl) (by decide) (by decide) ?_
      intro v186 e187 b188
      have e187 := e187.symm.trans W181.at
      rw [e187]
      obtain ⟨v189, e190, b191⟩ : ∃ zz : Int, ev_w ((v163) + (v176)) = zz ∧ (-2147483648 ≤ zz ∧ zz ≤ 2147483647) := ⟨_, rfl, hw_bd _⟩
      refine w_t (np := 137) (l2 := [some (eR a0), some (eI (a1)), some (eR a2), some (eI (v1)), some (eI (v11)), some (eI (v25)), some (eI (2))]) (s2 := [eI (v189), eI (10), eR a2]) rfl (b_iadd e190) rfl ?_
      refine w_t (np := 138) (l2 := [some (eR a0), some (eI (a1)), some (eR a2), some (eI (v1)), some (eI (v11)), some (eI (v25)), some (eI (2))]) (s2 := [eR a2, eI (v189), eI (10), eR a2]) rfl (s_an rfl (pos_g I180 gA2 (by decide))) rfl ?_
      refine w_t (np := 140) (l2 := [some (eR a0), some (eI (a1)), some (eR a2), some (eI (v1)), some (eI (v11)), some (eI (v25)), some (eI (2))]) (s2 := [eI (2), eR a2, eI (v189), eI (10), eR a2]) rfl rfl rfl ?_
      refine j_al (np := 141) rfl rfl I180 gA2 (by decide) (n := 16) rfl rfl (lo := -2147483648) (hi := 2147483647) (fun _ => rfl) (by decide) (by decide) ?_
      intro v192 e193 b194
      have e193 := e193.symm.trans (W181.slot (W168.slot W155.at (by decide)) (by decide))
      rw [e193]
      obtain ⟨v195, e196, b197⟩ : ∃ zz : Int, ev_w ((v189) - (v150)) = zz ∧ (-2147483648 ≤ zz ∧ zz ≤ 2147483647) := ⟨_, rfl, hw_bd _⟩
      refine w_t (np := 142) (l2 := [some (eR a0), some (eI (a1)), some (eR a2), some (eI (v1)), some (eI (v11)), some (eI (v25)), some (eI (2))]) (s2 := [eI (v195), eI (10), eR a2]) rfl (b_isub e196) rfl ?_
      refine j_as (np := 143) rfl rfl I180 gA2 (by decide) (n := 16) rfl rfl (lo := -2147483648) (hi := 2147483647) (fun _ => rfl) (by decide) (by decide) (by omega) ?_
      intro m198 I199 W200
      have F201 : Fr l_302e 0 0 g μ m198 := F182.v W200 gA2 rfl rfl
      refine w_t (np := 146) (l2 := [some (eR a0), some (eI (a1)), some (eR a2), some (eI (v1)), some (eI (v11)), some (eI (v25)), some (eI (3))]) (s2 := []) rfl (b_iinc rfl rfl rfl) rfl ?_
      refine w_go (t1 := 59) rfl rfl ?_
      refine w_t (np := 61) (l2 := [some (eR a0), some (eI (a1)), some (eR a2), some (eI (v1)), some (eI (v11)), some (eI (v25)), some (eI (3))]) (s2 := [eI (3)]) rfl rfl rfl ?_
      refine w_t (np := 62) (l2 := [some (eR a0), some (eI (a1)), some (eR a2), some (eI (v1)), some (eI (v11)), some (eI (v25)), some (eI (3))]) (s2 := [eI (4), eI (3)]) rfl rfl rfl ?_
      refine b_cge (t1 := 149) (t2 := 65) rfl rfl rfl rfl rfl (fun g202 => absurd g202 (by decide)) (fun g202 => ?_)
      refine w_t (np := 66) (l2 := [some (eR a0), some (eI (a1)), some (eR a2), some (eI (v1)), some (eI (v11)), some (eI (v25)), some (eI (3))]) (s2 := [eR a2]) rfl (s_an rfl (pos_g I199 gA2 (by decide))) rfl ?_
      refine w_t (np := 68) (l2 := [some (eR a0), some (eI (a1)), some (eR a2), some (eI (v1)), some (eI (v11)), some (eI (v25)), some (eI (3))]) (s2 := [eI (3), eR a2]) rfl rfl rfl ?_
      refine w_t (np := 69) (l2 := [some (eR a0), some (eI (a1)), some (eR a2), some (eI (v1)), some (eI (v11)), some (eI (v25)), some (eI (3))]) (s2 := [eR a0, eI (3), eR a2]) rfl (s_an rfl (pos_g I199 gA0 (by decide))) rfl ?_
      refine w_gf (np := 72) (v := eR v4) rfl rfl (I199.kd gA0 (by decide) (n := 69) rfl) (by rw [(W200.addr (W181.addr (W168.addr (W155.addr (W141.addr (W122.addr (W109.addr (W96.addr (W82.addr (W63.addr (W50.addr (W37.addr e5 gA2 gA0 (by decide)) gA2 gA0 (by decide)) gA2 gA0 (by decide)) gA2 gA0 (by decide)) gA2 gA0 (by decide)) gA2 gA0 (by decide)) gA2 gA0 (by decide)) gA2 gA0 (by decide)) gA2 gA0 (by decide)) gA2 gA0 (by decide)) gA2 gA0 (by decide)) gA2 gA0 (by decide))]; rfl) ?_
      refine w_t (np := 73) (l2 := [some (eR a0), some (eI (a1)), some (eR a2), some (eI (v1)), some (eI (v11)), some (eI (v25)), some (eI (3))]) (s2 := [eI (v1), eR v4, eI (3), eR a2]) rfl rfl rfl ?_
      refine w_t (np := 74) (l2 := [some (eR a0), some (eI (a1)), some (eR a2), some (eI (v1)), some (eI (v11)), some (eI (v25)), some (eI (3))]) (s2 := [eI (1), eI (v1), eR v4, eI (3), eR a2]) rfl rfl rfl ?_
      obtain ⟨v203, e204⟩ : ∃ zz : Int, zz = (v1) + (1) := ⟨_, rfl⟩
      have b205 : 1 ≤ v203 ∧ v203 ≤ 162 := by omega
      refine w_t (np := 75) (l2 := [some (eR a0), some (eI (a1)), some (eR a2), some (eI (v1)), some (eI (v11)), some (eI (v25)), some (eI (3))]) (s2 := [eI (v203), eR v4, eI (3), eR a2]) rfl (b_iadd (by rw [← e204]; exact ev_w_in (by omega) (by omega))) rfl ?_
      refine w_t (np := 77) (l2 := [some (eR a0), some (eI (a1)), some (eR a2), some (eI (v1)), some (eI (v11)), some (eI (v25)), some (eI (3))]) (s2 := [eI (3), eI (v203), eR v4, eI (3), eR a2]) rfl rfl rfl ?_
      obtain ⟨v206, e207⟩ : ∃ zz : Int, zz = (v203) + (3) := ⟨_, rfl⟩
      have b208 : 4 ≤ v206 ∧ v206 ≤ 165 := by omega
      refine w_t (np := 78) (l2 := [some (eR a0), some (eI (a1)), some (eR a2), some (eI (v1)), some (eI (v11)), some (eI (v25)), some (eI (3))]) (s2 := [eI (v206), eR v4, eI (3), eR a2]) rfl (b_iadd (by rw [← e207]; exact ev_w_in (by omega) (by omega))) rfl ?_
      refine j_al (np := 79) rfl rfl I199 b6 (by decide) (n := 168) rfl rfl (lo := -2147483648) (hi := 2147483647) (fun _ => rfl) (by omega) (by omega) ?_
      intro v209 e210 b211
      refine j_as (np := 80) rfl rfl I199 gA2 (by decide) (n := 16) rfl rfl (lo := -2147483648) (hi := 2147483647) (fun _ => rfl) (by decide) (by decide) (by omega) ?_
      intro m212 I213 W214
      have F215 : Fr l_302e 0 0 g μ m212 := F201.v W214 gA2 rfl rfl
      refine w_t (np := 81) (l2 := [some (eR a0), some (eI (a1)), some (eR a2), some (eI (v1)), some (eI (v11)), some (eI (v25)), some (eI (3))]) (s2 := [eR a2]) rfl (s_an rfl (pos_g I213 gA2 (by decide))) rfl ?_
      refine w_t (np := 82) (l2 := [some (eR a0), some (eI (a1)), some (eR a2), some (eI (v1)), some (eI (v11)), some (eI (v25)), some (eI (3))]) (s2 := [eI (4), eR a2]) rfl rfl rfl ?_
      refine w_t (np := 84) (l2 := [some (eR a0), some (eI (a1)), some (eR a2), some (eI (v1)), some (eI (v11)), some (eI (v25)), some (eI (3))]) (s2 := [eI (3), eI (4), eR a2]) rfl rfl rfl ?_
      refine w_t (np := 85) (l2 := [some (eR a0), some (eI (a1)), some (eR a2), some (eI (v1)), some (eI (v11)), some (eI (v25)), some (eI (3))]) (s2 := [eI (7), eR a2]) rfl (b_iadd rfl) rfl ?_
      refine w_t (np := 86) (l2 := [some (eR a0), some (eI (a1)), some (eR a2), some (eI (v1)), some (eI (v11)), some (eI (v25)), some (eI (3))]) (s2 := [eR a2, eI (7), eR a2]) rfl (s_an rfl (pos_g I213 gA2 (by decide))) rfl ?_
      refine w_t (np := 88) (l2 := [some (eR a0), some (eI (a1)), some (eR a2), some (eI (v1)), some (eI (v11)), some (eI (v25)), some (eI (3))]) (s2 := [eI (3), eR a2, eI (7), eR a2]) rfl rfl rfl ?_
      refine j_al (np := 89) rfl rfl I213 gA2 (by decide) (n := 16) rfl rfl (lo := -2147483648) (hi := 2147483647) (fun _ => rfl) (by decide) (by decide) ?_
      intro v216 e217 b218
      have e217 := e217.symm.trans W214.at
      rw [e217]
      refine w_t (np := 91) (l2 := [some (eR a0), some (eI (a1)), some (eR a2), some (eI (v1)), some (eI (v11)), some (eI (v25)), some (eI (3))]) (s2 := [eI (v11), eI (v209), eI (7), eR a2]) rfl rfl rfl ?_
      refine w_t (np := 93) (l2 := [some (eR a0), some (eI (a1)), some (eR a2), some (eI (v1)), some (eI (v11)), some (eI (v25)), some (eI (3))]) (s2 := [eI (3), eI (v11), eI (v209), eI (7), eR a2]) rfl rfl rfl ?_
      refine w_cu (np := 96) (as := [eI (v11), eI (3)]) (l2 := [some (eI (v11)), some (eI (3))]) (rest := [eI (v209), eI (7), eR a2]) rfl rfl rfl (Nat.ble_eq.mp rfl) rfl rfl rfl rfl ?_
      refine s_218e (a0 := v11) (a1 := 3) I213 (by omega) (by decide) ?_
      intro v219 b220 h221
      show ex_q (dt_fg L ρ) rc (d + 2, (302, 96, [some (eR a0), some (eI (a1)), some (eR a2), some (eI (v1)), some (eI (v11)), some (eI (v25)), some (eI (3))], [eI (v219), eI (v209), eI (7), eR a2]), f :: F, m212)
      obtain ⟨v222, e223, b224⟩ : ∃ zz : Int, ev_w ((v209) + (v219)) = zz ∧ (-2147483648 ≤ zz ∧ zz ≤ 2147483647) := ⟨_, rfl, hw_bd _⟩
      refine w_t (np := 97) (l2 := [some (eR a0), some (eI (a1)), some (eR a2), some (eI (v1)), some (eI (v11)), some (eI (v25)), some (eI (3))]) (s2 := [eI (v222), eI (7), eR a2]) rfl (b_iadd e223) rfl ?_
      refine j_as (np := 98) rfl rfl I213 gA2 (by decide) (n := 16) rfl rfl (lo := -2147483648) (hi := 2147483647) (fun _ => rfl) (by decide) (by decide) (by omega) ?_
      intro m225 I226 W227
      have F228 : Fr l_302e 0 0 g μ m225 := F215.v W227 gA2 rfl rfl
      refine w_t (np := 99) (l2 := [some (eR a0), some (eI (a1)), some (eR a2), some (eI (v1)), some (eI (v11)), some (eI (v25)), some (eI (3))]) (s2 := [eR a2]) rfl (s_an rfl (pos_g I226 gA2 (by decide))) rfl ?_
      refine w_t (np := 101) (l2 := [some (eR a0), some (eI (a1)), some (eR a2), some (eI (v1)), some (eI (v11)), some (eI (v25)), some (eI (3))]) (s2 := [eI (12), eR a2]) rfl rfl rfl ?_
      refine w_t (np := 103) (l2 := [some (eR a0), some (eI (a1)), some (eR a2), some (eI (v1)), some (eI (v11)), some (eI (v25)), some (eI (3))]) (s2 := [eI (3), eI (12), eR a2]) rfl rfl rfl ?_
      refine w_t (np := 104) (l2 := [some (eR a0), some (eI (a1)), some (eR a2), some (eI (v1)), some (eI (v11)), some (eI (v25)), some (eI (3))]) (s2 := [eI (15), eR a2]) rfl (b_iadd rfl) rfl ?_
      refine w_t (np := 105) (l2 := [some (eR a0), some (eI (a1)), some (eR a2), some (eI (v1)), some (eI (v11)), some (eI (v25)), some (eI (3))]) (s2 := [eR a2, eI (15), eR a2]) rfl (s_an rfl (pos_g I226 gA2 (by decide))) rfl ?_
      refine w_t (np := 107) (l2 := [some (eR a0), some (eI (a1)), some (eR a2), some (eI (v1)), some (eI (v11)), some (eI (v25)), some (eI (3))]) (s2 := [eI (3), eR a2, eI (15), eR a2]) rfl rfl rfl ?_
      refine j_al (np := 108) rfl rfl I226 gA2 (by decide) (n := 16) rfl rfl (lo := -2147483648) (hi := 2147483647) (fun _ => rfl) (by decide) (by decide) ?_
      intro v229 e230 b231
      have e230 := e230.symm.trans (W227.slot W214.at (by decide))
      rw [e230]
      refine w_t (np := 110) (l2 := [some (eR a0), some (eI (a1)), some (eR a2), some (eI (v1)), some (eI (v11)), some (eI (v25)), some (eI (3))]) (s2 := [eI (v25), eI (v209), eI (15), eR a2]) rfl rfl rfl ?_
      refine w_t (np := 112) (l2 := [some (eR a0), some (eI (a1)), some (eR a2), some (eI (v1)), some (eI (v11)), some (eI (v25)), some (eI (3))]) (s2 := [eI (3), eI (v25), eI (v209), eI (15), eR a2]) rfl rfl rfl ?_
      refine w_cu (np := 115) (as := [eI (v25), eI (3)]) (l2 := [some (eI (v25)), some (eI (3))]) (rest := [eI (v209), eI (15), eR a2]) rfl rfl rfl (Nat.ble_eq.mp rfl) rfl rfl rfl rfl ?_
      refine s_218e (a0 := v25) (a1 := 3) I226 (by omega) (by decide) ?_
      intro v232 b233 h234
      show ex_q (dt_fg L ρ) rc (d + 2, (302, 115, [some (eR a0), some (eI (a1)), some (eR a2), some (eI (v1)), some (eI (v11)), some (eI (v25)), some (eI (3))], [eI (v232), eI (v209), eI (15), eR a2]), f :: F, m225)
      obtain ⟨v235, e236, b237⟩ : ∃ zz : Int, ev_w ((v209) + (v232)) = zz ∧ (-2147483648 ≤ zz ∧ zz ≤ 2147483647) := ⟨_, rfl, hw_bd _⟩
      refine w_t (np := 116) (l2 := [some (eR a0), some (eI (a1)), some (eR a2), some (eI (v1)), some (eI (v11)), some (eI (v25)), some (eI (3))]) (s2 := [eI (v235), eI (15), eR a2]) rfl (b_iadd e236) rfl ?_
      refine j_as (np := 117) rfl rfl I226 gA2 (by decide) (n := 16) rfl rfl (lo := -2147483648) (hi := 2147483647) (fun _ => rfl) (by decide) (by decide) (by omega) ?_
      intro m238 I239 W240
      have F241 : Fr l_302e 0 0 g μ m238 := F228.v W240 gA2 rfl rfl
      refine w_t (np := 118) (l2 := [some (eR a0), some (eI (a1)), some (eR a2), some (eI (v1)), some (eI (v11)), some (eI (v25)), some (eI (3))]) (s2 := [eR a2]) rfl (s_an rfl (pos_g I239 gA2 (by decide))) rfl ?_
      refine w_t (np := 120) (l2 := [some (eR a0), some (eI (a1)), some (eR a2), some (eI (v1)), some (eI (v11)), some (eI (v25)), some (eI (3))]) (s2 := [eI (8), eR a2]) rfl rfl rfl ?_
      refine w_t (np := 122) (l2 := [some (eR a0), some (eI (a1)), some (eR a2), some (eI (v1)), some (eI (v11)), some (eI (v25)), some (eI (3))]) (s2 := [eI (3), eI (8), eR a2]) rfl rfl rfl ?_
      refine w_t (np := 123) (l2 := [some (eR a0), some (eI (a1)), some (eR a2), some (eI (v1)), some (eI (v11)), some (eI (v25)), some (eI (3))]) (s2 := [eI (11), eR a2]) rfl (b_iadd rfl) rfl ?_
      refine w_t (np := 124) (l2 := [some (eR a0), some (eI (a1)), some (eR a2), some (eI (v1)), some (eI (v11)), some (eI (v25)), some (eI (3))]) (s2 := [eR a2, eI (11), eR a2]) rfl (s_an rfl (pos_g I239 gA2 (by decide))) rfl ?_
      refine w_t (np := 125) (l2 := [some (eR a0), some (eI (a1)), some (eR a2), some (eI (v1)), some (eI (v11)), some (eI (v25)), some (eI (3))]) (s2 := [eI (4), eR a2, eI (11), eR a2]) rfl rfl rfl ?_
      refine w_t (np := 127) (l2 := [some (eR a0), some (eI (a1)), some (eR a2), some (eI (v1)), some (eI (v11)), some (eI (v25)), some (eI (3))]) (s2 := [eI (3), eI (4), eR a2, eI (11), eR a2]) rfl rfl rfl ?_
      refine w_t (np := 128) (l2 := [some (eR a0), some (eI (a1)), some (eR a2), some (eI (v1)), some (eI (v11)), some (eI (v25)), some (eI (3))]) (s2 := [eI (7), eR a2, eI (11), eR a2]) rfl (b_iadd rfl) rfl ?_
      refine j_al (np := 129) rfl rfl I239 gA2 (by decide) (n := 16) rfl rfl (lo := -2147483648) (hi := 2147483647) (fun _ => rfl) (by decide) (by decide) ?_
      intro v242 e243 b244
      have e243 := e243.symm.trans (W240.slot W227.at (by decide))
      rw [e243]
      refine w_t (np := 130) (l2 := [some (eR a0), some (eI (a1)), some (eR a2), some (eI (v1)), some (eI (v11)), some (eI (v25)), some (eI (3))]) (s2 := [eR a2, eI (v222), eI (11), eR a2]) rfl (s_an rfl (pos_g I239 gA2 (by decide))) rfl ?_
      refine w_t (np := 132) (l2 := [some (eR a0), some (eI (a1)), some (eR a2), some (eI (v1)), some (eI (v11)), some (eI (v25)), some (eI (3))]) (s2 := [eI (12), eR a2, eI (v222), eI (11), eR a2]) rfl rfl rfl ?_
      refine w_t (np := 134) (l2 := [some (eR a0), some (eI (a1)), some (eR a2), some (eI (v1)), some (eI (v11)), some (eI (v25)), some (eI (3))]) (s2 := [eI (3), eI (12), eR a2, eI (v222), eI (11), eR a2]) rfl rfl rfl ?_
      refine w_t (np := 135) (l2 := [some (eR a0), some (eI (a1)), some (eR a2), some (eI (v1)), some (eI (v11)), some (eI (v25)), some (eI (3))]) (s2 := [eI (15), eR a2, eI (v222), eI (11), eR a2]) rfl (b_iadd rfl) rfl ?_
      refine j_al (np := 136) rfl rfl I239 gA2 (by decide) (n := 16) rfl rfl (lo := -2147483648) (hi := 2147483647) (fun _ => rfl) (by decide) (by decide) ?_
      intro v245 e246 b247
      have e246 := e246.symm.trans W240.at
      rw [e246]
      obtain ⟨v248, e249, b250⟩ : ∃ zz : Int, ev_w ((v222) + (v235)) = zz ∧ (-2147483648 ≤ zz ∧ zz ≤ 2147483647) := ⟨_, rfl, hw_bd _⟩
      refine w_t (np := 137) (l2 := [some (eR a0), some (eI (a1)), some (eR a2), some (eI (v1)), some (eI (v11)), some (eI (v25)), some (eI (3))]) (s2 := [eI (v248), eI (11), eR a2]) rfl (b_iadd e249) rfl ?_
      refine w_t (np := 138) (l2 := [some (eR a0), some (eI (a1)), some (eR a2), some (eI (v1)), some (eI (v11)), some (eI (v25)), some (eI (3))]) (s2 := [eR a2, eI (v248), eI (11), eR a2]) rfl (s_an rfl (pos_g I239 gA2 (by decide))) rfl ?_
      refine w_t (np := 140) (l2 := [some (eR a0), some (eI (a1)), some (eR a2), some (eI (v1)), some (eI (v11)), some (eI (v25)), some (eI (3))]) (s2 := [eI (3), eR a2, eI (v248), eI (11), eR a2]) rfl rfl rfl ?_
      refine j_al (np := 141) rfl rfl I239 gA2 (by decide) (n := 16) rfl rfl (lo := -2147483648) (hi := 2147483647) (fun _ => rfl) (by decide) (by decide) ?_
      intro v251 e252 b253
      have e252 := e252.symm.trans (W240.slot (W227.slot W214.at (by decide)) (by decide))
      rw [e252]
      obtain ⟨v254, e255, b256⟩ : ∃ zz : Int, ev_w ((v248) - (v209)) = zz ∧ (-2147483648 ≤ zz ∧ zz ≤ 2147483647) := ⟨_, rfl, hw_bd _⟩
      refine w_t (np := 142) (l2 := [some (eR a0), some (eI (a1)), some (eR a2), some (eI (v1)), some (eI (v11)), some (eI (v25)), some (eI (3))]) (s2 := [eI (v254), eI (11), eR a2]) rfl (b_isub e255) rfl ?_
      refine j_as (np := 143) rfl rfl I239 gA2 (by decide) (n := 16) rfl rfl (lo := -2147483648) (hi := 2147483647) (fun _ => rfl) (by decide) (by decide) (by omega) ?_
      intro m257 I258 W259
      have F260 : Fr l_302e 0 0 g μ m257 := F241.v W259 gA2 rfl rfl
      refine w_t (np := 146) (l2 := [some (eR a0), some (eI (a1)), some (eR a2), some (eI (v1)), some (eI (v11)), some (eI (v25)), some (eI (4))]) (s2 := []) rfl (b_iinc rfl rfl rfl) rfl ?_
      refine w_go (t1 := 59) rfl rfl ?_
      refine w_t (np := 61) (l2 := [some (eR a0), some (eI (a1)), some (eR a2), some (eI (v1)), some (eI (v11)), some (eI (v25)), some (eI (4))]) (s2 := [eI (4)]) rfl rfl rfl ?_
      refine w_t (np := 62) (l2 := [some (eR a0), some (eI (a1)), some (eR a2), some (eI (v1)), some (eI (v11)), some (eI (v25)), some (eI (4))]) (s2 := [eI (4), eI (4)]) rfl rfl rfl ?_
      refine b_cge (t1 := 149) (t2 := 65) rfl rfl rfl rfl rfl (fun g261 => ?_) (fun g261 => absurd g261 (by decide))
      exact v_rv rfl rfl (K m257 I258 F260 (CR.in I258 gA2 (CRr.mk (P := fun c => m257.1 a2 c) (d := v11) (e := v25) (fun _ _ => rfl) (fun c hc => match c, hc with | 0, _ => (by show m257.1 a2 4 = ev_w (m257.1 a2 0 + sS v11 0); rw [(show m257.1 a2 4 = v45 from (W259.slot (W240.slot (W227.slot (W214.slot (W200.slot (W181.slot (W168.slot (W155.slot (W141.slot (W122.slot (W109.slot (W96.slot (W82.slot (W63.slot W50.at (by decide)) (by decide)) (by decide)) (by decide)) (by decide)) (by decide)) (by decide)) (by decide)) (by decide)) (by decide)) (by decide)) (by decide)) (by decide)) (by decide))), (show m257.1 a2 0 = v32 from (W259.slot (W240.slot (W227.slot (W214.slot (W200.slot (W181.slot (W168.slot (W155.slot (W141.slot (W122.slot (W109.slot (W96.slot (W82.slot (W63.slot (W50.slot W37.at (by decide)) (by decide)) (by decide)) (by decide)) (by decide)) (by decide)) (by decide)) (by decide)) (by decide)) (by decide)) (by decide)) (by decide)) (by decide)) (by decide)) (by decide))), ← h44]; exact e46.symm) | 1, _ => (by show m257.1 a2 5 = ev_w (m257.1 a2 1 + sS v11 1); rw [(show m257.1 a2 5 = v104 from (W259.slot (W240.slot (W227.slot (W214.slot (W200.slot (W181.slot (W168.slot (W155.slot (W141.slot (W122.slot W109.at (by decide)) (by decide)) (by decide)) (by decide)) (by decide)) (by decide)) (by decide)) (by decide)) (by decide)) (by decide))), (show m257.1 a2 1 = v91 from (W259.slot (W240.slot (W227.slot (W214.slot (W200.slot (W181.slot (W168.slot (W155.slot (W141.slot (W122.slot (W109.slot W96.at (by decide)) (by decide)) (by decide)) (by decide)) (by decide)) (by decide)) (by decide)) (by decide)) (by decide)) (by decide)) (by decide))), ← h103]; exact e105.symm) | 2, _ => (by show m257.1 a2 6 = ev_w (m257.1 a2 2 + sS v11 2); rw [(show m257.1 a2 6 = v163 from (W259.slot (W240.slot (W227.slot (W214.slot (W200.slot (W181.slot W168.at (by decide)) (by decide)) (by decide)) (by decide)) (by decide)) (by decide))), (show m257.1 a2 2 = v150 from (W259.slot (W240.slot (W227.slot (W214.slot (W200.slot (W181.slot (W168.slot W155.at (by decide)) (by decide)) (by decide)) (by decide)) (by decide)) (by decide)) (by decide))), ← h162]; exact e164.symm) | 3, _ => (by show m257.1 a2 7 = ev_w (m257.1 a2 3 + sS v11 3); rw [(show m257.1 a2 7 = v222 from (W259.slot (W240.slot W227.at (by decide)) (by decide))), (show m257.1 a2 3 = v209 from (W259.slot (W240.slot (W227.slot W214.at (by decide)) (by decide)) (by decide))), ← h221]; exact e223.symm) | c + 4, h => absurd h (by omega)) (fun c hc => match c, hc with | 0, _ => (by show m257.1 a2 12 = ev_w (m257.1 a2 0 + sS v25 0); rw [(show m257.1 a2 12 = v58 from (W259.slot (W240.slot (W227.slot (W214.slot (W200.slot (W181.slot (W168.slot (W155.slot (W141.slot (W122.slot (W109.slot (W96.slot (W82.slot W63.at (by decide)) (by decide)) (by decide)) (by decide)) (by decide)) (by decide)) (by decide)) (by decide)) (by decide)) (by decide)) (by decide)) (by decide)) (by decide))), (show m257.1 a2 0 = v32 from (W259.slot (W240.slot (W227.slot (W214.slot (W200.slot (W181.slot (W168.slot (W155.slot (W141.slot (W122.slot (W109.slot (W96.slot (W82.slot (W63.slot (W50.slot W37.at (by decide)) (by decide)) (by decide)) (by decide)) (by decide)) (by decide)) (by decide)) (by decide)) (by decide)) (by decide)) (by decide)) (by decide)) (by decide)) (by decide)) (by decide))), ← h57]; exact e59.symm) | 1, _ => (by show m257.1 a2 13 = ev_w (m257.1 a2 1 + sS v25 1); rw [(show m257.1 a2 13 = v117 from (W259.slot (W240.slot (W227.slot (W214.slot (W200.slot (W181.slot (W168.slot (W155.slot (W141.slot W122.at (by decide)) (by decide)) (by decide)) (by decide)) (by decide)) (by decide)) (by decide)) (by decide)) (by decide))), (show m257.1 a2 1 = v91 from (W259.slot (W240.slot (W227.slot (W214.slot (W200.slot (W181.slot (W168.slot (W155.slot (W141.slot (W122.slot (W109.slot W96.at (by decide)) (by decide)) (by decide)) (by decide)) (by decide)) (by decide)) (by decide)) (by decide)) (by decide)) (by decide)) (by decide))), ← h116]; exact e118.symm) | 2, _ => (by show m257.1 a2 14 = ev_w (m257.1 a2 2 + sS v25 2); rw [(show m257.1 a2 14 = v176 from (W259.slot (W240.slot (W227.slot (W214.slot (W200.slot W181.at (by decide)) (by decide)) (by decide)) (by decide)) (by decide))), (show m257.1 a2 2 = v150 from (W259.slot (W240.slot (W227.slot (W214.slot (W200.slot (W181.slot (W168.slot W155.at (by decide)) (by decide)) (by decide)) (by decide)) (by decide)) (by decide)) (by decide))), ← h175]; exact e177.symm) | 3, _ => (by show m257.1 a2 15 = ev_w (m257.1 a2 3 + sS v25 3); rw [(show m257.1 a2 15 = v235 from (W259.slot W240.at (by decide))), (show m257.1 a2 3 = v209 from (W259.slot (W240.slot (W227.slot W214.at (by decide)) (by decide)) (by decide))), ← h234]; exact e236.symm) | c + 4, h => absurd h (by omega)) (fun c hc => match c, hc with | 0, _ => (by show m257.1 a2 8 = ev_w (ev_w (m257.1 a2 4 + m257.1 a2 12) - m257.1 a2 0); rw [(show m257.1 a2 8 = v77 from (W259.slot (W240.slot (W227.slot (W214.slot (W200.slot (W181.slot (W168.slot (W155.slot (W141.slot (W122.slot (W109.slot (W96.slot W82.at (by decide)) (by decide)) (by decide)) (by decide)) (by decide)) (by decide)) (by decide)) (by decide)) (by decide)) (by decide)) (by decide)) (by decide))), (show m257.1 a2 4 = v45 from (W259.slot (W240.slot (W227.slot (W214.slot (W200.slot (W181.slot (W168.slot (W155.slot (W141.slot (W122.slot (W109.slot (W96.slot (W82.slot (W63.slot W50.at (by decide)) (by decide)) (by decide)) (by decide)) (by decide)) (by decide)) (by decide)) (by decide)) (by decide)) (by decide)) (by decide)) (by decide)) (by decide)) (by decide))), (show m257.1 a2 12 = v58 from (W259.slot (W240.slot (W227.slot (W214.slot (W200.slot (W181.slot (W168.slot (W155.slot (W141.slot (W122.slot (W109.slot (W96.slot (W82.slot W63.at (by decide)) (by decide)) (by decide)) (by decide)) (by decide)) (by decide)) (by decide)) (by decide)) (by decide)) (by decide)) (by decide)) (by decide)) (by decide))), (show m257.1 a2 0 = v32 from (W259.slot (W240.slot (W227.slot (W214.slot (W200.slot (W181.slot (W168.slot (W155.slot (W141.slot (W122.slot (W109.slot (W96.slot (W82.slot (W63.slot (W50.slot W37.at (by decide)) (by decide)) (by decide)) (by decide)) (by decide)) (by decide)) (by decide)) (by decide)) (by decide)) (by decide)) (by decide)) (by decide)) (by decide)) (by decide)) (by decide))), e72]; exact e78.symm) | 1, _ => (by show m257.1 a2 9 = ev_w (ev_w (m257.1 a2 5 + m257.1 a2 13) - m257.1 a2 1); rw [(show m257.1 a2 9 = v136 from (W259.slot (W240.slot (W227.slot (W214.slot (W200.slot (W181.slot (W168.slot (W155.slot W141.at (by decide)) (by decide)) (by decide)) (by decide)) (by decide)) (by decide)) (by decide)) (by decide))), (show m257.1 a2 5 = v104 from (W259.slot (W240.slot (W227.slot (W214.slot (W200.slot (W181.slot (W168.slot (W155.slot (W141.slot (W122.slot W109.at (by decide)) (by decide)) (by decide)) (by decide)) (by decide)) (by decide)) (by decide)) (by decide)) (by decide)) (by decide))), (show m257.1 a2 13 = v117 from (W259.slot (W240.slot (W227.slot (W214.slot (W200.slot (W181.slot (W168.slot (W155.slot (W141.slot W122.at (by decide)) (by decide)) (by decide)) (by decide)) (by decide)) (by decide)) (by decide)) (by decide)) (by decide))), (show m257.1 a2 1 = v91 from (W259.slot (W240.slot (W227.slot (W214.slot (W200.slot (W181.slot (W168.slot (W155.slot (W141.slot (W122.slot (W109.slot W96.at (by decide)) (by decide)) (by decide)) (by decide)) (by decide)) (by decide)) (by decide)) (by decide)) (by decide)) (by decide)) (by decide))), e131]; exact e137.symm) | 2, _ => (by show m257.1 a2 10 = ev_w (ev_w (m257.1 a2 6 + m257.1 a2 14) - m257.1 a2 2); rw [(show m257.1 a2 10 = v195 from (W259.slot (W240.slot (W227.slot (W214.slot W200.at (by decide)) (by decide)) (by decide)) (by decide))), (show m257.1 a2 6 = v163 from (W259.slot (W240.slot (W227.slot (W214.slot (W200.slot (W181.slot W168.at (by decide)) (by decide)) (by decide)) (by decide)) (by decide)) (by decide))), (show m257.1 a2 14 = v176 from (W259.slot (W240.slot (W227.slot (W214.slot (W200.slot W181.at (by decide)) (by decide)) (by decide)) (by decide)) (by decide))), (show m257.1 a2 2 = v150 from (W259.slot (W240.slot (W227.slot (W214.slot (W200.slot (W181.slot (W168.slot W155.at (by decide)) (by decide)) (by decide)) (by decide)) (by decide)) (by decide)) (by decide))), e190]; exact e196.symm) | 3, _ => (by show m257.1 a2 11 = ev_w (ev_w (m257.1 a2 7 + m257.1 a2 15) - m257.1 a2 3); rw [(show m257.1 a2 11 = v254 from W259.at), (show m257.1 a2 7 = v222 from (W259.slot (W240.slot W227.at (by decide)) (by decide))), (show m257.1 a2 15 = v235 from (W259.slot W240.at (by decide))), (show m257.1 a2 3 = v209 from (W259.slot (W240.slot (W227.slot W214.at (by decide)) (by decide)) (by decide))), e249]; exact e255.symm) | c + 4, h => absurd h (by omega)))))
  · have b21 : 0 ≤ v17 ∧ v17 ≤ 0 := by omega
    refine w_t (np := 29) (l2 := [some (eR a0), some (eI (a1)), some (eR a2), some (eI (v1)), some (eI (v11)), none, none]) (s2 := [eI (v11)]) rfl rfl rfl ?_
    refine w_t (np := 30) (l2 := [some (eR a0), some (eI (a1)), some (eR a2), some (eI (v1)), some (eI (v11)), none, none]) (s2 := [eR a0, eI (v11)]) rfl (s_an rfl (pos_g hI gA0 (by decide))) rfl ?_
    refine w_gf (np := 33) (v := eR v4) rfl rfl (hI.kd gA0 (by decide) (n := 69) rfl) (by rw [e5]; rfl) ?_
    refine w_t (np := 34) (l2 := [some (eR a0), some (eI (a1)), some (eR a2), some (eI (v1)), some (eI (v11)), none, none]) (s2 := [eI (v1), eR v4, eI (v11)]) rfl rfl rfl ?_
    refine j_al (np := 35) rfl rfl hI b6 (by decide) (n := 168) rfl rfl (lo := -2147483648) (hi := 2147483647) (fun _ => rfl) (by omega) (by omega) ?_
    intro v21 e22 b23
    refine w_cu (np := 38) (as := [eI (v21)]) (l2 := [some (eI (v21))]) (rest := [eI (v11)]) rfl rfl rfl (Nat.ble_eq.mp rfl) rfl rfl rfl rfl ?_
    refine w_t (np := 1) (l2 := [some (eI (v21))]) (s2 := [eI (v21)]) rfl rfl rfl ?_
    refine b_ine (t1 := 8) (t2 := 4) rfl rfl rfl (ev_w_in (by omega) (by omega)) (fun g24 => ?_) (fun g24 => ?_)
    · refine w_t (np := 9) (l2 := [some (eI (v21))]) (s2 := [eI (3)]) rfl rfl rfl ?_
      refine b_ri rfl rfl ?_
      show ex_q (dt_fg L ρ) rc (d + 2, (302, 38, [some (eR a0), some (eI (a1)), some (eR a2), some (eI (v1)), some (eI (v11)), none, none], [eI (3), eI (v11)]), f :: F, μ)
      obtain ⟨v25, e26, b27⟩ : ∃ zz : Int, ev_w ((v11) + (3)) = zz ∧ (-2147483648 ≤ zz ∧ zz ≤ 2147483647) := ⟨_, rfl, hw_bd _⟩
      refine w_t (np := 39) (l2 := [some (eR a0), some (eI (a1)), some (eR a2), some (eI (v1)), some (eI (v11)), none, none]) (s2 := [eI (v25)]) rfl (b_iadd e26) rfl ?_
      refine w_go (t1 := 54) rfl rfl ?_
      refine w_t (np := 56) (l2 := [some (eR a0), some (eI (a1)), some (eR a2), some (eI (v1)), some (eI (v11)), some (eI (v25)), none]) (s2 := []) rfl rfl rfl ?_
      refine w_t (np := 57) (l2 := [some (eR a0), some (eI (a1)), some (eR a2), some (eI (v1)), some (eI (v11)), some (eI (v25)), none]) (s2 := [eI (0)]) rfl rfl rfl ?_
      refine w_t (np := 59) (l2 := [some (eR a0), some (eI (a1)), some (eR a2), some (eI (v1)), some (eI (v11)), some (eI (v25)), some (eI (0))]) (s2 := []) rfl rfl rfl ?_
      refine w_t (np := 61) (l2 := [some (eR a0), some (eI (a1)), some (eR a2), some (eI (v1)), some (eI (v11)), some (eI (v25)), some (eI (0))]) (s2 := [eI (0)]) rfl rfl rfl ?_
      refine w_t (np := 62) (l2 := [some (eR a0), some (eI (a1)), some (eR a2), some (eI (v1)), some (eI (v11)), some (eI (v25)), some (eI (0))]) (s2 := [eI (4), eI (0)]) rfl rfl rfl ?_
      refine b_cge (t1 := 149) (t2 := 65) rfl rfl rfl rfl rfl (fun g28 => absurd g28 (by decide)) (fun g28 => ?_)
      refine w_t (np := 66) (l2 := [some (eR a0), some (eI (a1)), some (eR a2), some (eI (v1)), some (eI (v11)), some (eI (v25)), some (eI (0))]) (s2 := [eR a2]) rfl (s_an rfl (pos_g hI gA2 (by decide))) rfl ?_
      refine w_t (np := 68) (l2 := [some (eR a0), some (eI (a1)), some (eR a2), some (eI (v1)), some (eI (v11)), some (eI (v25)), some (eI (0))]) (s2 := [eI (0), eR a2]) rfl rfl rfl ?_
      refine w_t (np := 69) (l2 := [some (eR a0), some (eI (a1)), some (eR a2), some (eI (v1)), some (eI (v11)), some (eI (v25)), some (eI (0))]) (s2 := [eR a0, eI (0), eR a2]) rfl (s_an rfl (pos_g hI gA0 (by decide))) rfl ?_
      refine w_gf (np := 72) (v := eR v4) rfl rfl (hI.kd gA0 (by decide) (n := 69) rfl) (by rw [e5]; rfl) ?_
      refine w_t (np := 73) (l2 := [some (eR a0), some (eI (a1)), some (eR a2), some (eI (v1)), some (eI (v11)), some (eI (v25)), some (eI (0))]) (s2 := [eI (v1), eR v4, eI (0), eR a2]) rfl rfl rfl ?_
      refine w_t (np := 74) (l2 := [some (eR a0), some (eI (a1)), some (eR a2), some (eI (v1)), some (eI (v11)), some (eI (v25)), some (eI (0))]) (s2 := [eI (1), eI (v1), eR v4, eI (0), eR a2]) rfl rfl rfl ?_
      obtain ⟨v29, e30⟩ : ∃ zz : Int, zz = (v1) + (1) := ⟨_, rfl⟩
      have b31 : 1 ≤ v29 ∧ v29 ≤ 162 := by omega
      refine w_t (np := 75) (l2 := [some (eR a0), some (eI (a1)), some (eR a2), some (eI (v1)), some (eI (v11)), some (eI (v25)), some (eI (0))]) (s2 := [eI (v29), eR v4, eI (0), eR a2]) rfl (b_iadd (by rw [← e30]; exact ev_w_in (by omega) (by omega))) rfl ?_
      refine w_t (np := 77) (l2 := [some (eR a0), some (eI (a1)), some (eR a2), some (eI (v1)), some (eI (v11)), some (eI (v25)), some (eI (0))]) (s2 := [eI (0), eI (v29), eR v4, eI (0), eR a2]) rfl rfl rfl ?_
      refine w_t (np := 78) (l2 := [some (eR a0), some (eI (a1)), some (eR a2), some (eI (v1)), some (eI (v11)), some (eI (v25)), some (eI (0))]) (s2 := [eI (v29), eR v4, eI (0), eR a2]) rfl (b_iadd (by rw [Int.add_zero]; exact ev_w_in (by omega) (by omega))) rfl ?_
      refine j_al (np := 79) rfl rfl hI b6 (by decide) (n := 168) rfl rfl (lo := -2147483648) (hi := 2147483647) (fun _ => rfl) (by omega) (by omega) ?_
      intro v32 e33 b34
      refine j_as (np := 80) rfl rfl hI gA2 (by decide) (n := 16) rfl rfl (lo := -2147483648) (hi := 2147483647) (fun _ => rfl) (by decide) (by decide) (by omega) ?_
      intro m35 I36 W37
      have F38 : Fr l_302e 0 0 g μ m35 := F0.v W37 gA2 rfl rfl
      refine w_t (np := 81) (l2 := [some (eR a0), some (eI (a1)), some (eR a2), some (eI (v1)), some (eI (v11)), some (eI (v25)), some (eI (0))]) (s2 := [eR a2]) rfl (s_an rfl (pos_g I36 gA2 (by decide))) rfl ?_
      refine w_t (np := 82) (l2 := [some (eR a0), some (eI (a1)), some (eR a2), some (eI (v1)), some (eI (v11)), some (eI (v25)), some (eI (0))]) (s2 := [eI (4), eR a2]) rfl rfl rfl ?_
      refine w_t (np := 84) (l2 := [some (eR a0), some (eI (a1)), some (eR a2), some (eI (v1)), some (eI (v11)), some (eI (v25)), some (eI (0))]) (s2 := [eI (0), eI (4), eR a2]) rfl rfl rfl ?_
      refine w_t (np := 85) (l2 := [some (eR a0), some (eI (a1)), some (eR a2), some (eI (v1)), some (eI (v11)), some (eI (v25)), some (eI (0))]) (s2 := [eI (4), eR a2]) rfl (b_iadd rfl) rfl ?_
      refine w_t (np := 86) (l2 := [some (eR a0), some (eI (a1)), some (eR a2), some (eI (v1)), some (eI (v11)), some (eI (v25)), some (eI (0))]) (s2 := [eR a2, eI (4), eR a2]) rfl (s_an rfl (pos_g I36 gA2 (by decide))) rfl ?_
      refine w_t (np := 88) (l2 := [some (eR a0), some (eI (a1)), some (eR a2), some (eI (v1)), some (eI (v11)), some (eI (v25)), some (eI (0))]) (s2 := [eI (0), eR a2, eI (4), eR a2]) rfl rfl rfl ?_
      refine j_al (np := 89) rfl rfl I36 gA2 (by decide) (n := 16) rfl rfl (lo := -2147483648) (hi := 2147483647) (fun _ => rfl) (by decide) (by decide) ?_
      intro v39 e40 b41
      have e40 := e40.symm.trans W37.at
      rw [e40]
      refine w_t (np := 91) (l2 := [some (eR a0), some (eI (a1)), some (eR a2), some (eI (v1)), some (eI (v11)), some (eI (v25)), some (eI (0))]) (s2 := [eI (v11), eI (v32), eI (4), eR a2]) rfl rfl rfl ?_
      refine w_t (np := 93) (l2 := [some (eR a0), some (eI (a1)), some (eR a2), some (eI (v1)), some (eI (v11)), some (eI (v25)), some (eI (0))]) (s2 := [eI (0), eI (v11), eI (v32), eI (4), eR a2]) rfl rfl rfl ?_
      refine w_cu (np := 96) (as := [eI (v11), eI (0)]) (l2 := [some (eI (v11)), some (eI (0))]) (rest := [eI (v32), eI (4), eR a2]) rfl rfl rfl (Nat.ble_eq.mp rfl) rfl rfl rfl rfl ?_
      refine s_218e (a0 := v11) (a1 := 0) I36 (by omega) (by decide) ?_
      intro v42 b43 h44
      show ex_q (dt_fg L ρ) rc (d + 2, (302, 96, [some (eR a0), some (eI (a1)), some (eR a2), some (eI (v1)), some (eI (v11)), some (eI (v25)), some (eI (0))], [eI (v42), eI (v32), eI (4), eR a2]), f :: F, m35)
      obtain ⟨v45, e46, b47⟩ : ∃ zz : Int, ev_w ((v32) + (v42)) = zz ∧ (-2147483648 ≤ zz ∧ zz ≤ 2147483647) := ⟨_, rfl, hw_bd _⟩
      refine w_t (np := 97) (l2 := [some (eR a0), some (eI (a1)), some (eR a2), some (eI (v1)), some (eI (v11)), some (eI (v25)), some (eI (0))]) (s2 := [eI (v45), eI (4), eR a2]) rfl (b_iadd e46) rfl ?_
      refine j_as (np := 98) rfl rfl I36 gA2 (by decide) (n := 16) rfl rfl (lo := -2147483648) (hi := 2147483647) (fun _ => rfl) (by decide) (by decide) (by omega) ?_
      intro m48 I49 W50
      have F51 : Fr l_302e 0 0 g μ m48 := F38.v W50 gA2 rfl rfl
      refine w_t (np := 99) (l2 := [some (eR a0), some (eI (a1)), some (eR a2), some (eI (v1)), some (eI (v11)), some (eI (v25)), some (eI (0))]) (s2 := [eR a2]) rfl (s_an rfl (pos_g I49 gA2 (by decide))) rfl ?_
      refine w_t (np := 101) (l2 := [some (eR a0), some (eI (a1)), some (eR a2), some (eI (v1)), some (eI (v11)), some (eI (v25)), some (eI (0))]) (s2 := [eI (12), eR a2]) rfl rfl rfl ?_
      refine w_t (np := 103) (l2 := [some (eR a0), some (eI (a1)), some (eR a2), some (eI (v1)), some (eI (v11)), some (eI (v25)), some (eI (0))]) (s2 := [eI (0), eI (12), eR a2]) rfl rfl rfl ?_
      refine w_t (np := 104) (l2 := [some (eR a0), some (eI (a1)), some (eR a2), some (eI (v1)), some (eI (v11)), some (eI (v25)), some (eI (0))]) (s2 := [eI (12), eR a2]) rfl (b_iadd rfl) rfl ?_
      refine w_t (np := 105) (l2 := [some (eR a0), some (eI (a1)), some (eR a2), some (eI (v1)), some (eI (v11)), some (eI (v25)), some (eI (0))]) (s2 := [eR a2, eI (12), eR a2]) rfl (s_an rfl (pos_g I49 gA2 (by decide))) rfl ?_
      refine w_t (np := 107) (l2 := [some (eR a0), some (eI (a1)), some (eR a2), some (eI (v1)), some (eI (v11)), some (eI (v25)), some (eI (0))]) (s2 := [eI (0), eR a2, eI (12), eR a2]) rfl rfl rfl ?_
      refine j_al (np := 108) rfl rfl I49 gA2 (by decide) (n := 16) rfl rfl (lo := -2147483648) (hi := 2147483647) (fun _ => rfl) (by decide) (by decide) ?_
      intro v52 e53 b54
      have e53 := e53.symm.trans (W50.slot W37.at (by decide))
      rw [e53]
      refine w_t (np := 110) (l2 := [some (eR a0), some (eI (a1)), some (eR a2), some (eI (v1)), some (eI (v11)), some (eI (v25)), some (eI (0))]) (s2 := [eI (v25), eI (v32), eI (12), eR a2]) rfl rfl rfl ?_
      refine w_t (np := 112) (l2 := [some (eR a0), some (eI (a1)), some (eR a2), some (eI (v1)), some (eI (v11)), some (eI (v25)), some (eI (0))]) (s2 := [eI (0), eI (v25), eI (v32), eI (12), eR a2]) rfl rfl rfl ?_
      refine w_cu (np := 115) (as := [eI (v25), eI (0)]) (l2 := [some (eI (v25)), some (eI (0))]) (rest := [eI (v32), eI (12), eR a2]) rfl rfl rfl (Nat.ble_eq.mp rfl) rfl rfl rfl rfl ?_
      refine s_218e (a0 := v25) (a1 := 0) I49 (by omega) (by decide) ?_
      intro v55 b56 h57
      show ex_q (dt_fg L ρ) rc (d + 2, (302, 115, [some (eR a0), some (eI (a1)), some (eR a2), some (eI (v1)), some (eI (v11)), some (eI (v25)), some (eI (0))], [eI (v55), eI (v32), eI (12), eR a2]), f :: F, m48)
      obtain ⟨v58, e59, b60⟩ : ∃ zz : Int, ev_w ((v32) + (v55)) = zz ∧ (-2147483648 ≤ zz ∧ zz ≤ 2147483647) := ⟨_, rfl, hw_bd _⟩
      refine w_t (np := 116) (l2 := [some (eR a0), some (eI (a1)), some (eR a2), some (eI (v1)), some (eI (v11)), some (eI (v25)), some (eI (0))]) (s2 := [eI (v58), eI (12), eR a2]) rfl (b_iadd e59) rfl ?_
      refine j_as (np := 117) rfl rfl I49 gA2 (by decide) (n := 16) rfl rfl (lo := -2147483648) (hi := 2147483647) (fun _ => rfl) (by decide) (by decide) (by omega) ?_
      intro m61 I62 W63
      have F64 : Fr l_302e 0 0 g μ m61 := F51.v W63 gA2 rfl rfl
      refine w_t (np := 118) (l2 := [some (eR a0), some (eI (a1)), some (eR a2), some (eI (v1)), some (eI (v11)), some (eI (v25)), some (eI (0))]) (s2 := [eR a2]) rfl (s_an rfl (pos_g I62 gA2 (by decide))) rfl ?_
      refine w_t (np := 120) (l2 := [some (eR a0), some (eI (a1)), some (eR a2), some (eI (v1)), some (eI (v11)), some (eI (v25)), some (eI (0))]) (s2 := [eI (8), eR a2]) rfl rfl rfl ?_
      refine w_t (np := 122) (l2 := [some (eR a0), some (eI (a1)), some (eR a2), some (eI (v1)), some (eI (v11)), some (eI (v25)), some (eI (0))]) (s2 := [eI (0), eI (8), eR a2]) rfl rfl rfl ?_
      refine w_t (np := 123) (l2 := [some (eR a0), some (eI (a1)), some (eR a2), some (eI (v1)), some (eI (v11)), some (eI (v25)), some (eI (0))]) (s2 := [eI (8), eR a2]) rfl (b_iadd rfl) rfl ?_
      refine w_t (np := 124) (l2 := [some (eR a0), some (eI (a1)), some (eR a2), some (eI (v1)), some (eI (v11)), some (eI (v25)), some (eI (0))]) (s2 := [eR a2, eI (8), eR a2]) rfl (s_an rfl (pos_g I62 gA2 (by decide))) rfl ?_
      refine w_t (np := 125) (l2 := [some (eR a0), some (eI (a1)), some (eR a2), some (eI (v1)), some (eI (v11)), some (eI (v25)), some (eI (0))]) (s2 := [eI (4), eR a2, eI (8), eR a2]) rfl rfl rfl ?_
      refine w_t (np := 127) (l2 := [some (eR a0), some (eI (a1)), some (eR a2), some (eI (v1)), some (eI (v11)), some (eI (v25)), some (eI (0))]) (s2 := [eI (0), eI (4), eR a2, eI (8), eR a2]) rfl rfl rfl ?_
      refine w_t (np := 128) (l2 := [some (eR a0), some (eI (a1)), some (eR a2), some (eI (v1)), some (eI (v11)), some (eI (v25)), some (eI (0))]) (s2 := [eI (4), eR a2, eI (8), eR a2]) rfl (b_iadd rfl) rfl ?_
      refine j_al (np := 129) rfl rfl I62 gA2 (by decide) (n := 16) rfl rfl (lo := -2147483648) (hi := 2147483647) (fun _ => rfl) (by decide) (by decide) ?_
      intro v65 e66 b67
      have e66 := e66.symm.trans (W63.slot W50.at (by decide))
      rw [e66]
      refine w_t (np := 130) (l2 := [some (eR a0), some (eI (a1)), some (eR a2), some (eI (v1)), some (eI (v11)), some (eI (v25)), some (eI (0))]) (s2 := [eR a2, eI (v45), eI (8), eR a2]) rfl (s_an rfl (pos_g I62 gA2 (by decide))) rfl ?_
      refine w_t (np := 132) (l2 := [some (eR a0), some (eI (a1)), some (eR a2), some (eI (v1)), some (eI (v11)), some (eI (v25)), some (eI (0))]) (s2 := [eI (12), eR a2, eI (v45), eI (8), eR a2]) rfl rfl rfl ?_
      refine w_t (np := 134) (l2 := [some (eR a0), some (eI (a1)), some (eR a2), some (eI (v1)), some (eI (v11)), some (eI (v25)), some (eI (0))]) (s2 := [eI (0), eI (12), eR a2, eI (v45), eI (8), eR a2]) rfl rfl rfl ?_
      refine w_t (np := 135) (l2 := [some (eR a0), some (eI (a1)), some (eR a2), some (eI (v1)), some (eI (v11)), some (eI (v25)), some (eI (0))]) (s2 := [eI (12), eR a2, eI (v45), eI (8), eR a2]) rfl (b_iadd rfl) rfl ?_
      refine j_al (np := 136) rfl rfl I62 gA2 (by decide) (n := 16) rfl rfl (lo := -2147483648) (hi := 2147483647) (fun _ => rfl) (by decide) (by decide) ?_
      intro v68 e69 b70
      have e69 := e69.symm.trans W63.at
      rw [e69]
      obtain ⟨v71, e72, b73⟩ : ∃ zz : Int, ev_w ((v45) + (v58)) = zz ∧ (-2147483648 ≤ zz ∧ zz ≤ 2147483647) := ⟨_, rfl, hw_bd _⟩
      refine w_t (np := 137) (l2 := [some (eR a0), some (eI (a1)), some (eR a2), some (eI (v1)), some (eI (v11)), some (eI (v25)), some (eI (0))]) (s2 := [eI (v71), eI (8), eR a2]) rfl (b_iadd e72) rfl ?_
      refine w_t (np := 138) (l2 := [some (eR a0), some (eI (a1)), some (eR a2), some (eI (v1)), some (eI (v11)), some (eI (v25)), some (eI (0))]) (s2 := [eR a2, eI (v71), eI (8), eR a2]) rfl (s_an rfl (pos_g I62 gA2 (by decide))) rfl ?_
      refine w_t (np := 140) (l2 := [some (eR a0), some (eI (a1)), some (eR a2), some (eI (v1)), some (eI (v11)), some (eI (v25)), some (eI (0))]) (s2 := [eI (0), eR a2, eI (v71), eI (8), eR a2]) rfl rfl rfl ?_
      refine j_al (np := 141) rfl rfl I62 gA2 (by decide) (n := 16) rfl rfl (lo := -2147483648) (hi := 2147483647) (fun _ => rfl) (by decide) (by decide) ?_
      intro v74 e75 b76
      have e75 := e75.symm.trans (W63.slot (W50.slot W37.at (by decide)) (by decide))
      rw [e75]
      obtain ⟨v77, e78, b79⟩ : ∃ zz : Int, ev_w ((v71) - (v32)) = zz ∧ (-2147483648 ≤ zz ∧ zz ≤ 2147483647) := ⟨_, rfl, hw_bd _⟩
      refine w_t (np := 142) (l2 := [some (eR a0), some (eI (a1)), some (eR a2), some (eI (v1)), some (eI (v11)), some (eI (v25)), some (eI (0))]) (s2 := [eI (v77), eI (8), eR a2]) rfl (b_isub e78) rfl ?_
      refine j_as (np := 143) rfl rfl I62 gA2 (by decide) (n := 16) rfl rfl (lo := -2147483648) (hi := 2147483647) (fun _ => rfl) (by decide) (by decide) (by omega) ?_
      intro m80 I81 W82
      have F83 : Fr l_302e 0 0 g μ m80 := F64.v W82 gA2 rfl rfl
      refine w_t (np := 146) (l2 := [some (eR a0), some (eI (a1)), some (eR a2), some (eI (v1)), some (eI (v11)), some (eI (v25)), some (eI (1))]) (s2 := []) rfl (b_iinc rfl rfl rfl) rfl ?_
      refine w_go (t1 := 59) rfl rfl ?_
      refine w_t (np := 61) (l2 := [some (eR a0), some (eI (a1)), some (eR a2), some (eI (v1)), some (eI (v11)), some (eI (v25)), some (eI (1))]) (s2 := [eI (1)]) rfl rfl rfl ?_
      refine w_t (np := 62) (l2 := [some (eR a0), some (eI (a1)), some (eR a2), some (eI (v1)), some (eI (v11)), some (eI (v25)), some (eI (1))]) (s2 := [eI (4), eI (1)]) rfl rfl rfl ?_
      refine b_cge (t1 := 149) (t2 := 65) rfl rfl rfl rfl rfl (fun g84 => absurd g84 (by decide)) (fun g84 => ?_)
      refine w_t (np := 66) (l2 := [some (eR a0), some (eI (a1)), some (eR a2), some (eI (v1)), some (eI (v11)), some (eI (v25)), some (eI (1))]) (s2 := [eR a2]) rfl (s_an rfl (pos_g I81 gA2 (by decide))) rfl ?_
      refine w_t (np := 68) (l2 := [some (eR a0), some (eI (a1)), some (eR a2), some (eI (v1)), some (eI (v11)), some (eI (v25)), some (eI (1))]) (s2 := [eI (1), eR a2]) rfl rfl rfl ?_
      refine w_t (np := 69) (l2 := [some (eR a0), some (eI (a1)), some (eR a2), some (eI (v1)), some (eI (v11)), some (eI (v25)), some (eI (1))]) (s2 := [eR a0, eI (1), eR a2]) rfl (s_an rfl (pos_g I81 gA0 (by decide))) rfl ?_
      refine w_gf (np := 72) (v := eR v4) rfl rfl (I81.kd gA0 (by decide) (n := 69) rfl) (by rw [(W82.addr (W63.addr (W50.addr (W37.addr e5 gA2 gA0 (by decide)) gA2 gA0 (by decide)) gA2 gA0 (by decide)) gA2 gA0 (by decide))]; rfl) ?_
      refine w_t (np := 73) (l2 := [some (eR a0), some (eI (a1)), some (eR a2), some (eI (v1)), some (eI (v11)), some (eI (v25)), some (eI (1))]) (s2 := [eI (v1), eR v4, eI (1), eR a2]) rfl rfl rfl ?_
      refine w_t (np := 74) (l2 := [some (eR a0), some (eI (a1)), some (eR a2), some (eI (v1)), some (eI (v11)), some (eI (v25)), some (eI (1))]) (s2 := [eI (1), eI (v1), eR v4, eI (1), eR a2]) rfl rfl rfl ?_
      obtain ⟨v85, e86⟩ : ∃ zz : Int, zz = (v1) + (1) := ⟨_, rfl⟩
      have b87 : 1 ≤ v85 ∧ v85 ≤ 162 := by omega
      refine w_t (np := 75) (l2 := [some (eR a0), some (eI (a1)), some (eR a2), some (eI (v1)), some (eI (v11)), some (eI (v25)), some (eI (1))]) (s2 := [eI (v85), eR v4, eI (1), eR a2]) rfl (b_iadd (by rw [← e86]; exact ev_w_in (by omega) (by omega))) rfl ?_
      refine w_t (np := 77) (l2 := [some (eR a0), some (eI (a1)), some (eR a2), some (eI (v1)), some (eI (v11)), some (eI (v25)), some (eI (1))]) (s2 := [eI (1), eI (v85), eR v4, eI (1), eR a2]) rfl rfl rfl ?_
      obtain ⟨v88, e89⟩ : ∃ zz : Int, zz = (v85) + (1) := ⟨_, rfl⟩
      have b90 : 2 ≤ v88 ∧ v88 ≤ 163 := by omega
      refine w_t (np := 78) (l2 := [some (eR a0), some (eI (a1)), some (eR a2), some (eI (v1)), some (eI (v11)), some (eI (v25)), some (eI (1))]) (s2 := [eI (v88), eR v4, eI (1), eR a2]) rfl (b_iadd (by rw [← e89]; exact ev_w_in (by omega) (by omega))) rfl ?_
      refine j_al (np := 79) rfl rfl I81 b6 (by decide) (n := 168) rfl rfl (lo := -2147483648) (hi := 2147483647) (fun _ => rfl) (by omega) (by omega) ?_
      intro v91 e92 b93
      refine j_as (np := 80) rfl rfl I81 gA2 (by decide) (n := 16) rfl rfl (lo := -2147483648) (hi := 2147483647) (fun _ => rfl) (by decide) (by decide) (by omega) ?_
      intro m94 I95 W96
      have F97 : Fr l_302e 0 0 g μ m94 := F83.v W96 gA2 rfl rfl
      refine w_t (np := 81) (l2 := [some (eR a0), some (eI (a1)), some (eR a2), some (eI (v1)), some (eI (v11)), some (eI (v25)), some (eI (1))]) (s2 := [eR a2]) rfl (s_an rfl (pos_g I95 gA2 (by decide))) rfl ?_
      refine w_t (np := 82) (l2 := [some (eR a0), some (eI (a1)), some (eR a2), some (eI (v1)), some (eI (v11)), some (eI (v25)), some (eI (1))]) (s2 := [eI (4), eR a2]) rfl rfl rfl ?_
      refine w_t (np := 84) (l2 := [some (eR a0), some (eI (a1)), some (eR a2), some (eI (v1)), some (eI (v11)), some (eI (v25)), some (eI (1))]) (s2 := [eI (1), eI (4), eR a2]) rfl rfl rfl ?_
      refine w_t (np := 85) (l2 := [some (eR a0), some (eI (a1)), some (eR a2), some (eI (v1)), some (eI (v11)), some (eI (v25)), some (eI (1))]) (s2 := [eI (5), eR a2]) rfl (b_iadd rfl) rfl ?_
      refine w_t (np := 86) (l2 := [some (eR a0), some (eI (a1)), some (eR a2), some (eI (v1)), some (eI (v11)), some (eI (v25)), some (eI (1))]) (s2 := [eR a2, eI (5), eR a2]) rfl (s_an rfl (pos_g I95 gA2 (by decide))) rfl ?_
      refine w_t (np := 88) (l2 := [some (eR a0), some (eI (a1)), some (eR a2), some (eI (v1)), some (eI (v11)), some (eI (v25)), some (eI (1))]) (s2 := [eI (1), eR a2, eI (5), eR a2]) rfl rfl rfl ?_
      refine j_al (np := 89) rfl rfl I95 gA2 (by decide) (n := 16) rfl rfl (lo := -2147483648) (hi := 2147483647) (fun _ => rfl) (by decide) (by decide) ?_
      intro v98 e99 b100
      have e99 := e99.symm.trans W96.at
      rw [e99]
      refine w_t (np := 91) (l2 := [some (eR a0), some (eI (a1)), some (eR a2), some (eI (v1)), some (eI (v11)), some (eI (v25)), some (eI (1))]) (s2 := [eI (v11), eI (v91), eI (5), eR a2]) rfl rfl rfl ?_
      refine w_t (np := 93) (l2 := [some (eR a0), some (eI (a1)), some (eR a2), some (eI (v1)), some (eI (v11)), some (eI (v25)), some (eI (1))]) (s2 := [eI (1), eI (v11), eI (v91), eI (5), eR a2]) rfl rfl rfl ?_
      refine w_cu (np := 96) (as := [eI (v11), eI (1)]) (l2 := [some (eI (v11)), some (eI (1))]) (rest := [eI (v91), eI (5), eR a2]) rfl rfl rfl (Nat.ble_eq.mp rfl) rfl rfl rfl rfl ?_
      refine s_218e (a0 := v11) (a1 := 1) I95 (by omega) (by decide) ?_
      intro v101 b102 h103
      show ex_q (dt_fg L ρ) rc (d + 2, (302, 96, [some (eR a0), some (eI (a1)), some (eR a2), some (eI (v1)), some (eI (v11)), some (eI (v25)), some (eI (1))], [eI (v101), eI (v91), eI (5), eR a2]), f :: F, m94)
      obtain ⟨v104, e105, b106⟩ : ∃ zz : Int, ev_w ((v91) + (v101)) = zz ∧ (-2147483648 ≤ zz ∧ zz ≤ 2147483647) := ⟨_, rfl, hw_bd _⟩
      refine w_t (np := 97) (l2 := [some (eR a0), some (eI (a1)), some (eR a2), some (eI (v1)), some (eI (v11)), some (eI (v25)), some (eI (1))]) (s2 := [eI (v104), eI (5), eR a2]) rfl (b_iadd e105) rfl ?_
      refine j_as (np := 98) rfl rfl I95 gA2 (by decide) (n := 16) rfl rfl (lo := -2147483648) (hi := 2147483647) (fun _ => rfl) (by decide) (by decide) (by omega) ?_
      intro m107 I108 W109
      have F110 : Fr l_302e 0 0 g μ m107 := F97.v W109 gA2 rfl rfl
      refine w_t (np := 99) (l2 := [some (eR a0), some (eI (a1)), some (eR a2), some (eI (v1)), some (eI (v11)), some (eI (v25)), some (eI (1))]) (s2 := [eR a2]) rfl (s_an rfl (pos_g I108 gA2 (by decide))) rfl ?_
      refine w_t (np := 101) (l2 := [some (eR a0), some (eI (a1)), some (eR a2), some (eI (v1)), some (eI (v11)), some (eI (v25)), some (eI (1))]) (s2 := [eI (12), eR a2]) rfl rfl rfl ?_
      refine w_t (np := 103) (l2 := [some (eR a0), some (eI (a1)), some (eR a2), some (eI (v1)), some (eI (v11)), some (eI (v25)), some (eI (1))]) (s2 := [eI (1), eI (12), eR a2]) rfl rfl rfl ?_
      refine w_t (np := 104) (l2 := [some (eR a0), some (eI (a1)), some (eR a2), some (eI (v1)), some (eI (v11)), some (eI (v25)), some (eI (1))]) (s2 := [eI (13), eR a2]) rfl (b_iadd rfl) rfl ?_
      refine w_t (np := 105) (l2 := [some (eR a0), some (eI (a1)), some (eR a2), some (eI (v1)), some (eI (v11)), some (eI (v25)), some (eI (1))]) (s2 := [eR a2, eI (13), eR a2]) rfl (s_an rfl (pos_g I108 gA2 (by decide))) rfl ?_
      refine w_t (np := 107) (l2 := [some (eR a0), some (eI (a1)), some (eR a2), some (eI (v1)), some (eI (v11)), some (eI (v25)), some (eI (1))]) (s2 := [eI (1), eR a2, eI (13), eR a2]) rfl rfl rfl ?_
      refine j_al (np := 108) rfl rfl I108 gA2 (by decide) (n := 16) rfl rfl (lo := -2147483648) (hi := 2147483647) (fun _ => rfl) (by decide) (by decide) ?_
      intro v111 e112 b113
      have e112 := e112.symm.trans (W109.slot W96.at (by decide))
      rw [e112]
      refine w_t (np := 110) (l2 := [some (eR a0), some (eI (a1)), some (eR a2), some (eI (v1)), some (eI (v11)), some (eI (v25)), some (eI (1))]) (s2 := [eI (v25), eI (v91), eI (13), eR a2]) rfl rfl rfl ?_
      refine w_t (np := 112) (l2 := [some (eR a0), some (eI (a1)), some (eR a2), some (eI (v1)), some (eI (v11)), some (eI (v25)), some (eI (1))]) (s2 := [eI (1), eI (v25), eI (v91), eI (13), eR a2]) rfl rfl rfl ?_
      refine w_cu (np := 115) (as := [eI (v25), eI (1)]) (l2 := [some (eI (v25)), some (eI (1))]) (rest := [eI (v91), eI (13), eR a2]) rfl rfl rfl (Nat.ble_eq.mp rfl) rfl rfl rfl rfl ?_
      refine s_218e (a0 := v25) (a1 := 1) I108 (by omega) (by decide) ?_
      intro v114 b115 h116
      show ex_q (dt_fg L ρ) rc (d + 2, (302, 115, [some (eR a0), some (eI (a1)), some (eR a2), some (eI (v1)), some (eI (v11)), some (eI (v25)), some (eI (1))], [eI (v114), eI (v91), eI (13), eR a2]), f :: F, m107)
      obtain ⟨v117, e118, b119⟩ : ∃ zz : Int, ev_w ((v91) + (v114)) = zz ∧ (-2147483648 ≤ zz ∧ zz ≤ 2147483647) := ⟨_, rfl, hw_bd _⟩
      refine w_t (np := 116) (l2 := [some (eR a0), some (eI (a1)), some (eR a2), some (eI (v1)), some (eI (v11)), some (eI (v25)), some (eI (1))]) (s2 := [eI (v117), eI (13), eR a2]) rfl (b_iadd e118) rfl ?_
      refine j_as (np := 117) rfl rfl I108 gA2 (by decide) (n := 16) rfl rfl (lo := -2147483648) (hi := 2147483647) (fun _ => rfl) (by decide) (by decide) (by omega) ?_
      intro m120 I121 W122
      have F123 : Fr l_302e 0 0 g μ m120 := F110.v W122 gA2 rfl rfl
      refine w_t (np := 118) (l2 := [some (eR a0), some (eI (a1)), some (eR a2), some (eI (v1)), some (eI (v11)), some (eI (v25)), some (eI (1))]) (s2 := [eR a2]) rfl (s_an rfl (pos_g I121 gA2 (by decide))) rfl ?_
      refine w_t (np := 120) (l2 := [some (eR a0), some (eI (a1)), some (eR a2), some (eI (v1)), some (eI (v11)), some (eI (v25)), some (eI (1))]) (s2 := [eI (8), eR a2]) rfl rfl rfl ?_
      refine w_t (np := 122) (l2 := [some (eR a0), some (eI (a1)), some (eR a2), some (eI (v1)), some (eI (v11)), some (eI (v25)), some (eI (1))]) (s2 := [eI (1), eI (8), eR a2]) rfl rfl rfl ?_
      refine w_t (np := 123) (l2 := [some (eR a0), some (eI (a1)), some (eR a2), some (eI (v1)), some (eI (v11)), some (eI (v25)), some (eI (1))]) (s2 := [eI (9), eR a2]) rfl (b_iadd rfl) rfl ?_
      refine w_t (np := 124) (l2 := [some (eR a0), some (eI (a1)), some (eR a2), some (eI (v1)), some (eI (v11)), some (eI (v25)), some (eI (1))]) (s2 := [eR a2, eI (9), eR a2]) rfl (s_an rfl (pos_g I121 gA2 (by decide))) rfl ?_
      refine w_t (np := 125) (l2 := [some (eR a0), some (eI (a1)), some (eR a2), some (eI (v1)), some (eI (v11)), some (eI (v25)), some (eI (1))]) (s2 := [eI (4), eR a2, eI (9), eR a2]) rfl rfl rfl ?_
      refine w_t (np := 127) (l2 := [some (eR a0), some (eI (a1)), some (eR a2), some (eI (v1)), some (eI (v11)), some (eI (v25)), some (eI (1))]) (s2 := [eI (1), eI (4), eR a2, eI (9), eR a2]) rfl rfl rfl ?_
      refine w_t (np := 128) (l2 := [some (eR a0), some (eI (a1)), some (eR a2), some (eI (v1)), some (eI (v11)), some (eI (v25)), some (eI (1))]) (s2 := [eI (5), eR a2, eI (9), eR a2]) rfl (b_iadd rfl) rfl ?_
      refine j_al (np := 129) rfl rfl I121 gA2 (by decide) (n := 16) rfl rfl (lo := -2147483648) (hi := 2147483647) (fun _ => rfl) (by decide) (by decide) ?_
      intro v124 e125 b126
      have e125 := e125.symm.trans (W122.slot W109.at (by decide))
      rw [e125]
      refine w_t (np := 130) (l2 := [some (eR a0), some (eI (a1)), some (eR a2), some (eI (v1)), some (eI (v11)), some (eI (v25)), some (eI (1))]) (s2 := [eR a2, eI (v104), eI (9), eR a2]) rfl (s_an rfl (pos_g I121 gA2 (by decide))) rfl ?_
      refine w_t (np := 132) (l2 := [some (eR a0), some (eI (a1)), some (eR a2), some (eI (v1)), some (eI (v11)), some (eI (v25)), some (eI (1))]) (s2 := [eI (12), eR a2, eI (v104), eI (9), eR a2]) rfl rfl rfl ?_
      refine w_t (np := 134) (l2 := [some (eR a0), some (eI (a1)), some (eR a2), some (eI (v1)), some (eI (v11)), some (eI (v25)), some (eI (1))]) (s2 := [eI (1), eI (12), eR a2, eI (v104), eI (9), eR a2]) rfl rfl rfl ?_
      refine w_t (np := 135) (l2 := [some (eR a0), some (eI (a1)), some (eR a2), some (eI (v1)), some (eI (v11)), some (eI (v25)), some (eI (1))]) (s2 := [eI (13), eR a2, eI (v104), eI (9), eR a2]) rfl (b_iadd rfl) rfl ?_
      refine j_al (np := 136) rfl rfl I121 gA2 (by decide) (n := 16) rfl rfl (lo := -2147483648) (hi := 2147483647) (fun _ => rfl) (by decide) (by decide) ?_
      intro v127 e128 b129
      have e128 := e128.symm.trans W122.at
      rw [e128]
      obtain ⟨v130, e131, b132⟩ : ∃ zz : Int, ev_w ((v104) + (v117)) = zz ∧ (-2147483648 ≤ zz ∧ zz ≤ 2147483647) := ⟨_, rfl, hw_bd _⟩
      refine w_t (np := 137) (l2 := [some (eR a0), some (eI (a1)), some (eR a2), some (eI (v1)), some (eI (v11)), some (eI (v25)), some (eI (1))]) (s2 := [eI (v130), eI (9), eR a2]) rfl (b_iadd e131) rfl ?_
      refine w_t (np := 138) (l2 := [some (eR a0), some (eI (a1)), some (eR a2), some (eI (v1)), some (eI (v11)), some (eI (v25)), some (eI (1))]) (s2 := [eR a2, eI (v130), eI (9), eR a2]) rfl (s_an rfl (pos_g I121 gA2 (by decide))) rfl ?_
      refine w_t (np := 140) (l2 := [some (eR a0), some (eI (a1)), some (eR a2), some (eI (v1)), some (eI (v11)), some (eI (v25)), some (eI (1))]) (s2 := [eI (1), eR a2, eI (v130), eI (9), eR a2]) rfl rfl rfl ?_
      refine j_al (np := 141) rfl rfl I121 gA2 (by decide) (n := 16) rfl rfl (lo := -2147483648) (hi := 2147483647) (fun _ => rfl) (by decide) (by decide) ?_
      intro v133 e134 b135
      have e134 := e134.symm.trans (W122.slot (W109.slot W96.at (by decide)) (by decide))
      rw [e134]
      obtain ⟨v136, e137, b138⟩ : ∃ zz : Int, ev_w ((v130) - (v91)) = zz ∧ (-2147483648 ≤ zz ∧ zz ≤ 2147483647) := ⟨_, rfl, hw_bd _⟩
      refine w_t (np := 142) (l2 := [some (eR a0), some (eI (a1)), some (eR a2), some (eI (v1)), some (eI (v11)), some (eI (v25)), some (eI (1))]) (s2 := [eI (v136), eI (9), eR a2]) rfl (b_isub e137) rfl ?_
      refine j_as (np := 143) rfl rfl I121 gA2 (by decide) (n := 16) rfl rfl (lo := -2147483648) (hi := 2147483647) (fun _ => rfl) (by decide) (by decide) (by omega) ?_
      intro m139 I140 W141
      have F142 : Fr l_302e 0 0 g μ m139 := F123.v W141 gA2 rfl rfl
      refine w_t (np := 146) (l2 := [some (eR a0), some (eI (a1)), some (eR a2), some (eI (v1)), some (eI (v11)), some (eI (v25)), some (eI (2))]) (s2 := []) rfl (b_iinc rfl rfl rfl) rfl ?_
      refine w_go (t1 := 59) rfl rfl ?_
      refine w_t (np := 61) (l2 := [some (eR a0), some (eI (a1)), some (eR a2), some (eI (v1)), some (eI (v11)), some (eI (v25)), some (eI (2))]) (s2 := [eI (2)]) rfl rfl rfl ?_
      refine w_t (np := 62) (l2 := [some (eR a0), some (eI (a1)), some (eR a2), some (eI (v1)), some (eI (v11)), some (eI (v25)), some (eI (2))]) (s2 := [eI (4), eI (2)]) rfl rfl rfl ?_
      refine b_cge (t1 := 149) (t2 := 65) rfl rfl rfl rfl rfl (fun g143 => absurd g143 (by decide)) (fun g143 => ?_)
      refine w_t (np := 66) (l2 := [some (eR a0), some (eI (a1)), some (eR a2), some (eI (v1)), some (eI (v11)), some (eI (v25)), some (eI (2))]) (s2 := [eR a2]) rfl (s_an rfl (pos_g I140 gA2 (by decide))) rfl ?_
      refine w_t (np := 68) (l2 := [some (eR a0), some (eI (a1)), some (eR a2), some (eI (v1)), some (eI (v11)), some (eI (v25)), some (eI (2))]) (s2 := [eI (2), eR a2]) rfl rfl rfl ?_
      refine w_t (np := 69) (l2 := [some (eR a0), some (eI (a1)), some (eR a2), some (eI (v1)), some (eI (v11)), some (eI (v25)), some (eI (2))]) (s2 := [eR a0, eI (2), eR a2]) rfl (s_an rfl (pos_g I140 gA0 (by decide))) rfl ?_
      refine w_gf (np := 72) (v := eR v4) rfl rfl (I140.kd gA0 (by decide) (n := 69) rfl) (by rw [(W141.addr (W122.addr (W109.addr (W96.addr (W82.addr (W63.addr (W50.addr (W37.addr e5 gA2 gA0 (by decide)) gA2 gA0 (by decide)) gA2 gA0 (by decide)) gA2 gA0 (by decide)) gA2 gA0 (by decide)) gA2 gA0 (by decide)) gA2 gA0 (by decide)) gA2 gA0 (by decide))]; rfl) ?_
      refine w_t (np := 73) (l2 := [some (eR a0), some (eI (a1)), some (eR a2), some (eI (v1)), some (eI (v11)), some (eI (v25)), some (eI (2))]) (s2 := [eI (v1), eR v4, eI (2), eR a2]) rfl rfl rfl ?_
      refine w_t (np := 74) (l2 := [some (eR a0), some (eI (a1)), some (eR a2), some (eI (v1)), some (eI (v11)), some (eI (v25)), some (eI (2))]) (s2 := [eI (1), eI (v1), eR v4, eI (2), eR a2]) rfl rfl rfl ?_
      obtain ⟨v144, e145⟩ : ∃ zz : Int, zz = (v1) + (1) := ⟨_, rfl⟩
      have b146 : 1 ≤ v144 ∧ v144 ≤ 162 := by omega
      refine w_t (np := 75) (l2 := [some (eR a0), some (eI (a1)), some (eR a2), some (eI (v1)), some (eI (v11)), some (eI (v25)), some (eI (2))]) (s2 := [eI (v144), eR v4, eI (2), eR a2]) rfl (b_iadd (by rw [← e145]; exact ev_w_in (by omega) (by omega))) rfl ?_
      refine w_t (np := 77) (l2 := [some (eR a0), some (eI (a1)), some (eR a2), some (eI (v1)), some (eI (v11)), some (eI (v25)), some (eI (2))]) (s2 := [eI (2), eI (v144), eR v4, eI (2), eR a2]) rfl rfl rfl ?_
      obtain ⟨v147, e148⟩ : ∃ zz : Int, zz = (v144) + (2) := ⟨_, rfl⟩
      have b149 : 3 ≤ v147 ∧ v147 ≤ 164 := by omega
      refine w_t (np := 78) (l2 := [some (eR a0), some (eI (a1)), some (eR a2), some (eI (v1)), some (eI (v11)), some (eI (v25)), some (eI (2))]) (s2 := [eI (v147), eR v4, eI (2), eR a2]) rfl (b_iadd (by rw [← e148]; exact ev_w_in (by omega) (by omega))) rfl ?_
      refine j_al (np := 79) rfl rfl I140 b6 (by decide) (n := 168) rfl rfl (lo := -2147483648) (hi := 2147483647) (fun _ => rfl) (by omega) (by omega) ?_
      intro v150 e151 b152
      refine j_as (np := 80) rfl rfl I140 gA2 (by decide) (n := 16) rfl rfl (lo := -2147483648) (hi := 2147483647) (fun _ => rfl) (by decide) (by decide) (by omega) ?_
      intro m153 I154 W155
      have F156 : Fr l_302e 0 0 g μ m153 := F142.v W155 gA2 rfl rfl
      refine w_t (np := 81) (l2 := [some (eR a0), some (eI (a1)), some (eR a2), some (eI (v1)), some (eI (v11)), some (eI (v25)), some (eI (2))]) (s2 := [eR a2]) rfl (s_an rfl (pos_g I154 gA2 (by decide))) rfl ?_
      refine w_t (np := 82) (l2 := [some (eR a0), some (eI (a1)), some (eR a2), some (eI (v1)), some (eI (v11)), some (eI (v25)), some (eI (2))]) (s2 := [eI (4), eR a2]) rfl rfl rfl ?_
      refine w_t (np := 84) (l2 := [some (eR a0), some (eI (a1)), some (eR a2), some (eI (v1)), some (eI (v11)), some (eI (v25)), some (eI (2))]) (s2 := [eI (2), eI (4), eR a2]) rfl rfl rfl ?_
      refine w_t (np := 85) (l2 := [some (eR a0), some (eI (a1)), some (eR a2), some (eI (v1)), some (eI (v11)), some (eI (v25)), some (eI (2))]) (s2 := [eI (6), eR a2]) rfl (b_iadd rfl) rfl ?_
      refine w_t (np := 86) (l2 := [some (eR a0), some (eI (a1)), some (eR a2), some (eI (v1)), some (eI (v11)), some (eI (v25)), some (eI (2))]) (s2 := [eR a2, eI (6), eR a2]) rfl (s_an rfl (pos_g I154 gA2 (by decide))) rfl ?_
      refine w_t (np := 88) (l2 := [some (eR a0), some (eI (a1)), some (eR a2), some (eI (v1)), some (eI (v11)), some (eI (v25)), some (eI (2))]) (s2 := [eI (2), eR a2, eI (6), eR a2]) rfl rfl rfl ?_
      refine j_al (np := 89) rfl rfl I154 gA2 (by decide) (n := 16) rfl rfl (lo := -2147483648) (hi := 2147483647) (fun _ => rfl) (by decide) (by decide) ?_
      intro v157 e158 b159
      have e158 := e158.symm.trans W155.at
      rw [e158]
      refine w_t (np := 91) (l2 := [some (eR a0), some (eI (a1)), some (eR a2), some (eI (v1)), some (eI (v11)), some (eI (v25)), some (eI (2))]) (s2 := [eI (v11), eI (v150), eI (6), eR a2]) rfl rfl rfl ?_
      refine w_t (np := 93) (l2 := [some (eR a0), some (eI (a1)), some (eR a2), some (eI (v1)), some (eI (v11)), some (eI (v25)), some (eI (2))]) (s2 := [eI (2), eI (v11), eI (v150), eI (6), eR a2]) rfl rfl rfl ?_
      refine w_cu (np := 96) (as := [eI (v11), eI (2)]) (l2 := [some (eI (v11)), some (eI (2))]) (rest := [eI (v150), eI (6), eR a2]) rfl rfl rfl (Nat.ble_eq.mp rfl) rfl rfl rfl rfl ?_
      refine s_218e (a0 := v11) (a1 := 2) I154 (by omega) (by decide) ?_
      intro v160 b161 h162
      show ex_q (dt_fg L ρ) rc (d + 2, (302, 96, [some (eR a0), some (eI (a1)), some (eR a2), some (eI (v1)), some (eI (v11)), some (eI (v25)), some (eI (2))], [eI (v160), eI (v150), eI (6), eR a2]), f :: F, m153)
      obtain ⟨v163, e164, b165⟩ : ∃ zz : Int, ev_w ((v150) + (v160)) = zz ∧ (-2147483648 ≤ zz ∧ zz ≤ 2147483647) := ⟨_, rfl, hw_bd _⟩
      refine w_t (np := 97) (l2 := [some (eR a0), some (eI (a1)), some (eR a2), some (eI (v1)), some (eI (v11)), some (eI (v25)), some (eI (2))]) (s2 := [eI (v163), eI (6), eR a2]) rfl (b_iadd e164) rfl ?_
      refine j_as (np := 98) rfl rfl I154 gA2 (by decide) (n := 16) rfl rfl (lo := -2147483648) (hi := 2147483647) (fun _ => rfl) (by decide) (by decide) (by omega) ?_
      intro m166 I167 W168
      have F169 : Fr l_302e 0 0 g μ m166 := F156.v W168 gA2 rfl rfl
      refine w_t (np := 99) (l2 := [some (eR a0), some (eI (a1)), some (eR a2), some (eI (v1)), some (eI (v11)), some (eI (v25)), some (eI (2))]) (s2 := [eR a2]) rfl (s_an rfl (pos_g I167 gA2 (by decide))) rfl ?_
      refine w_t (np := 101) (l2 := [some (eR a0), some (eI (a1)), some (eR a2), some (eI (v1)), some (eI (v11)), some (eI (v25)), some (eI (2))]) (s2 := [eI (12), eR a2]) rfl rfl rfl ?_
      refine w_t (np := 103) (l2 := [some (eR a0), some (eI (a1)), some (eR a2), some (eI (v1)), some (eI (v11)), some (eI (v25)), some (eI (2))]) (s2 := [eI (2), eI (12), eR a2]) rfl rfl rfl ?_
      refine w_t (np := 104) (l2 := [some (eR a0), some (eI (a1)), some (eR a2), some (eI (v1)), some (eI (v11)), some (eI (v25)), some (eI (2))]) (s2 := [eI (14), eR a2]) rfl (b_iadd rfl) rfl ?_
      refine w_t (np := 105) (l2 := [some (eR a0), some (eI (a1)), some (eR a2), some (eI (v1)), some (eI (v11)), some (eI (v25)), some (eI (2))]) (s2 := [eR a2, eI (14), eR a2]) rfl (s_an rfl (pos_g I167 gA2 (by decide))) rfl ?_
      refine w_t (np := 107) (l2 := [some (eR a0), some (eI (a1)), some (eR a2), some (eI (v1)), some (eI (v11)), some (eI (v25)), some (eI (2))]) (s2 := [eI (2), eR a2, eI (14), eR a2]) rfl rfl rfl ?_
      refine j_al (np := 108) rfl rfl I167 gA2 (by decide) (n := 16) rfl rfl (lo := -2147483648) (hi := 2147483647) (fun _ => rfl) (by decide) (by decide) ?_
      intro v170 e171 b172
      have e171 := e171.symm.trans (W168.slot W155.at (by decide))
      rw [e171]
      refine w_t (np := 110) (l2 := [some (eR a0), some (eI (a1)), some (eR a2), some (eI (v1)), some (eI (v11)), some (eI (v25)), some (eI (2))]) (s2 := [eI (v25), eI (v150), eI (14), eR a2]) rfl rfl rfl ?_
      refine w_t (np := 112) (l2 := [some (eR a0), some (eI (a1)), some (eR a2), some (eI (v1)), some (eI (v11)), some (eI (v25)), some (eI (2))]) (s2 := [eI (2), eI (v25), eI (v150), eI (14), eR a2]) rfl rfl rfl ?_
      refine w_cu (np := 115) (as := [eI (v25), eI (2)]) (l2 := [some (eI (v25)), some (eI (2))]) (rest := [eI (v150), eI (14), eR a2]) rfl rfl rfl (Nat.ble_eq.mp rfl) rfl rfl rfl rfl ?_
      refine s_218e (a0 := v25) (a1 := 2) I167 (by omega) (by decide) ?_
      intro v173 b174 h175
      show ex_q (dt_fg L ρ) rc (d + 2, (302, 115, [some (eR a0), some (eI (a1)), some (eR a2), some (eI (v1)), some (eI (v11)), some (eI (v25)), some (eI (2))], [eI (v173), eI (v150), eI (14), eR a2]), f :: F, m166)
      obtain ⟨v176, e177, b178⟩ : ∃ zz : Int, ev_w ((v150) + (v173)) = zz ∧ (-2147483648 ≤ zz ∧ zz ≤ 2147483647) := ⟨_, rfl, hw_bd _⟩
      refine w_t (np := 116) (l2 := [some (eR a0), some (eI (a1)), some (eR a2), some (eI (v1)), some (eI (v11)), some (eI (v25)), some (eI (2))]) (s2 := [eI (v176), eI (14), eR a2]) rfl (b_iadd e177) rfl ?_
      refine j_as (np := 117) rfl rfl I167 gA2 (by decide) (n := 16) rfl rfl (lo := -2147483648) (hi := 2147483647) (fun _ => rfl) (by decide) (by decide) (by omega) ?_
      intro m179 I180 W181
      have F182 : Fr l_302e 0 0 g μ m179 := F169.v W181 gA2 rfl rfl
      refine w_t (np := 118) (l2 := [some (eR a0), some (eI (a1)), some (eR a2), some (eI (v1)), some (eI (v11)), some (eI (v25)), some (eI (2))]) (s2 := [eR a2]) rfl (s_an rfl (pos_g I180 gA2 (by decide))) rfl ?_
      refine w_t (np := 120) (l2 := [some (eR a0), some (eI (a1)), some (eR a2), some (eI (v1)), some (eI (v11)), some (eI (v25)), some (eI (2))]) (s2 := [eI (8), eR a2]) rfl rfl rfl ?_
      refine w_t (np := 122) (l2 := [some (eR a0), some (eI (a1)), some (eR a2), some (eI (v1)), some (eI (v11)), some (eI (v25)), some (eI (2))]) (s2 := [eI (2), eI (8), eR a2]) rfl rfl rfl ?_
      refine w_t (np := 123) (l2 := [some (eR a0), some (eI (a1)), some (eR a2), some (eI (v1)), some (eI (v11)), some (eI (v25)), some (eI (2))]) (s2 := [eI (10), eR a2]) rfl (b_iadd rfl) rfl ?_
      refine w_t (np := 124) (l2 := [some (eR a0), some (eI (a1)), some (eR a2), some (eI (v1)), some (eI (v11)), some (eI (v25)), some (eI (2))]) (s2 := [eR a2, eI (10), eR a2]) rfl (s_an rfl (pos_g I180 gA2 (by decide))) rfl ?_
      refine w_t (np := 125) (l2 := [some (eR a0), some (eI (a1)), some (eR a2), some (eI (v1)), some (eI (v11)), some (eI (v25)), some (eI (2))]) (s2 := [eI (4), eR a2, eI (10), eR a2]) rfl rfl rfl ?_
      refine w_t (np := 127) (l2 := [some (eR a0), some (eI (a1)), some (eR a2), some (eI (v1)), some (eI (v11)), some (eI (v25)), some (eI (2))]) (s2 := [eI (2), eI (4), eR a2, eI (10), eR a2]) rfl rfl rfl ?_
      refine w_t (np := 128) (l2 := [some (eR a0), some (eI (a1)), some (eR a2), some (eI (v1)), some (eI (v11)), some (eI (v25)), some (eI (2))]) (s2 := [eI (6), eR a2, eI (10), eR a2]) rfl (b_iadd rfl) rfl ?_
      refine j_al (np := 129) rfl rfl I180 gA2 (by decide) (n := 16) rfl rfl (lo := -2147483648) (hi := 2147483647) (fun _ => rfl) (by decide) (by decide) ?_
      intro v183 e184 b185
      have e184 := e184.symm.trans (W181.slot W168.at (by decide))
      rw [e184]
      refine w_t (np := 130) (l2 := [some (eR a0), some (eI (a1)), some (eR a2), some (eI (v1)), some (eI (v11)), some (eI (v25)), some (eI (2))]) (s2 := [eR a2, eI (v163), eI (10), eR a2]) rfl (s_an rfl (pos_g I180 gA2 (by decide))) rfl ?_
      refine w_t (np := 132) (l2 := [some (eR a0), some (eI (a1)), some (eR a2), some (eI (v1)), some (eI (v11)), some (eI (v25)), some (eI (2))]) (s2 := [eI (12), eR a2, eI (v163), eI (10), eR a2]) rfl rfl rfl ?_
      refine w_t (np := 134) (l2 := [some (eR a0), some (eI (a1)), some (eR a2), some (eI (v1)), some (eI (v11)), some (eI (v25)), some (eI (2))]) (s2 := [eI (2), eI (12), eR a2, eI (v163), eI (10), eR a2]) rfl rfl rfl ?_
      refine w_t (np := 135) (l2 := [some (eR a0), some (eI (a1)), some (eR a2), some (eI (v1)), some (eI (v11)), some (eI (v25)), some (eI (2))]) (s2 := [eI (14), eR a2, eI (v163), eI (10), eR a2]) rfl (b_iadd rfl) rfl ?_
      refine j_al (np := 136) rfl rfl I180 gA2 (by decide) (n := 16) rfl rfl (lo := -2147483648) (hi := 2147483647) (fun _ => rfl) (by decide) (by decide) ?_
      intro v186 e187 b188
      have e187 := e187.symm.trans W181.at
      rw [e187]
      obtain ⟨v189, e190, b191⟩ : ∃ zz : Int, ev_w ((v163) + (v176)) = zz ∧ (-2147483648 ≤ zz ∧ zz ≤ 2147483647) := ⟨_, rfl, hw_bd _⟩
      refine w_t (np := 137) (l2 := [some (eR a0), some (eI (a1)), some (eR a2), some (eI (v1)), some (eI (v11)), some (eI (v25)), some (eI (2))]) (s2 := [eI (v189), eI (10), eR a2]) rfl (b_iadd e190) rfl ?_
      refine w_t (np := 138) (l2 := [some (eR a0), some (eI (a1)), some (eR a2), some (eI (v1)), some (eI (v11)), some (eI (v25)), some (eI (2))]) (s2 := [eR a2, eI (v189), eI (10), eR a2]) rfl (s_an rfl (pos_g I180 gA2 (by decide))) rfl ?_
      refine w_t (np := 140) (l2 := [some (eR a0), some (eI (a1)), some (eR a2), some (eI (v1)), some (eI (v11)), some (eI (v25)), some (eI (2))]) (s2 := [eI (2), eR a2, eI (v189), eI (10), eR a2]) rfl rfl rfl ?_
      refine j_al (np := 141) rfl rfl I180 gA2 (by decide) (n := 16) rfl rfl (lo := -2147483648) (hi := 2147483647) (fun _ => rfl) (by decide) (by decide) ?_
      intro v192 e193 b194
      have e193 := e193.symm.trans (W181.slot (W168.slot W155.at (by decide)) (by decide))
      rw [e193]
      obtain ⟨v195, e196, b197⟩ : ∃ zz : Int, ev_w ((v189) - (v150)) = zz ∧ (-2147483648 ≤ zz ∧ zz ≤ 2147483647) := ⟨_, rfl, hw_bd _⟩
      refine w_t (np := 142) (l2 := [some (eR a0), some (eI (a1)), some (eR a2), some (eI (v1)), some (eI (v11)), some (eI (v25)), some (eI (2))]) (s2 := [eI (v195), eI (10), eR a2]) rfl (b_isub e196) rfl ?_
      refine j_as (np := 143) rfl rfl I180 gA2 (by decide) (n := 16) rfl rfl (lo := -2147483648) (hi := 2147483647) (fun _ => rfl) (by decide) (by decide) (by omega) ?_
      intro m198 I199 W200
      have F201 : Fr l_302e 0 0 g μ m198 := F182.v W200 gA2 rfl rfl
      refine w_t (np := 146) (l2 := [some (eR a0), some (eI (a1)), some (eR a2), some (eI (v1)), some (eI (v11)), some (eI (v25)), some (eI (3))]) (s2 := []) rfl (b_iinc rfl rfl rfl) rfl ?_
      refine w_go (t1 := 59) rfl rfl ?_
      refine w_t (np := 61) (l2 := [some (eR a0), some (eI (a1)), some (eR a2), some (eI (v1)), some (eI (v11)), some (eI (v25)), some (eI (3))]) (s2 := [eI (3)]) rfl rfl rfl ?_
      refine w_t (np := 62) (l2 := [some (eR a0), some (eI (a1)), some (eR a2), some (eI (v1)), some (eI (v11)), some (eI (v25)), some (eI (3))]) (s2 := [eI (4), eI (3)]) rfl rfl rfl ?_
      refine b_cge (t1 := 149) (t2 := 65) rfl rfl rfl rfl rfl (fun g202 => absurd g202 (by decide)) (fun g202 => ?_)
      refine w_t (np := 66) (l2 := [some (eR a0), some (eI (a1)), some (eR a2), some (eI (v1)), some (eI (v11)), some (eI (v25)), some (eI (3))]) (s2 := [eR a2]) rfl (s_an rfl (pos_g I199 gA2 (by decide))) rfl ?_
      refine w_t (np := 68) (l2 := [some (eR a0), some (eI (a1)), some (eR a2), some (eI (v1)), some (eI (v11)), some (eI (v25)), some (eI (3))]) (s2 := [eI (3), eR a2]) rfl rfl rfl ?_
      refine w_t (np := 69) (l2 := [some (eR a0), some (eI (a1)), some (eR a2), some (eI (v1)), some (eI (v11)), some (eI (v25)), some (eI (3))]) (s2 := [eR a0, eI (3), eR a2]) rfl (s_an rfl (pos_g I199 gA0 (by decide))) rfl ?_
      refine w_gf (np := 72) (v := eR v4) rfl rfl (I199.kd gA0 (by decide) (n := 69) rfl) (by rw [(W200.addr (W181.addr (W168.addr (W155.addr (W141.addr (W122.addr (W109.addr (W96.addr (W82.addr (W63.addr (W50.addr (W37.addr e5 gA2 gA0 (by decide)) gA2 gA0 (by decide)) gA2 gA0 (by decide)) gA2 gA0 (by decide)) gA2 gA0 (by decide)) gA2 gA0 (by decide)) gA2 gA0 (by decide)) gA2 gA0 (by decide)) gA2 gA0 (by decide)) gA2 gA0 (by decide)) gA2 gA0 (by decide)) gA2 gA0 (by decide))]; rfl) ?_
      refine w_t (np := 73) (l2 := [some (eR a0), some (eI (a1)), some (eR a2), some (eI (v1)), some (eI (v11)), some (eI (v25)), some (eI (3))]) (s2 := [eI (v1), eR v4, eI (3), eR a2]) rfl rfl rfl ?_
      refine w_t (np := 74) (l2 := [some (eR a0), some (eI (a1)), some (eR a2), some (eI (v1)), some (eI (v11)), some (eI (v25)), some (eI (3))]) (s2 := [eI (1), eI (v1), eR v4, eI (3), eR a2]) rfl rfl rfl ?_
      obtain ⟨v203, e204⟩ : ∃ zz : Int, zz = (v1) + (1) := ⟨_, rfl⟩
      have b205 : 1 ≤ v203 ∧ v203 ≤ 162 := by omega
      refine w_t (np := 75) (l2 := [some (eR a0), some (eI (a1)), some (eR a2), some (eI (v1)), some (eI (v11)), some (eI (v25)), some (eI (3))]) (s2 := [eI (v203), eR v4, eI (3), eR a2]) rfl (b_iadd (by rw [← e204]; exact ev_w_in (by omega) (by omega))) rfl ?_
      refine w_t (np := 77) (l2 := [some (eR a0), some (eI (a1)), some (eR a2), some (eI (v1)), some (eI (v11)), some (eI (v25)), some (eI (3))]) (s2 := [eI (3), eI (v203), eR v4, eI (3), eR a2]) rfl rfl rfl ?_
      obtain ⟨v206, e207⟩ : ∃ zz : Int, zz = (v203) + (3) := ⟨_, rfl⟩
      have b208 : 4 ≤ v206 ∧ v206 ≤ 165 := by omega
      refine w_t (np := 78) (l2 := [some (eR a0), some (eI (a1)), some (eR a2), some (eI (v1)), some (eI (v11)), some (eI (v25)), some (eI (3))]) (s2 := [eI (v206), eR v4, eI (3), eR a2]) rfl (b_iadd (by rw [← e207]; exact ev_w_in (by omega) (by omega))) rfl ?_
      refine j_al (np := 79) rfl rfl I199 b6 (by decide) (n := 168) rfl rfl (lo := -2147483648) (hi := 2147483647) (fun _ => rfl) (by omega) (by omega) ?_
      intro v209 e210 b211
      refine j_as (np := 80) rfl rfl I199 gA2 (by decide) (n := 16) rfl rfl (lo := -2147483648) (hi := 2147483647) (fun _ => rfl) (by decide) (by decide) (by omega) ?_
      intro m212 I213 W214
      have F215 : Fr l_302e 0 0 g μ m212 := F201.v W214 gA2 rfl rfl
      refine w_t (np := 81) (l2 := [some (eR a0), some (eI (a1)), some (eR a2), some (eI (v1)), some (eI (v11)), some (eI (v25)), some (eI (3))]) (s2 := [eR a2]) rfl (s_an rfl (pos_g I213 gA2 (by decide))) rfl ?_
      refine w_t (np := 82) (l2 := [some (eR a0), some (eI (a1)), some (eR a2), some (eI (v1)), some (eI (v11)), some (eI (v25)), some (eI (3))]) (s2 := [eI (4), eR a2]) rfl rfl rfl ?_
      refine w_t (np := 84) (l2 := [some (eR a0), some (eI (a1)), some (eR a2), some (eI (v1)), some (eI (v11)), some (eI (v25)), some (eI (3))]) (s2 := [eI (3), eI (4), eR a2]) rfl rfl rfl ?_
      refine w_t (np := 85) (l2 := [some (eR a0), some (eI (a1)), some (eR a2), some (eI (v1)), some (eI (v11)), some (eI (v25)), some (eI (3))]) (s2 := [eI (7), eR a2]) rfl (b_iadd rfl) rfl ?_
      refine w_t (np := 86) (l2 := [some (eR a0), some (eI (a1)), some (eR a2), some (eI (v1)), some (eI (v11)), some (eI (v25)), some (eI (3))]) (s2 := [eR a2, eI (7), eR a2]) rfl (s_an rfl (pos_g I213 gA2 (by decide))) rfl ?_
      refine w_t (np := 88) (l2 := [some (eR a0), some (eI (a1)), some (eR a2), some (eI (v1)), some (eI (v11)), some (eI (v25)), some (eI (3))]) (s2 := [eI (3), eR a2, eI (7), eR a2]) rfl rfl rfl ?_
      refine j_al (np := 89) rfl rfl I213 gA2 (by decide) (n := 16) rfl rfl (lo := -2147483648) (hi := 2147483647) (fun _ => rfl) (by decide) (by decide) ?_
      intro v216 e217 b218
      have e217 := e217.symm.trans W214.at
      rw [e217]
      refine w_t (np := 91) (l2 := [some (eR a0), some (eI (a1)), some (eR a2), some (eI (v1)), some (eI (v11)), some (eI (v25)), some (eI (3))]) (s2 := [eI (v11), eI (v209), eI (7), eR a2]) rfl rfl rfl ?_
      refine w_t (np := 93) (l2 := [some (eR a0), some (eI (a1)), some (eR a2), some (eI (v1)), some (eI (v11)), some (eI (v25)), some (eI (3))]) (s2 := [eI (3), eI (v11), eI (v209), eI (7), eR a2]) rfl rfl rfl ?_
      refine w_cu (np := 96) (as := [eI (v11), eI (3)]) (l2 := [some (eI (v11)), some (eI (3))]) (rest := [eI (v209), eI (7), eR a2]) rfl rfl rfl (Nat.ble_eq.mp rfl) rfl rfl rfl rfl ?_
      refine s_218e (a0 := v11) (a1 := 3) I213 (by omega) (by decide) ?_
      intro v219 b220 h221
      show ex_q (dt_fg L ρ) rc (d + 2, (302, 96, [some (eR a0), some (eI (a1)), some (eR a2), some (eI (v1)), some (eI (v11)), some (eI (v25)), some (eI (3))], [eI (v219), eI (v209), eI (7), eR a2]), f :: F, m212)
      obtain ⟨v222, e223, b224⟩ : ∃ zz : Int, ev_w ((v209) + (v219)) = zz ∧ (-2147483648 ≤ zz ∧ zz ≤ 2147483647) := ⟨_, rfl, hw_bd _⟩
      refine w_t (np := 97) (l2 := [some (eR a0), some (eI (a1)), some (eR a2), some (eI (v1)), some (eI (v11)), some (eI (v25)), some (eI (3))]) (s2 := [eI (v222), eI (7), eR a2]) rfl (b_iadd e223) rfl ?_
      refine j_as (np := 98) rfl rfl I213 gA2 (by decide) (n := 16) rfl rfl (lo := -2147483648) (hi := 2147483647) (fun _ => rfl) (by decide) (by decide) (by omega) ?_
      intro m225 I226 W227
      have F228 : Fr l_302e 0 0 g μ m225 := F215.v W227 gA2 rfl rfl
      refine w_t (np := 99) (l2 := [some (eR a0), some (eI (a1)), some (eR a2), some (eI (v1)), some (eI (v11)), some (eI (v25)), some (eI (3))]) (s2 := [eR a2]) rfl (s_an rfl (pos_g I226 gA2 (by decide))) rfl ?_
      refine w_t (np := 101) (l2 := [some (eR a0), some (eI (a1)), some (eR a2), some (eI (v1)), some (eI (v11)), some (eI (v25)), some (eI (3))]) (s2 := [eI (12), eR a2]) rfl rfl rfl ?_
      refine w_t (np := 103) (l2 := [some (eR a0), some (eI (a1)), some (eR a2), some (eI (v1)), some (eI (v11)), some (eI (v25)), some (eI (3))]) (s2 := [eI (3), eI (12), eR a2]) rfl rfl rfl ?_
      refine w_t (np := 104) (l2 := [some (eR a0), some (eI (a1)), some (eR a2), some (eI (v1)), some (eI (v11)), some (eI (v25)), some (eI (3))]) (s2 := [eI (15), eR a2]) rfl (b_iadd rfl) rfl ?_
      refine w_t (np := 105) (l2 := [some (eR a0), some (eI (a1)), some (eR a2), some (eI (v1)), some (eI (v11)), some (eI (v25)), some (eI (3))]) (s2 := [eR a2, eI (15), eR a2]) rfl (s_an rfl (pos_g I226 gA2 (by decide))) rfl ?_
      refine w_t (np := 107) (l2 := [some (eR a0), some (eI (a1)), some (eR a2), some (eI (v1)), some (eI (v11)), some (eI (v25)), some (eI (3))]) (s2 := [eI (3), eR a2, eI (15), eR a2]) rfl rfl rfl ?_
      refine j_al (np := 108) rfl rfl I226 gA2 (by decide) (n := 16) rfl rfl (lo := -2147483648) (hi := 2147483647) (fun _ => rfl) (by decide) (by decide) ?_
      intro v229 e230 b231
      have e230 := e230.symm.trans (W227.slot W214.at (by decide))
      rw [e230]
      refine w_t (np := 110) (l2 := [some (eR a0), some (eI (a1)), some (eR a2), some (eI (v1)), some (eI (v11)), some (eI (v25)), some (eI (3))]) (s2 := [eI (v25), eI (v209), eI (15), eR a2]) rfl rfl rfl ?_
      refine w_t (np := 112) (l2 := [some (eR a0), some (eI (a1)), some (eR a2), some (eI (v1)), some (eI (v11)), some (eI (v25)), some (eI (3))]) (s2 := [eI (3), eI (v25), eI (v209), eI (15), eR a2]) rfl rfl rfl ?_
      refine w_cu (np := 115) (as := [eI (v25), eI (3)]) (l2 := [some (eI (v25)), some (eI (3))]) (rest := [eI (v209), eI (15), eR a2]) rfl rfl rfl (Nat.ble_eq.mp rfl) rfl rfl rfl rfl ?_
      refine s_218e (a0 := v25) (a1 := 3) I226 (by omega) (by decide) ?_
      intro v232 b233 h234
      show ex_q (dt_fg L ρ) rc (d + 2, (302, 115, [some (eR a0), some (eI (a1)), some (eR a2), some (eI (v1)), some (eI (v11)), some (eI (v25)), some (eI (3))], [eI (v232), eI (v209), eI (15), eR a2]), f :: F, m225)
      obtain ⟨v235, e236, b237⟩ : ∃ zz : Int, ev_w ((v209) + (v232)) = zz ∧ (-2147483648 ≤ zz ∧ zz ≤ 2147483647) := ⟨_, rfl, hw_bd _⟩
      refine w_t (np := 116) (l2 := [some (eR a0), some (eI (a1)), some (eR a2), some (eI (v1)), some (eI (v11)), some (eI (v25)), some (eI (3))]) (s2 := [eI (v235), eI (15), eR a2]) rfl (b_iadd e236) rfl ?_
      refine j_as (np := 117) rfl rfl I226 gA2 (by decide) (n := 16) rfl rfl (lo := -2147483648) (hi := 2147483647) (fun _ => rfl) (by decide) (by decide) (by omega) ?_
      intro m238 I239 W240
      have F241 : Fr l_302e 0 0 g μ m238 := F228.v W240 gA2 rfl rfl
      refine w_t (np := 118) (l2 := [some (eR a0), some (eI (a1)), some (eR a2), some (eI (v1)), some (eI (v11)), some (eI (v25)), some (eI (3))]) (s2 := [eR a2]) rfl (s_an rfl (pos_g I239 gA2 (by decide))) rfl ?_
      refine w_t (np := 120) (l2 := [some (eR a0), some (eI (a1)), some (eR a2), some (eI (v1)), some (eI (v11)), some (eI (v25)), some (eI (3))]) (s2 := [eI (8), eR a2]) rfl rfl rfl ?_
      refine w_t (np := 122) (l2 := [some (eR a0), some (eI (a1)), some (eR a2), some (eI (v1)), some (eI (v11)), some (eI (v25)), some (eI (3))]) (s2 := [eI (3), eI (8), eR a2]) rfl rfl rfl ?_
      refine w_t (np := 123) (l2 := [some (eR a0), some (eI (a1)), some (eR a2), some (eI (v1)), some (eI (v11)), some (eI (v25)), some (eI (3))]) (s2 := [eI (11), eR a2]) rfl (b_iadd rfl) rfl ?_
      refine w_t (np := 124) (l2 := [some (eR a0), some (eI (a1)), some (eR a2), some (eI (v1)), some (eI (v11)), some (eI (v25)), some (eI (3))]) (s2 := [eR a2, eI (11), eR a2]) rfl (s_an rfl (pos_g I239 gA2 (by decide))) rfl ?_
      refine w_t (np := 125) (l2 := [some (eR a0), some (eI (a1)), some (eR a2), some (eI (v1)), some (eI (v11)), some (eI (v25)), some (eI (3))]) (s2 := [eI (4), eR a2, eI (11), eR a2]) rfl rfl rfl ?_
      refine w_t (np := 127) (l2 := [some (eR a0), some (eI (a1)), some (eR a2), some (eI (v1)), some (eI (v11)), some (eI (v25)), some (eI (3))]) (s2 := [eI (3), eI (4), eR a2, eI (11), eR a2]) rfl rfl rfl ?_
      refine w_t (np := 128) (l2 := [some (eR a0), some (eI (a1)), some (eR a2), some (eI (v1)), some (eI (v11)), some (eI (v25)), some (eI (3))]) (s2 := [eI (7), eR a2, eI (11), eR a2]) rfl (b_iadd rfl) rfl ?_
      refine j_al (np := 129) rfl rfl I239 gA2 (by decide) (n := 16) rfl rfl (lo := -2147483648) (hi := 2147483647) (fun _ => rfl) (by decide) (by decide) ?_
      intro v242 e243 b244
      have e243 := e243.symm.trans (W240.slot W227.at (by decide))
      rw [e243]
      refine w_t (np := 130) (l2 := [some (eR a0), some (eI (a1)), some (eR a2), some (eI (v1)), some (eI (v11)), some (eI (v25)), some (eI (3))]) (s2 := [eR a2, eI (v222), eI (11), eR a2]) rfl (s_an rfl (pos_g I239 gA2 (by decide))) rfl ?_
      refine w_t (np := 132) (l2 := [some (eR a0), some (eI (a1)), some (eR a2), some (eI (v1)), some (eI (v11)), some (eI (v25)), some (eI (3))]) (s2 := [eI (12), eR a2, eI (v222), eI (11), eR a2]) rfl rfl rfl ?_
      refine w_t (np := 134) (l2 := [some (eR a0), some (eI (a1)), some (eR a2), some (eI (v1)), some (eI (v11)), some (eI (v25)), some (eI (3))]) (s2 := [eI (3), eI (12), eR a2, eI (v222), eI (11), eR a2]) rfl rfl rfl ?_
      refine w_t (np := 135) (l2 := [some (eR a0), some (eI (a1)), some (eR a2), some (eI (v1)), some (eI (v11)), some (eI (v25)), some (eI (3))]) (s2 := [eI (15), eR a2, eI (v222), eI (11), eR a2]) rfl (b_iadd rfl) rfl ?_
      refine j_al (np := 136) rfl rfl I239 gA2 (by decide) (n := 16) rfl rfl (lo := -2147483648) (hi := 2147483647) (fun _ => rfl) (by decide) (by decide) ?_
      intro v245 e246 b247
      have e246 := e246.symm.trans W240.at
      rw [e246]
      obtain ⟨v248, e249, b250⟩ : ∃ zz : Int, ev_w ((v222) + (v235)) = zz ∧ (-2147483648 ≤ zz ∧ zz ≤ 2147483647) := ⟨_, rfl, hw_bd _⟩
      refine w_t (np := 137) (l2 := [some (eR a0), some (eI (a1)), some (eR a2), some (eI (v1)), some (eI (v11)), some (eI (v25)), some (eI (3))]) (s2 := [eI (v248), eI (11), eR a2]) rfl (b_iadd e249) rfl ?_
      refine w_t (np := 138) (l2 := [some (eR a0), some (eI (a1)), some (eR a2), some (eI (v1)), some (eI (v11)), some (eI (v25)), some (eI (3))]) (s2 := [eR a2, eI (v248), eI (11), eR a2]) rfl (s_an rfl (pos_g I239 gA2 (by decide))) rfl ?_
      refine w_t (np := 140) (l2 := [some (eR a0), some (eI (a1)), some (eR a2), some (eI (v1)), some (eI (v11)), some (eI (v25)), some (eI (3))]) (s2 := [eI (3), eR a2, eI (v248), eI (11), eR a2]) rfl rfl rfl ?_
      refine j_al (np := 141) rfl rfl I239 gA2 (by decide) (n := 16) rfl rfl (lo := -2147483648) (hi := 2147483647) (fun _ => rfl) (by decide) (by decide) ?_
      intro v251 e252 b253
      have e252 := e252.symm.trans (W240.slot (W227.slot W214.at (by decide)) (by decide))
      rw [e252]
      obtain ⟨v254, e255, b256⟩ : ∃ zz : Int, ev_w ((v248) - (v209)) = zz ∧ (-2147483648 ≤ zz ∧ zz ≤ 2147483647) := ⟨_, rfl, hw_bd _⟩
      refine w_t (np := 142) (l2 := [some (eR a0), some (eI (a1)), some (eR a2), some (eI (v1)), some (eI (v11)), some (eI (v25)), some (eI (3))]) (s2 := [eI (v254), eI (11), eR a2]) rfl (b_isub e255) rfl ?_
      refine j_as (np := 143) rfl rfl I239 gA2 (by decide) (n := 16) rfl rfl (lo := -2147483648) (hi := 2147483647) (fun _ => rfl) (by decide) (by decide) (by omega) ?_
      intro m257 I258 W259
      have F260 : Fr l_302e 0 0 g μ m257 := F241.v W259 gA2 rfl rfl
      refine w_t (np := 146) (l2 := [some (eR a0), some (eI (a1)), some (eR a2), some (eI (v1)), some (eI (v11)), some (eI (v25)), some (eI (4))]) (s2 := []) rfl (b_iinc rfl rfl rfl) rfl ?_
      refine w_go (t1 := 59) rfl rfl ?_
      refine w_t (np := 61) (l2 := [some (eR a0), some (eI (a1)), some (eR a2), some (eI (v1)), some (eI (v11)), some (eI (v25)), some (eI (4))]) (s2 := [eI (4)]) rfl rfl rfl ?_
      refine w_t (np := 62) (l2 := [some (eR a0), some (eI (a1)), some (eR a2), some (eI (v1)), some (eI (v11)), some (eI (v25)), some (eI (4))]) (s2 := [eI (4), eI (4)]) rfl rfl rfl ?_
      refine b_cge (t1 := 149) (t2 := 65) rfl rfl rfl rfl rfl (fun g261 => ?_) (fun g261 => absurd g261 (by decide))
      exact v_rv rfl rfl (K m257 I258 F260 (CR.in I258 gA2 (CRr.mk (P := fun c => m257.1 a2 c) (d := v11) (e := v25) (fun _ _ => rfl) (fun c hc => match c, hc with | 0, _ => (by show m257.1 a2 4 = ev_w (m257.1 a2 0 + sS v11 0); rw [(show m257.1 a2 4 = v45 from (W259.slot (W240.slot (W227.slot (W214.slot (W200.slot (W181.slot (W168.slot (W155.slot (W141.slot (W122.slot (W109.slot (W96.slot (W82.slot (W63.slot W50.at (by decide)) (by decide)) (by decide)) (by decide)) (by decide)) (by decide)) (by decide)) (by decide)) (by decide)) (by decide)) (by decide)) (by decide)) (by decide)) (by decide))), (show m257.1 a2 0 = v32 from (W259.slot (W240.slot (W227.slot (W214.slot (W200.slot (W181.slot (W168.slot (W155.slot (W141.slot (W122.slot (W109.slot (W96.slot (W82.slot (W63.slot (W50.slot W37.at (by decide)) (by decide)) (by decide)) (by decide)) (by decide)) (by decide)) (by decide)) (by decide)) (by decide)) (by decide)) (by decide)) (by decide)) (by decide)) (by decide)) (by decide))), ← h44]; exact e46.symm) | 1, _ => (by show m257.1 a2 5 = ev_w (m257.1 a2 1 + sS v11 1); rw [(show m257.1 a2 5 = v104 from (W259.slot (W240.slot (W227.slot (W214.slot (W200.slot (W181.slot (W168.slot (W155.slot (W141.slot (W122.slot W109.at (by decide)) (by decide)) (by decide)) (by decide)) (by decide)) (by decide)) (by decide)) (by decide)) (by decide)) (by decide))), (show m257.1 a2 1 = v91 from (W259.slot (W240.slot (W227.slot (W214.slot (W200.slot (W181.slot (W168.slot (W155.slot (W141.slot (W122.slot (W109.slot W96.at (by decide)) (by decide)) (by decide)) (by decide)) (by decide)) (by decide)) (by decide)) (by decide)) (by decide)) (by decide)) (by decide))), ← h103]; exact e105.symm) | 2, _ => (by show m257.1 a2 6 = ev_w (m257.1 a2 2 + sS v11 2); rw [(show m257.1 a2 6 = v163 from (W259.slot (W240.slot (W227.slot (W214.slot (W200.slot (W181.slot W168.at (by decide)) (by decide)) (by decide)) (by decide)) (by decide)) (by decide))), (show m257.1 a2 2 = v150 from (W259.slot (W240.slot (W227.slot (W214.slot (W200.slot (W181.slot (W168.slot W155.at (by decide)) (by decide)) (by decide)) (by decide)) (by decide)) (by decide)) (by decide))), ← h162]; exact e164.symm) | 3, _ => (by show m257.1 a2 7 = ev_w (m257.1 a2 3 + sS v11 3); rw [(show m257.1 a2 7 = v222 from (W259.slot (W240.slot W227.at (by decide)) (by decide))), (show m257.1 a2 3 = v209 from (W259.slot (W240.slot (W227.slot W214.at (by decide)) (by decide)) (by decide))), ← h221]; exact e223.symm) | c + 4, h => absurd h (by omega)) (fun c hc => match c, hc with | 0, _ => (by show m257.1 a2 12 = ev_w (m257.1 a2 0 + sS v25 0); rw [(show m257.1 a2 12 = v58 from (W259.slot (W240.slot (W227.slot (W214.slot (W200.slot (W181.slot (W168.slot (W155.slot (W141.slot (W122.slot (W109.slot (W96.slot (W82.slot W63.at (by decide)) (by decide)) (by decide)) (by decide)) (by decide)) (by decide)) (by decide)) (by decide)) (by decide)) (by decide)) (by decide)) (by decide)) (by decide))), (show m257.1 a2 0 = v32 from (W259.slot (W240.slot (W227.slot (W214.slot (W200.slot (W181.slot (W168.slot (W155.slot (W141.slot (W122.slot (W109.slot (W96.slot (W82.slot (W63.slot (W50.slot W37.at (by decide)) (by decide)) (by decide)) (by decide)) (by decide)) (by decide)) (by decide)) (by decide)) (by decide)) (by decide)) (by decide)) (by decide)) (by decide)) (by decide)) (by decide))), ← h57]; exact e59.symm) | 1, _ => (by show m257.1 a2 13 = ev_w (m257.1 a2 1 + sS v25 1); rw [(show m257.1 a2 13 = v117 from (W259.slot (W240.slot (W227.slot (W214.slot (W200.slot (W181.slot (W168.slot (W155.slot (W141.slot W122.at (by decide)) (by decide)) (by decide)) (by decide)) (by decide)) (by decide)) (by decide)) (by decide)) (by decide))), (show m257.1 a2 1 = v91 from (W259.slot (W240.slot (W227.slot (W214.slot (W200.slot (W181.slot (W168.slot (W155.slot (W141.slot (W122.slot (W109.slot W96.at (by decide)) (by decide)) (by decide)) (by decide)) (by decide)) (by decide)) (by decide)) (by decide)) (by decide)) (by decide)) (by decide))), ← h116]; exact e118.symm) | 2, _ => (by show m257.1 a2 14 = ev_w (m257.1 a2 2 + sS v25 2); rw [(show m257.1 a2 14 = v176 from (W259.slot (W240.slot (W227.slot (W214.slot (W200.slot W181.at (by decide)) (by decide)) (by decide)) (by decide)) (by decide))), (show m257.1 a2 2 = v150 from (W259.slot (W240.slot (W227.slot (W214.slot (W200.slot (W181.slot (W168.slot W155.at (by decide)) (by decide)) (by decide)) (by decide)) (by decide)) (by decide)) (by decide))), ← h175]; exact e177.symm) | 3, _ => (by show m257.1 a2 15 = ev_w (m257.1 a2 3 + sS v25 3); rw [(show m257.1 a2 15 = v235 from (W259.slot W240.at (by decide))), (show m257.1 a2 3 = v209 from (W259.slot (W240.slot (W227.slot W214.at (by decide)) (by decide)) (by decide))), ← h234]; exact e236.symm) | c + 4, h => absurd h (by omega)) (fun c hc => match c, hc with | 0, _ => (by show m257.1 a2 8 = ev_w (ev_w (m257.1 a2 4 + m257.1 a2 12) - m257.1 a2 0); rw [(show m257.1 a2 8 = v77 from (W259.slot (W240.slot (W227.slot (W214.slot (W200.slot (W181.slot (W168.slot (W155.slot (W141.slot (W122.slot (W109.slot (W96.slot W82.at (by decide)) (by decide)) (by decide)) (by decide)) (by decide)) (by decide)) (by decide)) (by decide)) (by decide)) (by decide)) (by decide)) (by decide))), (show m257.1 a2 4 = v45 from (W259.slot (W240.slot (W227.slot (W214.slot (W200.slot (W181.slot (W168.slot (W155.slot (W141.slot (W122.slot (W109.slot (W96.slot (W82.slot (W63.slot W50.at (by decide)) (by decide)) (by decide)) (by decide)) (by decide)) (by decide)) (by decide)) (by decide)) (by decide)) (by decide)) (by decide)) (by decide)) (by decide)) (by decide))), (show m257.1 a2 12 = v58 from (W259.slot (W240.slot (W227.slot (W214.slot (W200.slot (W181.slot (W168.slot (W155.slot (W141.slot (W122.slot (W109.slot (W96.slot (W82.slot W63.at (by decide)) (by decide)) (by decide)) (by decide)) (by decide)) (by decide)) (by decide)) (by decide)) (by decide)) (by decide)) (by decide)) (by decide)) (by decide))), (show m257.1 a2 0 = v32 from (W259.slot (W240.slot (W227.slot (W214.slot (W200.slot (W181.slot (W168.slot (W155.slot (W141.slot (W122.slot (W109.slot (W96.slot (W82.slot (W63.slot (W50.slot W37.at (by decide)) (by decide)) (by decide)) (by decide)) (by decide)) (by decide)) (by decide)) (by decide)) (by decide)) (by decide)) (by decide)) (by decide)) (by decide)) (by decide)) (by decide))), e72]; exact e78.symm) | 1, _ => (by show m257.1 a2 9 = ev_w (ev_w (m257.1 a2 5 + m257.1 a2 13) - m257.1 a2 1); rw [(show m257.1 a2 9 = v136 from (W259.slot (W240.slot (W227.slot (W214.slot (W200.slot (W181.slot (W168.slot (W155.slot W141.at (by decide)) (by decide)) (by decide)) (by decide)) (by decide)) (by decide)) (by decide)) (by decide))), (show m257.1 a2 5 = v104 from (W259.slot (W240.slot (W227.slot (W214.slot (W200.slot (W181.slot (W168.slot (W155.slot (W141.slot (W122.slot W109.at (by decide)) (by decide)) (by decide)) (by decide)) (by decide)) (by decide)) (by decide)) (by decide)) (by decide)) (by decide))), (show m257.1 a2 13 = v117 from (W259.slot (W240.slot (W227.slot (W214.slot (W200.slot (W181.slot (W168.slot (W155.slot (W141.slot W122.at (by decide)) (by decide)) (by decide)) (by decide)) (by decide)) (by decide)) (by decide)) (by decide)) (by decide))), (show m257.1 a2 1 = v91 from (W259.slot (W240.slot (W227.slot (W214.slot (W200.slot (W181.slot (W168.slot (W155.slot (W141.slot (W122.slot (W109.slot W96.at (by decide)) (by decide)) (by decide)) (by decide)) (by decide)) (by decide)) (by decide)) (by decide)) (by decide)) (by decide)) (by decide))), e131]; exact e137.symm) | 2, _ => (by show m257.1 a2 10 = ev_w (ev_w (m257.1 a2 6 + m257.1 a2 14) - m257.1 a2 2); rw [(show m257.1 a2 10 = v195 from (W259.slot (W240.slot (W227.slot (W214.slot W200.at (by decide)) (by decide)) (by decide)) (by decide))), (show m257.1 a2 6 = v163 from (W259.slot (W240.slot (W227.slot (W214.slot (W200.slot (W181.slot W168.at (by decide)) (by decide)) (by decide)) (by decide)) (by decide)) (by decide))), (show m257.1 a2 14 = v176 from (W259.slot (W240.slot (W227.slot (W214.slot (W200.slot W181.at (by decide)) (by decide)) (by decide)) (by decide)) (by decide))), (show m257.1 a2 2 = v150 from (W259.slot (W240.slot (W227.slot (W214.slot (W200.slot (W181.slot (W168.slot W155.at (by decide)) (by decide)) (by decide)) (by decide)) (by decide)) (by decide)) (by decide))), e190]; exact e196.symm) | 3, _ => (by show m257.1 a2 11 = ev_w (ev_w (m257.1 a2 7 + m257.1 a2 15) - m257.1 a2 3); rw [(show m257.1 a2 11 = v254 from W259.at), (show m257.1 a2 7 = v222 from (W259.slot (W240.slot W227.at (by decide)) (by decide))), (show m257.1 a2 15 = v235 from (W259.slot W240.at (by decide))), (show m257.1 a2 3 = v209 from (W259.slot (W240.slot (W227.slot W214.at (by decide)) (by decide)) (by decide))), e249]; exact e255.symm) | c + 4, h => absurd h (by omega)))))
    · have b25 : 0 ≤ v21 ∧ v21 ≤ 0 := by omega
      refine w_t (np := 5) (l2 := [some (eI (v21))]) (s2 := [eI (1)]) rfl rfl rfl ?_
      refine w_go (t1 := 9) rfl rfl ?_
      refine b_ri rfl rfl ?_
      show ex_q (dt_fg L ρ) rc (d + 2, (302, 38, [some (eR a0), some (eI (a1)), some (eR a2), some (eI (v1)), some (eI (v11)), none, none], [eI (1), eI (v11)]), f :: F, μ)
      obtain ⟨v25, e26, b27⟩ : ∃ zz : Int, ev_w ((v11) + (1)) = zz ∧ (-2147483648 ≤ zz ∧ zz ≤ 2147483647) := ⟨_, rfl, hw_bd _⟩
      refine w_t (np := 39) (l2 := [some (eR a0), some (eI (a1)), some (eR a2), some (eI (v1)), some (eI (v11)), none, none]) (s2 := [eI (v25)]) rfl (b_iadd e26) rfl ?_
      refine w_go (t1 := 54) rfl rfl ?_
      refine w_t (np := 56) (l2 := [some (eR a0), some (eI (a1)), some (eR a2), some (eI (v1)), some (eI (v11)), some (eI (v25)), none]) (s2 := []) rfl rfl rfl ?_
      refine w_t (np := 57) (l2 := [some (eR a0), some (eI (a1)), some (eR a2), some (eI (v1)), some (eI (v11)), some (eI (v25)), none]) (s2 := [eI (0)]) rfl rfl rfl ?_
      refine w_t (np := 59) (l2 := [some (eR a0), some (eI (a1)), some (eR a2), some (eI (v1)), some (eI (v11)), some (eI (v25)), some (eI (0))]) (s2 := []) rfl rfl rfl ?_
      refine w_t (np := 61) (l2 := [some (eR a0), some (eI (a1)), some (eR a2), some (eI (v1)), some (eI (v11)), some (eI (v25)), some (eI (0))]) (s2 := [eI (0)]) rfl rfl rfl ?_
      refine w_t (np := 62) (l2 := [some (eR a0), some (eI (a1)), some (eR a2), some (eI (v1)), some (eI (v11)), some (eI (v25)), some (eI (0))]) (s2 := [eI (4), eI (0)]) rfl rfl rfl ?_
      refine b_cge (t1 := 149) (t2 := 65) rfl rfl rfl rfl rfl (fun g28 => absurd g28 (by decide)) (fun g28 => ?_)
      refine w_t (np := 66) (l2 := [some (eR a0), some (eI (a1)), some (eR a2), some (eI (v1)), some (eI (v11)), some (eI (v25)), some (eI (0))]) (s2 := [eR a2]) rfl (s_an rfl (pos_g hI gA2 (by decide))) rfl ?_
      refine w_t (np := 68) (l2 := [some (eR a0), some (eI (a1)), some (eR a2), some (eI (v1)), some (eI (v11)), some (eI (v25)), some (eI (0))]) (s2 := [eI (0), eR a2]) rfl rfl rfl ?_
      refine w_t (np := 69) (l2 := [some (eR a0), some (eI (a1)), some (eR a2), some (eI (v1)), some (eI (v11)), some (eI (v25)), some (eI (0))]) (s2 := [eR a0, eI (0), eR a2]) rfl (s_an rfl (pos_g hI gA0 (by decide))) rfl ?_
      refine w_gf (np := 72) (v := eR v4) rfl rfl (hI.kd gA0 (by decide) (n := 69) rfl) (by rw [e5]; rfl) ?_
      refine w_t (np := 73) (l2 := [some (eR a0), some (eI (a1)), some (eR a2), some (eI (v1)), some (eI (v11)), some (eI (v25)), some (eI (0))]) (s2 := [eI (v1), eR v4, eI (0), eR a2]) rfl rfl rfl ?_
      refine w_t (np := 74) (l2 := [some (eR a0), some (eI (a1)), some (eR a2), some (eI (v1)), some (eI (v11)), some (eI (v25)), some (eI (0))]) (s2 := [eI (1), eI (v1), eR v4, eI (0), eR a2]) rfl rfl rfl ?_
      obtain ⟨v29, e30⟩ : ∃ zz : Int, zz = (v1) + (1) := ⟨_, rfl⟩
      have b31 : 1 ≤ v29 ∧ v29 ≤ 162 := by omega
      refine w_t (np := 75) (l2 := [some (eR a0), some (eI (a1)), some (eR a2), some (eI (v1)), some (eI (v11)), some (eI (v25)), some (eI (0))]) (s2 := [eI (v29), eR v4, eI (0), eR a2]) rfl (b_iadd (by rw [← e30]; exact ev_w_in (by omega) (by omega))) rfl ?_
      refine w_t (np := 77) (l2 := [some (eR a0), some (eI (a1)), some (eR a2), some (eI (v1)), some (eI (v11)), some (eI (v25)), some (eI (0))]) (s2 := [eI (0), eI (v29), eR v4, eI (0), eR a2]) rfl rfl rfl ?_
      refine w_t (np := 78) (l2 := [some (eR a0), some (eI (a1)), some (eR a2), some (eI (v1)), some (eI (v11)), some (eI (v25)), some (eI (0))]) (s2 := [eI (v29), eR v4, eI (0), eR a2]) rfl (b_iadd (by rw [Int.add_zero]; exact ev_w_in (by omega) (by omega))) rfl ?_
      refine j_al (np := 79) rfl rfl hI b6 (by decide) (n := 168) rfl rfl (lo := -2147483648) (hi := 2147483647) (fun _ => rfl) (by omega) (by omega) ?_
      intro v32 e33 b34
      refine j_as (np := 80) rfl rfl hI gA2 (by decide) (n := 16) rfl rfl (lo := -2147483648) (hi := 2147483647) (fun _ => rfl) (by decide) (by decide) (by omega) ?_
      intro m35 I36 W37
      have F38 : Fr l_302e 0 0 g μ m35 := F0.v W37 gA2 rfl rfl
      refine w_t (np := 81) (l2 := [some (eR a0), some (eI (a1)), some (eR a2), some (eI (v1)), some (eI (v11)), some (eI (v25)), some (eI (0))]) (s2 := [eR a2]) rfl (s_an rfl (pos_g I36 gA2 (by decide))) rfl ?_
      refine w_t (np := 82) (l2 := [some (eR a0), some (eI (a1)), some (eR a2), some (eI (v1)), some (eI (v11)), some (eI (v25)), some (eI (0))]) (s2 := [eI (4), eR a2]) rfl rfl rfl ?_
      refine w_t (np := 84) (l2 := [some (eR a0), some (eI (a1)), some (eR a2), some (eI (v1)), some (eI (v11)), some (eI (v25)), some (eI (0))]) (s2 := [eI (0), eI (4), eR a2]) rfl rfl rfl ?_
      refine w_t (np := 85) (l2 := [some (eR a0), some (eI (a1)), some (eR a2), some (eI (v1)), some (eI (v11)), some (eI (v25)), some (eI (0))]) (s2 := [eI (4), eR a2]) rfl (b_iadd rfl) rfl ?_
      refine w_t (np := 86) (l2 := [some (eR a0), some (eI (a1)), some (eR a2), some (eI (v1)), some (eI (v11)), some (eI (v25)), some (eI (0))]) (s2 := [eR a2, eI (4), eR a2]) rfl (s_an rfl (pos_g I36 gA2 (by decide))) rfl ?_
      refine w_t (np := 88) (l2 := [some (eR a0), some (eI (a1)), some (eR a2), some (eI (v1)), some (eI (v11)), some (eI (v25)), some (eI (0))]) (s2 := [eI (0), eR a2, eI (4), eR a2]) rfl rfl rfl ?_
      refine j_al (np := 89) rfl rfl I36 gA2 (by decide) (n := 16) rfl rfl (lo := -2147483648) (hi := 2147483647) (fun _ => rfl) (by decide) (by decide) ?_
      intro v39 e40 b41
      have e40 := e40.symm.trans W37.at
      rw [e40]
      refine w_t (np := 91) (l2 := [some (eR a0), some (eI (a1)), some (eR a2), some (eI (v1)), some (eI (v11)), some (eI (v25)), some (eI (0))]) (s2 := [eI (v11), eI (v32), eI (4), eR a2]) rfl rfl rfl ?_
      refine w_t (np := 93) (l2 := [some (eR a0), some (eI (a1)), some (eR a2), some (eI (v1)), some (eI (v11)), some (eI (v25)), some (eI (0))]) (s2 := [eI (0), eI (v11), eI (v32), eI (4), eR a2]) rfl rfl rfl ?_
      refine w_cu (np := 96) (as := [eI (v11), eI (0)]) (l2 := [some (eI (v11)), some (eI (0))]) (rest := [eI (v32), eI (4), eR a2]) rfl rfl rfl (Nat.ble_eq.mp rfl) rfl rfl rfl rfl ?_
      refine s_218e (a0 := v11) (a1 := 0) I36 (by omega) (by decide) ?_
      intro v42 b43 h44
      show ex_q (dt_fg L ρ) rc (d + 2, (302, 96, [some (eR a0), some (eI (a1)), some (eR a2), some (eI (v1)), some (eI (v11)), some (eI (v25)), some (eI (0))], [eI (v42), eI (v32), eI (4), eR a2]), f :: F, m35)
      obtain ⟨v45, e46, b47⟩ : ∃ zz : Int, ev_w ((v32) + (v42)) = zz ∧ (-2147483648 ≤ zz ∧ zz ≤ 2147483647) := ⟨_, rfl, hw_bd _⟩
      refine w_t (np := 97) (l2 := [some (eR a0), some (eI (a1)), some (eR a2), some (eI (v1)), some (eI (v11)), some (eI (v25)), some (eI (0))]) (s2 := [eI (v45), eI (4), eR a2]) rfl (b_iadd e46) rfl ?_
      refine j_as (np := 98) rfl rfl I36 gA2 (by decide) (n := 16) rfl rfl (lo := -2147483648) (hi := 2147483647) (fun _ => rfl) (by decide) (by decide) (by omega) ?_
      intro m48 I49 W50
      have F51 : Fr l_302e 0 0 g μ m48 := F38.v W50 gA2 rfl rfl
      refine w_t (np := 99) (l2 := [some (eR a0), some (eI (a1)), some (eR a2), some (eI (v1)), some (eI (v11)), some (eI (v25)), some (eI (0))]) (s2 := [eR a2]) rfl (s_an rfl (pos_g I49 gA2 (by decide))) rfl ?_
      refine w_t (np := 101) (l2 := [some (eR a0), some (eI (a1)), some (eR a2), some (eI (v1)), some (eI (v11)), some (eI (v25)), some (eI (0))]) (s2 := [eI (12), eR a2]) rfl rfl rfl ?_
      refine w_t (np := 103) (l2 := [some (eR a0), some (eI (a1)), some (eR a2), some (eI (v1)), some (eI (v11)), some (eI (v25)), some (eI (0))]) (s2 := [eI (0), eI (12), eR a2]) rfl rfl rfl ?_
      refine w_t (np := 104) (l2 := [some (eR a0), some (eI (a1)), some (eR a2), some (eI (v1)), some (eI (v11)), some (eI (v25)), some (eI (0))]) (s2 := [eI (12), eR a2]) rfl (b_iadd rfl) rfl ?_
      refine w_t (np := 105) (l2 := [some (eR a0), some (eI (a1)), some (eR a2), some (eI (v1)), some (eI (v11)), some (eI (v25)), some (eI (0))]) (s2 := [eR a2, eI (12), eR a2]) rfl (s_an rfl (pos_g I49 gA2 (by decide))) rfl ?_
      refine w_t (np := 107) (l2 := [some (eR a0), some (eI (a1)), some (eR a2), some (eI (v1)), some (eI (v11)), some (eI (v25)), some (eI (0))]) (s2 := [eI (0), eR a2, eI (12), eR a2]) rfl rfl rfl ?_
      refine j_al (np := 108) rfl rfl I49 gA2 (by decide) (n := 16) rfl rfl (lo := -2147483648) (hi := 2147483647) (fun _ => rfl) (by decide) (by decide) ?_
      intro v52 e53 b54
      have e53 := e53.symm.trans (W50.slot W37.at (by decide))
      rw [e53]
      refine w_t (np := 110) (l2 := [some (eR a0), some (eI (a1)), some (eR a2), some (eI (v1)), some (eI (v11)), some (eI (v25)), some (eI (0))]) (s2 := [eI (v25), eI (v32), eI (12), eR a2]) rfl rfl rfl ?_
      refine w_t (np := 112) (l2 := [some (eR a0), some (eI (a1)), some (eR a2), some (eI (v1)), some (eI (v11)), some (eI (v25)), some (eI (0))]) (s2 := [eI (0), eI (v25), eI (v32), eI (12), eR a2]) rfl rfl rfl ?_
      refine w_cu (np := 115) (as := [eI (v25), eI (0)]) (l2 := [some (eI (v25)), some (eI (0))]) (rest := [eI (v32), eI (12), eR a2]) rfl rfl rfl (Nat.ble_eq.mp rfl) rfl rfl rfl rfl ?_
      refine s_218e (a0 := v25) (a1 := 0) I49 (by omega) (by decide) ?_
      intro v55 b56 h57
      show ex_q (dt_fg L ρ) rc (d + 2, (302, 115, [some (eR a0), some (eI (a1)), some (eR a2), some (eI (v1)), some (eI (v11)), some (eI (v25)), some (eI (0))], [eI (v55), eI (v32), eI (12), eR a2]), f :: F, m48)
      obtain ⟨v58, e59, b60⟩ : ∃ zz : Int, ev_w ((v32) + (v55)) = zz ∧ (-2147483648 ≤ zz ∧ zz ≤ 2147483647) := ⟨_, rfl, hw_bd _⟩
      refine w_t (np := 116) (l2 := [some (eR a0), some (eI (a1)), some (eR a2), some (eI (v1)), some (eI (v11)), some (eI (v25)), some (eI (0))]) (s2 := [eI (v58), eI (12), eR a2]) rfl (b_iadd e59) rfl ?_
      refine j_as (np := 117) rfl rfl I49 gA2 (by decide) (n := 16) rfl rfl (lo := -2147483648) (hi := 2147483647) (fun _ => rfl) (by decide) (by decide) (by omega) ?_
      intro m61 I62 W63
      have F64 : Fr l_302e 0 0 g μ m61 := F51.v W63 gA2 rfl rfl
      refine w_t (np := 118) (l2 := [some (eR a0), some (eI (a1)), some (eR a2), some (eI (v1)), some (eI (v11)), some (eI (v25)), some (eI (0))]) (s2 := [eR a2]) rfl (s_an rfl (pos_g I62 gA2 (by decide))) rfl ?_
      refine w_t (np := 120) (l2 := [some (eR a0), some (eI (a1)), some (eR a2), some (eI (v1)), some (eI (v11)), some (eI (v25)), some (eI (0))]) (s2 := [eI (8), eR a2]) rfl rfl rfl ?_
      refine w_t (np := 122) (l2 := [some (eR a0), some (eI (a1)), some (eR a2), some (eI (v1)), some (eI (v11)), some (eI (v25)), some (eI (0))]) (s2 := [eI (0), eI (8), eR a2]) rfl rfl rfl ?_
      refine w_t (np := 123) (l2 := [some (eR a0), some (eI (a1)), some (eR a2), some (eI (v1)), some (eI (v11)), some (eI (v25)), some (eI (0))]) (s2 := [eI (8), eR a2]) rfl (b_iadd rfl) rfl ?_
      refine w_t (np := 124) (l2 := [some (eR a0), some (eI (a1)), some (eR a2), some (eI (v1)), some (eI (v11)), some (eI (v25)), some (eI (0))]) (s2 := [eR a2, eI (8), eR a2]) rfl (s_an rfl (pos_g I62 gA2 (by decide))) rfl ?_
      refine w_t (np := 125) (l2 := [some (eR a0), some (eI (a1)), some (eR a2), some (eI (v1)), some (eI (v11)), some (eI (v25)), some (eI (0))]) (s2 := [eI (4), eR a2, eI (8), eR a2]) rfl rfl rfl ?_
      refine w_t (np := 127) (l2 := [some (eR a0), some (eI (a1)), some (eR a2), some (eI (v1)), some (eI (v11)), some (eI (v25)), some (eI (0))]) (s2 := [eI (0), eI (4), eR a2, eI (8), eR a2]) rfl rfl rfl ?_
      refine w_t (np := 128) (l2 := [some (eR a0), some (eI (a1)), some (eR a2), some (eI (v1)), some (eI (v11)), some (eI (v25)), some (eI (0))]) (s2 := [eI (4), eR a2, eI (8), eR a2]) rfl (b_iadd rfl) rfl ?_
      refine j_al (np := 129) rfl rfl I62 gA2 (by decide) (n := 16) rfl rfl (lo := -2147483648) (hi := 2147483647) (fun _ => rfl) (by decide) (by decide) ?_
      intro v65 e66 b67
      have e66 := e66.symm.trans (W63.slot W50.at (by decide))
      rw [e66]
      refine w_t (np := 130) (l2 := [some (eR a0), some (eI (a1)), some (eR a2), some (eI (v1)), some (eI (v11)), some (eI (v25)), some (eI (0))]) (s2 := [eR a2, eI (v45), eI (8), eR a2]) rfl (s_an rfl (pos_g I62 gA2 (by decide))) rfl ?_
      refine w_t (np := 132) (l2 := [some (eR a0), some (eI (a1)), some (eR a2), some (eI (v1)), some (eI (v11)), some (eI (v25)), some (eI (0))]) (s2 := [eI (12), eR a2, eI (v45), eI (8), eR a2]) rfl rfl rfl ?_
      refine w_t (np := 134) (l2 := [some (eR a0), some (eI (a1)), some (eR a2), some (eI (v1)), some (eI (v11)), some (eI (v25)), some (eI (0))]) (s2 := [eI (0), eI (12), eR a2, eI (v45), eI (8), eR a2]) rfl rfl rfl ?_
      refine w_t (np := 135) (l2 := [some (eR a0), some (eI (a1)), some (eR a2), some (eI (v1)), some (eI (v11)), some (eI (v25)), some (eI (0))]) (s2 := [eI (12), eR a2, eI (v45), eI (8), eR a2]) rfl (b_iadd rfl) rfl ?_
      refine j_al (np := 136) rfl rfl I62 gA2 (by decide) (n := 16) rfl rfl (lo := -2147483648) (hi := 2147483647) (fun _ => rfl) (by decide) (by decide) ?_
      intro v68 e69 b70
      have e69 := e69.symm.trans W63.at
      rw [e69]
      obtain ⟨v71, e72, b73⟩ : ∃ zz : Int, ev_w ((v45) + (v58)) = zz ∧ (-2147483648 ≤ zz ∧ zz ≤ 2147483647) := ⟨_, rfl, hw_bd _⟩
      refine w_t (np := 137) (l2 := [some (eR a0), some (eI (a1)), some (eR a2), some (eI (v1)), some (eI (v11)), some (eI (v25)), some (eI (0))]) (s2 := [eI (v71), eI (8), eR a2]) rfl (b_iadd e72) rfl ?_
      refine w_t (np := 138) (l2 := [some (eR a0), some (eI (a1)), some (eR a2), some (eI (v1)), some (eI (v11)), some (eI (v25)), some (eI (0))]) (s2 := [eR a2, eI (v71), eI (8), eR a2]) rfl (s_an rfl (pos_g I62 gA2 (by decide))) rfl ?_
      refine w_t (np := 140) (l2 := [some (eR a0), some (eI (a1)), some (eR a2), some (eI (v1)), some (eI (v11)), some (eI (v25)), some (eI (0))]) (s2 := [eI (0), eR a2, eI (v71), eI (8), eR a2]) rfl rfl rfl ?_
      refine j_al (np := 141) rfl rfl I62 gA2 (by decide) (n := 16) rfl rfl (lo := -2147483648) (hi := 2147483647) (fun _ => rfl) (by decide) (by decide) ?_
      intro v74 e75 b76
      have e75 := e75.symm.trans (W63.slot (W50.slot W37.at (by decide)) (by decide))
      rw [e75]
      obtain ⟨v77, e78, b79⟩ : ∃ zz : Int, ev_w ((v71) - (v32)) = zz ∧ (-2147483648 ≤ zz ∧ zz ≤ 2147483647) := ⟨_, rfl, hw_bd _⟩
      refine w_t (np := 142) (l2 := [some (eR a0), some (eI (a1)), some (eR a2), some (eI (v1)), some (eI (v11)), some (eI (v25)), some (eI (0))]) (s2 := [eI (v77), eI (8), eR a2]) rfl (b_isub e78) rfl ?_
      refine j_as (np := 143) rfl rfl I62 gA2 (by decide) (n := 16) rfl rfl (lo := -2147483648) (hi := 2147483647) (fun _ => rfl) (by decide) (by decide) (by omega) ?_
      intro m80 I81 W82
      have F83 : Fr l_302e 0 0 g μ m80 := F64.v W82 gA2 rfl rfl
      refine w_t (np := 146) (l2 := [some (eR a0), some (eI (a1)), some (eR a2), some (eI (v1)), some (eI (v11)), some (eI (v25)), some (eI (1))]) (s2 := []) rfl (b_iinc rfl rfl rfl) rfl ?_
      refine w_go (t1 := 59) rfl rfl ?_
      refine w_t (np := 61) (l2 := [some (eR a0), some (eI (a1)), some (eR a2), some (eI (v1)), some (eI (v11)), some (eI (v25)), some (eI (1))]) (s2 := [eI (1)]) rfl rfl rfl ?_
      refine w_t (np := 62) (l2 := [some (eR a0), some (eI (a1)), some (eR a2), some (eI (v1)), some (eI (v11)), some (eI (v25)), some (eI (1))]) (s2 := [eI (4), eI (1)]) rfl rfl rfl ?_
      refine b_cge (t1 := 149) (t2 := 65) rfl rfl rfl rfl rfl (fun g84 => absurd g84 (by decide)) (fun g84 => ?_)
      refine w_t (np := 66) (l2 := [some (eR a0), some (eI (a1)), some (eR a2), some (eI (v1)), some (eI (v11)), some (eI (v25)), some (eI (1))]) (s2 := [eR a2]) rfl (s_an rfl (pos_g I81 gA2 (by decide))) rfl ?_
      refine w_t (np := 68) (l2 := [some (eR a0), some (eI (a1)), some (eR a2), some (eI (v1)), some (eI (v11)), some (eI (v25)), some (eI (1))]) (s2 := [eI (1), eR a2]) rfl rfl rfl ?_
      refine w_t (np := 69) (l2 := [some (eR a0), some (eI (a1)), some (eR a2), some (eI (v1)), some (eI (v11)), some (eI (v25)), some (eI (1))]) (s2 := [eR a0, eI (1), eR a2]) rfl (s_an rfl (pos_g I81 gA0 (by decide))) rfl ?_
      refine w_gf (np := 72) (v := eR v4) rfl rfl (I81.kd gA0 (by decide) (n := 69) rfl) (by rw [(W82.addr (W63.addr (W50.addr (W37.addr e5 gA2 gA0 (by decide)) gA2 gA0 (by decide)) gA2 gA0 (by decide)) gA2 gA0 (by decide))]; rfl) ?_
      refine w_t (np := 73) (l2 := [some (eR a0), some (eI (a1)), some (eR a2), some (eI (v1)), some (eI (v11)), some (eI (v25)), some (eI (1))]) (s2 := [eI (v1), eR v4, eI (1), eR a2]) rfl rfl rfl ?_
      refine w_t (np := 74) (l2 := [some (eR a0), some (eI (a1)), some (eR a2), some (eI (v1)), some (eI (v11)), some (eI (v25)), some (eI (1))]) (s2 := [eI (1), eI (v1), eR v4, eI (1), eR a2]) rfl rfl rfl ?_
      obtain ⟨v85, e86⟩ : ∃ zz : Int, zz = (v1) + (1) := ⟨_, rfl⟩
      have b87 : 1 ≤ v85 ∧ v85 ≤ 162 := by omega
      refine w_t (np := 75) (l2 := [some (eR a0), some (eI (a1)), some (eR a2), some (eI (v1)), some (eI (v11)), some (eI (v25)), some (eI (1))]) (s2 := [eI (v85), eR v4, eI (1), eR a2]) rfl (b_iadd (by rw [← e86]; exact ev_w_in (by omega) (by omega))) rfl ?_
      refine w_t (np := 77) (l2 := [some (eR a0), some (eI (a1)), some (eR a2), some (eI (v1)), some (eI (v11)), some (eI (v25)), some (eI (1))]) (s2 := [eI (1), eI (v85), eR v4, eI (1), eR a2]) rfl rfl rfl ?_
      obtain ⟨v88, e89⟩ : ∃ zz : Int, zz = (v85) + (1) := ⟨_, rfl⟩
      have b90 : 2 ≤ v88 ∧ v88 ≤ 163 := by omega
      refine w_t (np := 78) (l2 := [some (eR a0), some (eI (a1)), some (eR a2), some (eI (v1)), some (eI (v11)), some (eI (v25)), some (eI (1))]) (s2 := [eI (v88), eR v4, eI (1), eR a2]) rfl (b_iadd (by rw [← e89]; exact ev_w_in (by omega) (by omega))) rfl ?_
      refine j_al (np := 79) rfl rfl I81 b6 (by decide) (n := 168) rfl rfl (lo := -2147483648) (hi := 2147483647) (fun _ => rfl) (by omega) (by omega) ?_
      intro v91 e92 b93
      refine j_as (np := 80) rfl rfl I81 gA2 (by decide) (n := 16) rfl rfl (lo := -2147483648) (hi := 2147483647) (fun _ => rfl) (by decide) (by decide) (by omega) ?_
      intro m94 I95 W96
      have F97 : Fr l_302e 0 0 g μ m94 := F83.v W96 gA2 rfl rfl
      refine w_t (np := 81) (l2 := [some (eR a0), some (eI (a1)), some (eR a2), some (eI (v1)), some (eI (v11)), some (eI (v25)), some (eI (1))]) (s2 := [eR a2]) rfl (s_an rfl (pos_g I95 gA2 (by decide))) rfl ?_
      refine w_t (np := 82) (l2 := [some (eR a0), some (eI (a1)), some (eR a2), some (eI (v1)), some (eI (v11)), some (eI (v25)), some (eI (1))]) (s2 := [eI (4), eR a2]) rfl rfl rfl ?_
      refine w_t (np := 84) (l2 := [some (eR a0), some (eI (a1)), some (eR a2), some (eI (v1)), some (eI (v11)), some (eI (v25)), some (eI (1))]) (s2 := [eI (1), eI (4), eR a2]) rfl rfl rfl ?_
      refine w_t (np := 85) (l2 := [some (eR a0), some (eI (a1)), some (eR a2), some (eI (v1)), some (eI (v11)), some (eI (v25)), some (eI (1))]) (s2 := [eI (5), eR a2]) rfl (b_iadd rfl) rfl ?_
      refine w_t (np := 86) (l2 := [some (eR a0), some (eI (a1)), some (eR a2), some (eI (v1)), some (eI (v11)), some (eI (v25)), some (eI (1))]) (s2 := [eR a2, eI (5), eR a2]) rfl (s_an rfl (pos_g I95 gA2 (by decide))) rfl ?_
      refine w_t (np := 88) (l2 := [some (eR a0), some (eI (a1)), some (eR a2), some (eI (v1)), some (eI (v11)), some (eI (v25)), some (eI (1))]) (s2 := [eI (1), eR a2, eI (5), eR a2]) rfl rfl rfl ?_
      refine j_al (np := 89) rfl rfl I95 gA2 (by decide) (n := 16) rfl rfl (lo := -2147483648) (hi := 2147483647) (fun _ => rfl) (by decide) (by decide) ?_
      intro v98 e99 b100
      have e99 := e99.symm.trans W96.at
      rw [e99]
      refine w_t (np := 91) (l2 := [some (eR a0), some (eI (a1)), some (eR a2), some (eI (v1)), some (eI (v11)), some (eI (v25)), some (eI (1))]) (s2 := [eI (v11), eI (v91), eI (5), eR a2]) rfl rfl rfl ?_
      refine w_t (np := 93) (l2 := [some (eR a0), some (eI (a1)), some (eR a2), some (eI (v1)), some (eI (v11)), some (eI (v25)), some (eI (1))]) (s2 := [eI (1), eI (v11), eI (v91), eI (5), eR a2]) rfl rfl rfl ?_
      refine w_cu (np := 96) (as := [eI (v11), eI (1)]) (l2 := [some (eI (v11)), some (eI (1))]) (rest := [eI (v91), eI (5), eR a2]) rfl rfl rfl (Nat.ble_eq.mp rfl) rfl rfl rfl rfl ?_
      refine s_218e (a0 := v11) (a1 := 1) I95 (by omega) (by decide) ?_
      intro v101 b102 h103
      show ex_q (dt_fg L ρ) rc (d + 2, (302, 96, [some (eR a0), some (eI (a1)), some (eR a2), some (eI (v1)), some (eI (v11)), some (eI (v25)), some (eI (1))], [eI (v101), eI (v91), eI (5), eR a2]), f :: F, m94)
      obtain ⟨v104, e105, b106⟩ : ∃ zz : Int, ev_w ((v91) + (v101)) = zz ∧ (-2147483648 ≤ zz ∧ zz ≤ 2147483647) := ⟨_, rfl, hw_bd _⟩
      refine w_t (np := 97) (l2 := [some (eR a0), some (eI (a1)), some (eR a2), some (eI (v1)), some (eI (v11)), some (eI (v25)), some (eI (1))]) (s2 := [eI (v104), eI (5), eR a2]) rfl (b_iadd e105) rfl ?_
      refine j_as (np := 98) rfl rfl I95 gA2 (by decide) (n := 16) rfl rfl (lo := -2147483648) (hi := 2147483647) (fun _ => rfl) (by decide) (by decide) (by omega) ?_
      intro m107 I108 W109
      have F110 : Fr l_302e 0 0 g μ m107 := F97.v W109 gA2 rfl rfl
      refine w_t (np := 99) (l2 := [some (eR a0), some (eI (a1)), some (eR a2), some (eI (v1)), some (eI (v11)), some (eI (v25)), some (eI (1))]) (s2 := [eR a2]) rfl (s_an rfl (pos_g I108 gA2 (by decide))) rfl ?_
      refine w_t (np := 101) (l2 := [some (eR a0), some (eI (a1)), some (eR a2), some (eI (v1)), some (eI (v11)), some (eI (v25)), some (eI (1))]) (s2 := [eI (12), eR a2]) rfl rfl rfl ?_
      refine w_t (np := 103) (l2 := [some (eR a0), some (eI (a1)), some (eR a2), some (eI (v1)), some (eI (v11)), some (eI (v25)), some (eI (1))]) (s2 := [eI (1), eI (12), eR a2]) rfl rfl rfl ?_
      refine w_t (np := 104) (l2 := [some (eR a0), some (eI (a1)), some (eR a2), some (eI (v1)), some (eI (v11)), some (eI (v25)), some (eI (1))]) (s2 := [eI (13), eR a2]) rfl (b_iadd rfl) rfl ?_
      refine w_t (np := 105) (l2 := [some (eR a0), some (eI (a1)), some (eR a2), some (eI (v1)), some (eI (v11)), some (eI (v25)), some (eI (1))]) (s2 := [eR a2, eI (13), eR a2]) rfl (s_an rfl (pos_g I108 gA2 (by decide))) rfl ?_
      refine w_t (np := 107) (l2 := [some (eR a0), some (eI (a1)), some (eR a2), some (eI (v1)), some (eI (v11)), some (eI (v25)), some (eI (1))]) (s2 := [eI (1), eR a2, eI (13), eR a2]) rfl rfl rfl ?_
      refine j_al (np := 108) rfl rfl I108 gA2 (by decide) (n := 16) rfl rfl (lo := -2147483648) (hi := 2147483647) (fun _ => rfl) (by decide) (by decide) ?_
      intro v111 e112 b113
      have e112 := e112.symm.trans (W109.slot W96.at (by decide))
      rw [e112]
      refine w_t (np := 110) (l2 := [some (eR a0), some (eI (a1)), some (eR a2), some (eI (v1)), some (eI (v11)), some (eI (v25)), some (eI (1))]) (s2 := [eI (v25), eI (v91), eI (13), eR a2]) rfl rfl rfl ?_
      refine w_t (np := 112) (l2 := [some (eR a0), some (eI (a1)), some (eR a2), some (eI (v1)), some (eI (v11)), some (eI (v25)), some (eI (1))]) (s2 := [eI (1), eI (v25), eI (v91), eI (13), eR a2]) rfl rfl rfl ?_
      refine w_cu (np := 115) (as := [eI (v25), eI (1)]) (l2 := [some (eI (v25)), some (eI (1))]) (rest := [eI (v91), eI (13), eR a2]) rfl rfl rfl (Nat.ble_eq.mp rfl) rfl rfl rfl rfl ?_
      refine s_218e (a0 := v25) (a1 := 1) I108 (by omega) (by decide) ?_
      intro v114 b115 h116
      show ex_q (dt_fg L ρ) rc (d + 2, (302, 115, [some (eR a0), some (eI (a1)), some (eR a2), some (eI (v1)), some (eI (v11)), some (eI (v25)), some (eI (1))], [eI (v114), eI (v91), eI (13), eR a2]), f :: F, m107)
      obtain ⟨v117, e118, b119⟩ : ∃ zz : Int, ev_w ((v91) + (v114)) = zz ∧ (-2147483648 ≤ zz ∧ zz ≤ 2147483647) := ⟨_, rfl, hw_bd _⟩
      refine w_t (np := 116) (l2 := [some (eR a0), some (eI (a1)), some (eR a2), some (eI (v1)), some (eI (v11)), some (eI (v25)), some (eI (1))]) (s2 := [eI (v117), eI (13), eR a2]) rfl (b_iadd e118) rfl ?_
      refine j_as (np := 117) rfl rfl I108 gA2 (by decide) (n := 16) rfl rfl (lo := -2147483648) (hi := 2147483647) (fun _ => rfl) (by decide) (by decide) (by omega) ?_
      intro m120 I121 W122
      have F123 : Fr l_302e 0 0 g μ m120 := F110.v W122 gA2 rfl rfl
      refine w_t (np := 118) (l2 := [some (eR a0), some (eI (a1)), some (eR a2), some (eI (v1)), some (eI (v11)), some (eI (v25)), some (eI (1))]) (s2 := [eR a2]) rfl (s_an rfl (pos_g I121 gA2 (by decide))) rfl ?_
      refine w_t (np := 120) (l2 := [some (eR a0), some (eI (a1)), some (eR a2), some (eI (v1)), some (eI (v11)), some (eI (v25)), some (eI (1))]) (s2 := [eI (8), eR a2]) rfl rfl rfl ?_
      refine w_t (np := 122) (l2 := [some (eR a0), some (eI (a1)), some (eR a2), some (eI (v1)), some (eI (v11)), some (eI (v25)), some (eI (1))]) (s2 := [eI (1), eI (8), eR a2]) rfl rfl rfl ?_
      refine w_t (np := 123) (l2 := [some (eR a0), some (eI (a1)), some (eR a2), some (eI (v1)), some (eI (v11)), some (eI (v25)), some (eI (1))]) (s2 := [eI (9), eR a2]) rfl (b_iadd rfl) rfl ?_
      refine w_t (np := 124) (l2 := [some (eR a0), some (eI (a1)), some (eR a2), some (eI (v1)), some (eI (v11)), some (eI (v25)), some (eI (1))]) (s2 := [eR a2, eI (9), eR a2]) rfl (s_an rfl (pos_g I121 gA2 (by decide))) rfl ?_
      refine w_t (np := 125) (l2 := [some (eR a0), some (eI (a1)), some (eR a2), some (eI (v1)), some (eI (v11)), some (eI (v25)), some (eI (1))]) (s2 := [eI (4), eR a2, eI (9), eR a2]) rfl rfl rfl ?_
      refine w_t (np := 127) (l2 := [some (eR a0), some (eI (a1)), some (eR a2), some (eI (v1)), some (eI (v11)), some (eI (v25)), some (eI (1))]) (s2 := [eI (1), eI (4), eR a2, eI (9), eR a2]) rfl rfl rfl ?_
      refine w_t (np := 128) (l2 := [some (eR a0), some (eI (a1)), some (eR a2), some (eI (v1)), some (eI (v11)), some (eI (v25)), some (eI (1))]) (s2 := [eI (5), eR a2, eI (9), eR a2]) rfl (b_iadd rfl) rfl ?_
      refine j_al (np := 129) rfl rfl I121 gA2 (by decide) (n := 16) rfl rfl (lo := -2147483648) (hi := 2147483647) (fun _ => rfl) (by decide) (by decide) ?_
      intro v124 e125 b126
      have e125 := e125.symm.trans (W122.slot W109.at (by decide))
      rw [e125]
      refine w_t (np := 130) (l2 := [some (eR a0), some (eI (a1)), some (eR a2), some (eI (v1)), some (eI (v11)), some (eI (v25)), some (eI (1))]) (s2 := [eR a2, eI (v104), eI (9), eR a2]) rfl (s_an rfl (pos_g I121 gA2 (by decide))) rfl ?_
      refine w_t (np := 132) (l2 := [some (eR a0), some (eI (a1)), some (eR a2), some (eI (v1)), some (eI (v11)), some (eI (v25)), some (eI (1))]) (s2 := [eI (12), eR a2, eI (v104), eI (9), eR a2]) rfl rfl rfl ?_
      refine w_t (np := 134) (l2 := [some (eR a0), some (eI (a1)), some (eR a2), some (eI (v1)), some (eI (v11)), some (eI (v25)), some (eI (1))]) (s2 := [eI (1), eI (12), eR a2, eI (v104), eI (9), eR a2]) rfl rfl rfl ?_
      refine w_t (np := 135) (l2 := [some (eR a0), some (eI (a1)), some (eR a2), some (eI (v1)), some (eI (v11)), some (eI (v25)), some (eI (1))]) (s2 := [eI (13), eR a2, eI (v104), eI (9), eR a2]) rfl (b_iadd rfl) rfl ?_
      refine j_al (np := 136) rfl rfl I121 gA2 (by decide) (n := 16) rfl rfl (lo := -2147483648) (hi := 2147483647) (fun _ => rfl) (by decide) (by decide) ?_
      intro v127 e128 b129
      have e128 := e128.symm.trans W122.at
      rw [e128]
      obtain ⟨v130, e131, b132⟩ : ∃ zz : Int, ev_w ((v104) + (v117)) = zz ∧ (-2147483648 ≤ zz ∧ zz ≤ 2147483647) := ⟨_, rfl, hw_bd _⟩
      refine w_t (np := 137) (l2 := [some (eR a0), some (eI (a1)), some (eR a2), some (eI (v1)), some (eI (v11)), some (eI (v25)), some (eI (1))]) (s2 := [eI (v130), eI (9), eR a2]) rfl (b_iadd e131) rfl ?_
      refine w_t (np := 138) (l2 := [some (eR a0), some (eI (a1)), some (eR a2), some (eI (v1)), some (eI (v11)), some (eI (v25)), some (eI (1))]) (s2 := [eR a2, eI (v130), eI (9), eR a2]) rfl (s_an rfl (pos_g I121 gA2 (by decide))) rfl ?_
      refine w_t (np := 140) (l2 := [some (eR a0), some (eI (a1)), some (eR a2), some (eI (v1)), some (eI (v11)), some (eI (v25)), some (eI (1))]) (s2 := [eI (1), eR a2, eI (v130), eI (9), eR a2]) rfl rfl rfl ?_
      refine j_al (np := 141) rfl rfl I121 gA2 (by decide) (n := 16) rfl rfl (lo := -2147483648) (hi := 2147483647) (fun _ => rfl) (by decide) (by decide) ?_
      intro v133 e134 b135
      have e134 := e134.symm.trans (W122.slot (W109.slot W96.at (by decide)) (by decide))
      rw [e134]
      obtain ⟨v136, e137, b138⟩ : ∃ zz : Int, ev_w ((v130) - (v91)) = zz ∧ (-2147483648 ≤ zz ∧ zz ≤ 2147483647) := ⟨_, rfl, hw_bd _⟩
      refine w_t (np := 142) (l2 := [some (eR a0), some (eI (a1)), some (eR a2), some (eI (v1)), some (eI (v11)), some (eI (v25)), some (eI (1))]) (s2 := [eI (v136), eI (9), eR a2]) rfl (b_isub e137) rfl ?_
      refine j_as (np := 143) rfl rfl I121 gA2 (by decide) (n := 16) rfl rfl (lo := -2147483648) (hi := 2147483647) (fun _ => rfl) (by decide) (by decide) (by omega) ?_
      intro m139 I140 W141
      have F142 : Fr l_302e 0 0 g μ m139 := F123.v W141 gA2 rfl rfl
      refine w_t (np := 146) (l2 := [some (eR a0), some (eI (a1)), some (eR a2), some (eI (v1)), some (eI (v11)), some (eI (v25)), some (eI (2))]) (s2 := []) rfl (b_iinc rfl rfl rfl) rfl ?_
      refine w_go (t1 := 59) rfl rfl ?_
      refine w_t (np := 61) (l2 := [some (eR a0), some (eI (a1)), some (eR a2), some (eI (v1)), some (eI (v11)), some (eI (v25)), some (eI (2))]) (s2 := [eI (2)]) rfl rfl rfl ?_
      refine w_t (np := 62) (l2 := [some (eR a0), some (eI (a1)), some (eR a2), some (eI (v1)), some (eI (v11)), some (eI (v25)), some (eI (2))]) (s2 := [eI (4), eI (2)]) rfl rfl rfl ?_
      refine b_cge (t1 := 149) (t2 := 65) rfl rfl rfl rfl rfl (fun g143 => absurd g143 (by decide)) (fun g143 => ?_)
      refine w_t (np := 66) (l2 := [some (eR a0), some (eI (a1)), some (eR a2), some (eI (v1)), some (eI (v11)), some (eI (v25)), some (eI (2))]) (s2 := [eR a2]) rfl (s_an rfl (pos_g I140 gA2 (by decide))) rfl ?_
      refine w_t (np := 68) (l2 := [some (eR a0), some (eI (a1)), some (eR a2), some (eI (v1)), some (eI (v11)), some (eI (v25)), some (eI (2))]) (s2 := [eI (2), eR a2]) rfl rfl rfl ?_
      refine w_t (np := 69) (l2 := [some (eR a0), some (eI (a1)), some (eR a2), some (eI (v1)), some (eI (v11)), some (eI (v25)), some (eI (2))]) (s2 := [eR a0, eI (2), eR a2]) rfl (s_an rfl (pos_g I140 gA0 (by decide))) rfl ?_
      refine w_gf (np := 72) (v := eR v4) rfl rfl (I140.kd gA0 (by decide) (n := 69) rfl) (by rw [(W141.addr (W122.addr (W109.addr (W96.addr (W82.addr (W63.addr (W50.addr (W37.addr e5 gA2 gA0 (by decide)) gA2 gA0 (by decide)) gA2 gA0 (by decide)) gA2 gA0 (by decide)) gA2 gA0 (by decide)) gA2 gA0 (by decide)) gA2 gA0 (by decide)) gA2 gA0 (by decide))]; rfl) ?_
      refine w_t (np := 73) (l2 := [some (eR a0), some (eI (a1)), some (eR a2), some (eI (v1)), some (eI (v11)), some (eI (v25)), some (eI (2))]) (s2 := [eI (v1), eR v4, eI (2), eR a2]) rfl rfl rfl ?_
      refine w_t (np := 74) (l2 := [some (eR a0), some (eI (a1)), some (eR a2), some (eI (v1)), some (eI (v11)), some (eI (v25)), some (eI (2))]) (s2 := [eI (1), eI (v1), eR v4, eI (2), eR a2]) rfl rfl rfl ?_
      obtain ⟨v144, e145⟩ : ∃ zz : Int, zz = (v1) + (1) := ⟨_, rfl⟩
      have b146 : 1 ≤ v144 ∧ v144 ≤ 162 := by omega
      refine w_t (np := 75) (l2 := [some (eR a0), some (eI (a1)), some (eR a2), some (eI (v1)), some (eI (v11)), some (eI (v25)), some (eI (2))]) (s2 := [eI (v144), eR v4, eI (2), eR a2]) rfl (b_iadd (by rw [← e145]; exact ev_w_in (by omega) (by omega))) rfl ?_
      refine w_t (np := 77) (l2 := [some (eR a0), some (eI (a1)), some (eR a2), some (eI (v1)), some (eI (v11)), some (eI (v25)), some (eI (2))]) (s2 := [eI (2), eI (v144), eR v4, eI (2), eR a2]) rfl rfl rfl ?_
      obtain ⟨v147, e148⟩ : ∃ zz : Int, zz = (v144) + (2) := ⟨_, rfl⟩
      have b149 : 3 ≤ v147 ∧ v147 ≤ 164 := by omega
      refine w_t (np := 78) (l2 := [some (eR a0), some (eI (a1)), some (eR a2), some (eI (v1)), some (eI (v11)), some (eI (v25)), some (eI (2))]) (s2 := [eI (v147), eR v4, eI (2), eR a2]) rfl (b_iadd (by rw [← e148]; exact ev_w_in (by omega) (by omega))) rfl ?_
      refine j_al (np := 79) rfl rfl I140 b6 (by decide) (n := 168) rfl rfl (lo := -2147483648) (hi := 2147483647) (fun _ => rfl) (by omega) (by omega) ?_
      intro v150 e151 b152
      refine j_as (np := 80) rfl rfl I140 gA2 (by decide) (n := 16) rfl rfl (lo := -2147483648) (hi := 2147483647) (fun _ => rfl) (by decide) (by decide) (by omega) ?_
      intro m153 I154 W155
      have F156 : Fr l_302e 0 0 g μ m153 := F142.v W155 gA2 rfl rfl
      refine w_t (np := 81) (l2 := [some (eR a0), some (eI (a1)), some (eR a2), some (eI (v1)), some (eI (v11)), some (eI (v25)), some (eI (2))]) (s2 := [eR a2]) rfl (s_an rfl (pos_g I154 gA2 (by decide))) rfl ?_
      refine w_t (np := 82) (l2 := [some (eR a0), some (eI (a1)), some (eR a2), some (eI (v1)), some (eI (v11)), some (eI (v25)), some (eI (2))]) (s2 := [eI (4), eR a2]) rfl rfl rfl ?_
      refine w_t (np := 84) (l2 := [some (eR a0), some (eI (a1)), some (eR a2), some (eI (v1)), some (eI (v11)), some (eI (v25)), some (eI (2))]) (s2 := [eI (2), eI (4), eR a2]) rfl rfl rfl ?_
      refine w_t (np := 85) (l2 := [some (eR a0), some (eI (a1)), some (eR a2), some (eI (v1)), some (eI (v11)), some (eI (v25)), some (eI (2))]) (s2 := [eI (6), eR a2]) rfl (b_iadd rfl) rfl ?_
      refine w_t (np := 86) (l2 := [some (eR a0), some (eI (a1)), some (eR a2), some (eI (v1)), some (eI (v11)), some (eI (v25)), some (eI (2))]) (s2 := [eR a2, eI (6), eR a2]) rfl (s_an rfl (pos_g I154 gA2 (by decide))) rfl ?_
      refine w_t (np := 88) (l2 := [some (eR a0), some (eI (a1)), some (eR a2), some (eI (v1)), some (eI (v11)), some (eI (v25)), some (eI (2))]) (s2 := [eI (2), eR a2, eI (6), eR a2]) rfl rfl rfl ?_
      refine j_al (np := 89) rfl rfl I154 gA2 (by decide) (n := 16) rfl rfl (lo := -2147483648) (hi := 2147483647) (fun _ => rfl) (by decide) (by decide) ?_
      intro v157 e158 b159
      have e158 := e158.symm.trans W155.at
      rw [e158]
      refine w_t (np := 91) (l2 := [some (eR a0), some (eI (a1)), some (eR a2), some (eI (v1)), some (eI (v11)), some (eI (v25)), some (eI (2))]) (s2 := [eI (v11), eI (v150), eI (6), eR a2]) rfl rfl rfl ?_
      refine w_t (np := 93) (l2 := [some (eR a0), some (eI (a1)), some (eR a2), some (eI (v1)), some (eI (v11)), some (eI (v25)), some (eI (2))]) (s2 := [eI (2), eI (v11), eI (v150), eI (6), eR a2]) rfl rfl rfl ?_
      refine w_cu (np := 96) (as := [eI (v11), eI (2)]) (l2 := [some (eI (v11)), some (eI (2))]) (rest := [eI (v150), eI (6), eR a2]) rfl rfl rfl (Nat.ble_eq.mp rfl) rfl rfl rfl rfl ?_
      refine s_218e (a0 := v11) (a1 := 2) I154 (by omega) (by decide) ?_
      intro v160 b161 h162
      show ex_q (dt_fg L ρ) rc (d + 2, (302, 96, [some (eR a0), some (eI (a1)), some (eR a2), some (eI (v1)), some (eI (v11)), some (eI (v25)), some (eI (2))], [eI (v160), eI (v150), eI (6), eR a2]), f :: F, m153)
      obtain ⟨v163, e164, b165⟩ : ∃ zz : Int, ev_w ((v150) + (v160)) = zz ∧ (-2147483648 ≤ zz ∧ zz ≤ 2147483647) := ⟨_, rfl, hw_bd _⟩
      refine w_t (np := 97) (l2 := [some (eR a0), some (eI (a1)), some (eR a2), some (eI (v1)), some (eI (v11)), some (eI (v25)), some (eI (2))]) (s2 := [eI (v163), eI (6), eR a2]) rfl (b_iadd e164) rfl ?_
      refine j_as (np := 98) rfl rfl I154 gA2 (by decide) (n := 16) rfl rfl (lo := -2147483648) (hi := 2147483647) (fun _ => rfl) (by decide) (by decide) (by omega) ?_
      intro m166 I167 W168
      have F169 : Fr l_302e 0 0 g μ m166 := F156.v W168 gA2 rfl rfl
      refine w_t (np := 99) (l2 := [some (eR a0), some (eI (a1)), some (eR a2), some (eI (v1)), some (eI (v11)), some (eI (v25)), some (eI (2))]) (s2 := [eR a2]) rfl (s_an rfl (pos_g I167 gA2 (by decide))) rfl ?_
      refine w_t (np := 101) (l2 := [some (eR a0), some (eI (a1)), some (eR a2), some (eI (v1)), some (eI (v11)), some (eI (v25)), some (eI (2))]) (s2 := [eI (12), eR a2]) rfl rfl rfl ?_
      refine w_t (np := 103) (l2 := [some (eR a0), some (eI (a1)), some (eR a2), some (eI (v1)), some (eI (v11)), some (eI (v25)), some (eI (2))]) (s2 := [eI (2), eI (12), eR a2]) rfl rfl rfl ?_
      refine w_t (np := 104) (l2 := [some (eR a0), some (eI (a1)), some (eR a2), some (eI (v1)), some (eI (v11)), some (eI (v25)), some (eI (2))]) (s2 := [eI (14), eR a2]) rfl (b_iadd rfl) rfl ?_
      refine w_t (np := 105) (l2 := [some (eR a0), some (eI (a1)), some (eR a2), some (eI (v1)), some (eI (v11)), some (eI (v25)), some (eI (2))]) (s2 := [eR a2, eI (14), eR a2]) rfl (s_an rfl (pos_g I167 gA2 (by decide))) rfl ?_
      refine w_t (np := 107) (l2 := [some (eR a0), some (eI (a1)), some (eR a2), some (eI (v1)), some (eI (v11)), some (eI (v25)), some (eI (2))]) (s2 := [eI (2), eR a2, eI (14), eR a2]) rfl rfl rfl ?_
      refine j_al (np := 108) rfl rfl I167 gA2 (by decide) (n := 16) rfl rfl (lo := -2147483648) (hi := 2147483647) (fun _ => rfl) (by decide) (by decide) ?_
      intro v170 e171 b172
      have e171 := e171.symm.trans (W168.slot W155.at (by decide))
      rw [e171]
      refine w_t (np := 110) (l2 := [some (eR a0), some (eI (a1)), some (eR a2), some (eI (v1)), some (eI (v11)), some (eI (v25)), some (eI (2))]) (s2 := [eI (v25), eI (v150), eI (14), eR a2]) rfl rfl rfl ?_
      refine w_t (np := 112) (l2 := [some (eR a0), some (eI (a1)), some (eR a2), some (eI (v1)), some (eI (v11)), some (eI (v25)), some (eI (2))]) (s2 := [eI (2), eI (v25), eI (v150), eI (14), eR a2]) rfl rfl rfl ?_
      refine w_cu (np := 115) (as := [eI (v25), eI (2)]) (l2 := [some (eI (v25)), some (eI (2))]) (rest := [eI (v150), eI (14), eR a2]) rfl rfl rfl (Nat.ble_eq.mp rfl) rfl rfl rfl rfl ?_
      refine s_218e (a0 := v25) (a1 := 2) I167 (by omega) (by decide) ?_
      intro v173 b174 h175
      show ex_q (dt_fg L ρ) rc (d + 2, (302, 115, [some (eR a0), some (eI (a1)), some (eR a2), some (eI (v1)), some (eI (v11)), some (eI (v25)), some (eI (2))], [eI (v173), eI (v150), eI (14), eR a2]), f :: F, m166)
      obtain ⟨v176, e177, b178⟩ : ∃ zz : Int, ev_w ((v150) + (v173)) = zz ∧ (-2147483648 ≤ zz ∧ zz ≤ 2147483647) := ⟨_, rfl, hw_bd _⟩
      refine w_t (np := 116) (l2 := [some (eR a0), some (eI (a1)), some (eR a2), some (eI (v1)), some (eI (v11)), some (eI (v25)), some (eI (2))]) (s2 := [eI (v176), eI (14), eR a2]) rfl (b_iadd e177) rfl ?_
      refine j_as (np := 117) rfl rfl I167 gA2 (by decide) (n := 16) rfl rfl (lo := -2147483648) (hi := 2147483647) (fun _ => rfl) (by decide) (by decide) (by omega) ?_
      intro m179 I180 W181
      have F182 : Fr l_302e 0 0 g μ m179 := F169.v W181 gA2 rfl rfl
      refine w_t (np := 118) (l2 := [some (eR a0), some (eI (a1)), some (eR a2), some (eI (v1)), some (eI (v11)), some (eI (v25)), some (eI (2))]) (s2 := [eR a2]) rfl (s_an rfl (pos_g I180 gA2 (by decide))) rfl ?_
      refine w_t (np := 120) (l2 := [some (eR a0), some (eI (a1)), some (eR a2), some (eI (v1)), some (eI (v11)), some (eI (v25)), some (eI (2))]) (s2 := [eI (8), eR a2]) rfl rfl rfl ?_
      refine w_t (np := 122) (l2 := [some (eR a0), some (eI (a1)), some (eR a2), some (eI (v1)), some (eI (v11)), some (eI (v25)), some (eI (2))]) (s2 := [eI (2), eI (8), eR a2]) rfl rfl rfl ?_
      refine w_t (np := 123) (l2 := [some (eR a0), some (eI (a1)), some (eR a2), some (eI (v1)), some (eI (v11)), some (eI (v25)), some (eI (2))]) (s2 := [eI (10), eR a2]) rfl (b_iadd rfl) rfl ?_
      refine w_t (np := 124) (l2 := [some (eR a0), some (eI (a1)), some (eR a2), some (eI (v1)), some (eI (v11)), some (eI (v25)), some (eI (2))]) (s2 := [eR a2, eI (10), eR a2]) rfl (s_an rfl (pos_g I180 gA2 (by decide))) rfl ?_
      refine w_t (np := 125) (l2 := [some (eR a0), some (eI (a1)), some (eR a2), some (eI (v1)), some (eI (v11)), some (eI (v25)), some (eI (2))]) (s2 := [eI (4), eR a2, eI (10), eR a2]) rfl rfl rfl ?_
      refine w_t (np := 127) (l2 := [some (eR a0), some (eI (a1)), some (eR a2), some (eI (v1)), some (eI (v11)), some (eI (v25)), some (eI (2))]) (s2 := [eI (2), eI (4), eR a2, eI (10), eR a2]) rfl rfl rfl ?_
      refine w_t (np := 128) (l2 := [some (eR a0), some (eI (a1)), some (eR a2), some (eI (v1)), some (eI (v11)), some (eI (v25)), some (eI (2))]) (s2 := [eI (6), eR a2, eI (10), eR a2]) rfl (b_iadd rfl) rfl ?_
      refine j_al (np := 129) rfl rfl I180 gA2 (by decide) (n := 16) rfl rfl (lo := -2147483648) (hi := 2147483647) (fun _ => rfl) (by decide) (by decide) ?_
      intro v183 e184 b185
      have e184 := e184.symm.trans (W181.slot W168.at (by decide))
      rw [e184]
      refine w_t (np := 130) (l2 := [some (eR a0), some (eI (a1)), some (eR a2), some (eI (v1)), some (eI (v11)), some (eI (v25)), some (eI (2))]) (s2 := [eR a2, eI (v163), eI (10), eR a2]) rfl (s_an rfl (pos_g I180 gA2 (by decide))) rfl ?_
      refine w_t (np := 132) (l2 := [some (eR a0), some (eI (a1)), some (eR a2), some (eI (v1)), some (eI (v11)), some (eI (v25)), some (eI (2))]) (s2 := [eI (12), eR a2, eI (v163), eI (10), eR a2]) rfl rfl rfl ?_
      refine w_t (np := 134) (l2 := [some (eR a0), some (eI (a1)), some (eR a2), some (eI (v1)), some (eI (v11)), some (eI (v25)), some (eI (2))]) (s2 := [eI (2), eI (12), eR a2, eI (v163), eI (10), eR a2]) rfl rfl rfl ?_
      refine w_t (np := 135) (l2 := [some (eR a0), some (eI (a1)), some (eR a2), some (eI (v1)), some (eI (v11)), some (eI (v25)), some (eI (2))]) (s2 := [eI (14), eR a2, eI (v163), eI (10), eR a2]) rfl (b_iadd rfl) rfl ?_
      refine j_al (np := 136) rfl rfl I180 gA2 (by decide) (n := 16) rfl rfl (lo := -2147483648) (hi := 2147483647) (fun _ => rfl) (by decide) (by decide) ?_
      intro v186 e187 b188
      have e187 := e187.symm.trans W181.at
      rw [e187]
      obtain ⟨v189, e190, b191⟩ : ∃ zz : Int, ev_w ((v163) + (v176)) = zz ∧ (-2147483648 ≤ zz ∧ zz ≤ 2147483647) := ⟨_, rfl, hw_bd _⟩
      refine w_t (np := 137) (l2 := [some (eR a0), some (eI (a1)), some (eR a2), some (eI (v1)), some (eI (v11)), some (eI (v25)), some (eI (2))]) (s2 := [eI (v189), eI (10), eR a2]) rfl (b_iadd e190) rfl ?_
      refine w_t (np := 138) (l2 := [some (eR a0), some (eI (a1)), some (eR a2), some (eI (v1)), some (eI (v11)), some (eI (v25)), some (eI (2))]) (s2 := [eR a2, eI (v189), eI (10), eR a2]) rfl (s_an rfl (pos_g I180 gA2 (by decide))) rfl ?_
      refine w_t (np := 140) (l2 := [some (eR a0), some (eI (a1)), some (eR a2), some (eI (v1)), some (eI (v11)), some (eI (v25)), some (eI (2))]) (s2 := [eI (2), eR a2, eI (v189), eI (10), eR a2]) rfl rfl rfl ?_
      refine j_al (np := 141) rfl rfl I180 gA2 (by decide) (n := 16) rfl rfl (lo := -2147483648) (hi := 2147483647) (fun _ => rfl) (by decide) (by decide) ?_
      intro v192 e193 b194
      have e193 := e193.symm.trans (W181.slot (W168.slot W155.at (by decide)) (by decide))
      rw [e193]
      obtain ⟨v195, e196, b197⟩ : ∃ zz : Int, ev_w ((v189) - (v150)) = zz ∧ (-2147483648 ≤ zz ∧ zz ≤ 2147483647) := ⟨_, rfl, hw_bd _⟩
      refine w_t (np := 142) (l2 := [some (eR a0), some (eI (a1)), some (eR a2), some (eI (v1)), some (eI (v11)), some (eI (v25)), some (eI (2))]) (s2 := [eI (v195), eI (10), eR a2]) rfl (b_isub e196) rfl ?_
      refine j_as (np := 143) rfl rfl I180 gA2 (by decide) (n := 16) rfl rfl (lo := -2147483648) (hi := 2147483647) (fun _ => rfl) (by decide) (by decide) (by omega) ?_
      intro m198 I199 W200
      have F201 : Fr l_302e 0 0 g μ m198 := F182.v W200 gA2 rfl rfl
      refine w_t (np := 146) (l2 := [some (eR a0), some (eI (a1)), some (eR a2), some (eI (v1)), some (eI (v11)), some (eI (v25)), some (eI (3))]) (s2 := []) rfl (b_iinc rfl rfl rfl) rfl ?_
      refine w_go (t1 := 59) rfl rfl ?_
      refine w_t (np := 61) (l2 := [some (eR a0), some (eI (a1)), some (eR a2), some (eI (v1)), some (eI (v11)), some (eI (v25)), some (eI (3))]) (s2 := [eI (3)]) rfl rfl rfl ?_
      refine w_t (np := 62) (l2 := [some (eR a0), some (eI (a1)), some (eR a2), some (eI (v1)), some (eI (v11)), some (eI (v25)), some (eI (3))]) (s2 := [eI (4), eI (3)]) rfl rfl rfl ?_
      refine b_cge (t1 := 149) (t2 := 65) rfl rfl rfl rfl rfl (fun g202 => absurd g202 (by decide)) (fun g202 => ?_)
      refine w_t (np := 66) (l2 := [some (eR a0), some (eI (a1)), some (eR a2), some (eI (v1)), some (eI (v11)), some (eI (v25)), some (eI (3))]) (s2 := [eR a2]) rfl (s_an rfl (pos_g I199 gA2 (by decide))) rfl ?_
      refine w_t (np := 68) (l2 := [some (eR a0), some (eI (a1)), some (eR a2), some (eI (v1)), some (eI (v11)), some (eI (v25)), some (eI (3))]) (s2 := [eI (3), eR a2]) rfl rfl rfl ?_
      refine w_t (np := 69) (l2 := [some (eR a0), some (eI (a1)), some (eR a2), some (eI (v1)), some (eI (v11)), some (eI (v25)), some (eI (3))]) (s2 := [eR a0, eI (3), eR a2]) rfl (s_an rfl (pos_g I199 gA0 (by decide))) rfl ?_
      refine w_gf (np := 72) (v := eR v4) rfl rfl (I199.kd gA0 (by decide) (n := 69) rfl) (by rw [(W200.addr (W181.addr (W168.addr (W155.addr (W141.addr (W122.addr (W109.addr (W96.addr (W82.addr (W63.addr (W50.addr (W37.addr e5 gA2 gA0 (by decide)) gA2 gA0 (by decide)) gA2 gA0 (by decide)) gA2 gA0 (by decide)) gA2 gA0 (by decide)) gA2 gA0 (by decide)) gA2 gA0 (by decide)) gA2 gA0 (by decide)) gA2 gA0 (by decide)) gA2 gA0 (by decide)) gA2 gA0 (by decide)) gA2 gA0 (by decide))]; rfl) ?_
      refine w_t (np := 73) (l2 := [some (eR a0), some (eI (a1)), some (eR a2), some (eI (v1)), some (eI (v11)), some (eI (v25)), some (eI (3))]) (s2 := [eI (v1), eR v4, eI (3), eR a2]) rfl rfl rfl ?_
      refine w_t (np := 74) (l2 := [some (eR a0), some (eI (a1)), some (eR a2), some (eI (v1)), some (eI (v11)), some (eI (v25)), some (eI (3))]) (s2 := [eI (1), eI (v1), eR v4, eI (3), eR a2]) rfl rfl rfl ?_
      obtain ⟨v203, e204⟩ : ∃ zz : Int, zz = (v1) + (1) := ⟨_, rfl⟩
      have b205 : 1 ≤ v203 ∧ v203 ≤ 162 := by omega
      refine w_t (np := 75) (l2 := [some (eR a0), some (eI (a1)), some (eR a2), some (eI (v1)), some (eI (v11)), some (eI (v25)), some (eI (3))]) (s2 := [eI (v203), eR v4, eI (3), eR a2]) rfl (b_iadd (by rw [← e204]; exact ev_w_in (by omega) (by omega))) rfl ?_
      refine w_t (np := 77) (l2 := [some (eR a0), some (eI (a1)), some (eR a2), some (eI (v1)), some (eI (v11)), some (eI (v25)), some (eI (3))]) (s2 := [eI (3), eI (v203), eR v4, eI (3), eR a2]) rfl rfl rfl ?_
      obtain ⟨v206, e207⟩ : ∃ zz : Int, zz = (v203) + (3) := ⟨_, rfl⟩
      have b208 : 4 ≤ v206 ∧ v206 ≤ 165 := by omega
      refine w_t (np := 78) (l2 := [some (eR a0), some (eI (a1)), some (eR a2), some (eI (v1)), some (eI (v11)), some (eI (v25)), some (eI (3))]) (s2 := [eI (v206), eR v4, eI (3), eR a2]) rfl (b_iadd (by rw [← e207]; exact ev_w_in (by omega) (by omega))) rfl ?_
      refine j_al (np := 79) rfl rfl I199 b6 (by decide) (n := 168) rfl rfl (lo := -2147483648) (hi := 2147483647) (fun _ => rfl) (by omega) (by omega) ?_
      intro v209 e210 b211
      refine j_as (np := 80) rfl rfl I199 gA2 (by decide) (n := 16) rfl rfl (lo := -2147483648) (hi := 2147483647) (fun _ => rfl) (by decide) (by decide) (by omega) ?_
      intro m212 I213 W214
      have F215 : Fr l_302e 0 0 g μ m212 := F201.v W214 gA2 rfl rfl
      refine w_t (np := 81) (l2 := [some (eR a0), some (eI (a1)), some (eR a2), some (eI (v1)), some (eI (v11)), some (eI (v25)), some (eI (3))]) (s2 := [eR a2]) rfl (s_an rfl (pos_g I213 gA2 (by decide))) rfl ?_
      refine w_t (np := 82) (l2 := [some (eR a0), some (eI (a1)), some (eR a2), some (eI (v1)), some (eI (v11)), some (eI (v25)), some (eI (3))]) (s2 := [eI (4), eR a2]) rfl rfl rfl ?_
      refine w_t (np := 84) (l2 := [some (eR a0), some (eI (a1)), some (eR a2), some (eI (v1)), some (eI (v11)), some (eI (v25)), some (eI (3))]) (s2 := [eI (3), eI (4), eR a2]) rfl rfl rfl ?_
      refine w_t (np := 85) (l2 := [some (eR a0), some (eI (a1)), some (eR a2), some (eI (v1)), some (eI (v11)), some (eI (v25)), some (eI (3))]) (s2 := [eI (7), eR a2]) rfl (b_iadd rfl) rfl ?_
      refine w_t (np := 86) (l2 := [some (eR a0), some (eI (a1)), some (eR a2), some (eI (v1)), some (eI (v11)), some (eI (v25)), some (eI (3))]) (s2 := [eR a2, eI (7), eR a2]) rfl (s_an rfl (pos_g I213 gA2 (by decide))) rfl ?_
      refine w_t (np := 88) (l2 := [some (eR a0), some (eI (a1)), some (eR a2), some (eI (v1)), some (eI (v11)), some (eI (v25)), some (eI (3))]) (s2 := [eI (3), eR a2, eI (7), eR a2]) rfl rfl rfl ?_
      refine j_al (np := 89) rfl rfl I213 gA2 (by decide) (n := 16) rfl rfl (lo := -2147483648) (hi := 2147483647) (fun _ => rfl) (by decide) (by decide) ?_
      intro v216 e217 b218
      have e217 := e217.symm.trans W214.at
      rw [e217]
      refine w_t (np := 91) (l2 := [some (eR a0), some (eI (a1)), some (eR a2), some (eI (v1)), some (eI (v11)), some (eI (v25)), some (eI (3))]) (s2 := [eI (v11), eI (v209), eI (7), eR a2]) rfl rfl rfl ?_
      refine w_t (np := 93) (l2 := [some (eR a0), some (eI (a1)), some (eR a2), some (eI (v1)), some (eI (v11)), some (eI (v25)), some (eI (3))]) (s2 := [eI (3), eI (v11), eI (v209), eI (7), eR a2]) rfl rfl rfl ?_
      refine w_cu (np := 96) (as := [eI (v11), eI (3)]) (l2 := [some (eI (v11)), some (eI (3))]) (rest := [eI (v209), eI (7), eR a2]) rfl rfl rfl (Nat.ble_eq.mp rfl) rfl rfl rfl rfl ?_
      refine s_218e (a0 := v11) (a1 := 3) I213 (by omega) (by decide) ?_
      intro v219 b220 h221
      show ex_q (dt_fg L ρ) rc (d + 2, (302, 96, [some (eR a0), some (eI (a1)), some (eR a2), some (eI (v1)), some (eI (v11)), some (eI (v25)), some (eI (3))], [eI (v219), eI (v209), eI (7), eR a2]), f :: F, m212)
      obtain ⟨v222, e223, b224⟩ : ∃ zz : Int, ev_w ((v209) + (v219)) = zz ∧ (-2147483648 ≤ zz ∧ zz ≤ 2147483647) := ⟨_, rfl, hw_bd _⟩
      refine w_t (np := 97) (l2 := [some (eR a0), some (eI (a1)), some (eR a2), some (eI (v1)), some (eI (v11)), some (eI (v25)), some (eI (3))]) (s2 := [eI (v222), eI (7), eR a2]) rfl (b_iadd e223) rfl ?_
      refine j_as (np := 98) rfl rfl I213 gA2 (by decide) (n := 16) rfl rfl (lo := -2147483648) (hi := 2147483647) (fun _ => rfl) (by decide) (by decide) (by omega) ?_
      intro m225 I226 W227
      have F228 : Fr l_302e 0 0 g μ m225 := F215.v W227 gA2 rfl rfl
      refine w_t (np := 99) (l2 := [some (eR a0), some (eI (a1)), some (eR a2), some (eI (v1)), some (eI (v11)), some (eI (v25)), some (eI (3))]) (s2 := [eR a2]) rfl (s_an rfl (pos_g I226 gA2 (by decide))) rfl ?_
      refine w_t (np := 101) (l2 := [some (eR a0), some (eI (a1)), some (eR a2), some (eI (v1)), some (eI (v11)), some (eI (v25)), some (eI (3))]) (s2 := [eI (12), eR a2]) rfl rfl rfl ?_
      refine w_t (np := 103) (l2 := [some (eR a0), some (eI (a1)), some (eR a2), some (eI (v1)), some (eI (v11)), some (eI (v25)), some (eI (3))]) (s2 := [eI (3), eI (12), eR a2]) rfl rfl rfl ?_
      refine w_t (np := 104) (l2 := [some (eR a0), some (eI (a1)), some (eR a2), some (eI (v1)), some (eI (v11)), some (eI (v25)), some (eI (3))]) (s2 := [eI (15), eR a2]) rfl (b_iadd rfl) rfl ?_
      refine w_t (np := 105) (l2 := [some (eR a0), some (eI (a1)), some (eR a2), some (eI (v1)), some (eI (v11)), some (eI (v25)), some (eI (3))]) (s2 := [eR a2, eI (15), eR a2]) rfl (s_an rfl (pos_g I226 gA2 (by decide))) rfl ?_
      refine w_t (np := 107) (l2 := [some (eR a0), some (eI (a1)), some (eR a2), some (eI (v1)), some (eI (v11)), some (eI (v25)), some (eI (3))]) (s2 := [eI (3), eR a2, eI (15), eR a2]) rfl rfl rfl ?_
      refine j_al (np := 108) rfl rfl I226 gA2 (by decide) (n := 16) rfl rfl (lo := -2147483648) (hi := 2147483647) (fun _ => rfl) (by decide) (by decide) ?_
      intro v229 e230 b231
      have e230 := e230.symm.trans (W227.slot W214.at (by decide))
      rw [e230]
      refine w_t (np := 110) (l2 := [some (eR a0), some (eI (a1)), some (eR a2), some (eI (v1)), some (eI (v11)), some (eI (v25)), some (eI (3))]) (s2 := [eI (v25), eI (v209), eI (15), eR a2]) rfl rfl rfl ?_
      refine w_t (np := 112) (l2 := [some (eR a0), some (eI (a1)), some (eR a2), some (eI (v1)), some (eI (v11)), some (eI (v25)), some (eI (3))]) (s2 := [eI (3), eI (v25), eI (v209), eI (15), eR a2]) rfl rfl rfl ?_
      refine w_cu (np := 115) (as := [eI (v25), eI (3)]) (l2 := [some (eI (v25)), some (eI (3))]) (rest := [eI (v209), eI (15), eR a2]) rfl rfl rfl (Nat.ble_eq.mp rfl) rfl rfl rfl rfl ?_
      refine s_218e (a0 := v25) (a1 := 3) I226 (by omega) (by decide) ?_
      intro v232 b233 h234
      show ex_q (dt_fg L ρ) rc (d + 2, (302, 115, [some (eR a0), some (eI (a1)), some (eR a2), some (eI (v1)), some (eI (v11)), some (eI (v25)), some (eI (3))], [eI (v232), eI (v209), eI (15), eR a2]), f :: F, m225)
      obtain ⟨v235, e236, b237⟩ : ∃ zz : Int, ev_w ((v209) + (v232)) = zz ∧ (-2147483648 ≤ zz ∧ zz ≤ 2147483647) := ⟨_, rfl, hw_bd _⟩
      refine w_t (np := 116) (l2 := [some (eR a0), some (eI (a1)), some (eR a2), some (eI (v1)), some (eI (v11)), some (eI (v25)), some (eI (3))]) (s2 := [eI (v235), eI (15), eR a2]) rfl (b_iadd e236) rfl ?_
      refine j_as (np := 117) rfl rfl I226 gA2 (by decide) (n := 16) rfl rfl (lo := -2147483648) (hi := 2147483647) (fun _ => rfl) (by decide) (by decide) (by omega) ?_
      intro m238 I239 W240
      have F241 : Fr l_302e 0 0 g μ m238 := F228.v W240 gA2 rfl rfl
      refine w_t (np := 118) (l2 := [some (eR a0), some (eI (a1)), some (eR a2), some (eI (v1)), some (eI (v11)), some (eI (v25)), some (eI (3))]) (s2 := [eR a2]) rfl (s_an rfl (pos_g I239 gA2 (by decide))) rfl ?_
      refine w_t (np := 120) (l2 := [some (eR a0), some (eI (a1)), some (eR a2), some (eI (v1)), some (eI (v11)), some (eI (v25)), some (eI (3))]) (s2 := [eI (8), eR a2]) rfl rfl rfl ?_
      refine w_t (np := 122) (l2 := [some (eR a0), some (eI (a1)), some (eR a2), some (eI (v1)), some (eI (v11)), some (eI (v25)), some (eI (3))]) (s2 := [eI (3), eI (8), eR a2]) rfl rfl rfl ?_
      refine w_t (np := 123) (l2 := [some (eR a0), some (eI (a1)), some (eR a2), some (eI (v1)), some (eI (v11)), some (eI (v25)), some (eI (3))]) (s2 := [eI (11), eR a2]) rfl (b_iadd rfl) rfl ?_
      refine w_t (np := 124) (l2 := [some (eR a0), some (eI (a1)), some (eR a2), some (eI (v1)), some (eI (v11)), some (eI (v25)), some (eI (3))]) (s2 := [eR a2, eI (11), eR a2]) rfl (s_an rfl (pos_g I239 gA2 (by decide))) rfl ?_
      refine w_t (np := 125) (l2 := [some (eR a0), some (eI (a1)), some (eR a2), some (eI (v1)), some (eI (v11)), some (eI (v25)), some (eI (3))]) (s2 := [eI (4), eR a2, eI (11), eR a2]) rfl rfl rfl ?_
      refine w_t (np := 127) (l2 := [some (eR a0), some (eI (a1)), some (eR a2), some (eI (v1)), some (eI (v11)), some (eI (v25)), some (eI (3))]) (s2 := [eI (3), eI (4), eR a2, eI (11), eR a2]) rfl rfl rfl ?_
      refine w_t (np := 128) (l2 := [some (eR a0), some (eI (a1)), some (eR a2), some (eI (v1)), some (eI (v11)), some (eI (v25)), some (eI (3))]) (s2 := [eI (7), eR a2, eI (11), eR a2]) rfl (b_iadd rfl) rfl ?_
      refine j_al (np := 129) rfl rfl I239 gA2 (by decide) (n := 16) rfl rfl (lo := -2147483648) (hi := 2147483647) (fun _ => rfl) (by decide) (by decide) ?_
      intro v242 e243 b244
      have e243 := e243.symm.trans (W240.slot W227.at (by decide))
      rw [e243]
      refine w_t (np := 130) (l2 := [some (eR a0), some (eI (a1)), some (eR a2), some (eI (v1)), some (eI (v11)), some (eI (v25)), some (eI (3))]) (s2 := [eR a2, eI (v222), eI (11), eR a2]) rfl (s_an rfl (pos_g I239 gA2 (by decide))) rfl ?_
      refine w_t (np := 132) (l2 := [some (eR a0), some (eI (a1)), some (eR a2), some (eI (v1)), some (eI (v11)), some (eI (v25)), some (eI (3))]) (s2 := [eI (12), eR a2, eI (v222), eI (11), eR a2]) rfl rfl rfl ?_
      refine w_t (np := 134) (l2 := [some (eR a0), some (eI (a1)), some (eR a2), some (eI (v1)), some (eI (v11)), some (eI (v25)), some (eI (3))]) (s2 := [eI (3), eI (12), eR a2, eI (v222), eI (11), eR a2]) rfl rfl rfl ?_
      refine w_t (np := 135) (l2 := [some (eR a0), some (eI (a1)), some (eR a2), some (eI (v1)), some (eI (v11)), some (eI (v25)), some (eI (3))]) (s2 := [eI (15), eR a2, eI (v222), eI (11), eR a2]) rfl (b_iadd rfl) rfl ?_
      refine j_al (np := 136) rfl rfl I239 gA2 (by decide) (n := 16) rfl rfl (lo := -2147483648) (hi := 2147483647) (fun _ => rfl) (by decide) (by decide) ?_
      intro v245 e246 b247
      have e246 := e246.symm.trans W240.at
      rw [e246]
      obtain ⟨v248, e249, b250⟩ : ∃ zz : Int, ev_w ((v222) + (v235)) = zz ∧ (-2147483648 ≤ zz ∧ zz ≤ 2147483647) := ⟨_, rfl, hw_bd _⟩
      refine w_t (np := 137) (l2 := [some (eR a0), some (eI (a1)), some (eR a2), some (eI (v1)), some (eI (v11)), some (eI (v25)), some (eI (3))]) (s2 := [eI (v248), eI (11), eR a2]) rfl (b_iadd e249) rfl ?_
      refine w_t (np := 138) (l2 := [some (eR a0), some (eI (a1)), some (eR a2), some (eI (v1)), some (eI (v11)), some (eI (v25)), some (eI (3))]) (s2 := [eR a2, eI (v248), eI (11), eR a2]) rfl (s_an rfl (pos_g I239 gA2 (by decide))) rfl ?_
      refine w_t (np := 140) (l2 := [some (eR a0), some (eI (a1)), some (eR a2), some (eI (v1)), some (eI (v11)), some (eI (v25)), some (eI (3))]) (s2 := [eI (3), eR a2, eI (v248), eI (11), eR a2]) rfl rfl rfl ?_
      refine j_al (np := 141) rfl rfl I239 gA2 (by decide) (n := 16) rfl rfl (lo := -2147483648) (hi := 2147483647) (fun _ => rfl) (by decide) (by decide) ?_
      intro v251 e252 b253
      have e252 := e252.symm.trans (W240.slot (W227.slot W214.at (by decide)) (by decide))
      rw [e252]
      obtain ⟨v254, e255, b256⟩ : ∃ zz : Int, ev_w ((v248) - (v209)) = zz ∧ (-2147483648 ≤ zz ∧ zz ≤ 2147483647) := ⟨_, rfl, hw_bd _⟩
      refine w_t (np := 142) (l2 := [some (eR a0), some (eI (a1)), some (eR a2), some (eI (v1)), some (eI (v11)), some (eI (v25)), some (eI (3))]) (s2 := [eI (v254), eI (11), eR a2]) rfl (b_isub e255) rfl ?_
      refine j_as (np := 143) rfl rfl I239 gA2 (by decide) (n := 16) rfl rfl (lo := -2147483648) (hi := 2147483647) (fun _ => rfl) (by decide) (by decide) (by omega) ?_
      intro m257 I258 W259
      have F260 : Fr l_302e 0 0 g μ m257 := F241.v W259 gA2 rfl rfl
      refine w_t (np := 146) (l2 := [some (eR a0), some (eI (a1)), some (eR a2), some (eI (v1)), some (eI (v11)), some (eI (v25)), some (eI (4))]) (s2 := []) rfl (b_iinc rfl rfl rfl) rfl ?_
      refine w_go (t1 := 59) rfl rfl ?_
      refine w_t (np := 61) (l2 := [some (eR a0), some (eI (a1)), some (eR a2), some (eI (v1)), some (eI (v11)), some (eI (v25)), some (eI (4))]) (s2 := [eI (4)]) rfl rfl rfl ?_
      refine w_t (np := 62) (l2 := [some (eR a0), some (eI (a1)), some (eR a2), some (eI (v1)), some (eI (v11)), some (eI (v25)), some (eI (4))]) (s2 := [eI (4), eI (4)]) rfl rfl rfl ?_
      refine b_cge (t1 := 149) (t2 := 65) rfl rfl rfl rfl rfl (fun g261 => ?_) (fun g261 => absurd g261 (by decide))
      exact v_rv rfl rfl (K m257 I258 F260 (CR.in I258 gA2 (CRr.mk (P := fun c => m257.1 a2 c) (d := v11) (e := v25) (fun _ _ => rfl) (fun c hc => match c, hc with | 0, _ => (by show m257.1 a2 4 = ev_w (m257.1 a2 0 + sS v11 0); rw [(show m257.1 a2 4 = v45 from (W259.slot (W240.slot (W227.slot (W214.slot (W200.slot (W181.slot (W168.slot (W155.slot (W141.slot (W122.slot (W109.slot (W96.slot (W82.slot (W63.slot W50.at (by decide)) (by decide)) (by decide)) (by decide)) (by decide)) (by decide)) (by decide)) (by decide)) (by decide)) (by decide)) (by decide)) (by decide)) (by decide)) (by decide))), (show m257.1 a2 0 = v32 from (W259.slot (W240.slot (W227.slot (W214.slot (W200.slot (W181.slot (W168.slot (W155.slot (W141.slot (W122.slot (W109.slot (W96.slot (W82.slot (W63.slot (W50.slot W37.at (by decide)) (by decide)) (by decide)) (by decide)) (by decide)) (by decide)) (by decide)) (by decide)) (by decide)) (by decide)) (by decide)) (by decide)) (by decide)) (by decide)) (by decide))), ← h44]; exact e46.symm) | 1, _ => (by show m257.1 a2 5 = ev_w (m257.1 a2 1 + sS v11 1); rw [(show m257.1 a2 5 = v104 from (W259.slot (W240.slot (W227.slot (W214.slot (W200.slot (W181.slot (W168.slot (W155.slot (W141.slot (W122.slot W109.at (by decide)) (by decide)) (by decide)) (by decide)) (by decide)) (by decide)) (by decide)) (by decide)) (by decide)) (by decide))), (show m257.1 a2 1 = v91 from (W259.slot (W240.slot (W227.slot (W214.slot (W200.slot (W181.slot (W168.slot (W155.slot (W141.slot (W122.slot (W109.slot W96.at (by decide)) (by decide)) (by decide)) (by decide)) (by decide)) (by decide)) (by decide)) (by decide)) (by decide)) (by decide)) (by decide))), ← h103]; exact e105.symm) | 2, _ => (by show m257.1 a2 6 = ev_w (m257.1 a2 2 + sS v11 2); rw [(show m257.1 a2 6 = v163 from (W259.slot (W240.slot (W227.slot (W214.slot (W200.slot (W181.slot W168.at (by decide)) (by decide)) (by decide)) (by decide)) (by decide)) (by decide))), (show m257.1 a2 2 = v150 from (W259.slot (W240.slot (W227.slot (W214.slot (W200.slot (W181.slot (W168.slot W155.at (by decide)) (by decide)) (by decide)) (by decide)) (by decide)) (by decide)) (by decide))), ← h162]; exact e164.symm) | 3, _ => (by show m257.1 a2 7 = ev_w (m257.1 a2 3 + sS v11 3); rw [(show m257.1 a2 7 = v222 from (W259.slot (W240.slot W227.at (by decide)) (by decide))), (show m257.1 a2 3 = v209 from (W259.slot (W240.slot (W227.slot W214.at (by decide)) (by decide)) (by decide))), ← h221]; exact e223.symm) | c + 4, h => absurd h (by omega)) (fun c hc => match c, hc with | 0, _ => (by show m257.1 a2 12 = ev_w (m257.1 a2 0 + sS v25 0); rw [(show m257.1 a2 12 = v58 from (W259.slot (W240.slot (W227.slot (W214.slot (W200.slot (W181.slot (W168.slot (W155.slot (W141.slot (W122.slot (W109.slot (W96.slot (W82.slot W63.at (by decide)) (by decide)) (by decide)) (by decide)) (by decide)) (by decide)) (by decide)) (by decide)) (by decide)) (by decide)) (by decide)) (by decide)) (by decide))), (show m257.1 a2 0 = v32 from (W259.slot (W240.slot (W227.slot (W214.slot (W200.slot (W181.slot (W168.slot (W155.slot (W141.slot (W122.slot (W109.slot (W96.slot (W82.slot (W63.slot (W50.slot W37.at (by decide)) (by decide)) (by decide)) (by decide)) (by decide)) (by decide)) (by decide)) (by decide)) (by decide)) (by decide)) (by decide)) (by decide)) (by decide)) (by decide)) (by decide))), ← h57]; exact e59.symm) | 1, _ => (by show m257.1 a2 13 = ev_w (m257.1 a2 1 + sS v25 1); rw [(show m257.1 a2 13 = v117 from (W259.slot (W240.slot (W227.slot (W214.slot (W200.slot (W181.slot (W168.slot (W155.slot (W141.slot W122.at (by decide)) (by decide)) (by decide)) (by decide)) (by decide)) (by decide)) (by decide)) (by decide)) (by decide))), (show m257.1 a2 1 = v91 from (W259.slot (W240.slot (W227.slot (W214.slot (W200.slot (W181.slot (W168.slot (W155.slot (W141.slot (W122.slot (W109.slot W96.at (by decide)) (by decide)) (by decide)) (by decide)) (by decide)) (by decide)) (by decide)) (by decide)) (by decide)) (by decide)) (by decide))), ← h116]; exact e118.symm) | 2, _ => (by show m257.1 a2 14 = ev_w (m257.1 a2 2 + sS v25 2); rw [(show m257.1 a2 14 = v176 from (W259.slot (W240.slot (W227.slot (W214.slot (W200.slot W181.at (by decide)) (by decide)) (by decide)) (by decide)) (by decide))), (show m257.1 a2 2 = v150 from (W259.slot (W240.slot (W227.slot (W214.slot (W200.slot (W181.slot (W168.slot W155.at (by decide)) (by decide)) (by decide)) (by decide)) (by decide)) (by decide)) (by decide))), ← h175]; exact e177.symm) | 3, _ => (by show m257.1 a2 15 = ev_w (m257.1 a2 3 + sS v25 3); rw [(show m257.1 a2 15 = v235 from (W259.slot W240.at (by decide))), (show m257.1 a2 3 = v209 from (W259.slot (W240.slot (W227.slot W214.at (by decide)) (by decide)) (by decide))), ← h234]; exact e236.symm) | c + 4, h => absurd h (by omega)) (fun c hc => match c, hc with | 0, _ => (by show m257.1 a2 8 = ev_w (ev_w (m257.1 a2 4 + m257.1 a2 12) - m257.1 a2 0); rw [(show m257.1 a2 8 = v77 from (W259.slot (W240.slot (W227.slot (W214.slot (W200.slot (W181.slot (W168.slot (W155.slot (W141.slot (W122.slot (W109.slot (W96.slot W82.at (by decide)) (by decide)) (by decide)) (by decide)) (by decide)) (by decide)) (by decide)) (by decide)) (by decide)) (by decide)) (by decide)) (by decide))), (show m257.1 a2 4 = v45 from (W259.slot (W240.slot (W227.slot (W214.slot (W200.slot (W181.slot (W168.slot (W155.slot (W141.slot (W122.slot (W109.slot (W96.slot (W82.slot (W63.slot W50.at (by decide)) (by decide)) (by decide)) (by decide)) (by decide)) (by decide)) (by decide)) (by decide)) (by decide)) (by decide)) (by decide)) (by decide)) (by decide)) (by decide))), (show m257.1 a2 12 = v58 from (W259.slot (W240.slot (W227.slot (W214.slot (W200.slot (W181.slot (W168.slot (W155.slot (W141.slot (W122.slot (W109.slot (W96.slot (W82.slot W63.at (by decide)) (by decide)) (by decide)) (by decide)) (by decide)) (by decide)) (by decide)) (by decide)) (by decide)) (by decide)) (by decide)) (by decide)) (by decide))), (show m257.1 a2 0 = v32 from (W259.slot (W240.slot (W227.slot (W214.slot (W200.slot (W181.slot (W168.slot (W155.slot (W141.slot (W122.slot (W109.slot (W96.slot (W82.slot (W63.slot (W50.slot W37.at (by decide)) (by decide)) (by decide)) (by decide)) (by decide)) (by decide)) (by decide)) (by decide)) (by decide)) (by decide)) (by decide)) (by decide)) (by decide)) (by decide)) (by decide))), e72]; exact e78.symm) | 1, _ => (by show m257.1 a2 9 = ev_w (ev_w (m257.1 a2 5 + m257.1 a2 13) - m257.1 a2 1); rw [(show m257.1 a2 9 = v136 from (W259.slot (W240.slot (W227.slot (W214.slot (W200.slot (W181.slot (W168.slot (W155.slot W141.at (by decide)) (by decide)) (by decide)) (by decide)) (by decide)) (by decide)) (by decide)) (by decide))), (show m257.1 a2 5 = v104 from (W259.slot (W240.slot (W227.slot (W214.slot (W200.slot (W181.slot (W168.slot (W155.slot (W141.slot (W122.slot W109.at (by decide)) (by decide)) (by decide)) (by decide)) (by decide)) (by decide)) (by decide)) (by decide)) (by decide)) (by decide))), (show m257.1 a2 13 = v117 from (W259.slot (W240.slot (W227.slot (W214.slot (W200.slot (W181.slot (W168.slot (W155.slot (W141.slot W122.at (by decide)) (by decide)) (by decide)) (by decide)) (by decide)) (by decide)) (by decide)) (by decide)) (by decide))), (show m257.1 a2 1 = v91 from (W259.slot (W240.slot (W227.slot (W214.slot (W200.slot (W181.slot (W168.slot (W155.slot (W141.slot (W122.slot (W109.slot W96.at (by decide)) (by decide)) (by decide)) (by decide)) (by decide)) (by decide)) (by decide)) (by decide)) (by decide)) (by decide)) (by decide))), e131]; exact e137.symm) | 2, _ => (by show m257.1 a2 10 = ev_w (ev_w (m257.1 a2 6 + m257.1 a2 14) - m257.1 a2 2); rw [(show m257.1 a2 10 = v195 from (W259.slot (W240.slot (W227.slot (W214.slot W200.at (by decide)) (by decide)) (by decide)) (by decide))), (show m257.1 a2 6 = v163 from (W259.slot (W240.slot (W227.slot (W214.slot (W200.slot (W181.slot W168.at (by decide)) (by decide)) (by decide)) (by decide)) (by decide)) (by decide))), (show m257.1 a2 14 = v176 from (W259.slot (W240.slot (W227.slot (W214.slot (W200.slot W181.at (by decide)) (by decide)) (by decide)) (by decide)) (by decide))), (show m257.1 a2 2 = v150 from (W259.slot (W240.slot (W227.slot (W214.slot (W200.slot (W181.slot (W168.slot W155.at (by decide)) (by decide)) (by decide)) (by decide)) (by decide)) (by decide)) (by decide))), e190]; exact e196.symm) | 3, _ => (by show m257.1 a2 11 = ev_w (ev_w (m257.1 a2 7 + m257.1 a2 15) - m257.1 a2 3); rw [(show m257.1 a2 11 = v254 from W259.at), (show m257.1 a2 7 = v222 from (W259.slot (W240.slot W227.at (by decide)) (by decide))), (show m257.1 a2 15 = v235 from (W259.slot W240.at (by decide))), (show m257.1 a2 3 = v209 from (W259.slot (W240.slot (W227.slot W214.at (by decide)) (by decide)) (by decide))), e249]; exact e255.symm) | c + 4, h => absurd h (by omega)))))
