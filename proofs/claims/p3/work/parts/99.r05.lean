/-! methods, walked -/
def l_302_2 : List Nat := [21504]
theorem s_302_2 {L : Nat} {ρ : Nat → Int} {rc : eQ} {d : Nat} {f : eFr} {F : List eFr} {μ : eM} {g : Nat → Nat} {a0 : Nat} {a1 : Int} {a2 : Nat} (hI : SI g μ) (gA0 : g a0 = 52) (bA1 : 0 ≤ a1 ∧ a1 ≤ 23) (gA2 : g a2 = 84) (K : ∀ (μ2 : eM), SI g μ2 → Fr l_302_2 0 0 g μ μ2 → ex_q (dt_fg L ρ) rc (d + 3, (f.1, f.2.1, f.2.2.1, f.2.2.2), F, μ2)) : ex_q (dt_fg L ρ) rc (d + 2, (302, 0, [some (eR a0), some (eI (a1)), some (eR a2), none, none, none, none], []), f :: F, μ) := by
  have F0 : Fr l_302_2 0 0 g μ μ := Fr.r
  refine w_t (np := 2) (l2 := [some (eR a0), some (eI (a1)), some (eR a2), none, none, none, none]) (s2 := [eI (7)]) rfl rfl rfl ?_
  refine w_t (np := 3) (l2 := [some (eR a0), some (eI (a1)), some (eR a2), none, none, none, none]) (s2 := [eI (a1), eI (7)]) rfl rfl rfl ?_
  obtain ⟨v1, e2⟩ : ∃ zz : Int, zz = (7) * (a1) := ⟨_, rfl⟩
  have b3 : 0 ≤ v1 ∧ v1 ≤ 161 := by omega
  refine w_t (np := 4) (l2 := [some (eR a0), some (eI (a1)), some (eR a2), none, none, none, none]) (s2 := [eI (v1)]) rfl (b_imul (by rw [← e2]; exact ev_w_in (by omega) (by omega))) rfl ?_
  refine w_t (np := 5) (l2 := [some (eR a0), some (eI (a1)), some (eR a2), some (eI (v1)), none, none, none]) (s2 := []) rfl rfl rfl ?_
  refine w_t (np := 6) (l2 := [some (eR a0), some (eI (a1)), some (eR a2), some (eI (v1)), none, none, none]) (s2 := [eR a0]) rfl (s_an rfl (pos_g hI gA0 (by decide))) rfl ?_
  refine j_gr (np := 9) rfl rfl hI gA0 (by decide) (n := 69) rfl rfl rfl ?_
  intro v4 e5 b6 z7
  have b6 : g v4 = 79 := Nat.eq_of_beq_eq_true b6
  refine w_t (np := 10) (l2 := [some (eR a0), some (eI (a1)), some (eR a2), some (eI (v1)), none, none, none]) (s2 := [eI (v1), eR v4]) rfl rfl rfl ?_
  refine w_t (np := 11) (l2 := [some (eR a0), some (eI (a1)), some (eR a2), some (eI (v1)), none, none, none]) (s2 := [eI (5), eI (v1), eR v4]) rfl rfl rfl ?_
  obtain ⟨v8, e9⟩ : ∃ zz : Int, zz = (v1) + (5) := ⟨_, rfl⟩
  have b10 : 5 ≤ v8 ∧ v8 ≤ 166 := by omega
  refine w_t (np := 12) (l2 := [some (eR a0), some (eI (a1)), some (eR a2), some (eI (v1)), none, none, none]) (s2 := [eI (v8), eR v4]) rfl (b_iadd (by rw [← e9]; exact ev_w_in (by omega) (by omega))) rfl ?_
  refine j_al (np := 13) rfl rfl hI b6 (by decide) (n := 168) rfl rfl (lo := -2147483648) (hi := 2147483647) (fun _ => rfl) (by omega) (by omega) ?_
  intro v11 e12 b13
  refine w_t (np := 15) (l2 := [some (eR a0), some (eI (a1)), some (eR a2), some (eI (v1)), some (eI (v11)), none, none]) (s2 := []) rfl rfl rfl ?_
  refine w_t (np := 16) (l2 := [some (eR a0), some (eI (a1)), some (eR a2), some (eI (v1)), some (eI (v11)), none, none]) (s2 := [eR a0]) rfl (s_an rfl (pos_g hI gA0 (by decide))) rfl ?_
  refine w_gf (np := 19) (v := eR v4) rfl rfl (hI.kd gA0 (by decide) (n := 69) rfl) (by rw [e5]; rfl) ?_
  refine w_t (np := 20) (l2 := [some (eR a0), some (eI (a1)), some (eR a2), some (eI (v1)), some (eI (v11)), none, none]) (s2 := [eI (v1), eR v4]) rfl rfl rfl ?_
  refine w_t (np := 22) (l2 := [some (eR a0), some (eI (a1)), some (eR a2), some (eI (v1)), some (eI (v11)), none, none]) (s2 := [eI (6), eI (v1), eR v4]) rfl rfl rfl ?_
  obtain ⟨v14, e15⟩ : ∃ zz : Int, zz = (v1) + (6) := ⟨_, rfl⟩
  have b16 : 6 ≤ v14 ∧ v14 ≤ 167 := by omega
  refine w_t (np := 23) (l2 := [some (eR a0), some (eI (a1)), some (eR a2), some (eI (v1)), some (eI (v11)), none, none]) (s2 := [eI (v14), eR v4]) rfl (b_iadd (by rw [← e15]; exact ev_w_in (by omega) (by omega))) rfl ?_
  refine j_al (np := 24) rfl rfl hI b6 (by decide) (n := 168) rfl rfl (lo := -2147483648) (hi := 2147483647) (fun _ => rfl) (by omega) (by omega) ?_
  intro v17 e18 b19
  refine b_ine (t1 := 42) (t2 := 27) rfl rfl rfl (ev_w_in (by omega) (by omega)) (fun g20 => ?_) (fun g20 => ?_)
  · refine w_t (np := 44) (l2 := [some (eR a0), some (eI (a1)), some (eR a2), some (eI (v1)), some (eI (v11)), none, none]) (s2 := [eI (v11)]) rfl rfl rfl ?_
    refine w_t (np := 45) (l2 := [some (eR a0), some (eI (a1)), some (eR a2), some (eI (v1)), some (eI (v11)), none, none]) (s2 := [eR a0, eI (v11)]) rfl (s_an rfl (pos_g hI gA0 (by decide))) rfl ?_
    refine w_gf (np := 48) (v := eR v4) rfl rfl (hI.kd gA0 (by decide) (n := 69) rfl) (by rw [e5]; rfl) ?_
    refine w_t (np := 49) (l2 := [some (eR a0), some (eI (a1)), some (eR a2), some (eI (v1)), some (eI (v11)), none, none]) (s2 := [eI (v1), eR v4, eI (v11)]) rfl rfl rfl ?_
    refine j_al (np := 50) rfl rfl hI b6 (by decide) (n := 168) rfl rfl (lo := -2147483648) (hi := 2147483647) (fun _ => rfl) (by omega) (by omega) ?_
    intro v21 e22 b23
    refine w_cu (np := 53) (as := [eI (v21)]) (l2 := [some (eI (v21))]) (rest := [eI (v11)]) rfl rfl rfl (Nat.ble_eq.mp rfl) rfl rfl rfl rfl ?_
    refine w_t (np := 1) (l2 := [some (eI (v21))]) (s2 := [eI (v21)]) rfl rfl rfl ?_
    refine b_ine (t1 := 8) (t2 := 4) rfl rfl rfl (ev_w_in (by omega) (by omega)) (fun g24 => ?_) (fun g24 => ?_)
    · refine w_t (np := 9) (l2 := [some (eI (v21))]) (s2 := [eI (3)]) rfl rfl rfl ?_
      refine b_ri rfl rfl ?_
      show ex_q (dt_fg L ρ) rc (d + 2, (302, 53, [some (eR a0), some (eI (a1)), some (eR a2), some (eI (v1)), some (eI (v11)), none, none], [eI (3), eI (v11)]), f :: F, μ)
      obtain ⟨v25, e26, b27⟩ : ∃ zz : Int, ev_w ((v11) - (3)) = zz ∧ (-2147483648 ≤ zz ∧ zz ≤ 2147483647) := ⟨_, rfl, hw_bd _⟩
      refine w_t (np := 54) (l2 := [some (eR a0), some (eI (a1)), some (eR a2), some (eI (v1)), some (eI (v11)), none, none]) (s2 := [eI (v25)]) rfl (b_isub e26) rfl ?_
      refine w_t (np := 56) (l2 := [some (eR a0), some (eI (a1)), some (eR a2), some (eI (v1)), some (eI (v11)), some (eI (v25)), none]) (s2 := []) rfl rfl rfl ?_
      refine w_t (np := 57) (l2 := [some (eR a0), some (eI (a1)), some (eR a2), some (eI (v1)), some (eI (v11)), some (eI (v25)), none]) (s2 := [eI (0)]) rfl rfl rfl ?_
      refine w_t (np := 59) (l2 := [some (eR a0), some (eI (a1)), some (eR a2), some (eI (v1)), some (eI (v11)), some (eI (v25)), some (eI (0))]) (s2 := []) rfl rfl rfl ?_
      have hL59 : ∀ (n28 : Nat) (m32 : eM) (i30 : Int), SI g m32 → Fr l_302_2 0 0 g μ m32 → (0 ≤ i30 ∧ i30 ≤ 4) → m32.1 a0 43 = ((v4 : Nat) : Int) → m32.1 v4 (v8).toNat = v11 → m32.1 v4 (v14).toNat = v17 → m32.1 v4 (v1).toNat = v21 → n28 = (4 - i30).toNat → ex_q (dt_fg L ρ) rc (d + 2, (302, 59, [some (eR a0), some (eI (a1)), some (eR a2), some (eI (v1)), some (eI (v11)), some (eI (v25)), some (eI (i30))], []), f :: F, m32) := by
        intro n28
        induction n28 using Nat.strongRecOn with
        | _ n28 ih29 =>
        intro m32 i30 I33 F34 b31 k35 k36 k37 k38 hn39
        refine w_t (np := 61) (l2 := [some (eR a0), some (eI (a1)), some (eR a2), some (eI (v1)), some (eI (v11)), some (eI (v25)), some (eI (i30))]) (s2 := [eI (i30)]) rfl rfl rfl ?_
        refine w_t (np := 62) (l2 := [some (eR a0), some (eI (a1)), some (eR a2), some (eI (v1)), some (eI (v11)), some (eI (v25)), some (eI (i30))]) (s2 := [eI (4), eI (i30)]) rfl rfl rfl ?_
        refine b_cge (t1 := 149) (t2 := 65) rfl rfl rfl (ev_w_in (by omega) (by omega)) rfl (fun g40 => ?_) (fun g40 => ?_)
        · have b41 : 4 ≤ i30 ∧ i30 ≤ 4 := by omega
          exact v_rv rfl rfl (K m32 I33 F34)
        · have b41 : 0 ≤ i30 ∧ i30 ≤ 3 := by omega
          refine w_t (np := 66) (l2 := [some (eR a0), some (eI (a1)), some (eR a2), some (eI (v1)), some (eI (v11)), some (eI (v25)), some (eI (i30))]) (s2 := [eR a2]) rfl (s_an rfl (pos_g I33 gA2 (by decide))) rfl ?_
          refine w_t (np := 68) (l2 := [some (eR a0), some (eI (a1)), some (eR a2), some (eI (v1)), some (eI (v11)), some (eI (v25)), some (eI (i30))]) (s2 := [eI (i30), eR a2]) rfl rfl rfl ?_
          refine w_t (np := 69) (l2 := [some (eR a0), some (eI (a1)), some (eR a2), some (eI (v1)), some (eI (v11)), some (eI (v25)), some (eI (i30))]) (s2 := [eR a0, eI (i30), eR a2]) rfl (s_an rfl (pos_g I33 gA0 (by decide))) rfl ?_
          refine w_gf (np := 72) (v := eR v4) rfl rfl (I33.kd gA0 (by decide) (n := 69) rfl) (by rw [k35]; rfl) ?_
          refine w_t (np := 73) (l2 := [some (eR a0), some (eI (a1)), some (eR a2), some (eI (v1)), some (eI (v11)), some (eI (v25)), some (eI (i30))]) (s2 := [eI (v1), eR v4, eI (i30), eR a2]) rfl rfl rfl ?_
          refine w_t (np := 74) (l2 := [some (eR a0), some (eI (a1)), some (eR a2), some (eI (v1)), some (eI (v11)), some (eI (v25)), some (eI (i30))]) (s2 := [eI (1), eI (v1), eR v4, eI (i30), eR a2]) rfl rfl rfl ?_
          obtain ⟨v41, e42⟩ : ∃ zz : Int, zz = (v1) + (1) := ⟨_, rfl⟩
          have b43 : 1 ≤ v41 ∧ v41 ≤ 162 := by omega
          refine w_t (np := 75) (l2 := [some (eR a0), some (eI (a1)), some (eR a2), some (eI (v1)), some (eI (v11)), some (eI (v25)), some (eI (i30))]) (s2 := [eI (v41), eR v4, eI (i30), eR a2]) rfl (b_iadd (by rw [← e42]; exact ev_w_in (by omega) (by omega))) rfl ?_
          refine w_t (np := 77) (l2 := [some (eR a0), some (eI (a1)), some (eR a2), some (eI (v1)), some (eI (v11)), some (eI (v25)), some (eI (i30))]) (s2 := [eI (i30), eI (v41), eR v4, eI (i30), eR a2]) rfl rfl rfl ?_
          obtain ⟨v44, e45⟩ : ∃ zz : Int, zz = (v41) + (i30) := ⟨_, rfl⟩
          have b46 : 1 ≤ v44 ∧ v44 ≤ 165 := by omega
          refine w_t (np := 78) (l2 := [some (eR a0), some (eI (a1)), some (eR a2), some (eI (v1)), some (eI (v11)), some (eI (v25)), some (eI (i30))]) (s2 := [eI (v44), eR v4, eI (i30), eR a2]) rfl (b_iadd (by rw [← e45]; exact ev_w_in (by omega) (by omega))) rfl ?_
          refine j_al (np := 79) rfl rfl I33 b6 (by decide) (n := 168) rfl rfl (lo := -2147483648) (hi := 2147483647) (fun _ => rfl) (by omega) (by omega) ?_
          intro v47 e48 b49
          refine j_as (np := 80) rfl rfl I33 gA2 (by decide) (n := 16) rfl rfl (lo := -2147483648) (hi := 2147483647) (fun _ => rfl) (by omega) (by omega) (by omega) ?_
          intro m50 I51 W52
          have F53 : Fr l_302_2 0 0 g μ m50 := F34.v W52 gA2 rfl rfl
          refine w_t (np := 81) (l2 := [some (eR a0), some (eI (a1)), some (eR a2), some (eI (v1)), some (eI (v11)), some (eI (v25)), some (eI (i30))]) (s2 := [eR a2]) rfl (s_an rfl (pos_g I51 gA2 (by decide))) rfl ?_
          refine w_t (np := 82) (l2 := [some (eR a0), some (eI (a1)), some (eR a2), some (eI (v1)), some (eI (v11)), some (eI (v25)), some (eI (i30))]) (s2 := [eI (4), eR a2]) rfl rfl rfl ?_
          refine w_t (np := 84) (l2 := [some (eR a0), some (eI (a1)), some (eR a2), some (eI (v1)), some (eI (v11)), some (eI (v25)), some (eI (i30))]) (s2 := [eI (i30), eI (4), eR a2]) rfl rfl rfl ?_
          obtain ⟨v54, e55⟩ : ∃ zz : Int, zz = (4) + (i30) := ⟨_, rfl⟩
          have b56 : 4 ≤ v54 ∧ v54 ≤ 7 := by omega
          refine w_t (np := 85) (l2 := [some (eR a0), some (eI (a1)), some (eR a2), some (eI (v1)), some (eI (v11)), some (eI (v25)), some (eI (i30))]) (s2 := [eI (v54), eR a2]) rfl (b_iadd (by rw [← e55]; exact ev_w_in (by omega) (by omega))) rfl ?_
          refine w_t (np := 86) (l2 := [some (eR a0), some (eI (a1)), some (eR a2), some (eI (v1)), some (eI (v11)), some (eI (v25)), some (eI (i30))]) (s2 := [eR a2, eI (v54), eR a2]) rfl (s_an rfl (pos_g I51 gA2 (by decide))) rfl ?_
          refine w_t (np := 88) (l2 := [some (eR a0), some (eI (a1)), some (eR a2), some (eI (v1)), some (eI (v11)), some (eI (v25)), some (eI (i30))]) (s2 := [eI (i30), eR a2, eI (v54), eR a2]) rfl rfl rfl ?_
          refine j_al (np := 89) rfl rfl I51 gA2 (by decide) (n := 16) rfl rfl (lo := -2147483648) (hi := 2147483647) (fun _ => rfl) (by omega) (by omega) ?_
          intro v57 e58 b59
          refine w_t (np := 91) (l2 := [some (eR a0), some (eI (a1)), some (eR a2), some (eI (v1)), some (eI (v11)), some (eI (v25)), some (eI (i30))]) (s2 := [eI (v11), eI (v57), eI (v54), eR a2]) rfl rfl rfl ?_
          refine w_t (np := 93) (l2 := [some (eR a0), some (eI (a1)), some (eR a2), some (eI (v1)), some (eI (v11)), some (eI (v25)), some (eI (i30))]) (s2 := [eI (i30), eI (v11), eI (v57), eI (v54), eR a2]) rfl rfl rfl ?_
          refine w_cu (np := 96) (as := [eI (v11), eI (i30)]) (l2 := [some (eI (v11)), some (eI (i30))]) (rest := [eI (v57), eI (v54), eR a2]) rfl rfl rfl (Nat.ble_eq.mp rfl) rfl rfl rfl rfl ?_
          refine s_218 (a0 := v11) (a1 := i30) I51 (by omega) (by omega) ?_
          intro v60 b61
          show ex_q (dt_fg L ρ) rc (d + 2, (302, 96, [some (eR a0), some (eI (a1)), some (eR a2), some (eI (v1)), some (eI (v11)), some (eI (v25)), some (eI (i30))], [eI (v60), eI (v57), eI (v54), eR a2]), f :: F, m50)
          obtain ⟨v62, e63, b64⟩ : ∃ zz : Int, ev_w ((v57) + (v60)) = zz ∧ (-2147483648 ≤ zz ∧ zz ≤ 2147483647) := ⟨_, rfl, hw_bd _⟩
          refine w_t (np := 97) (l2 := [some (eR a0), some (eI (a1)), some (eR a2), some (eI (v1)), some (eI (v11)), some (eI (v25)), some (eI (i30))]) (s2 := [eI (v62), eI (v54), eR a2]) rfl (b_iadd e63) rfl ?_
          refine j_as (np := 98) rfl rfl I51 gA2 (by decide) (n := 16) rfl rfl (lo := -2147483648) (hi := 2147483647) (fun _ => rfl) (by omega) (by omega) (by omega) ?_
          intro m65 I66 W67
          have F68 : Fr l_302_2 0 0 g μ m65 := F53.v W67 gA2 rfl rfl
          refine w_t (np := 99) (l2 := [some (eR a0), some (eI (a1)), some (eR a2), some (eI (v1)), some (eI (v11)), some (eI (v25)), some (eI (i30))]) (s2 := [eR a2]) rfl (s_an rfl (pos_g I66 gA2 (by decide))) rfl ?_
          refine w_t (np := 101) (l2 := [some (eR a0), some (eI (a1)), some (eR a2), some (eI (v1)), some (eI (v11)), some (eI (v25)), some (eI (i30))]) (s2 := [eI (12), eR a2]) rfl rfl rfl ?_
          refine w_t (np := 103) (l2 := [some (eR a0), some (eI (a1)), some (eR a2), some (eI (v1)), some (eI (v11)), some (eI (v25)), some (eI (i30))]) (s2 := [eI (i30), eI (12), eR a2]) rfl rfl rfl ?_
          obtain ⟨v69, e70⟩ : ∃ zz : Int, zz = (12) + (i30) := ⟨_, rfl⟩
          have b71 : 12 ≤ v69 ∧ v69 ≤ 15 := by omega
          refine w_t (np := 104) (l2 := [some (eR a0), some (eI (a1)), some (eR a2), some (eI (v1)), some (eI (v11)), some (eI (v25)), some (eI (i30))]) (s2 := [eI (v69), eR a2]) rfl (b_iadd (by rw [← e70]; exact ev_w_in (by omega) (by omega))) rfl ?_
          refine w_t (np := 105) (l2 := [some (eR a0), some (eI (a1)), some (eR a2), some (eI (v1)), some (eI (v11)), some (eI (v25)), some (eI (i30))]) (s2 := [eR a2, eI (v69), eR a2]) rfl (s_an rfl (pos_g I66 gA2 (by decide))) rfl ?_
          refine w_t (np := 107) (l2 := [some (eR a0), some (eI (a1)), some (eR a2), some (eI (v1)), some (eI (v11)), some (eI (v25)), some (eI (i30))]) (s2 := [eI (i30), eR a2, eI (v69), eR a2]) rfl rfl rfl ?_
          refine j_al (np := 108) rfl rfl I66 gA2 (by decide) (n := 16) rfl rfl (lo := -2147483648) (hi := 2147483647) (fun _ => rfl) (by omega) (by omega) ?_
          intro v72 e73 b74
          refine w_t (np := 110) (l2 := [some (eR a0), some (eI (a1)), some (eR a2), some (eI (v1)), some (eI (v11)), some (eI (v25)), some (eI (i30))]) (s2 := [eI (v25), eI (v72), eI (v69), eR a2]) rfl rfl rfl ?_
          refine w_t (np := 112) (l2 := [some (eR a0), some (eI (a1)), some (eR a2), some (eI (v1)), some (eI (v11)), some (eI (v25)), some (eI (i30))]) (s2 := [eI (i30), eI (v25), eI (v72), eI (v69), eR a2]) rfl rfl rfl ?_
          refine w_cu (np := 115) (as := [eI (v25), eI (i30)]) (l2 := [some (eI (v25)), some (eI (i30))]) (rest := [eI (v72), eI (v69), eR a2]) rfl rfl rfl (Nat.ble_eq.mp rfl) rfl rfl rfl rfl ?_
          refine s_218 (a0 := v25) (a1 := i30) I66 (by omega) (by omega) ?_
          intro v75 b76
          show ex_q (dt_fg L ρ) rc (d + 2, (302, 115, [some (eR a0), some (eI (a1)), some (eR a2), some (eI (v1)), some (eI (v11)), some (eI (v25)), some (eI (i30))], [eI (v75), eI (v72), eI (v69), eR a2]), f :: F, m65)
          obtain ⟨v77, e78, b79⟩ : ∃ zz : Int, ev_w ((v72) + (v75)) = zz ∧ (-2147483648 ≤ zz ∧ zz ≤ 2147483647) := ⟨_, rfl, hw_bd _⟩
          refine w_t (np := 116) (l2 := [some (eR a0), some (eI (a1)), some (eR a2), some (eI (v1)), some (eI (v11)), some (eI (v25)), some (eI (i30))]) (s2 := [eI (v77), eI (v69), eR a2]) rfl (b_iadd e78) rfl ?_
          refine j_as (np := 117) rfl rfl I66 gA2 (by decide) (n := 16) rfl rfl (lo := -2147483648) (hi := 2147483647) (fun _ => rfl) (by omega) (by omega) (by omega) ?_
          intro m80 I81 W82
          have F83 : Fr l_302_2 0 0 g μ m80 := F68.v W82 gA2 rfl rfl
          refine w_t (np := 118) (l2 := [some (eR a0), some (eI (a1)), some (eR a2), some (eI (v1)), some (eI (v11)), some (eI (v25)), some (eI (i30))]) (s2 := [eR a2]) rfl (s_an rfl (pos_g I81 gA2 (by decide))) rfl ?_
          refine w_t (np := 120) (l2 := [some (eR a0), some (eI (a1)), some (eR a2), some (eI (v1)), some (eI (v11)), some (eI (v25)), some (eI (i30))]) (s2 := [eI (8), eR a2]) rfl rfl rfl ?_
          refine w_t (np := 122) (l2 := [some (eR a0), some (eI (a1)), some (eR a2), some (eI (v1)), some (eI (v11)), some (eI (v25)), some (eI (i30))]) (s2 := [eI (i30), eI (8), eR a2]) rfl rfl rfl ?_
          obtain ⟨v84, e85⟩ : ∃ zz : Int, zz = (8) + (i30) := ⟨_, rfl⟩
          have b86 : 8 ≤ v84 ∧ v84 ≤ 11 := by omega
          refine w_t (np := 123) (l2 := [some (eR a0), some (eI (a1)), some (eR a2), some (eI (v1)), some (eI (v11)), some (eI (v25)), some (eI (i30))]) (s2 := [eI (v84), eR a2]) rfl (b_iadd (by rw [← e85]; exact ev_w_in (by omega) (by omega))) rfl ?_
          refine w_t (np := 124) (l2 := [some (eR a0), some (eI (a1)), some (eR a2), some (eI (v1)), some (eI (v11)), some (eI (v25)), some (eI (i30))]) (s2 := [eR a2, eI (v84), eR a2]) rfl (s_an rfl (pos_g I81 gA2 (by decide))) rfl ?_
          refine w_t (np := 125) (l2 := [some (eR a0), some (eI (a1)), some (eR a2), some (eI (v1)), some (eI (v11)), some (eI (v25)), some (eI (i30))]) (s2 := [eI (4), eR a2, eI (v84), eR a2]) rfl rfl rfl ?_
          refine w_t (np := 127) (l2 := [some (eR a0), some (eI (a1)), some (eR a2), some (eI (v1)), some (eI (v11)), some (eI (v25)), some (eI (i30))]) (s2 := [eI (i30), eI (4), eR a2, eI (v84), eR a2]) rfl rfl rfl ?_
          obtain ⟨v87, e88⟩ : ∃ zz : Int, zz = (4) + (i30) := ⟨_, rfl⟩
          have b89 : 4 ≤ v87 ∧ v87 ≤ 7 := by omega
          refine w_t (np := 128) (l2 := [some (eR a0), some (eI (a1)), some (eR a2), some (eI (v1)), some (eI (v11)), some (eI (v25)), some (eI (i30))]) (s2 := [eI (v87), eR a2, eI (v84), eR a2]) rfl (b_iadd (by rw [← e88]; exact ev_w_in (by omega) (by omega))) rfl ?_
          refine j_al (np := 129) rfl rfl I81 gA2 (by decide) (n := 16) rfl rfl (lo := -2147483648) (hi := 2147483647) (fun _ => rfl) (by omega) (by omega) ?_
          intro v90 e91 b92
          refine w_t (np := 130) (l2 := [some (eR a0), some (eI (a1)), some (eR a2), some (eI (v1)), some (eI (v11)), some (eI (v25)), some (eI (i30))]) (s2 := [eR a2, eI (v90), eI (v84), eR a2]) rfl (s_an rfl (pos_g I81 gA2 (by decide))) rfl ?_
          refine w_t (np := 132) (l2 := [some (eR a0), some (eI (a1)), some (eR a2), some (eI (v1)), some (eI (v11)), some (eI (v25)), some (eI (i30))]) (s2 := [eI (12), eR a2, eI (v90), eI (v84), eR a2]) rfl rfl rfl ?_
          refine w_t (np := 134) (l2 := [some (eR a0), some (eI (a1)), some (eR a2), some (eI (v1)), some (eI (v11)), some (eI (v25)), some (eI (i30))]) (s2 := [eI (i30), eI (12), eR a2, eI (v90), eI (v84), eR a2]) rfl rfl rfl ?_
          obtain ⟨v93, e94⟩ : ∃ zz : Int, zz = (12) + (i30) := ⟨_, rfl⟩
          have b95 : 12 ≤ v93 ∧ v93 ≤ 15 := by omega
          refine w_t (np := 135) (l2 := [some (eR a0), some (eI (a1)), some (eR a2), some (eI (v1)), some (eI (v11)), some (eI (v25)), some (eI (i30))]) (s2 := [eI (v93), eR a2, eI (v90), eI (v84), eR a2]) rfl (b_iadd (by rw [← e94]; exact ev_w_in (by omega) (by omega))) rfl ?_
          refine j_al (np := 136) rfl rfl I81 gA2 (by decide) (n := 16) rfl rfl (lo := -2147483648) (hi := 2147483647) (fun _ => rfl) (by omega) (by omega) ?_
          intro v96 e97 b98
          obtain ⟨v99, e100, b101⟩ : ∃ zz : Int, ev_w ((v90) + (v96)) = zz ∧ (-2147483648 ≤ zz ∧ zz ≤ 2147483647) := ⟨_, rfl, hw_bd _⟩
          refine w_t (np := 137) (l2 := [some (eR a0), some (eI (a1)), some (eR a2), some (eI (v1)), some (eI (v11)), some (eI (v25)), some (eI (i30))]) (s2 := [eI (v99), eI (v84), eR a2]) rfl (b_iadd e100) rfl ?_
          refine w_t (np := 138) (l2 := [some (eR a0), some (eI (a1)), some (eR a2), some (eI (v1)), some (eI (v11)), some (eI (v25)), some (eI (i30))]) (s2 := [eR a2, eI (v99), eI (v84), eR a2]) rfl (s_an rfl (pos_g I81 gA2 (by decide))) rfl ?_
          refine w_t (np := 140) (l2 := [some (eR a0), some (eI (a1)), some (eR a2), some (eI (v1)), some (eI (v11)), some (eI (v25)), some (eI (i30))]) (s2 := [eI (i30), eR a2, eI (v99), eI (v84), eR a2]) rfl rfl rfl ?_
          refine j_al (np := 141) rfl rfl I81 gA2 (by decide) (n := 16) rfl rfl (lo := -2147483648) (hi := 2147483647) (fun _ => rfl) (by omega) (by omega) ?_
          intro v102 e103 b104
          obtain ⟨v105, e106, b107⟩ : ∃ zz : Int, ev_w ((v99) - (v102)) = zz ∧ (-2147483648 ≤ zz ∧ zz ≤ 2147483647) := ⟨_, rfl, hw_bd _⟩
          refine w_t (np := 142) (l2 := [some (eR a0), some (eI (a1)), some (eR a2), some (eI (v1)), some (eI (v11)), some (eI (v25)), some (eI (i30))]) (s2 := [eI (v105), eI (v84), eR a2]) rfl (b_isub e106) rfl ?_
          refine j_as (np := 143) rfl rfl I81 gA2 (by decide) (n := 16) rfl rfl (lo := -2147483648) (hi := 2147483647) (fun _ => rfl) (by omega) (by omega) (by omega) ?_
          intro m108 I109 W110
          have F111 : Fr l_302_2 0 0 g μ m108 := F83.v W110 gA2 rfl rfl
          obtain ⟨v112, e113⟩ : ∃ zz : Int, zz = (i30) + (1) := ⟨_, rfl⟩
          have b114 : 1 ≤ v112 ∧ v112 ≤ 4 := by omega
          refine w_t (np := 146) (l2 := [some (eR a0), some (eI (a1)), some (eR a2), some (eI (v1)), some (eI (v11)), some (eI (v25)), some (eI (v112))]) (s2 := []) rfl (b_iinc rfl (by rw [← e113]; exact ev_w_in (by omega) (by omega)) rfl) rfl ?_
          refine w_go (t1 := 59) rfl rfl ?_
          exact ih29 (4 - (v112)).toNat (by omega) m108 (v112) I109 F111 (by omega) (W110.addr (W82.addr (W67.addr (W52.addr k35 gA2 gA0 (by decide)) gA2 gA0 (by decide)) gA2 gA0 (by decide)) gA2 gA0 (by decide)) (W110.addr (W82.addr (W67.addr (W52.addr k36 gA2 b6 (by decide)) gA2 b6 (by decide)) gA2 b6 (by decide)) gA2 b6 (by decide)) (W110.addr (W82.addr (W67.addr (W52.addr k37 gA2 b6 (by decide)) gA2 b6 (by decide)) gA2 b6 (by decide)) gA2 b6 (by decide)) (W110.addr (W82.addr (W67.addr (W52.addr k38 gA2 b6 (by decide)) gA2 b6 (by decide)) gA2 b6 (by decide)) gA2 b6 (by decide))    rfl
      exact hL59 _ μ (0) hI F0 (by decide) e5 e12 e18 e22    rfl
    · have b25 : 0 ≤ v21 ∧ v21 ≤ 0 := by omega
      refine w_t (np := 5) (l2 := [some (eI (v21))]) (s2 := [eI (1)]) rfl rfl rfl ?_
      refine w_go (t1 := 9) rfl rfl ?_
      refine b_ri rfl rfl ?_
      show ex_q (dt_fg L ρ) rc (d + 2, (302, 53, [some (eR a0), some (eI (a1)), some (eR a2), some (eI (v1)), some (eI (v11)), none, none], [eI (1), eI (v11)]), f :: F, μ)
      obtain ⟨v25, e26, b27⟩ : ∃ zz : Int, ev_w ((v11) - (1)) = zz ∧ (-2147483648 ≤ zz ∧ zz ≤ 2147483647) := ⟨_, rfl, hw_bd _⟩
      refine w_t (np := 54) (l2 := [some (eR a0), some (eI (a1)), some (eR a2), some (eI (v1)), some (eI (v11)), none, none]) (s2 := [eI (v25)]) rfl (b_isub e26) rfl ?_
      refine w_t (np := 56) (l2 := [some (eR a0), some (eI (a1)), some (eR a2), some (eI (v1)), some (eI (v11)), some (eI (v25)), none]) (s2 := []) rfl rfl rfl ?_
      refine w_t (np := 57) (l2 := [some (eR a0), some (eI (a1)), some (eR a2), some (eI (v1)), some (eI (v11)), some (eI (v25)), none]) (s2 := [eI (0)]) rfl rfl rfl ?_
      refine w_t (np := 59) (l2 := [some (eR a0), some (eI (a1)), some (eR a2), some (eI (v1)), some (eI (v11)), some (eI (v25)), some (eI (0))]) (s2 := []) rfl rfl rfl ?_
      have hL59 : ∀ (n28 : Nat) (m32 : eM) (i30 : Int), SI g m32 → Fr l_302_2 0 0 g μ m32 → (0 ≤ i30 ∧ i30 ≤ 4) → m32.1 a0 43 = ((v4 : Nat) : Int) → m32.1 v4 (v8).toNat = v11 → m32.1 v4 (v14).toNat = v17 → m32.1 v4 (v1).toNat = v21 → n28 = (4 - i30).toNat → ex_q (dt_fg L ρ) rc (d + 2, (302, 59, [some (eR a0), some (eI (a1)), some (eR a2), some (eI (v1)), some (eI (v11)), some (eI (v25)), some (eI (i30))], []), f :: F, m32) := by
        intro n28
        induction n28 using Nat.strongRecOn with
        | _ n28 ih29 =>
        intro m32 i30 I33 F34 b31 k35 k36 k37 k38 hn39
        refine w_t (np := 61) (l2 := [some (eR a0), some (eI (a1)), some (eR a2), some (eI (v1)), some (eI (v11)), some (eI (v25)), some (eI (i30))]) (s2 := [eI (i30)]) rfl rfl rfl ?_
        refine w_t (np := 62) (l2 := [some (eR a0), some (eI (a1)), some (eR a2), some (eI (v1)), some (eI (v11)), some (eI (v25)), some (eI (i30))]) (s2 := [eI (4), eI (i30)]) rfl rfl rfl ?_
        refine b_cge (t1 := 149) (t2 := 65) rfl rfl rfl (ev_w_in (by omega) (by omega)) rfl (fun g40 => ?_) (fun g40 => ?_)
        · have b41 : 4 ≤ i30 ∧ i30 ≤ 4 := by omega
          exact v_rv rfl rfl (K m32 I33 F34)
        · have b41 : 0 ≤ i30 ∧ i30 ≤ 3 := by omega
          refine w_t (np := 66) (l2 := [some (eR a0), some (eI (a1)), some (eR a2), some (eI (v1)), some (eI (v11)), some (eI (v25)), some (eI (i30))]) (s2 := [eR a2]) rfl (s_an rfl (pos_g I33 gA2 (by decide))) rfl ?_
          refine w_t (np := 68) (l2 := [some (eR a0), some (eI (a1)), some (eR a2), some (eI (v1)), some (eI (v11)), some (eI (v25)), some (eI (i30))]) (s2 := [eI (i30), eR a2]) rfl rfl rfl ?_
          refine w_t (np := 69) (l2 := [some (eR a0), some (eI (a1)), some (eR a2), some (eI (v1)), some (eI (v11)), some (eI (v25)), some (eI (i30))]) (s2 := [eR a0, eI (i30), eR a2]) rfl (s_an rfl (pos_g I33 gA0 (by decide))) rfl ?_
          refine w_gf (np := 72) (v := eR v4) rfl rfl (I33.kd gA0 (by decide) (n := 69) rfl) (by rw [k35]; rfl) ?_
          refine w_t (np := 73) (l2 := [some (eR a0), some (eI (a1)), some (eR a2), some (eI (v1)), some (eI (v11)), some (eI (v25)), some (eI (i30))]) (s2 := [eI (v1), eR v4, eI (i30), eR a2]) rfl rfl rfl ?_
          refine w_t (np := 74) (l2 := [some (eR a0), some (eI (a1)), some (eR a2), some (eI (v1)), some (eI (v11)), some (eI (v25)), some (eI (i30))]) (s2 := [eI (1), eI (v1), eR v4, eI (i30), eR a2]) rfl rfl rfl ?_
          obtain ⟨v41, e42⟩ : ∃ zz : Int, zz = (v1) + (1) := ⟨_, rfl⟩
          have b43 : 1 ≤ v41 ∧ v41 ≤ 162 := by omega
          refine w_t (np := 75) (l2 := [some (eR a0), some (eI (a1)), some (eR a2), some (eI (v1)), some (eI (v11)), some (eI (v25)), some (eI (i30))]) (s2 := [eI (v41), eR v4, eI (i30), eR a2]) rfl (b_iadd (by rw [← e42]; exact ev_w_in (by omega) (by omega))) rfl ?_
          refine w_t (np := 77) (l2 := [some (eR a0), some (eI (a1)), some (eR a2), some (eI (v1)), some (eI (v11)), some (eI (v25)), some (eI (i30))]) (s2 := [eI (i30), eI (v41), eR v4, eI (i30), eR a2]) rfl rfl rfl ?_
          obtain ⟨v44, e45⟩ : ∃ zz : Int, zz = (v41) + (i30) := ⟨_, rfl⟩
          have b46 : 1 ≤ v44 ∧ v44 ≤ 165 := by omega
          refine w_t (np := 78) (l2 := [some (eR a0), some (eI (a1)), some (eR a2), some (eI (v1)), some (eI (v11)), some (eI (v25)), some (eI (i30))]) (s2 := [eI (v44), eR v4, eI (i30), eR a2]) rfl (b_iadd (by rw [← e45]; exact ev_w_in (by omega) (by omega))) rfl ?_
          refine j_al (np := 79) rfl rfl I33 b6 (by decide) (n := 168) rfl rfl (lo := -2147483648) (hi := 2147483647) (fun _ => rfl) (by omega) (by omega) ?_
          intro v47 e48 b49
          refine j_as (np := 80) rfl rfl I33 gA2 (by decide) (n := 16) rfl rfl (lo := -2147483648) (hi := 2147483647) (fun _ => rfl) (by omega) (by omega) (by omega) ?_
          intro m50 I51 W52
          have F53 : Fr l_302_2 0 0 g μ m50 := F34.v W52 gA2 rfl rfl
          refine w_t (np := 81) (l2 := [some (eR a0), some (eI (a1)), some (eR a2), some (eI (v1)), some (eI (v11)), some (eI (v25)), some (eI (i30))]) (s2 := [eR a2]) rfl (s_an rfl (pos_g I51 gA2 (by decide))) rfl ?_
          refine w_t (np := 82) (l2 := [some (eR a0), some (eI (a1)), some (eR a2), some (eI (v1)), some (eI (v11)), some (eI (v25)), some (eI (i30))]) (s2 := [eI (4), eR a2]) rfl rfl rfl ?_
          refine w_t (np := 84) (l2 := [some (eR a0), some (eI (a1)), some (eR a2), some (eI (v1)), some (eI (v11)), some (eI (v25)), some (eI (i30))]) (s2 := [eI (i30), eI (4), eR a2]) rfl rfl rfl ?_
          obtain ⟨v54, e55⟩ : ∃ zz : Int, zz = (4) + (i30) := ⟨_, rfl⟩
          have b56 : 4 ≤ v54 ∧ v54 ≤ 7 := by omega
          refine w_t (np := 85) (l2 := [some (eR a0), some (eI (a1)), some (eR a2), some (eI (v1)), some (eI (v11)), some (eI (v25)), some (eI (i30))]) (s2 := [eI (v54), eR a2]) rfl (b_iadd (by rw [← e55]; exact ev_w_in (by omega) (by omega))) rfl ?_
          refine w_t (np := 86) (l2 := [some (eR a0), some (eI (a1)), some (eR a2), some (eI (v1)), some (eI (v11)), some (eI (v25)), some (eI (i30))]) (s2 := [eR a2, eI (v54), eR a2]) rfl (s_an rfl (pos_g I51 gA2 (by decide))) rfl ?_
          refine w_t (np := 88) (l2 := [some (eR a0), some (eI (a1)), some (eR a2), some (eI (v1)), some (eI (v11)), some (eI (v25)), some (eI (i30))]) (s2 := [eI (i30), eR a2, eI (v54), eR a2]) rfl rfl rfl ?_
          refine j_al (np := 89) rfl rfl I51 gA2 (by decide) (n := 16) rfl rfl (lo := -2147483648) (hi := 2147483647) (fun _ => rfl) (by omega) (by omega) ?_
          intro v57 e58 b59
          refine w_t (np := 91) (l2 := [some (eR a0), some (eI (a1)), some (eR a2), some (eI (v1)), some (eI (v11)), some (eI (v25)), some (eI (i30))]) (s2 := [eI (v11), eI (v57), eI (v54), eR a2]) rfl rfl rfl ?_
          refine w_t (np := 93) (l2 := [some (eR a0), some (eI (a1)), some (eR a2), some (eI (v1)), some (eI (v11)), some (eI (v25)), some (eI (i30))]) (s2 := [eI (i30), eI (v11), eI (v57), eI (v54), eR a2]) rfl rfl rfl ?_
          refine w_cu (np := 96) (as := [eI (v11), eI (i30)]) (l2 := [some (eI (v11)), some (eI (i30))]) (rest := [eI (v57), eI (v54), eR a2]) rfl rfl rfl (Nat.ble_eq.mp rfl) rfl rfl rfl rfl ?_
          refine s_218 (a0 := v11) (a1 := i30) I51 (by omega) (by omega) ?_
          intro v60 b61
          show ex_q (dt_fg L ρ) rc (d + 2, (302, 96, [some (eR a0), some (eI (a1)), some (eR a2), some (eI (v1)), some (eI (v11)), some (eI (v25)), some (eI (i30))], [eI (v60), eI (v57), eI (v54), eR a2]), f :: F, m50)
          obtain ⟨v62, e63, b64⟩ : ∃ zz : Int, ev_w ((v57) + (v60)) = zz ∧ (-2147483648 ≤ zz ∧ zz ≤ 2147483647) := ⟨_, rfl, hw_bd _⟩
          refine w_t (np := 97) (l2 := [some (eR a0), some (eI (a1)), some (eR a2), some (eI (v1)), some (eI (v11)), some (eI (v25)), some (eI (i30))]) (s2 := [eI (v62), eI (v54), eR a2]) rfl (b_iadd e63) rfl ?_
          refine j_as (np := 98) rfl rfl I51 gA2 (by decide) (n := 16) rfl rfl (lo := -2147483648) (hi := 2147483647) (fun _ => rfl) (by omega) (by omega) (by omega) ?_
          intro m65 I66 W67
          have F68 : Fr l_302_2 0 0 g μ m65 := F53.v W67 gA2 rfl rfl
          refine w_t (np := 99) (l2 := [some (eR a0), some (eI (a1)), some (eR a2), some (eI (v1)), some (eI (v11)), some (eI (v25)), some (eI (i30))]) (s2 := [eR a2]) rfl (s_an rfl (pos_g I66 gA2 (by decide))) rfl ?_
          refine w_t (np := 101) (l2 := [some (eR a0), some (eI (a1)), some (eR a2), some (eI (v1)), some (eI (v11)), some (eI (v25)), some (eI (i30))]) (s2 := [eI (12), eR a2]) rfl rfl rfl ?_
          refine w_t (np := 103) (l2 := [some (eR a0), some (eI (a1)), some (eR a2), some (eI (v1)), some (eI (v11)), some (eI (v25)), some (eI (i30))]) (s2 := [eI (i30), eI (12), eR a2]) rfl rfl rfl ?_
          obtain ⟨v69, e70⟩ : ∃ zz : Int, zz = (12) + (i30) := ⟨_, rfl⟩
          have b71 : 12 ≤ v69 ∧ v69 ≤ 15 := by omega
          refine w_t (np := 104) (l2 := [some (eR a0), some (eI (a1)), some (eR a2), some (eI (v1)), some (eI (v11)), some (eI (v25)), some (eI (i30))]) (s2 := [eI (v69), eR a2]) rfl (b_iadd (by rw [← e70]; exact ev_w_in (by omega) (by omega))) rfl ?_
          refine w_t (np := 105) (l2 := [some (eR a0), some (eI (a1)), some (eR a2), some (eI (v1)), some (eI (v11)), some (eI (v25)), some (eI (i30))]) (s2 := [eR a2, eI (v69), eR a2]) rfl (s_an rfl (pos_g I66 gA2 (by decide))) rfl ?_
          refine w_t (np := 107) (l2 := [some (eR a0), some (eI (a1)), some (eR a2), some (eI (v1)), some (eI (v11)), some (eI (v25)), some (eI (i30))]) (s2 := [eI (i30), eR a2, eI (v69), eR a2]) rfl rfl rfl ?_
          refine j_al (np := 108) rfl rfl I66 gA2 (by decide) (n := 16) rfl rfl (lo := -2147483648) (hi := 2147483647) (fun _ => rfl) (by omega) (by omega) ?_
          intro v72 e73 b74
          refine w_t (np := 110) (l2 := [some (eR a0), some (eI (a1)), some (eR a2), some (eI (v1)), some (eI (v11)), some (eI (v25)), some (eI (i30))]) (s2 := [eI (v25), eI (v72), eI (v69), eR a2]) rfl rfl rfl ?_
          refine w_t (np := 112) (l2 := [some (eR a0), some (eI (a1)), some (eR a2), some (eI (v1)), some (eI (v11)), some (eI (v25)), some (eI (i30))]) (s2 := [eI (i30), eI (v25), eI (v72), eI (v69), eR a2]) rfl rfl rfl ?_
          refine w_cu (np := 115) (as := [eI (v25), eI (i30)]) (l2 := [some (eI (v25)), some (eI (i30))]) (rest := [eI (v72), eI (v69), eR a2]) rfl rfl rfl (Nat.ble_eq.mp rfl) rfl rfl rfl rfl ?_
          refine s_218 (a0 := v25) (a1 := i30) I66 (by omega) (by omega) ?_
          intro v75 b76
          show ex_q (dt_fg L ρ) rc (d + 2, (302, 115, [some (eR a0), some (eI (a1)), some (eR a2), some (eI (v1)), some (eI (v11)), some (eI (v25)), some (eI (i30))], [eI (v75), eI (v72), eI (v69), eR a2]), f :: F, m65)
          obtain ⟨v77, e78, b79⟩ : ∃ zz : Int, ev_w ((v72) + (v75)) = zz ∧ (-2147483648 ≤ zz ∧ zz ≤ 2147483647) := ⟨_, rfl, hw_bd _⟩
          refine w_t (np := 116) (l2 := [some (eR a0), some (eI (a1)), some (eR a2), some (eI (v1)), some (eI (v11)), some (eI (v25)), some (eI (i30))]) (s2 := [eI (v77), eI (v69), eR a2]) rfl (b_iadd e78) rfl ?_
          refine j_as (np := 117) rfl rfl I66 gA2 (by decide) (n := 16) rfl rfl (lo := -2147483648) (hi := 2147483647) (fun _ => rfl) (by omega) (by omega) (by omega) ?_
          intro m80 I81 W82
          have F83 : Fr l_302_2 0 0 g μ m80 := F68.v W82 gA2 rfl rfl
          refine w_t (np := 118) (l2 := [some (eR a0), some (eI (a1)), some (eR a2), some (eI (v1)), some (eI (v11)), some (eI (v25)), some (eI (i30))]) (s2 := [eR a2]) rfl (s_an rfl (pos_g I81 gA2 (by decide))) rfl ?_
          refine w_t (np := 120) (l2 := [some (eR a0), some (eI (a1)), some (eR a2), some (eI (v1)), some (eI (v11)), some (eI (v25)), some (eI (i30))]) (s2 := [eI (8), eR a2]) rfl rfl rfl ?_
          refine w_t (np := 122) (l2 := [some (eR a0), some (eI (a1)), some (eR a2), some (eI (v1)), some (eI (v11)), some (eI (v25)), some (eI (i30))]) (s2 := [eI (i30), eI (8), eR a2]) rfl rfl rfl ?_
          obtain ⟨v84, e85⟩ : ∃ zz : Int, zz = (8) + (i30) := ⟨_, rfl⟩
          have b86 : 8 ≤ v84 ∧ v84 ≤ 11 := by omega
          refine w_t (np := 123) (l2 := [some (eR a0), some (eI (a1)), some (eR a2), some (eI (v1)), some (eI (v11)), some (eI (v25)), some (eI (i30))]) (s2 := [eI (v84), eR a2]) rfl (b_iadd (by rw [← e85]; exact ev_w_in (by omega) (by omega))) rfl ?_
          refine w_t (np := 124) (l2 := [some (eR a0), some (eI (a1)), some (eR a2), some (eI (v1)), some (eI (v11)), some (eI (v25)), some (eI (i30))]) (s2 := [eR a2, eI (v84), eR a2]) rfl (s_an rfl (pos_g I81 gA2 (by decide))) rfl ?_
          refine w_t (np := 125) (l2 := [some (eR a0), some (eI (a1)), some (eR a2), some (eI (v1)), some (eI (v11)), some (eI (v25)), some (eI (i30))]) (s2 := [eI (4), eR a2, eI (v84), eR a2]) rfl rfl rfl ?_
          refine w_t (np := 127) (l2 := [some (eR a0), some (eI (a1)), some (eR a2), some (eI (v1)), some (eI (v11)), some (eI (v25)), some (eI (i30))]) (s2 := [eI (i30), eI (4), eR a2, eI (v84), eR a2]) rfl rfl rfl ?_
          obtain ⟨v87, e88⟩ : ∃ zz : Int, zz = (4) + (i30) := ⟨_, rfl⟩
          have b89 : 4 ≤ v87 ∧ v87 ≤ 7 := by omega
          refine w_t (np := 128) (l2 := [some (eR a0), some (eI (a1)), some (eR a2), some (eI (v1)), some (eI (v11)), some (eI (v25)), some (eI (i30))]) (s2 := [eI (v87), eR a2, eI (v84), eR a2]) rfl (b_iadd (by rw [← e88]; exact ev_w_in (by omega) (by omega))) rfl ?_
          refine j_al (np := 129) rfl rfl I81 gA2 (by decide) (n := 16) rfl rfl (lo := -2147483648) (hi := 2147483647) (fun _ => rfl) (by omega) (by omega) ?_
          intro v90 e91 b92
          refine w_t (np := 130) (l2 := [some (eR a0), some (eI (a1)), some (eR a2), some (eI (v1)), some (eI (v11)), some (eI (v25)), some (eI (i30))]) (s2 := [eR a2, eI (v90), eI (v84), eR a2]) rfl (s_an rfl (pos_g I81 gA2 (by decide))) rfl ?_
          refine w_t (np := 132) (l2 := [some (eR a0), some (eI (a1)), some (eR a2), some (eI (v1)), some (eI (v11)), some (eI (v25)), some (eI (i30))]) (s2 := [eI (12), eR a2, eI (v90), eI (v84), eR a2]) rfl rfl rfl ?_
          refine w_t (np := 134) (l2 := [some (eR a0), some (eI (a1)), some (eR a2), some (eI (v1)), some (eI (v11)), some (eI (v25)), some (eI (i30))]) (s2 := [eI (i30), eI (12), eR a2, eI (v90), eI (v84), eR a2]) rfl rfl rfl ?_
          obtain ⟨v93, e94⟩ : ∃ zz : Int, zz = (12) + (i30) := ⟨_, rfl⟩
          have b95 : 12 ≤ v93 ∧ v93 ≤ 15 := by omega
          refine w_t (np := 135) (l2 := [some (eR a0), some (eI (a1)), some (eR a2), some (eI (v1)), some (eI (v11)), some (eI (v25)), some (eI (i30))]) (s2 := [eI (v93), eR a2, eI (v90), eI (v84), eR a2]) rfl (b_iadd (by rw [← e94]; exact ev_w_in (by omega) (by omega))) rfl ?_
          refine j_al (np := 136) rfl rfl I81 gA2 (by decide) (n := 16) rfl rfl (lo := -2147483648) (hi := 2147483647) (fun _ => rfl) (by omega) (by omega) ?_
          intro v96 e97 b98
          obtain ⟨v99, e100, b101⟩ : ∃ zz : Int, ev_w ((v90) + (v96)) = zz ∧ (-2147483648 ≤ zz ∧ zz ≤ 2147483647) := ⟨_, rfl, hw_bd _⟩
          refine w_t (np := 137) (l2 := [some (eR a0), some (eI (a1)), some (eR a2), some (eI (v1)), some (eI (v11)), some (eI (v25)), some (eI (i30))]) (s2 := [eI (v99), eI (v84), eR a2]) rfl (b_iadd e100) rfl ?_
          refine w_t (np := 138) (l2 := [some (eR a0), some (eI (a1)), some (eR a2), some (eI (v1)), some (eI (v11)), some (eI (v25)), some (eI (i30))]) (s2 := [eR a2, eI (v99), eI (v84), eR a2]) rfl (s_an rfl (pos_g I81 gA2 (by decide))) rfl ?_
          refine w_t (np := 140) (l2 := [some (eR a0), some (eI (a1)), some (eR a2), some (eI (v1)), some (eI (v11)), some (eI (v25)), some (eI (i30))]) (s2 := [eI (i30), eR a2, eI (v99), eI (v84), eR a2]) rfl rfl rfl ?_
          refine j_al (np := 141) rfl rfl I81 gA2 (by decide) (n := 16) rfl rfl (lo := -2147483648) (hi := 2147483647) (fun _ => rfl) (by omega) (by omega) ?_
          intro v102 e103 b104
          obtain ⟨v105, e106, b107⟩ : ∃ zz : Int, ev_w ((v99) - (v102)) = zz ∧ (-2147483648 ≤ zz ∧ zz ≤ 2147483647) := ⟨_, rfl, hw_bd _⟩
          refine w_t (np := 142) (l2 := [some (eR a0), some (eI (a1)), some (eR a2), some (eI (v1)), some (eI (v11)), some (eI (v25)), some (eI (i30))]) (s2 := [eI (v105), eI (v84), eR a2]) rfl (b_isub e106) rfl ?_
          refine j_as (np := 143) rfl rfl I81 gA2 (by decide) (n := 16) rfl rfl (lo := -2147483648) (hi := 2147483647) (fun _ => rfl) (by omega) (by omega) (by omega) ?_
          intro m108 I109 W110
          have F111 : Fr l_302_2 0 0 g μ m108 := F83.v W110 gA2 rfl rfl
          obtain ⟨v112, e113⟩ : ∃ zz : Int, zz = (i30) + (1) := ⟨_, rfl⟩
          have b114 : 1 ≤ v112 ∧ v112 ≤ 4 := by omega
          refine w_t (np := 146) (l2 := [some (eR a0), some (eI (a1)), some (eR a2), some (eI (v1)), some (eI (v11)), some (eI (v25)), some (eI (v112))]) (s2 := []) rfl (b_iinc rfl (by rw [← e113]; exact ev_w_in (by omega) (by omega)) rfl) rfl ?_
          refine w_go (t1 := 59) rfl rfl ?_
          exact ih29 (4 - (v112)).toNat (by omega) m108 (v112) I109 F111 (by omega) (W110.addr (W82.addr (W67.addr (W52.addr k35 gA2 gA0 (by decide)) gA2 gA0 (by decide)) gA2 gA0 (by decide)) gA2 gA0 (by decide)) (W110.addr (W82.addr (W67.addr (W52.addr k36 gA2 b6 (by decide)) gA2 b6 (by decide)) gA2 b6 (by decide)) gA2 b6 (by decide)) (W110.addr (W82.addr (W67.addr (W52.addr k37 gA2 b6 (by decide)) gA2 b6 (by decide)) gA2 b6 (by decide)) gA2 b6 (by decide)) (W110.addr (W82.addr (W67.addr (W52.addr k38 gA2 b6 (by decide)) gA2 b6 (by decide)) gA2 b6 (by decide)) gA2 b6 (by decide))    rfl
      exact hL59 _ μ (0) hI F0 (by decide) e5 e12 e18 e22    rfl
  · have b21 : 0 ≤ v17 ∧ v17 ≤ 0 := by omega
    refine w_t (np := 29) (l2 := [some (eR a0), some (eI (a1)), some (eR a2), some (eI (v1)), some (eI (v11)), none, none]) (s2 := [eI (v11)]) rfl rfl rfl ?_
    refine w_t (np := 30) (l2 := [some (eR a0), some (eI (a1)), some (eR a2), some (eI (v1)), some (eI (v11)), none, none]) (s2 := [eR a0, eI (v11)]) rfl (s_an rfl (pos_g hI gA0 (by decide))) rfl ?_
    refine w_gf (np := 33) (v := eR v4) rfl rfl (hI.kd gA0 (by decide) (n := 69) rfl) (by rw [e5]; rfl) ?_
    refine w_t (np := 34) (l2 := [some (eR a0), some (eI (a1)), some (eR a2), some (eI (v1)), some (eI (v11)), none, none]) (s2 := [eI (v1), eR v4, eI (v11)]) rfl rfl rfl ?_
    refine j_al (np := 35) rfl rfl hI b6 (by decide) (n := 168) rfl rfl (lo := -2147483648) (hi := 2147483647) (fun _ => rfl) (by omega) (by omega) ?_
    intro v21 e22 b23
    refine w_cu (np := 38) (as := [eI (v21)]) (l2 := [some (eI (v21))]) (rest := [eI (v11)]) rfl rfl rfl (Nat.ble_eq.mp rfl) rfl rfl rfl rfl ?_
    refine w_t (np := 1) (l2 := [some (eI (v21))]) (s2 := [eI (v21)]) rfl rfl rfl ?_
    refine b_ine (t1 := 8) (t2 := 4) rfl rfl rfl (ev_w_in (by omega) (by omega)) (fun g24 => ?_) (fun g24 => ?_)
    · refine w_t (np := 9) (l2 := [some (eI (v21))]) (s2 := [eI (3)]) rfl rfl rfl ?_
      refine b_ri rfl rfl ?_
      show ex_q (dt_fg L ρ) rc (d + 2, (302, 38, [some (eR a0), some (eI (a1)), some (eR a2), some (eI (v1)), some (eI (v11)), none, none], [eI (3), eI (v11)]), f :: F, μ)
      obtain ⟨v25, e26, b27⟩ : ∃ zz : Int, ev_w ((v11) + (3)) = zz ∧ (-2147483648 ≤ zz ∧ zz ≤ 2147483647) := ⟨_, rfl, hw_bd _⟩
      refine w_t (np := 39) (l2 := [some (eR a0), some (eI (a1)), some (eR a2), some (eI (v1)), some (eI (v11)), none, none]) (s2 := [eI (v25)]) rfl (b_iadd e26) rfl ?_
      refine w_go (t1 := 54) rfl rfl ?_
      refine w_t (np := 56) (l2 := [some (eR a0), some (eI (a1)), some (eR a2), some (eI (v1)), some (eI (v11)), some (eI (v25)), none]) (s2 := []) rfl rfl rfl ?_
      refine w_t (np := 57) (l2 := [some (eR a0), some (eI (a1)), some (eR a2), some (eI (v1)), some (eI (v11)), some (eI (v25)), none]) (s2 := [eI (0)]) rfl rfl rfl ?_
      refine w_t (np := 59) (l2 := [some (eR a0), some (eI (a1)), some (eR a2), some (eI (v1)), some (eI (v11)), some (eI (v25)), some (eI (0))]) (s2 := []) rfl rfl rfl ?_
      have hL59 : ∀ (n28 : Nat) (m32 : eM) (i30 : Int), SI g m32 → Fr l_302_2 0 0 g μ m32 → (0 ≤ i30 ∧ i30 ≤ 4) → m32.1 a0 43 = ((v4 : Nat) : Int) → m32.1 v4 (v8).toNat = v11 → m32.1 v4 (v14).toNat = v17 → m32.1 v4 (v1).toNat = v21 → n28 = (4 - i30).toNat → ex_q (dt_fg L ρ) rc (d + 2, (302, 59, [some (eR a0), some (eI (a1)), some (eR a2), some (eI (v1)), some (eI (v11)), some (eI (v25)), some (eI (i30))], []), f :: F, m32) := by
        intro n28
        induction n28 using Nat.strongRecOn with
        | _ n28 ih29 =>
        intro m32 i30 I33 F34 b31 k35 k36 k37 k38 hn39
        refine w_t (np := 61) (l2 := [some (eR a0), some (eI (a1)), some (eR a2), some (eI (v1)), some (eI (v11)), some (eI (v25)), some (eI (i30))]) (s2 := [eI (i30)]) rfl rfl rfl ?_
        refine w_t (np := 62) (l2 := [some (eR a0), some (eI (a1)), some (eR a2), some (eI (v1)), some (eI (v11)), some (eI (v25)), some (eI (i30))]) (s2 := [eI (4), eI (i30)]) rfl rfl rfl ?_
        refine b_cge (t1 := 149) (t2 := 65) rfl rfl rfl (ev_w_in (by omega) (by omega)) rfl (fun g40 => ?_) (fun g40 => ?_)
        · have b41 : 4 ≤ i30 ∧ i30 ≤ 4 := by omega
          exact v_rv rfl rfl (K m32 I33 F34)
        · have b41 : 0 ≤ i30 ∧ i30 ≤ 3 := by omega
          refine w_t (np := 66) (l2 := [some (eR a0), some (eI (a1)), some (eR a2), some (eI (v1)), some (eI (v11)), some (eI (v25)), some (eI (i30))]) (s2 := [eR a2]) rfl (s_an rfl (pos_g I33 gA2 (by decide))) rfl ?_
          refine w_t (np := 68) (l2 := [some (eR a0), some (eI (a1)), some (eR a2), some (eI (v1)), some (eI (v11)), some (eI (v25)), some (eI (i30))]) (s2 := [eI (i30), eR a2]) rfl rfl rfl ?_
          refine w_t (np := 69) (l2 := [some (eR a0), some (eI (a1)), some (eR a2), some (eI (v1)), some (eI (v11)), some (eI (v25)), some (eI (i30))]) (s2 := [eR a0, eI (i30), eR a2]) rfl (s_an rfl (pos_g I33 gA0 (by decide))) rfl ?_
          refine w_gf (np := 72) (v := eR v4) rfl rfl (I33.kd gA0 (by decide) (n := 69) rfl) (by rw [k35]; rfl) ?_
          refine w_t (np := 73) (l2 := [some (eR a0), some (eI (a1)), some (eR a2), some (eI (v1)), some (eI (v11)), some (eI (v25)), some (eI (i30))]) (s2 := [eI (v1), eR v4, eI (i30), eR a2]) rfl rfl rfl ?_
          refine w_t (np := 74) (l2 := [some (eR a0), some (eI (a1)), some (eR a2), some (eI (v1)), some (eI (v11)), some (eI (v25)), some (eI (i30))]) (s2 := [eI (1), eI (v1), eR v4, eI (i30), eR a2]) rfl rfl rfl ?_
          obtain ⟨v41, e42⟩ : ∃ zz : Int, zz = (v1) + (1) := ⟨_, rfl⟩
          have b43 : 1 ≤ v41 ∧ v41 ≤ 162 := by omega
          refine w_t (np := 75) (l2 := [some (eR a0), some (eI (a1)), some (eR a2), some (eI (v1)), some (eI (v11)), some (eI (v25)), some (eI (i30))]) (s2 := [eI (v41), eR v4, eI (i30), eR a2]) rfl (b_iadd (by rw [← e42]; exact ev_w_in (by omega) (by omega))) rfl ?_
          refine w_t (np := 77) (l2 := [some (eR a0), some (eI (a1)), some (eR a2), some (eI (v1)), some (eI (v11)), some (eI (v25)), some (eI (i30))]) (s2 := [eI (i30), eI (v41), eR v4, eI (i30), eR a2]) rfl rfl rfl ?_
          obtain ⟨v44, e45⟩ : ∃ zz : Int, zz = (v41) + (i30) := ⟨_, rfl⟩
          have b46 : 1 ≤ v44 ∧ v44 ≤ 165 := by omega
          refine w_t (np := 78) (l2 := [some (eR a0), some (eI (a1)), some (eR a2), some (eI (v1)), some (eI (v11)), some (eI (v25)), some (eI (i30))]) (s2 := [eI (v44), eR v4, eI (i30), eR a2]) rfl (b_iadd (by rw [← e45]; exact ev_w_in (by omega) (by omega))) rfl ?_
          refine j_al (np := 79) rfl rfl I33 b6 (by decide) (n := 168) rfl rfl (lo := -2147483648) (hi := 2147483647) (fun _ => rfl) (by omega) (by omega) ?_
          intro v47 e48 b49
          refine j_as (np := 80) rfl rfl I33 gA2 (by decide) (n := 16) rfl rfl (lo := -2147483648) (hi := 2147483647) (fun _ => rfl) (by omega) (by omega) (by omega) ?_
          intro m50 I51 W52
          have F53 : Fr l_302_2 0 0 g μ m50 := F34.v W52 gA2 rfl rfl
          refine w_t (np := 81) (l2 := [some (eR a0), some (eI (a1)), some (eR a2), some (eI (v1)), some (eI (v11)), some (eI (v25)), some (eI (i30))]) (s2 := [eR a2]) rfl (s_an rfl (pos_g I51 gA2 (by decide))) rfl ?_
          refine w_t (np := 82) (l2 := [some (eR a0), some (eI (a1)), some (eR a2), some (eI (v1)), some (eI (v11)), some (eI (v25)), some (eI (i30))]) (s2 := [eI (4), eR a2]) rfl rfl rfl ?_
          refine w_t (np := 84) (l2 := [some (eR a0), some (eI (a1)), some (eR a2), some (eI (v1)), some (eI (v11)), some (eI (v25)), some (eI (i30))]) (s2 := [eI (i30), eI (4), eR a2]) rfl rfl rfl ?_
          obtain ⟨v54, e55⟩ : ∃ zz : Int, zz = (4) + (i30) := ⟨_, rfl⟩
          have b56 : 4 ≤ v54 ∧ v54 ≤ 7 := by omega
          refine w_t (np := 85) (l2 := [some (eR a0), some (eI (a1)), some (eR a2), some (eI (v1)), some (eI (v11)), some (eI (v25)), some (eI (i30))]) (s2 := [eI (v54), eR a2]) rfl (b_iadd (by rw [← e55]; exact ev_w_in (by omega) (by omega))) rfl ?_
          refine w_t (np := 86) (l2 := [some (eR a0), some (eI (a1)), some (eR a2), some (eI (v1)), some (eI (v11)), some (eI (v25)), some (eI (i30))]) (s2 := [eR a2, eI (v54), eR a2]) rfl (s_an rfl (pos_g I51 gA2 (by decide))) rfl ?_
          refine w_t (np := 88) (l2 := [some (eR a0), some (eI (a1)), some (eR a2), some (eI (v1)), some (eI (v11)), some (eI (v25)), some (eI (i30))]) (s2 := [eI (i30), eR a2, eI (v54), eR a2]) rfl rfl rfl ?_
          refine j_al (np := 89) rfl rfl I51 gA2 (by decide) (n := 16) rfl rfl (lo := -2147483648) (hi := 2147483647) (fun _ => rfl) (by omega) (by omega) ?_
          intro v57 e58 b59
          refine w_t (np := 91) (l2 := [some (eR a0), some (eI (a1)), some (eR a2), some (eI (v1)), some (eI (v11)), some (eI (v25)), some (eI (i30))]) (s2 := [eI (v11), eI (v57), eI (v54), eR a2]) rfl rfl rfl ?_
          refine w_t (np := 93) (l2 := [some (eR a0), some (eI (a1)), some (eR a2), some (eI (v1)), some (eI (v11)), some (eI (v25)), some (eI (i30))]) (s2 := [eI (i30), eI (v11), eI (v57), eI (v54), eR a2]) rfl rfl rfl ?_
          refine w_cu (np := 96) (as := [eI (v11), eI (i30)]) (l2 := [some (eI (v11)), some (eI (i30))]) (rest := [eI (v57), eI (v54), eR a2]) rfl rfl rfl (Nat.ble_eq.mp rfl) rfl rfl rfl rfl ?_
          refine s_218 (a0 := v11) (a1 := i30) I51 (by omega) (by omega) ?_
          intro v60 b61
          show ex_q (dt_fg L ρ) rc (d + 2, (302, 96, [some (eR a0), some (eI (a1)), some (eR a2), some (eI (v1)), some (eI (v11)), some (eI (v25)), some (eI (i30))], [eI (v60), eI (v57), eI (v54), eR a2]), f :: F, m50)
          obtain ⟨v62, e63, b64⟩ : ∃ zz : Int, ev_w ((v57) + (v60)) = zz ∧ (-2147483648 ≤ zz ∧ zz ≤ 2147483647) := ⟨_, rfl, hw_bd _⟩
          refine w_t (np := 97) (l2 := [some (eR a0), some (eI (a1)), some (eR a2), some (eI (v1)), some (eI (v11)), some (eI (v25)), some (eI (i30))]) (s2 := [eI (v62), eI (v54), eR a2]) rfl (b_iadd e63) rfl ?_
          refine j_as (np := 98) rfl rfl I51 gA2 (by decide) (n := 16) rfl rfl (lo := -2147483648) (hi := 2147483647) (fun _ => rfl) (by omega) (by omega) (by omega) ?_
          intro m65 I66 W67
          have F68 : Fr l_302_2 0 0 g μ m65 := F53.v W67 gA2 rfl rfl
          refine w_t (np := 99) (l2 := [some (eR a0), some (eI (a1)), some (eR a2), some (eI (v1)), some (eI (v11)), some (eI (v25)), some (eI (i30))]) (s2 := [eR a2]) rfl (s_an rfl (pos_g I66 gA2 (by decide))) rfl ?_
          refine w_t (np := 101) (l2 := [some (eR a0), some (eI (a1)), some (eR a2), some (eI (v1)), some (eI (v11)), some (eI (v25)), some (eI (i30))]) (s2 := [eI (12), eR a2]) rfl rfl rfl ?_
          refine w_t (np := 103) (l2 := [some (eR a0), some (eI (a1)), some (eR a2), some (eI (v1)), some (eI (v11)), some (eI (v25)), some (eI (i30))]) (s2 := [eI (i30), eI (12), eR a2]) rfl rfl rfl ?_
          obtain ⟨v69, e70⟩ : ∃ zz : Int, zz = (12) + (i30) := ⟨_, rfl⟩
          have b71 : 12 ≤ v69 ∧ v69 ≤ 15 := by omega
          refine w_t (np := 104) (l2 := [some (eR a0), some (eI (a1)), some (eR a2), some (eI (v1)), some (eI (v11)), some (eI (v25)), some (eI (i30))]) (s2 := [eI (v69), eR a2]) rfl (b_iadd (by rw [← e70]; exact ev_w_in (by omega) (by omega))) rfl ?_
          refine w_t (np := 105) (l2 := [some (eR a0), some (eI (a1)), some (eR a2), some (eI (v1)), some (eI (v11)), some (eI (v25)), some (eI (i30))]) (s2 := [eR a2, eI (v69), eR a2]) rfl (s_an rfl (pos_g I66 gA2 (by decide))) rfl ?_
          refine w_t (np := 107) (l2 := [some (eR a0), some (eI (a1)), some (eR a2), some (eI (v1)), some (eI (v11)), some (eI (v25)), some (eI (i30))]) (s2 := [eI (i30), eR a2, eI (v69), eR a2]) rfl rfl rfl ?_
          refine j_al (np := 108) rfl rfl I66 gA2 (by decide) (n := 16) rfl rfl (lo := -2147483648) (hi := 2147483647) (fun _ => rfl) (by omega) (by omega) ?_
          intro v72 e73 b74
          refine w_t (np := 110) (l2 := [some (eR a0), some (eI (a1)), some (eR a2), some (eI (v1)), some (eI (v11)), some (eI (v25)), some (eI (i30))]) (s2 := [eI (v25), eI (v72), eI (v69), eR a2]) rfl rfl rfl ?_
          refine w_t (np := 112) (l2 := [some (eR a0), some (eI (a1)), some (eR a2), some (eI (v1)), some (eI (v11)), some (eI (v25)), some (eI (i30))]) (s2 := [eI (i30), eI (v25), eI (v72), eI (v69), eR a2]) rfl rfl rfl ?_
          refine w_cu (np := 115) (as := [eI (v25), eI (i30)]) (l2 := [some (eI (v25)), some (eI (i30))]) (rest := [eI (v72), eI (v69), eR a2]) rfl rfl rfl (Nat.ble_eq.mp rfl) rfl rfl rfl rfl ?_
          refine s_218 (a0 := v25) (a1 := i30) I66 (by omega) (by omega) ?_
          intro v75 b76
          show ex_q (dt_fg L ρ) rc (d + 2, (302, 115, [some (eR a0), some (eI (a1)), some (eR a2), some (eI (v1)), some (eI (v11)), some (eI (v25)), some (eI (i30))], [eI (v75), eI (v72), eI (v69), eR a2]), f :: F, m65)
          obtain ⟨v77, e78, b79⟩ : ∃ zz : Int, ev_w ((v72) + (v75)) = zz ∧ (-2147483648 ≤ zz ∧ zz ≤ 2147483647) := ⟨_, rfl, hw_bd _⟩
          refine w_t (np := 116) (l2 := [some (eR a0), some (eI (a1)), some (eR a2), some (eI (v1)), some (eI (v11)), some (eI (v25)), some (eI (i30))]) (s2 := [eI (v77), eI (v69), eR a2]) rfl (b_iadd e78) rfl ?_
          refine j_as (np := 117) rfl rfl I66 gA2 (by decide) (n := 16) rfl rfl (lo := -2147483648) (hi := 2147483647) (fun _ => rfl) (by omega) (by omega) (by omega) ?_
          intro m80 I81 W82
          have F83 : Fr l_302_2 0 0 g μ m80 := F68.v W82 gA2 rfl rfl
          refine w_t (np := 118) (l2 := [some (eR a0), some (eI (a1)), some (eR a2), some (eI (v1)), some (eI (v11)), some (eI (v25)), some (eI (i30))]) (s2 := [eR a2]) rfl (s_an rfl (pos_g I81 gA2 (by decide))) rfl ?_
          refine w_t (np := 120) (l2 := [some (eR a0), some (eI (a1)), some (eR a2), some (eI (v1)), some (eI (v11)), some (eI (v25)), some (eI (i30))]) (s2 := [eI (8), eR a2]) rfl rfl rfl ?_
          refine w_t (np := 122) (l2 := [some (eR a0), some (eI (a1)), some (eR a2), some (eI (v1)), some (eI (v11)), some (eI (v25)), some (eI (i30))]) (s2 := [eI (i30), eI (8), eR a2]) rfl rfl rfl ?_
          obtain ⟨v84, e85⟩ : ∃ zz : Int, zz = (8) + (i30) := ⟨_, rfl⟩
          have b86 : 8 ≤ v84 ∧ v84 ≤ 11 := by omega
          refine w_t (np := 123) (l2 := [some (eR a0), some (eI (a1)), some (eR a2), some (eI (v1)), some (eI (v11)), some (eI (v25)), some (eI (i30))]) (s2 := [eI (v84), eR a2]) rfl (b_iadd (by rw [← e85]; exact ev_w_in (by omega) (by omega))) rfl ?_
          refine w_t (np := 124) (l2 := [some (eR a0), some (eI (a1)), some (eR a2), some (eI (v1)), some (eI (v11)), some (eI (v25)), some (eI (i30))]) (s2 := [eR a2, eI (v84), eR a2]) rfl (s_an rfl (pos_g I81 gA2 (by decide))) rfl ?_
          refine w_t (np := 125) (l2 := [some (eR a0), some (eI (a1)), some (eR a2), some (eI (v1)), some (eI (v11)), some (eI (v25)), some (eI (i30))]) (s2 := [eI (4), eR a2, eI (v84), eR a2]) rfl rfl rfl ?_
          refine w_t (np := 127) (l2 := [some (eR a0), some (eI (a1)), some (eR a2), some (eI (v1)), some (eI (v11)), some (eI (v25)), some (eI (i30))]) (s2 := [eI (i30), eI (4), eR a2, eI (v84), eR a2]) rfl rfl rfl ?_
          obtain ⟨v87, e88⟩ : ∃ zz : Int, zz = (4) + (i30) := ⟨_, rfl⟩
          have b89 : 4 ≤ v87 ∧ v87 ≤ 7 := by omega
          refine w_t (np := 128) (l2 := [some (eR a0), some (eI (a1)), some (eR a2), some (eI (v1)), some (eI (v11)), some (eI (v25)), some (eI (i30))]) (s2 := [eI (v87), eR a2, eI (v84), eR a2]) rfl (b_iadd (by rw [← e88]; exact ev_w_in (by omega) (by omega))) rfl ?_
          refine j_al (np := 129) rfl rfl I81 gA2 (by decide) (n := 16) rfl rfl (lo := -2147483648) (hi := 2147483647) (fun _ => rfl) (by omega) (by omega) ?_
          intro v90 e91 b92
          refine w_t (np := 130) (l2 := [some (eR a0), some (eI (a1)), some (eR a2), some (eI (v1)), some (eI (v11)), some (eI (v25)), some (eI (i30))]) (s2 := [eR a2, eI (v90), eI (v84), eR a2]) rfl (s_an rfl (pos_g I81 gA2 (by decide))) rfl ?_
          refine w_t (np := 132) (l2 := [some (eR a0), some (eI (a1)), some (eR a2), some (eI (v1)), some (eI (v11)), some (eI (v25)), some (eI (i30))]) (s2 := [eI (12), eR a2, eI (v90), eI (v84), eR a2]) rfl rfl rfl ?_
          refine w_t (np := 134) (l2 := [some (eR a0), some (eI (a1)), some (eR a2), some (eI (v1)), some (eI (v11)), some (eI (v25)), some (eI (i30))]) (s2 := [eI (i30), eI (12), eR a2, eI (v90), eI (v84), eR a2]) rfl rfl rfl ?_
          obtain ⟨v93, e94⟩ : ∃ zz : Int, zz = (12) + (i30) := ⟨_, rfl⟩
          have b95 : 12 ≤ v93 ∧ v93 ≤ 15 := by omega
          refine w_t (np := 135) (l2 := [some (eR a0), some (eI (a1)), some (eR a2), some (eI (v1)), some (eI (v11)), some (eI (v25)), some (eI (i30))]) (s2 := [eI (v93), eR a2, eI (v90), eI (v84), eR a2]) rfl (b_iadd (by rw [← e94]; exact ev_w_in (by omega) (by omega))) rfl ?_
          refine j_al (np := 136) rfl rfl I81 gA2 (by decide) (n := 16) rfl rfl (lo := -2147483648) (hi := 2147483647) (fun _ => rfl) (by omega) (by omega) ?_
          intro v96 e97 b98
          obtain ⟨v99, e100, b101⟩ : ∃ zz : Int, ev_w ((v90) + (v96)) = zz ∧ (-2147483648 ≤ zz ∧ zz ≤ 2147483647) := ⟨_, rfl, hw_bd _⟩
          refine w_t (np := 137) (l2 := [some (eR a0), some (eI (a1)), some (eR a2), some (eI (v1)), some (eI (v11)), some (eI (v25)), some (eI (i30))]) (s2 := [eI (v99), eI (v84), eR a2]) rfl (b_iadd e100) rfl ?_
          refine w_t (np := 138) (l2 := [some (eR a0), some (eI (a1)), some (eR a2), some (eI (v1)), some (eI (v11)), some (eI (v25)), some (eI (i30))]) (s2 := [eR a2, eI (v99), eI (v84), eR a2]) rfl (s_an rfl (pos_g I81 gA2 (by decide))) rfl ?_
          refine w_t (np := 140) (l2 := [some (eR a0), some (eI (a1)), some (eR a2), some (eI (v1)), some (eI (v11)), some (eI (v25)), some (eI (i30))]) (s2 := [eI (i30), eR a2, eI (v99), eI (v84), eR a2]) rfl rfl rfl ?_
          refine j_al (np := 141) rfl rfl I81 gA2 (by decide) (n := 16) rfl rfl (lo := -2147483648) (hi := 2147483647) (fun _ => rfl) (by omega) (by omega) ?_
          intro v102 e103 b104
          obtain ⟨v105, e106, b107⟩ : ∃ zz : Int, ev_w ((v99) - (v102)) = zz ∧ (-2147483648 ≤ zz ∧ zz ≤ 2147483647) := ⟨_, rfl, hw_bd _⟩
          refine w_t (np := 142) (l2 := [some (eR a0), some (eI (a1)), some (eR a2), some (eI (v1)), some (eI (v11)), some (eI (v25)), some (eI (i30))]) (s2 := [eI (v105), eI (v84), eR a2]) rfl (b_isub e106) rfl ?_
          refine j_as (np := 143) rfl rfl I81 gA2 (by decide) (n := 16) rfl rfl (lo := -2147483648) (hi := 2147483647) (fun _ => rfl) (by omega) (by omega) (by omega) ?_
          intro m108 I109 W110
          have F111 : Fr l_302_2 0 0 g μ m108 := F83.v W110 gA2 rfl rfl
          obtain ⟨v112, e113⟩ : ∃ zz : Int, zz = (i30) + (1) := ⟨_, rfl⟩
          have b114 : 1 ≤ v112 ∧ v112 ≤ 4 := by omega
          refine w_t (np := 146) (l2 := [some (eR a0), some (eI (a1)), some (eR a2), some (eI (v1)), some (eI (v11)), some (eI (v25)), some (eI (v112))]) (s2 := []) rfl (b_iinc rfl (by rw [← e113]; exact ev_w_in (by omega) (by omega)) rfl) rfl ?_
          refine w_go (t1 := 59) rfl rfl ?_
          exact ih29 (4 - (v112)).toNat (by omega) m108 (v112) I109 F111 (by omega) (W110.addr (W82.addr (W67.addr (W52.addr k35 gA2 gA0 (by decide)) gA2 gA0 (by decide)) gA2 gA0 (by decide)) gA2 gA0 (by decide)) (W110.addr (W82.addr (W67.addr (W52.addr k36 gA2 b6 (by decide)) gA2 b6 (by decide)) gA2 b6 (by decide)) gA2 b6 (by decide)) (W110.addr (W82.addr (W67.addr (W52.addr k37 gA2 b6 (by decide)) gA2 b6 (by decide)) gA2 b6 (by decide)) gA2 b6 (by decide)) (W110.addr (W82.addr (W67.addr (W52.addr k38 gA2 b6 (by decide)) gA2 b6 (by decide)) gA2 b6 (by decide)) gA2 b6 (by decide))    rfl
      exact hL59 _ μ (0) hI F0 (by decide) e5 e12 e18 e22    rfl
    · have b25 : 0 ≤ v21 ∧ v21 ≤ 0 := by omega
      refine w_t (np := 5) (l2 := [some (eI (v21))]) (s2 := [eI (1)]) rfl rfl rfl ?_
      refine w_go (t1 := 9) rfl rfl ?_
      refine b_ri rfl rfl ?_
      show ex_q (dt_fg L ρ) rc (d + 2, (302, 38, [some (eR a0), some (eI (a1)), some (eR a2), some (eI (v1)), some (eI (v11)), none, none], [eI (1), eI (v11)]), f :: F, μ)
      obtain ⟨v25, e26, b27⟩ : ∃ zz : Int, ev_w ((v11) + (1)) = zz ∧ (-2147483648 ≤ zz ∧ zz ≤ 2147483647) := ⟨_, rfl, hw_bd _⟩
      refine w_t (np := 39) (l2 := [some (eR a0), some (eI (a1)), some (eR a2), some (eI (v1)), some (eI (v11)), none, none]) (s2 := [eI (v25)]) rfl (b_iadd e26) rfl ?_
      refine w_go (t1 := 54) rfl rfl ?_
      refine w_t (np := 56) (l2 := [some (eR a0), some (eI (a1)), some (eR a2), some (eI (v1)), some (eI (v11)), some (eI (v25)), none]) (s2 := []) rfl rfl rfl ?_
      refine w_t (np := 57) (l2 := [some (eR a0), some (eI (a1)), some (eR a2), some (eI (v1)), some (eI (v11)), some (eI (v25)), none]) (s2 := [eI (0)]) rfl rfl rfl ?_
      refine w_t (np := 59) (l2 := [some (eR a0), some (eI (a1)), some (eR a2), some (eI (v1)), some (eI (v11)), some (eI (v25)), some (eI (0))]) (s2 := []) rfl rfl rfl ?_
      have hL59 : ∀ (n28 : Nat) (m32 : eM) (i30 : Int), SI g m32 → Fr l_302_2 0 0 g μ m32 → (0 ≤ i30 ∧ i30 ≤ 4) → m32.1 a0 43 = ((v4 : Nat) : Int) → m32.1 v4 (v8).toNat = v11 → m32.1 v4 (v14).toNat = v17 → m32.1 v4 (v1).toNat = v21 → n28 = (4 - i30).toNat → ex_q (dt_fg L ρ) rc (d + 2, (302, 59, [some (eR a0), some (eI (a1)), some (eR a2), some (eI (v1)), some (eI (v11)), some (eI (v25)), some (eI (i30))], []), f :: F, m32) := by
        intro n28
        induction n28 using Nat.strongRecOn with
        | _ n28 ih29 =>
        intro m32 i30 I33 F34 b31 k35 k36 k37 k38 hn39
        refine w_t (np := 61) (l2 := [some (eR a0), some (eI (a1)), some (eR a2), some (eI (v1)), some (eI (v11)), some (eI (v25)), some (eI (i30))]) (s2 := [eI (i30)]) rfl rfl rfl ?_
        refine w_t (np := 62) (l2 := [some (eR a0), some (eI (a1)), some (eR a2), some (eI (v1)), some (eI (v11)), some (eI (v25)), some (eI (i30))]) (s2 := [eI (4), eI (i30)]) rfl rfl rfl ?_
        refine b_cge (t1 := 149) (t2 := 65) rfl rfl rfl (ev_w_in (by omega) (by omega)) rfl (fun g40 => ?_) (fun g40 => ?_)
        · have b41 : 4 ≤ i30 ∧ i30 ≤ 4 := by omega
          exact v_rv rfl rfl (K m32 I33 F34)
        · have b41 : 0 ≤ i30 ∧ i30 ≤ 3 := by omega
          refine w_t (np := 66) (l2 := [some (eR a0), some (eI (a1)), some (eR a2), some (eI (v1)), some (eI (v11)), some (eI (v25)), some (eI (i30))]) (s2 := [eR a2]) rfl (s_an rfl (pos_g I33 gA2 (by decide))) rfl ?_
          refine w_t (np := 68) (l2 := [some (eR a0), some (eI (a1)), some (eR a2), some (eI (v1)), some (eI (v11)), some (eI (v25)), some (eI (i30))]) (s2 := [eI (i30), eR a2]) rfl rfl rfl ?_
          refine w_t (np := 69) (l2 := [some (eR a0), some (eI (a1)), some (eR a2), some (eI (v1)), some (eI (v11)), some (eI (v25)), some (eI (i30))]) (s2 := [eR a0, eI (i30), eR a2]) rfl (s_an rfl (pos_g I33 gA0 (by decide))) rfl ?_
          refine w_gf (np := 72) (v := eR v4) rfl rfl (I33.kd gA0 (by decide) (n := 69) rfl) (by rw [k35]; rfl) ?_
          refine w_t (np := 73) (l2 := [some (eR a0), some (eI (a1)), some (eR a2), some (eI (v1)), some (eI (v11)), some (eI (v25)), some (eI (i30))]) (s2 := [eI (v1), eR v4, eI (i30), eR a2]) rfl rfl rfl ?_
          refine w_t (np := 74) (l2 := [some (eR a0), some (eI (a1)), some (eR a2), some (eI (v1)), some (eI (v11)), some (eI (v25)), some (eI (i30))]) (s2 := [eI (1), eI (v1), eR v4, eI (i30), eR a2]) rfl rfl rfl ?_
          obtain ⟨v41, e42⟩ : ∃ zz : Int, zz = (v1) + (1) := ⟨_, rfl⟩
          have b43 : 1 ≤ v41 ∧ v41 ≤ 162 := by omega
          refine w_t (np := 75) (l2 := [some (eR a0), some (eI (a1)), some (eR a2), some (eI (v1)), some (eI (v11)), some (eI (v25)), some (eI (i30))]) (s2 := [eI (v41), eR v4, eI (i30), eR a2]) rfl (b_iadd (by rw [← e42]; exact ev_w_in (by omega) (by omega))) rfl ?_
          refine w_t (np := 77) (l2 := [some (eR a0), some (eI (a1)), some (eR a2), some (eI (v1)), some (eI (v11)), some (eI (v25)), some (eI (i30))]) (s2 := [eI (i30), eI (v41), eR v4, eI (i30), eR a2]) rfl rfl rfl ?_
          obtain ⟨v44, e45⟩ : ∃ zz : Int, zz = (v41) + (i30) := ⟨_, rfl⟩
          have b46 : 1 ≤ v44 ∧ v44 ≤ 165 := by omega
          refine w_t (np := 78) (l2 := [some (eR a0), some (eI (a1)), some (eR a2), some (eI (v1)), some (eI (v11)), some (eI (v25)), some (eI (i30))]) (s2 := [eI (v44), eR v4, eI (i30), eR a2]) rfl (b_iadd (by rw [← e45]; exact ev_w_in (by omega) (by omega))) rfl ?_
          refine j_al (np := 79) rfl rfl I33 b6 (by decide) (n := 168) rfl rfl (lo := -2147483648) (hi := 2147483647) (fun _ => rfl) (by omega) (by omega) ?_
          intro v47 e48 b49
          refine j_as (np := 80) rfl rfl I33 gA2 (by decide) (n := 16) rfl rfl (lo := -2147483648) (hi := 2147483647) (fun _ => rfl) (by omega) (by omega) (by omega) ?_
          intro m50 I51 W52
          have F53 : Fr l_302_2 0 0 g μ m50 := F34.v W52 gA2 rfl rfl
          refine w_t (np := 81) (l2 := [some (eR a0), some (eI (a1)), some (eR a2), some (eI (v1)), some (eI (v11)), some (eI (v25)), some (eI (i30))]) (s2 := [eR a2]) rfl (s_an rfl (pos_g I51 gA2 (by decide))) rfl ?_
          refine w_t (np := 82) (l2 := [some (eR a0), some (eI (a1)), some (eR a2), some (eI (v1)), some (eI (v11)), some (eI (v25)), some (eI (i30))]) (s2 := [eI (4), eR a2]) rfl rfl rfl ?_
          refine w_t (np := 84) (l2 := [some (eR a0), some (eI (a1)), some (eR a2), some (eI (v1)), some (eI (v11)), some (eI (v25)), some (eI (i30))]) (s2 := [eI (i30), eI (4), eR a2]) rfl rfl rfl ?_
          obtain ⟨v54, e55⟩ : ∃ zz : Int, zz = (4) + (i30) := ⟨_, rfl⟩
          have b56 : 4 ≤ v54 ∧ v54 ≤ 7 := by omega
          refine w_t (np := 85) (l2 := [some (eR a0), some (eI (a1)), some (eR a2), some (eI (v1)), some (eI (v11)), some (eI (v25)), some (eI (i30))]) (s2 := [eI (v54), eR a2]) rfl (b_iadd (by rw [← e55]; exact ev_w_in (by omega) (by omega))) rfl ?_
          refine w_t (np := 86) (l2 := [some (eR a0), some (eI (a1)), some (eR a2), some (eI (v1)), some (eI (v11)), some (eI (v25)), some (eI (i30))]) (s2 := [eR a2, eI (v54), eR a2]) rfl (s_an rfl (pos_g I51 gA2 (by decide))) rfl ?_
          refine w_t (np := 88) (l2 := [some (eR a0), some (eI (a1)), some (eR a2), some (eI (v1)), some (eI (v11)), some (eI (v25)), some (eI (i30))]) (s2 := [eI (i30), eR a2, eI (v54), eR a2]) rfl rfl rfl ?_
          refine j_al (np := 89) rfl rfl I51 gA2 (by decide) (n := 16) rfl rfl (lo := -2147483648) (hi := 2147483647) (fun _ => rfl) (by omega) (by omega) ?_
          intro v57 e58 b59
          refine w_t (np := 91) (l2 := [some (eR a0), some (eI (a1)), some (eR a2), some (eI (v1)), some (eI (v11)), some (eI (v25)), some (eI (i30))]) (s2 := [eI (v11), eI (v57), eI (v54), eR a2]) rfl rfl rfl ?_
          refine w_t (np := 93) (l2 := [some (eR a0), some (eI (a1)), some (eR a2), some (eI (v1)), some (eI (v11)), some (eI (v25)), some (eI (i30))]) (s2 := [eI (i30), eI (v11), eI (v57), eI (v54), eR a2]) rfl rfl rfl ?_
          refine w_cu (np := 96) (as := [eI (v11), eI (i30)]) (l2 := [some (eI (v11)), some (eI (i30))]) (rest := [eI (v57), eI (v54), eR a2]) rfl rfl rfl (Nat.ble_eq.mp rfl) rfl rfl rfl rfl ?_
          refine s_218 (a0 := v11) (a1 := i30) I51 (by omega) (by omega) ?_
          intro v60 b61
          show ex_q (dt_fg L ρ) rc (d + 2, (302, 96, [some (eR a0), some (eI (a1)), some (eR a2), some (eI (v1)), some (eI (v11)), some (eI (v25)), some (eI (i30))], [eI (v60), eI (v57), eI (v54), eR a2]), f :: F, m50)
          obtain ⟨v62, e63, b64⟩ : ∃ zz : Int, ev_w ((v57) + (v60)) = zz ∧ (-2147483648 ≤ zz ∧ zz ≤ 2147483647) := ⟨_, rfl, hw_bd _⟩
          refine w_t (np := 97) (l2 := [some (eR a0), some (eI (a1)), some (eR a2), some (eI (v1)), some (eI (v11)), some (eI (v25)), some (eI (i30))]) (s2 := [eI (v62), eI (v54), eR a2]) rfl (b_iadd e63) rfl ?_
          refine j_as (np := 98) rfl rfl I51 gA2 (by decide) (n := 16) rfl rfl (lo := -2147483648) (hi := 2147483647) (fun _ => rfl) (by omega) (by omega) (by omega) ?_
          intro m65 I66 W67
          have F68 : Fr l_302_2 0 0 g μ m65 := F53.v W67 gA2 rfl rfl
          refine w_t (np := 99) (l2 := [some (eR a0), some (eI (a1)), some (eR a2), some (eI (v1)), some (eI (v11)), some (eI (v25)), some (eI (i30))]) (s2 := [eR a2]) rfl (s_an rfl (pos_g I66 gA2 (by decide))) rfl ?_
          refine w_t (np := 101) (l2 := [some (eR a0), some (eI (a1)), some (eR a2), some (eI (v1)), some (eI (v11)), some (eI (v25)), some (eI (i30))]) (s2 := [eI (12), eR a2]) rfl rfl rfl ?_
          refine w_t (np := 103) (l2 := [some (eR a0), some (eI (a1)), some (eR a2), some (eI (v1)), some (eI (v11)), some (eI (v25)), some (eI (i30))]) (s2 := [eI (i30), eI (12), eR a2]) rfl rfl rfl ?_
          obtain ⟨v69, e70⟩ : ∃ zz : Int, zz = (12) + (i30) := ⟨_, rfl⟩
          have b71 : 12 ≤ v69 ∧ v69 ≤ 15 := by omega
          refine w_t (np := 104) (l2 := [some (eR a0), some (eI (a1)), some (eR a2), some (eI (v1)), some (eI (v11)), some (eI (v25)), some (eI (i30))]) (s2 := [eI (v69), eR a2]) rfl (b_iadd (by rw [← e70]; exact ev_w_in (by omega) (by omega))) rfl ?_
          refine w_t (np := 105) (l2 := [some (eR a0), some (eI (a1)), some (eR a2), some (eI (v1)), some (eI (v11)), some (eI (v25)), some (eI (i30))]) (s2 := [eR a2, eI (v69), eR a2]) rfl (s_an rfl (pos_g I66 gA2 (by decide))) rfl ?_
          refine w_t (np := 107) (l2 := [some (eR a0), some (eI (a1)), some (eR a2), some (eI (v1)), some (eI (v11)), some (eI (v25)), some (eI (i30))]) (s2 := [eI (i30), eR a2, eI (v69), eR a2]) rfl rfl rfl ?_
          refine j_al (np := 108) rfl rfl I66 gA2 (by decide) (n := 16) rfl rfl (lo := -2147483648) (hi := 2147483647) (fun _ => rfl) (by omega) (by omega) ?_
          intro v72 e73 b74
          refine w_t (np := 110) (l2 := [some (eR a0), some (eI (a1)), some (eR a2), some (eI (v1)), some (eI (v11)), some (eI (v25)), some (eI (i30))]) (s2 := [eI (v25), eI (v72), eI (v69), eR a2]) rfl rfl rfl ?_
          refine w_t (np := 112) (l2 := [some (eR a0), some (eI (a1)), some (eR a2), some (eI (v1)), some (eI (v11)), some (eI (v25)), some (eI (i30))]) (s2 := [eI (i30), eI (v25), eI (v72), eI (v69), eR a2]) rfl rfl rfl ?_
          refine w_cu (np := 115) (as := [eI (v25), eI (i30)]) (l2 := [some (eI (v25)), some (eI (i30))]) (rest := [eI (v72), eI (v69), eR a2]) rfl rfl rfl (Nat.ble_eq.mp rfl) rfl rfl rfl rfl ?_
          refine s_218 (a0 := v25) (a1 := i30) I66 (by omega) (by omega) ?_
          intro v75 b76
          show ex_q (dt_fg L ρ) rc (d + 2, (302, 115, [some (eR a0), some (eI (a1)), some (eR a2), some (eI (v1)), some (eI (v11)), some (eI (v25)), some (eI (i30))], [eI (v75), eI (v72), eI (v69), eR a2]), f :: F, m65)
          obtain ⟨v77, e78, b79⟩ : ∃ zz : Int, ev_w ((v72) + (v75)) = zz ∧ (-2147483648 ≤ zz ∧ zz ≤ 2147483647) := ⟨_, rfl, hw_bd _⟩
          refine w_t (np := 116) (l2 := [some (eR a0), some (eI (a1)), some (eR a2), some (eI (v1)), some (eI (v11)), some (eI (v25)), some (eI (i30))]) (s2 := [eI (v77), eI (v69), eR a2]) rfl (b_iadd e78) rfl ?_
          refine j_as (np := 117) rfl rfl I66 gA2 (by decide) (n := 16) rfl rfl (lo := -2147483648) (hi := 2147483647) (fun _ => rfl) (by omega) (by omega) (by omega) ?_
          intro m80 I81 W82
          have F83 : Fr l_302_2 0 0 g μ m80 := F68.v W82 gA2 rfl rfl
          refine w_t (np := 118) (l2 := [some (eR a0), some (eI (a1)), some (eR a2), some (eI (v1)), some (eI (v11)), some (eI (v25)), some (eI (i30))]) (s2 := [eR a2]) rfl (s_an rfl (pos_g I81 gA2 (by decide))) rfl ?_
          refine w_t (np := 120) (l2 := [some (eR a0), some (eI (a1)), some (eR a2), some (eI (v1)), some (eI (v11)), some (eI (v25)), some (eI (i30))]) (s2 := [eI (8), eR a2]) rfl rfl rfl ?_
          refine w_t (np := 122) (l2 := [some (eR a0), some (eI (a1)), some (eR a2), some (eI (v1)), some (eI (v11)), some (eI (v25)), some (eI (i30))]) (s2 := [eI (i30), eI (8), eR a2]) rfl rfl rfl ?_
          obtain ⟨v84, e85⟩ : ∃ zz : Int, zz = (8) + (i30) := ⟨_, rfl⟩
          have b86 : 8 ≤ v84 ∧ v84 ≤ 11 := by omega
          refine w_t (np := 123) (l2 := [some (eR a0), some (eI (a1)), some (eR a2), some (eI (v1)), some (eI (v11)), some (eI (v25)), some (eI (i30))]) (s2 := [eI (v84), eR a2]) rfl (b_iadd (by rw [← e85]; exact ev_w_in (by omega) (by omega))) rfl ?_
          refine w_t (np := 124) (l2 := [some (eR a0), some (eI (a1)), some (eR a2), some (eI (v1)), some (eI (v11)), some (eI (v25)), some (eI (i30))]) (s2 := [eR a2, eI (v84), eR a2]) rfl (s_an rfl (pos_g I81 gA2 (by decide))) rfl ?_
          refine w_t (np := 125) (l2 := [some (eR a0), some (eI (a1)), some (eR a2), some (eI (v1)), some (eI (v11)), some (eI (v25)), some (eI (i30))]) (s2 := [eI (4), eR a2, eI (v84), eR a2]) rfl rfl rfl ?_
          refine w_t (np := 127) (l2 := [some (eR a0), some (eI (a1)), some (eR a2), some (eI (v1)), some (eI (v11)), some (eI (v25)), some (eI (i30))]) (s2 := [eI (i30), eI (4), eR a2, eI (v84), eR a2]) rfl rfl rfl ?_
          obtain ⟨v87, e88⟩ : ∃ zz : Int, zz = (4) + (i30) := ⟨_, rfl⟩
          have b89 : 4 ≤ v87 ∧ v87 ≤ 7 := by omega
          refine w_t (np := 128) (l2 := [some (eR a0), some (eI (a1)), some (eR a2), some (eI (v1)), some (eI (v11)), some (eI (v25)), some (eI (i30))]) (s2 := [eI (v87), eR a2, eI (v84), eR a2]) rfl (b_iadd (by rw [← e88]; exact ev_w_in (by omega) (by omega))) rfl ?_
          refine j_al (np := 129) rfl rfl I81 gA2 (by decide) (n := 16) rfl rfl (lo := -2147483648) (hi := 2147483647) (fun _ => rfl) (by omega) (by omega) ?_
          intro v90 e91 b92
          refine w_t (np := 130) (l2 := [some (eR a0), some (eI (a1)), some (eR a2), some (eI (v1)), some (eI (v11)), some (eI (v25)), some (eI (i30))]) (s2 := [eR a2, eI (v90), eI (v84), eR a2]) rfl (s_an rfl (pos_g I81 gA2 (by decide))) rfl ?_
          refine w_t (np := 132) (l2 := [some (eR a0), some (eI (a1)), some (eR a2), some (eI (v1)), some (eI (v11)), some (eI (v25)), some (eI (i30))]) (s2 := [eI (12), eR a2, eI (v90), eI (v84), eR a2]) rfl rfl rfl ?_
          refine w_t (np := 134) (l2 := [some (eR a0), some (eI (a1)), some (eR a2), some (eI (v1)), some (eI (v11)), some (eI (v25)), some (eI (i30))]) (s2 := [eI (i30), eI (12), eR a2, eI (v90), eI (v84), eR a2]) rfl rfl rfl ?_
          obtain ⟨v93, e94⟩ : ∃ zz : Int, zz = (12) + (i30) := ⟨_, rfl⟩
          have b95 : 12 ≤ v93 ∧ v93 ≤ 15 := by omega
          refine w_t (np := 135) (l2 := [some (eR a0), some (eI (a1)), some (eR a2), some (eI (v1)), some (eI (v11)), some (eI (v25)), some (eI (i30))]) (s2 := [eI (v93), eR a2, eI (v90), eI (v84), eR a2]) rfl (b_iadd (by rw [← e94]; exact ev_w_in (by omega) (by omega))) rfl ?_
          refine j_al (np := 136) rfl rfl I81 gA2 (by decide) (n := 16) rfl rfl (lo := -2147483648) (hi := 2147483647) (fun _ => rfl) (by omega) (by omega) ?_
          intro v96 e97 b98
          obtain ⟨v99, e100, b101⟩ : ∃ zz : Int, ev_w ((v90) + (v96)) = zz ∧ (-2147483648 ≤ zz ∧ zz ≤ 2147483647) := ⟨_, rfl, hw_bd _⟩
          refine w_t (np := 137) (l2 := [some (eR a0), some (eI (a1)), some (eR a2), some (eI (v1)), some (eI (v11)), some (eI (v25)), some (eI (i30))]) (s2 := [eI (v99), eI (v84), eR a2]) rfl (b_iadd e100) rfl ?_
          refine w_t (np := 138) (l2 := [some (eR a0), some (eI (a1)), some (eR a2), some (eI (v1)), some (eI (v11)), some (eI (v25)), some (eI (i30))]) (s2 := [eR a2, eI (v99), eI (v84), eR a2]) rfl (s_an rfl (pos_g I81 gA2 (by decide))) rfl ?_
          refine w_t (np := 140) (l2 := [some (eR a0), some (eI (a1)), some (eR a2), some (eI (v1)), some (eI (v11)), some (eI (v25)), some (eI (i30))]) (s2 := [eI (i30), eR a2, eI (v99), eI (v84), eR a2]) rfl rfl rfl ?_
          refine j_al (np := 141) rfl rfl I81 gA2 (by decide) (n := 16) rfl rfl (lo := -2147483648) (hi := 2147483647) (fun _ => rfl) (by omega) (by omega) ?_
          intro v102 e103 b104
          obtain ⟨v105, e106, b107⟩ : ∃ zz : Int, ev_w ((v99) - (v102)) = zz ∧ (-2147483648 ≤ zz ∧ zz ≤ 2147483647) := ⟨_, rfl, hw_bd _⟩
          refine w_t (np := 142) (l2 := [some (eR a0), some (eI (a1)), some (eR a2), some (eI (v1)), some (eI (v11)), some (eI (v25)), some (eI (i30))]) (s2 := [eI (v105), eI (v84), eR a2]) rfl (b_isub e106) rfl ?_
          refine j_as (np := 143) rfl rfl I81 gA2 (by decide) (n := 16) rfl rfl (lo := -2147483648) (hi := 2147483647) (fun _ => rfl) (by omega) (by omega) (by omega) ?_
          intro m108 I109 W110
          have F111 : Fr l_302_2 0 0 g μ m108 := F83.v W110 gA2 rfl rfl
          obtain ⟨v112, e113⟩ : ∃ zz : Int, zz = (i30) + (1) := ⟨_, rfl⟩
          have b114 : 1 ≤ v112 ∧ v112 ≤ 4 := by omega
          refine w_t (np := 146) (l2 := [some (eR a0), some (eI (a1)), some (eR a2), some (eI (v1)), some (eI (v11)), some (eI (v25)), some (eI (v112))]) (s2 := []) rfl (b_iinc rfl (by rw [← e113]; exact ev_w_in (by omega) (by omega)) rfl) rfl ?_
          refine w_go (t1 := 59) rfl rfl ?_
          exact ih29 (4 - (v112)).toNat (by omega) m108 (v112) I109 F111 (by omega) (W110.addr (W82.addr (W67.addr (W52.addr k35 gA2 gA0 (by decide)) gA2 gA0 (by decide)) gA2 gA0 (by decide)) gA2 gA0 (by decide)) (W110.addr (W82.addr (W67.addr (W52.addr k36 gA2 b6 (by decide)) gA2 b6 (by decide)) gA2 b6 (by decide)) gA2 b6 (by decide)) (W110.addr (W82.addr (W67.addr (W52.addr k37 gA2 b6 (by decide)) gA2 b6 (by decide)) gA2 b6 (by decide)) gA2 b6 (by decide)) (W110.addr (W82.addr (W67.addr (W52.addr k38 gA2 b6 (by decide)) gA2 b6 (by decide)) gA2 b6 (by decide)) gA2 b6 (by decide))    rfl
      exact hL59 _ μ (0) hI F0 (by decide) e5 e12 e18 e22    rfl
theorem s_303 {L : Nat} {ρ : Nat → Int} {rc : eQ} {d : Nat} {f : eFr} {F : List eFr} {μ : eM} {g : Nat → Nat} {a0 : Nat} {a1 : Int} {a2 : Nat} {a3 : Int} (hI : SI g μ) (gA0 : g a0 = 83) (bA1 : 0 ≤ a1 ∧ a1 ≤ 12) (gA2 : g a2 = 82) (bA3 : 0 ≤ a3 ∧ a3 ≤ 380) (K : ∀ (v : Int), (0 ≤ v ∧ v ≤ 1) → ex_q (dt_fg L ρ) rc (d + 1, (f.1, f.2.1, f.2.2.1, eI v :: f.2.2.2), F, μ)) : ex_q (dt_fg L ρ) rc (d, (303, 0, [some (eR a0), some (eI (a1)), some (eR a2), some (eI (a3)), none], []), f :: F, μ) := by
  refine w_t (np := 1) (l2 := [some (eR a0), some (eI (a1)), some (eR a2), some (eI (a3)), none]) (s2 := [eI (0)]) rfl rfl rfl ?_
  refine w_t (np := 3) (l2 := [some (eR a0), some (eI (a1)), some (eR a2), some (eI (a3)), some (eI (0))]) (s2 := []) rfl rfl rfl ?_
  have hL3 : ∀ (n1 : Nat) (i3 : Int), (0 ≤ i3 ∧ i3 ≤ 4) → n1 = (4 - i3).toNat → ex_q (dt_fg L ρ) rc (d, (303, 3, [some (eR a0), some (eI (a1)), some (eR a2), some (eI (a3)), some (eI (i3))], []), f :: F, μ) := by
    intro n1
    induction n1 using Nat.strongRecOn with
    | _ n1 ih2 =>
    intro i3 b4 hn5
    refine w_t (np := 5) (l2 := [some (eR a0), some (eI (a1)), some (eR a2), some (eI (a3)), some (eI (i3))]) (s2 := [eI (i3)]) rfl rfl rfl ?_
    refine w_t (np := 6) (l2 := [some (eR a0), some (eI (a1)), some (eR a2), some (eI (a3)), some (eI (i3))]) (s2 := [eI (4), eI (i3)]) rfl rfl rfl ?_
    refine b_cge (t1 := 32) (t2 := 9) rfl rfl rfl (ev_w_in (by omega) (by omega)) rfl (fun g6 => ?_) (fun g6 => ?_)
    · have b7 : 4 ≤ i3 ∧ i3 ≤ 4 := by omega
      refine w_t (np := 33) (l2 := [some (eR a0), some (eI (a1)), some (eR a2), some (eI (a3)), some (eI (i3))]) (s2 := [eI (1)]) rfl rfl rfl ?_
      exact b_rz rfl rfl (Or.inr rfl) (K (1) (by decide))
    · have b7 : 0 ≤ i3 ∧ i3 ≤ 3 := by omega
      refine w_t (np := 10) (l2 := [some (eR a0), some (eI (a1)), some (eR a2), some (eI (a3)), some (eI (i3))]) (s2 := [eR a0]) rfl (s_an rfl (pos_g hI gA0 (by decide))) rfl ?_
      refine w_t (np := 11) (l2 := [some (eR a0), some (eI (a1)), some (eR a2), some (eI (a3)), some (eI (i3))]) (s2 := [eI (a1), eR a0]) rfl rfl rfl ?_
      refine w_t (np := 13) (l2 := [some (eR a0), some (eI (a1)), some (eR a2), some (eI (a3)), some (eI (i3))]) (s2 := [eI (i3), eI (a1), eR a0]) rfl rfl rfl ?_
      obtain ⟨v7, e8⟩ : ∃ zz : Int, zz = (a1) + (i3) := ⟨_, rfl⟩
      have b9 : 0 ≤ v7 ∧ v7 ≤ 15 := by omega
      refine w_t (np := 14) (l2 := [some (eR a0), some (eI (a1)), some (eR a2), some (eI (a3)), some (eI (i3))]) (s2 := [eI (v7), eR a0]) rfl (b_iadd (by rw [← e8]; exact ev_w_in (by omega) (by omega))) rfl ?_
      refine j_al (np := 15) rfl rfl hI gA0 (by decide) (n := 16) rfl rfl (lo := -2147483648) (hi := 2147483647) (fun _ => rfl) (by omega) (by omega) ?_
      intro v10 e11 b12
      refine w_t (np := 16) (l2 := [some (eR a0), some (eI (a1)), some (eR a2), some (eI (a3)), some (eI (i3))]) (s2 := [eR a2, eI (v10)]) rfl (s_an rfl (pos_g hI gA2 (by decide))) rfl ?_
      refine w_t (np := 17) (l2 := [some (eR a0), some (eI (a1)), some (eR a2), some (eI (a3)), some (eI (i3))]) (s2 := [eI (a3), eR a2, eI (v10)]) rfl rfl rfl ?_
      refine w_t (np := 19) (l2 := [some (eR a0), some (eI (a1)), some (eR a2), some (eI (a3)), some (eI (i3))]) (s2 := [eI (i3), eI (a3), eR a2, eI (v10)]) rfl rfl rfl ?_
      obtain ⟨v13, e14⟩ : ∃ zz : Int, zz = (a3) + (i3) := ⟨_, rfl⟩
      have b15 : 0 ≤ v13 ∧ v13 ≤ 383 := by omega
      refine w_t (np := 20) (l2 := [some (eR a0), some (eI (a1)), some (eR a2), some (eI (a3)), some (eI (i3))]) (s2 := [eI (v13), eR a2, eI (v10)]) rfl (b_iadd (by rw [← e14]; exact ev_w_in (by omega) (by omega))) rfl ?_
      refine j_al (np := 21) rfl rfl hI gA2 (by decide) (n := 384) rfl rfl (lo := -2147483648) (hi := 2147483647) (fun _ => rfl) (by omega) (by omega) ?_
      intro v16 e17 b18
      refine b_ceq (t1 := 26) (t2 := 24) rfl rfl rfl (ev_w_in (by omega) (by omega)) (ev_w_in (by omega) (by omega)) (fun g19 => ?_) (fun g19 => ?_)
      · obtain ⟨v20, e21⟩ : ∃ zz : Int, zz = (i3) + (1) := ⟨_, rfl⟩
        have b22 : 1 ≤ v20 ∧ v20 ≤ 4 := by omega
        refine w_t (np := 29) (l2 := [some (eR a0), some (eI (a1)), some (eR a2), some (eI (a3)), some (eI (v20))]) (s2 := []) rfl (b_iinc rfl (by rw [← e21]; exact ev_w_in (by omega) (by omega)) rfl) rfl ?_
        refine w_go (t1 := 3) rfl rfl ?_
        exact ih2 (4 - (v20)).toNat (by omega) (v20) (by omega)     rfl
      · refine w_t (np := 25) (l2 := [some (eR a0), some (eI (a1)), some (eR a2), some (eI (a3)), some (eI (i3))]) (s2 := [eI (0)]) rfl rfl rfl ?_
        exact b_rz rfl rfl (Or.inl rfl) (K (0) (by decide))
  exact hL3 _ (0) (by decide)     rfl
theorem s_303_2 {L : Nat} {ρ : Nat → Int} {rc : eQ} {d : Nat} {f : eFr} {F : List eFr} {μ : eM} {g : Nat → Nat} {a0 : Nat} {a1 : Int} {a2 : Nat} {a3 : Int} (hI : SI g μ) (gA0 : g a0 = 83) (bA1 : 0 ≤ a1 ∧ a1 ≤ 12) (gA2 : g a2 = 84) (bA3 : 0 ≤ a3 ∧ a3 ≤ 12) (K : ∀ (v : Int), (0 ≤ v ∧ v ≤ 1) → ex_q (dt_fg L ρ) rc (d + 1, (f.1, f.2.1, f.2.2.1, eI v :: f.2.2.2), F, μ)) : ex_q (dt_fg L ρ) rc (d, (303, 0, [some (eR a0), some (eI (a1)), some (eR a2), some (eI (a3)), none], []), f :: F, μ) := by
  refine w_t (np := 1) (l2 := [some (eR a0), some (eI (a1)), some (eR a2), some (eI (a3)), none]) (s2 := [eI (0)]) rfl rfl rfl ?_
  refine w_t (np := 3) (l2 := [some (eR a0), some (eI (a1)), some (eR a2), some (eI (a3)), some (eI (0))]) (s2 := []) rfl rfl rfl ?_
  have hL3 : ∀ (n1 : Nat) (i3 : Int), (0 ≤ i3 ∧ i3 ≤ 4) → n1 = (4 - i3).toNat → ex_q (dt_fg L ρ) rc (d, (303, 3, [some (eR a0), some (eI (a1)), some (eR a2), some (eI (a3)), some (eI (i3))], []), f :: F, μ) := by
    intro n1
    induction n1 using Nat.strongRecOn with
    | _ n1 ih2 =>
    intro i3 b4 hn5
    refine w_t (np := 5) (l2 := [some (eR a0), some (eI (a1)), some (eR a2), some (eI (a3)), some (eI (i3))]) (s2 := [eI (i3)]) rfl rfl rfl ?_
    refine w_t (np := 6) (l2 := [some (eR a0), some (eI (a1)), some (eR a2), some (eI (a3)), some (eI (i3))]) (s2 := [eI (4), eI (i3)]) rfl rfl rfl ?_
    refine b_cge (t1 := 32) (t2 := 9) rfl rfl rfl (ev_w_in (by omega) (by omega)) rfl (fun g6 => ?_) (fun g6 => ?_)
    · have b7 : 4 ≤ i3 ∧ i3 ≤ 4 := by omega
      refine w_t (np := 33) (l2 := [some (eR a0), some (eI (a1)), some (eR a2), some (eI (a3)), some (eI (i3))]) (s2 := [eI (1)]) rfl rfl rfl ?_
      exact b_rz rfl rfl (Or.inr rfl) (K (1) (by decide))
    · have b7 : 0 ≤ i3 ∧ i3 ≤ 3 := by omega
      refine w_t (np := 10) (l2 := [some (eR a0), some (eI (a1)), some (eR a2), some (eI (a3)), some (eI (i3))]) (s2 := [eR a0]) rfl (s_an rfl (pos_g hI gA0 (by decide))) rfl ?_
      refine w_t (np := 11) (l2 := [some (eR a0), some (eI (a1)), some (eR a2), some (eI (a3)), some (eI (i3))]) (s2 := [eI (a1), eR a0]) rfl rfl rfl ?_
      refine w_t (np := 13) (l2 := [some (eR a0), some (eI (a1)), some (eR a2), some (eI (a3)), some (eI (i3))]) (s2 := [eI (i3), eI (a1), eR a0]) rfl rfl rfl ?_
      obtain ⟨v7, e8⟩ : ∃ zz : Int, zz = (a1) + (i3) := ⟨_, rfl⟩
      have b9 : 0 ≤ v7 ∧ v7 ≤ 15 := by omega
      refine w_t (np := 14) (l2 := [some (eR a0), some (eI (a1)), some (eR a2), some (eI (a3)), some (eI (i3))]) (s2 := [eI (v7), eR a0]) rfl (b_iadd (by rw [← e8]; exact ev_w_in (by omega) (by omega))) rfl ?_
      refine j_al (np := 15) rfl rfl hI gA0 (by decide) (n := 16) rfl rfl (lo := -2147483648) (hi := 2147483647) (fun _ => rfl) (by omega) (by omega) ?_
      intro v10 e11 b12
      refine w_t (np := 16) (l2 := [some (eR a0), some (eI (a1)), some (eR a2), some (eI (a3)), some (eI (i3))]) (s2 := [eR a2, eI (v10)]) rfl (s_an rfl (pos_g hI gA2 (by decide))) rfl ?_
      refine w_t (np := 17) (l2 := [some (eR a0), some (eI (a1)), some (eR a2), some (eI (a3)), some (eI (i3))]) (s2 := [eI (a3), eR a2, eI (v10)]) rfl rfl rfl ?_
      refine w_t (np := 19) (l2 := [some (eR a0), some (eI (a1)), some (eR a2), some (eI (a3)), some (eI (i3))]) (s2 := [eI (i3), eI (a3), eR a2, eI (v10)]) rfl rfl rfl ?_
      obtain ⟨v13, e14⟩ : ∃ zz : Int, zz = (a3) + (i3) := ⟨_, rfl⟩
      have b15 : 0 ≤ v13 ∧ v13 ≤ 15 := by omega
      refine w_t (np := 20) (l2 := [some (eR a0), some (eI (a1)), some (eR a2), some (eI (a3)), some (eI (i3))]) (s2 := [eI (v13), eR a2, eI (v10)]) rfl (b_iadd (by rw [← e14]; exact ev_w_in (by omega) (by omega))) rfl ?_
      refine j_al (np := 21) rfl rfl hI gA2 (by decide) (n := 16) rfl rfl (lo := -2147483648) (hi := 2147483647) (fun _ => rfl) (by omega) (by omega) ?_
      intro v16 e17 b18
      refine b_ceq (t1 := 26) (t2 := 24) rfl rfl rfl (ev_w_in (by omega) (by omega)) (ev_w_in (by omega) (by omega)) (fun g19 => ?_) (fun g19 => ?_)
      · obtain ⟨v20, e21⟩ : ∃ zz : Int, zz = (i3) + (1) := ⟨_, rfl⟩
        have b22 : 1 ≤ v20 ∧ v20 ≤ 4 := by omega
        refine w_t (np := 29) (l2 := [some (eR a0), some (eI (a1)), some (eR a2), some (eI (a3)), some (eI (v20))]) (s2 := []) rfl (b_iinc rfl (by rw [← e21]; exact ev_w_in (by omega) (by omega)) rfl) rfl ?_
        refine w_go (t1 := 3) rfl rfl ?_
        exact ih2 (4 - (v20)).toNat (by omega) (v20) (by omega)     rfl
      · refine w_t (np := 25) (l2 := [some (eR a0), some (eI (a1)), some (eR a2), some (eI (a3)), some (eI (i3))]) (s2 := [eI (0)]) rfl rfl rfl ?_
        exact b_rz rfl rfl (Or.inl rfl) (K (0) (by decide))
  exact hL3 _ (0) (by decide)     rfl
def l_304 : List Nat := [13363, 21248, 20992, 20736]
theorem s_304 {L : Nat} {ρ : Nat → Int} {rc : eQ} {d : Nat} {f : eFr} {F : List eFr} {μ : eM} {g : Nat → Nat} {a0 : Nat} (hI : SI g μ) (gA0 : g a0 = 52) (K : ∀ (μ2 : eM), SI g μ2 → Fr l_304 0 0 g μ μ2 → ex_q (dt_fg L ρ) rc (d + 4, (f.1, f.2.1, f.2.2.1, f.2.2.2), F, μ2)) : ex_q (dt_fg L ρ) rc (d + 3, (304, 0, [some (eR a0), none, none, none, none], []), f :: F, μ) := by
  have F0 : Fr l_304 0 0 g μ μ := Fr.r
  refine w_t (np := 1) (l2 := [some (eR a0), none, none, none, none]) (s2 := [eR a0]) rfl (s_an rfl (pos_g hI gA0 (by decide))) rfl ?_
  refine w_t (np := 2) (l2 := [some (eR a0), none, none, none, none]) (s2 := [eI (0), eR a0]) rfl rfl rfl ?_
  refine j_pf (np := 5) (w := 0) rfl rfl hI gA0 (by decide) (n := 69) rfl rfl (hO_i (lo := 0) (hi := 96) rfl (by decide)) ?_
  intro m1 I2 W3
  have F4 : Fr l_304 0 0 g μ m1 := F0.w W3 gA0 rfl
  refine w_t (np := 6) (l2 := [some (eR a0), none, none, none, none]) (s2 := [eI (0)]) rfl rfl rfl ?_
  refine w_t (np := 7) (l2 := [some (eR a0), some (eI (0)), none, none, none]) (s2 := []) rfl rfl rfl ?_
  have hL7 : ∀ (n5 : Nat) (m12 : eM) (i7 : Int) (o9 : Option eV) (o10 : Option eV) (o11 : Option eV) (x15 : Int), SI g m12 → Fr l_304 0 0 g μ m12 → (0 ≤ i7 ∧ i7 ≤ 24) → m12.1 a0 50 = x15 → (0 ≤ x15 ∧ x15 ≤ 96) → x15 ≤ 4 * i7 → n5 = (24 - i7).toNat → ex_q (dt_fg L ρ) rc (d + 3, (304, 7, [some (eR a0), some (eI (i7)), o9, o10, o11], []), f :: F, m12) := by
    intro n5
    induction n5 using Nat.strongRecOn with
    | _ n5 ih6 =>
    intro m12 i7 o9 o10 o11 x15 I13 F14 b8 h16 b17 r18 hn19
    refine w_t (np := 8) (l2 := [some (eR a0), some (eI (i7)), o9, o10, o11]) (s2 := [eI (i7)]) rfl rfl rfl ?_
    refine w_t (np := 9) (l2 := [some (eR a0), some (eI (i7)), o9, o10, o11]) (s2 := [eR a0, eI (i7)]) rfl (s_an rfl (pos_g I13 gA0 (by decide))) rfl ?_
    refine j_gi (np := 12) rfl rfl rfl I13 gA0 (by decide) (n := 69) rfl rfl (lo := 0) (hi := 24) rfl ?_
    intro v20 e21 b22
    refine b_cge (t1 := 145) (t2 := 15) rfl rfl rfl (ev_w_in (by omega) (by omega)) (ev_w_in (by omega) (by omega)) (fun g23 => ?_) (fun g23 => ?_)
    · exact v_rv rfl rfl (K m12 I13 F14)
    · have b24 : 0 ≤ i7 ∧ i7 ≤ 23 := by omega
      have b25 : 1 ≤ v20 ∧ v20 ≤ 24 := by omega
      refine w_t (np := 16) (l2 := [some (eR a0), some (eI (i7)), o9, o10, o11]) (s2 := [eR a0]) rfl (s_an rfl (pos_g I13 gA0 (by decide))) rfl ?_
      refine w_t (np := 17) (l2 := [some (eR a0), some (eI (i7)), o9, o10, o11]) (s2 := [eI (i7), eR a0]) rfl rfl rfl ?_
      refine w_t (np := 18) (l2 := [some (eR a0), some (eI (i7)), o9, o10, o11]) (s2 := [eR a0, eI (i7), eR a0]) rfl (s_an rfl (pos_g I13 gA0 (by decide))) rfl ?_
      refine j_gr (np := 21) rfl rfl I13 gA0 (by decide) (n := 69) rfl rfl rfl ?_
      intro v24 e25 b26 z27
      have b26 : g v24 = 83 := Nat.eq_of_beq_eq_true b26
      refine w_cw (np := 24) (as := [eI (i7), eR v24]) (l2 := [some (eR a0), some (eI (i7)), some (eR v24), none, none, none, none]) (rest := []) rfl rfl rfl (Nat.ble_eq.mp rfl) rfl rfl rfl (I13.kd gA0 (by decide) (n := 69) rfl) rfl ?_
      refine s_302 (a1 := i7) I13 gA0 (by omega) b26 ?_
      intro m28 I29 F30
      have F31 : Fr l_304 0 0 g μ m28 := F14.t F30 rfl
      show ex_q (dt_fg L ρ) rc (d + 3, (304, 24, [some (eR a0), some (eI (i7)), o9, o10, o11], []), f :: F, m28)
      refine w_t (np := 25) (l2 := [some (eR a0), some (eI (i7)), o9, o10, o11]) (s2 := [eI (0)]) rfl rfl rfl ?_
      refine w_t (np := 26) (l2 := [some (eR a0), some (eI (i7)), some (eI (0)), o10, o11]) (s2 := []) rfl rfl rfl ?_
      have hL26 : ∀ (n32 : Nat) (m38 : eM) (i34 : Int) (o36 : Option eV) (o37 : Option eV) (x41 : Int), SI g m38 → Fr l_304 0 0 g μ m38 → (0 ≤ i34 ∧ i34 ≤ 4) → m38.1 a0 49 = v20 → m38.1 a0 47 = ((v24 : Nat) : Int) → m38.1 a0 50 = x41 → (0 ≤ x41 ∧ x41 ≤ 96) → x41 ≤ 4 * i7 + i34 → n32 = (4 - i34).toNat → ex_q (dt_fg L ρ) rc (d + 3, (304, 26, [some (eR a0), some (eI (i7)), some (eI (i34)), o36, o37], []), f :: F, m38) := by
        intro n32
        induction n32 using Nat.strongRecOn with
        | _ n32 ih33 =>
        intro m38 i34 o36 o37 x41 I39 F40 b35 k44 k45 h42 b43 r46 hn47
        refine w_t (np := 27) (l2 := [some (eR a0), some (eI (i7)), some (eI (i34)), o36, o37]) (s2 := [eI (i34)]) rfl rfl rfl ?_
        refine w_t (np := 28) (l2 := [some (eR a0), some (eI (i7)), some (eI (i34)), o36, o37]) (s2 := [eI (4), eI (i34)]) rfl rfl rfl ?_
        refine b_cge (t1 := 139) (t2 := 31) rfl rfl rfl (ev_w_in (by omega) (by omega)) rfl (fun g48 => ?_) (fun g48 => ?_)
        · have b49 : 4 ≤ i34 ∧ i34 ≤ 4 := by omega
          obtain ⟨v49, e50⟩ : ∃ zz : Int, zz = (i7) + (1) := ⟨_, rfl⟩
          have b51 : 1 ≤ v49 ∧ v49 ≤ 24 := by omega
          refine w_t (np := 142) (l2 := [some (eR a0), some (eI (v49)), some (eI (i34)), o36, o37]) (s2 := []) rfl (b_iinc rfl (by rw [← e50]; exact ev_w_in (by omega) (by omega)) rfl) rfl ?_
          refine w_go (t1 := 7) rfl rfl ?_
          exact ih6 (24 - (v49)).toNat (by omega) m38 (v49) (some (eI (i34))) (o36) (o37) (x41) I39 F40 (by omega)  h42 (by omega)  (by omega) rfl
        · have b49 : 0 ≤ i34 ∧ i34 ≤ 3 := by omega
          refine w_t (np := 32) (l2 := [some (eR a0), some (eI (i7)), some (eI (i34)), o36, o37]) (s2 := [eI (0)]) rfl rfl rfl ?_
          refine w_t (np := 33) (l2 := [some (eR a0), some (eI (i7)), some (eI (i34)), some (eI (0)), o37]) (s2 := []) rfl rfl rfl ?_
          have hL33 : ∀ (n49 : Nat) (m53 : eM) (i51 : Int), SI g m53 → Fr l_304 0 0 g μ m53 → (0 ≤ i51 ∧ i51 ≤ 96) → m53.1 a0 49 = v20 → m53.1 a0 47 = ((v24 : Nat) : Int) → m53.1 a0 50 = x41 → i51 ≤ x41 → n49 = (96 - i51).toNat → ex_q (dt_fg L ρ) rc (d + 3, (304, 33, [some (eR a0), some (eI (i7)), some (eI (i34)), some (eI (i51)), o37], []), f :: F, m53) := by
            intro n49
            induction n49 using Nat.strongRecOn with
            | _ n49 ih50 =>
            intro m53 i51 I54 F55 b52 k56 k57 k58 r59 hn60
            refine w_t (np := 34) (l2 := [some (eR a0), some (eI (i7)), some (eI (i34)), some (eI (i51)), o37]) (s2 := [eI (i51)]) rfl rfl rfl ?_
            refine w_t (np := 35) (l2 := [some (eR a0), some (eI (i7)), some (eI (i34)), some (eI (i51)), o37]) (s2 := [eR a0, eI (i51)]) rfl (s_an rfl (pos_g I54 gA0 (by decide))) rfl ?_
            refine w_gf (np := 38) (v := eI (x41)) rfl rfl (I54.kd gA0 (by decide) (n := 69) rfl) (by rw [k58]; rfl) ?_
            refine b_cge (t1 := 67) (t2 := 41) rfl rfl rfl (ev_w_in (by omega) (by omega)) (ev_w_in (by omega) (by omega)) (fun g61 => ?_) (fun g61 => ?_)
            · refine w_t (np := 68) (l2 := [some (eR a0), some (eI (i7)), some (eI (i34)), some (eI (i51)), o37]) (s2 := [eI (i51)]) rfl rfl rfl ?_
              refine w_t (np := 69) (l2 := [some (eR a0), some (eI (i7)), some (eI (i34)), some (eI (i51)), o37]) (s2 := [eR a0, eI (i51)]) rfl (s_an rfl (pos_g I54 gA0 (by decide))) rfl ?_
              refine w_gf (np := 72) (v := eI (x41)) rfl rfl (I54.kd gA0 (by decide) (n := 69) rfl) (by rw [k58]; rfl) ?_
              refine b_cne (t1 := 122) (t2 := 75) rfl rfl rfl (ev_w_in (by omega) (by omega)) (ev_w_in (by omega) (by omega)) (fun g62 => ?_) (fun g62 => ?_)
              · refine w_t (np := 123) (l2 := [some (eR a0), some (eI (i7)), some (eI (i34)), some (eI (i51)), o37]) (s2 := [eR a0]) rfl (s_an rfl (pos_g I54 gA0 (by decide))) rfl ?_
                refine j_gr (np := 126) rfl rfl I54 gA0 (by decide) (n := 69) rfl rfl rfl ?_
                intro v63 e64 b65 z66
                have b65 : g v63 = 81 := Nat.eq_of_beq_eq_true b65
                refine w_t (np := 127) (l2 := [some (eR a0), some (eI (i7)), some (eI (i34)), some (eI (i51)), o37]) (s2 := [eI (4), eR v63]) rfl rfl rfl ?_
                refine w_t (np := 128) (l2 := [some (eR a0), some (eI (i7)), some (eI (i34)), some (eI (i51)), o37]) (s2 := [eI (i7), eI (4), eR v63]) rfl rfl rfl ?_
                obtain ⟨v67, e68⟩ : ∃ zz : Int, zz = (4) * (i7) := ⟨_, rfl⟩
                have b69 : 0 ≤ v67 ∧ v67 ≤ 92 := by omega
                refine w_t (np := 129) (l2 := [some (eR a0), some (eI (i7)), some (eI (i34)), some (eI (i51)), o37]) (s2 := [eI (v67), eR v63]) rfl (b_imul (by rw [← e68]; exact ev_w_in (by omega) (by omega))) rfl ?_
                refine w_t (np := 130) (l2 := [some (eR a0), some (eI (i7)), some (eI (i34)), some (eI (i51)), o37]) (s2 := [eI (i34), eI (v67), eR v63]) rfl rfl rfl ?_
                obtain ⟨v70, e71⟩ : ∃ zz : Int, zz = (v67) + (i34) := ⟨_, rfl⟩
                have b72 : 0 ≤ v70 ∧ v70 ≤ 95 := by omega
                refine w_t (np := 131) (l2 := [some (eR a0), some (eI (i7)), some (eI (i34)), some (eI (i51)), o37]) (s2 := [eI (v70), eR v63]) rfl (b_iadd (by rw [← e71]; exact ev_w_in (by omega) (by omega))) rfl ?_
                refine w_t (np := 132) (l2 := [some (eR a0), some (eI (i7)), some (eI (i34)), some (eI (i51)), o37]) (s2 := [eI (i51), eI (v70), eR v63]) rfl rfl rfl ?_
                refine j_as (np := 133) rfl rfl I54 b65 (by decide) (n := 96) rfl rfl (lo := 0) (hi := 95) (fun _ => rfl) (by omega) (by omega) (by omega) ?_
                intro m73 I74 W75
                have F76 : Fr l_304 0 0 g μ m73 := F55.v W75 b65 rfl rfl
                obtain ⟨v77, e78⟩ : ∃ zz : Int, zz = (i34) + (1) := ⟨_, rfl⟩
                have b79 : 1 ≤ v77 ∧ v77 ≤ 4 := by omega
                refine w_t (np := 136) (l2 := [some (eR a0), some (eI (i7)), some (eI (v77)), some (eI (i51)), o37]) (s2 := []) rfl (b_iinc rfl (by rw [← e78]; exact ev_w_in (by omega) (by omega)) rfl) rfl ?_
                refine w_go (t1 := 26) rfl rfl ?_
                exact ih33 (4 - (v77)).toNat (by omega) m73 (v77) (some (eI (i51))) (o37) (x41) I74 F76 (by omega) (W75.addr k56 b65 gA0 (by decide)) (W75.addr k57 b65 gA0 (by decide)) (W75.addr k58 b65 gA0 (by decide)) (by omega)  (by omega) rfl
              · refine w_t (np := 76) (l2 := [some (eR a0), some (eI (i7)), some (eI (i34)), some (eI (i51)), o37]) (s2 := [eI (0)]) rfl rfl rfl ?_
                refine w_t (np := 78) (l2 := [some (eR a0), some (eI (i7)), some (eI (i34)), some (eI (i51)), some (eI (0))]) (s2 := []) rfl rfl rfl ?_
                have hL78 : ∀ (n63 : Nat) (m67 : eM) (i65 : Int), SI g m67 → Fr l_304 0 0 g μ m67 → (0 ≤ i65 ∧ i65 ≤ 4) → m67.1 a0 49 = v20 → m67.1 a0 47 = ((v24 : Nat) : Int) → m67.1 a0 50 = x41 → n63 = (4 - i65).toNat → ex_q (dt_fg L ρ) rc (d + 3, (304, 78, [some (eR a0), some (eI (i7)), some (eI (i34)), some (eI (i51)), some (eI (i65))], []), f :: F, m67) := by
                  intro n63
                  induction n63 using Nat.strongRecOn with
                  | _ n63 ih64 =>
                  intro m67 i65 I68 F69 b66 k70 k71 k72 hn73
                  refine w_t (np := 80) (l2 := [some (eR a0), some (eI (i7)), some (eI (i34)), some (eI (i51)), some (eI (i65))]) (s2 := [eI (i65)]) rfl rfl rfl ?_
                  refine w_t (np := 81) (l2 := [some (eR a0), some (eI (i7)), some (eI (i34)), some (eI (i51)), some (eI (i65))]) (s2 := [eI (4), eI (i65)]) rfl rfl rfl ?_
                  refine b_cge (t1 := 112) (t2 := 84) rfl rfl rfl (ev_w_in (by omega) (by omega)) rfl (fun g74 => ?_) (fun g74 => ?_)
                  · have b75 : 4 ≤ i65 ∧ i65 ≤ 4 := by omega
                    refine w_t (np := 113) (l2 := [some (eR a0), some (eI (i7)), some (eI (i34)), some (eI (i51)), some (eI (i65))]) (s2 := [eR a0]) rfl (s_an rfl (pos_g I68 gA0 (by decide))) rfl ?_
                    refine w_t (np := 114) (l2 := [some (eR a0), some (eI (i7)), some (eI (i34)), some (eI (i51)), some (eI (i65))]) (s2 := [eR a0, eR a0]) rfl rfl rfl ?_
                    refine w_gf (np := 117) (v := eI (x41)) rfl rfl (I68.kd gA0 (by decide) (n := 69) rfl) (by rw [k72]; rfl) ?_
                    refine w_t (np := 118) (l2 := [some (eR a0), some (eI (i7)), some (eI (i34)), some (eI (i51)), some (eI (i65))]) (s2 := [eI (1), eI (x41), eR a0]) rfl rfl rfl ?_
                    obtain ⟨v75, e76⟩ : ∃ zz : Int, zz = (x41) + (1) := ⟨_, rfl⟩
                    have b77 : 1 ≤ v75 ∧ v75 ≤ 97 := by omega
                    refine w_t (np := 119) (l2 := [some (eR a0), some (eI (i7)), some (eI (i34)), some (eI (i51)), some (eI (i65))]) (s2 := [eI (v75), eR a0]) rfl (b_iadd (by rw [← e76]; exact ev_w_in (by omega) (by omega))) rfl ?_
                    refine j_pf (np := 122) (w := v75) rfl rfl I68 gA0 (by decide) (n := 69) rfl rfl (hO_i (lo := 0) (hi := 96) rfl (by omega)) ?_
                    intro m78 I79 W80
                    have F81 : Fr l_304 0 0 g μ m78 := F69.w W80 gA0 rfl
                    refine w_t (np := 123) (l2 := [some (eR a0), some (eI (i7)), some (eI (i34)), some (eI (i51)), some (eI (i65))]) (s2 := [eR a0]) rfl (s_an rfl (pos_g I79 gA0 (by decide))) rfl ?_
                    refine j_gr (np := 126) rfl rfl I79 gA0 (by decide) (n := 69) rfl rfl rfl ?_
                    intro v82 e83 b84 z85
                    have b84 : g v82 = 81 := Nat.eq_of_beq_eq_true b84
                    refine w_t (np := 127) (l2 := [some (eR a0), some (eI (i7)), some (eI (i34)), some (eI (i51)), some (eI (i65))]) (s2 := [eI (4), eR v82]) rfl rfl rfl ?_
                    refine w_t (np := 128) (l2 := [some (eR a0), some (eI (i7)), some (eI (i34)), some (eI (i51)), some (eI (i65))]) (s2 := [eI (i7), eI (4), eR v82]) rfl rfl rfl ?_
                    obtain ⟨v86, e87⟩ : ∃ zz : Int, zz = (4) * (i7) := ⟨_, rfl⟩
                    have b88 : 0 ≤ v86 ∧ v86 ≤ 92 := by omega
                    refine w_t (np := 129) (l2 := [some (eR a0), some (eI (i7)), some (eI (i34)), some (eI (i51)), some (eI (i65))]) (s2 := [eI (v86), eR v82]) rfl (b_imul (by rw [← e87]; exact ev_w_in (by omega) (by omega))) rfl ?_
                    refine w_t (np := 130) (l2 := [some (eR a0), some (eI (i7)), some (eI (i34)), some (eI (i51)), some (eI (i65))]) (s2 := [eI (i34), eI (v86), eR v82]) rfl rfl rfl ?_
                    obtain ⟨v89, e90⟩ : ∃ zz : Int, zz = (v86) + (i34) := ⟨_, rfl⟩
                    have b91 : 0 ≤ v89 ∧ v89 ≤ 95 := by omega
                    refine w_t (np := 131) (l2 := [some (eR a0), some (eI (i7)), some (eI (i34)), some (eI (i51)), some (eI (i65))]) (s2 := [eI (v89), eR v82]) rfl (b_iadd (by rw [← e90]; exact ev_w_in (by omega) (by omega))) rfl ?_
                    refine w_t (np := 132) (l2 := [some (eR a0), some (eI (i7)), some (eI (i34)), some (eI (i51)), some (eI (i65))]) (s2 := [eI (i51), eI (v89), eR v82]) rfl rfl rfl ?_
                    refine j_as (np := 133) rfl rfl I79 b84 (by decide) (n := 96) rfl rfl (lo := 0) (hi := 95) (fun _ => rfl) (by omega) (by omega) (by omega) ?_
                    intro m92 I93 W94
                    have F95 : Fr l_304 0 0 g μ m92 := F81.v W94 b84 rfl rfl
                    obtain ⟨v96, e97⟩ : ∃ zz : Int, zz = (i34) + (1) := ⟨_, rfl⟩
                    have b98 : 1 ≤ v96 ∧ v96 ≤ 4 := by omega
                    refine w_t (np := 136) (l2 := [some (eR a0), some (eI (i7)), some (eI (v96)), some (eI (i51)), some (eI (i65))]) (s2 := []) rfl (b_iinc rfl (by rw [← e97]; exact ev_w_in (by omega) (by omega)) rfl) rfl ?_
                    refine w_go (t1 := 26) rfl rfl ?_
                    exact ih33 (4 - (v96)).toNat (by omega) m92 (v96) (some (eI (i51))) (some (eI (i65))) (v75) I93 F95 (by omega) (W94.addr (W80.slot k70 (by decide)) b84 gA0 (by decide)) (W94.addr (W80.slot k71 (by decide)) b84 gA0 (by decide)) (W94.addr W80.at b84 gA0 (by decide)) (by omega)  (by omega) rfl
                  · have b75 : 0 ≤ i65 ∧ i65 ≤ 3 := by omega
                    refine w_t (np := 85) (l2 := [some (eR a0), some (eI (i7)), some (eI (i34)), some (eI (i51)), some (eI (i65))]) (s2 := [eR a0]) rfl (s_an rfl (pos_g I68 gA0 (by decide))) rfl ?_
                    refine j_gr (np := 88) rfl rfl I68 gA0 (by decide) (n := 69) rfl rfl rfl ?_
                    intro v75 e76 b77 z78
                    have b77 : g v75 = 82 := Nat.eq_of_beq_eq_true b77
                    refine w_t (np := 89) (l2 := [some (eR a0), some (eI (i7)), some (eI (i34)), some (eI (i51)), some (eI (i65))]) (s2 := [eI (4), eR v75]) rfl rfl rfl ?_
                    refine w_t (np := 90) (l2 := [some (eR a0), some (eI (i7)), some (eI (i34)), some (eI (i51)), some (eI (i65))]) (s2 := [eI (i51), eI (4), eR v75]) rfl rfl rfl ?_
                    obtain ⟨v79, e80⟩ : ∃ zz : Int, zz = (4) * (i51) := ⟨_, rfl⟩
                    have b81 : 0 ≤ v79 ∧ v79 ≤ 384 := by omega
                    refine w_t (np := 91) (l2 := [some (eR a0), some (eI (i7)), some (eI (i34)), some (eI (i51)), some (eI (i65))]) (s2 := [eI (v79), eR v75]) rfl (b_imul (by rw [← e80]; exact ev_w_in (by omega) (by omega))) rfl ?_
                    refine w_t (np := 93) (l2 := [some (eR a0), some (eI (i7)), some (eI (i34)), some (eI (i51)), some (eI (i65))]) (s2 := [eI (i65), eI (v79), eR v75]) rfl rfl rfl ?_
                    obtain ⟨v82, e83⟩ : ∃ zz : Int, zz = (v79) + (i65) := ⟨_, rfl⟩
                    have b84 : 0 ≤ v82 ∧ v82 ≤ 387 := by omega
                    refine w_t (np := 94) (l2 := [some (eR a0), some (eI (i7)), some (eI (i34)), some (eI (i51)), some (eI (i65))]) (s2 := [eI (v82), eR v75]) rfl (b_iadd (by rw [← e83]; exact ev_w_in (by omega) (by omega))) rfl ?_
                    refine w_t (np := 95) (l2 := [some (eR a0), some (eI (i7)), some (eI (i34)), some (eI (i51)), some (eI (i65))]) (s2 := [eR a0, eI (v82), eR v75]) rfl (s_an rfl (pos_g I68 gA0 (by decide))) rfl ?_
                    refine w_gf (np := 98) (v := eR v24) rfl rfl (I68.kd gA0 (by decide) (n := 69) rfl) (by rw [k71]; rfl) ?_
                    refine w_t (np := 99) (l2 := [some (eR a0), some (eI (i7)), some (eI (i34)), some (eI (i51)), some (eI (i65))]) (s2 := [eI (4), eR v24, eI (v82), eR v75]) rfl rfl rfl ?_
                    refine w_t (np := 100) (l2 := [some (eR a0), some (eI (i7)), some (eI (i34)), some (eI (i51)), some (eI (i65))]) (s2 := [eI (i34), eI (4), eR v24, eI (v82), eR v75]) rfl rfl rfl ?_
                    obtain ⟨v85, e86⟩ : ∃ zz : Int, zz = (4) * (i34) := ⟨_, rfl⟩
                    have b87 : 0 ≤ v85 ∧ v85 ≤ 12 := by omega
                    refine w_t (np := 101) (l2 := [some (eR a0), some (eI (i7)), some (eI (i34)), some (eI (i51)), some (eI (i65))]) (s2 := [eI (v85), eR v24, eI (v82), eR v75]) rfl (b_imul (by rw [← e86]; exact ev_w_in (by omega) (by omega))) rfl ?_
                    refine w_t (np := 103) (l2 := [some (eR a0), some (eI (i7)), some (eI (i34)), some (eI (i51)), some (eI (i65))]) (s2 := [eI (i65), eI (v85), eR v24, eI (v82), eR v75]) rfl rfl rfl ?_
                    obtain ⟨v88, e89⟩ : ∃ zz : Int, zz = (v85) + (i65) := ⟨_, rfl⟩
                    have b90 : 0 ≤ v88 ∧ v88 ≤ 15 := by omega
                    refine w_t (np := 104) (l2 := [some (eR a0), some (eI (i7)), some (eI (i34)), some (eI (i51)), some (eI (i65))]) (s2 := [eI (v88), eR v24, eI (v82), eR v75]) rfl (b_iadd (by rw [← e89]; exact ev_w_in (by omega) (by omega))) rfl ?_
                    refine j_al (np := 105) rfl rfl I68 b26 (by decide) (n := 16) rfl rfl (lo := -2147483648) (hi := 2147483647) (fun _ => rfl) (by omega) (by omega) ?_
                    intro v91 e92 b93
                    refine j_as (np := 106) rfl rfl I68 b77 (by decide) (n := 384) rfl rfl (lo := -2147483648) (hi := 2147483647) (fun _ => rfl) (by omega) (by omega) (by omega) ?_
                    intro m94 I95 W96
                    have F97 : Fr l_304 0 0 g μ m94 := F69.v W96 b77 rfl rfl
                    obtain ⟨v98, e99⟩ : ∃ zz : Int, zz = (i65) + (1) := ⟨_, rfl⟩
                    have b100 : 1 ≤ v98 ∧ v98 ≤ 4 := by omega
                    refine w_t (np := 109) (l2 := [some (eR a0), some (eI (i7)), some (eI (i34)), some (eI (i51)), some (eI (v98))]) (s2 := []) rfl (b_iinc rfl (by rw [← e99]; exact ev_w_in (by omega) (by omega)) rfl) rfl ?_
                    refine w_go (t1 := 78) rfl rfl ?_
                    exact ih64 (4 - (v98)).toNat (by omega) m94 (v98) I95 F97 (by omega) (W96.addr k70 b77 gA0 (by decide)) (W96.addr k71 b77 gA0 (by decide)) (W96.addr k72 b77 gA0 (by decide))    rfl
                exact hL78 _ m53 (0) I54 F55 (by decide) k56 k57 k58    rfl
            · have b62 : 0 ≤ i51 ∧ i51 ≤ 95 := by omega
              have b63 : 1 ≤ x41 ∧ x41 ≤ 96 := by omega
              refine w_t (np := 42) (l2 := [some (eR a0), some (eI (i7)), some (eI (i34)), some (eI (i51)), o37]) (s2 := [eR a0]) rfl (s_an rfl (pos_g I54 gA0 (by decide))) rfl ?_
              refine w_gf (np := 45) (v := eR v24) rfl rfl (I54.kd gA0 (by decide) (n := 69) rfl) (by rw [k57]; rfl) ?_
              refine w_t (np := 46) (l2 := [some (eR a0), some (eI (i7)), some (eI (i34)), some (eI (i51)), o37]) (s2 := [eI (4), eR v24]) rfl rfl rfl ?_
              refine w_t (np := 47) (l2 := [some (eR a0), some (eI (i7)), some (eI (i34)), some (eI (i51)), o37]) (s2 := [eI (i34), eI (4), eR v24]) rfl rfl rfl ?_
              obtain ⟨v62, e63⟩ : ∃ zz : Int, zz = (4) * (i34) := ⟨_, rfl⟩
              have b64 : 0 ≤ v62 ∧ v62 ≤ 12 := by omega
              refine w_t (np := 48) (l2 := [some (eR a0), some (eI (i7)), some (eI (i34)), some (eI (i51)), o37]) (s2 := [eI (v62), eR v24]) rfl (b_imul (by rw [← e63]; exact ev_w_in (by omega) (by omega))) rfl ?_
              refine w_t (np := 49) (l2 := [some (eR a0), some (eI (i7)), some (eI (i34)), some (eI (i51)), o37]) (s2 := [eR a0, eI (v62), eR v24]) rfl (s_an rfl (pos_g I54 gA0 (by decide))) rfl ?_
              refine j_gr (np := 52) rfl rfl I54 gA0 (by decide) (n := 69) rfl rfl rfl ?_
              intro v65 e66 b67 z68
              have b67 : g v65 = 82 := Nat.eq_of_beq_eq_true b67
              refine w_t (np := 53) (l2 := [some (eR a0), some (eI (i7)), some (eI (i34)), some (eI (i51)), o37]) (s2 := [eI (4), eR v65, eI (v62), eR v24]) rfl rfl rfl ?_
              refine w_t (np := 54) (l2 := [some (eR a0), some (eI (i7)), some (eI (i34)), some (eI (i51)), o37]) (s2 := [eI (i51), eI (4), eR v65, eI (v62), eR v24]) rfl rfl rfl ?_
              obtain ⟨v69, e70⟩ : ∃ zz : Int, zz = (4) * (i51) := ⟨_, rfl⟩
              have b71 : 0 ≤ v69 ∧ v69 ≤ 380 := by omega
              refine w_t (np := 55) (l2 := [some (eR a0), some (eI (i7)), some (eI (i34)), some (eI (i51)), o37]) (s2 := [eI (v69), eR v65, eI (v62), eR v24]) rfl (b_imul (by rw [← e70]; exact ev_w_in (by omega) (by omega))) rfl ?_
              refine w_cu (np := 58) (as := [eR v24, eI (v62), eR v65, eI (v69)]) (l2 := [some (eR v24), some (eI (v62)), some (eR v65), some (eI (v69)), none]) (rest := []) rfl rfl rfl (Nat.ble_eq.mp rfl) rfl rfl rfl rfl ?_
              refine s_303 (a1 := v62) (a3 := v69) I54 b26 (by omega) b67 (by omega) ?_
              intro v72 b73
              show ex_q (dt_fg L ρ) rc (d + 3, (304, 58, [some (eR a0), some (eI (i7)), some (eI (i34)), some (eI (i51)), o37], [eI (v72)]), f :: F, m53)
              refine b_ine (t1 := 67) (t2 := 61) rfl rfl rfl (ev_w_in (by omega) (by omega)) (fun g74 => ?_) (fun g74 => ?_)
              · have b75 : 1 ≤ v72 ∧ v72 ≤ 1 := by omega
                refine w_t (np := 68) (l2 := [some (eR a0), some (eI (i7)), some (eI (i34)), some (eI (i51)), o37]) (s2 := [eI (i51)]) rfl rfl rfl ?_
                refine w_t (np := 69) (l2 := [some (eR a0), some (eI (i7)), some (eI (i34)), some (eI (i51)), o37]) (s2 := [eR a0, eI (i51)]) rfl (s_an rfl (pos_g I54 gA0 (by decide))) rfl ?_
                refine w_gf (np := 72) (v := eI (x41)) rfl rfl (I54.kd gA0 (by decide) (n := 69) rfl) (by rw [k58]; rfl) ?_
                refine b_cne (t1 := 122) (t2 := 75) rfl rfl rfl (ev_w_in (by omega) (by omega)) (ev_w_in (by omega) (by omega)) (fun g75 => ?_) (fun g75 => ?_)
                · refine w_t (np := 123) (l2 := [some (eR a0), some (eI (i7)), some (eI (i34)), some (eI (i51)), o37]) (s2 := [eR a0]) rfl (s_an rfl (pos_g I54 gA0 (by decide))) rfl ?_
                  refine j_gr (np := 126) rfl rfl I54 gA0 (by decide) (n := 69) rfl rfl rfl ?_
                  intro v76 e77 b78 z79
                  have b78 : g v76 = 81 := Nat.eq_of_beq_eq_true b78
                  refine w_t (np := 127) (l2 := [some (eR a0), some (eI (i7)), some (eI (i34)), some (eI (i51)), o37]) (s2 := [eI (4), eR v76]) rfl rfl rfl ?_
                  refine w_t (np := 128) (l2 := [some (eR a0), some (eI (i7)), some (eI (i34)), some (eI (i51)), o37]) (s2 := [eI (i7), eI (4), eR v76]) rfl rfl rfl ?_
                  obtain ⟨v80, e81⟩ : ∃ zz : Int, zz = (4) * (i7) := ⟨_, rfl⟩
                  have b82 : 0 ≤ v80 ∧ v80 ≤ 92 := by omega
                  refine w_t (np := 129) (l2 := [some (eR a0), some (eI (i7)), some (eI (i34)), some (eI (i51)), o37]) (s2 := [eI (v80), eR v76]) rfl (b_imul (by rw [← e81]; exact ev_w_in (by omega) (by omega))) rfl ?_
                  refine w_t (np := 130) (l2 := [some (eR a0), some (eI (i7)), some (eI (i34)), some (eI (i51)), o37]) (s2 := [eI (i34), eI (v80), eR v76]) rfl rfl rfl ?_
                  obtain ⟨v83, e84⟩ : ∃ zz : Int, zz = (v80) + (i34) := ⟨_, rfl⟩
                  have b85 : 0 ≤ v83 ∧ v83 ≤ 95 := by omega
                  refine w_t (np := 131) (l2 := [some (eR a0), some (eI (i7)), some (eI (i34)), some (eI (i51)), o37]) (s2 := [eI (v83), eR v76]) rfl (b_iadd (by rw [← e84]; exact ev_w_in (by omega) (by omega))) rfl ?_
                  refine w_t (np := 132) (l2 := [some (eR a0), some (eI (i7)), some (eI (i34)), some (eI (i51)), o37]) (s2 := [eI (i51), eI (v83), eR v76]) rfl rfl rfl ?_
                  refine j_as (np := 133) rfl rfl I54 b78 (by decide) (n := 96) rfl rfl (lo := 0) (hi := 95) (fun _ => rfl) (by omega) (by omega) (by omega) ?_
                  intro m86 I87 W88
                  have F89 : Fr l_304 0 0 g μ m86 := F55.v W88 b78 rfl rfl
                  obtain ⟨v90, e91⟩ : ∃ zz : Int, zz = (i34) + (1) := ⟨_, rfl⟩
                  have b92 : 1 ≤ v90 ∧ v90 ≤ 4 := by omega
                  refine w_t (np := 136) (l2 := [some (eR a0), some (eI (i7)), some (eI (v90)), some (eI (i51)), o37]) (s2 := []) rfl (b_iinc rfl (by rw [← e91]; exact ev_w_in (by omega) (by omega)) rfl) rfl ?_
                  refine w_go (t1 := 26) rfl rfl ?_
                  exact ih33 (4 - (v90)).toNat (by omega) m86 (v90) (some (eI (i51))) (o37) (x41) I87 F89 (by omega) (W88.addr k56 b78 gA0 (by decide)) (W88.addr k57 b78 gA0 (by decide)) (W88.addr k58 b78 gA0 (by decide)) (by omega)  (by omega) rfl
                · have b76 : 1 ≤ i51 ∧ i51 ≤ 95 := by omega
                  have b77 : 1 ≤ x41 ∧ x41 ≤ 95 := by omega
                  refine w_t (np := 76) (l2 := [some (eR a0), some (eI (i7)), some (eI (i34)), some (eI (i51)), o37]) (s2 := [eI (0)]) rfl rfl rfl ?_
                  refine w_t (np := 78) (l2 := [some (eR a0), some (eI (i7)), some (eI (i34)), some (eI (i51)), some (eI (0))]) (s2 := []) rfl rfl rfl ?_
                  have hL78 : ∀ (n76 : Nat) (m80 : eM) (i78 : Int), SI g m80 → Fr l_304 0 0 g μ m80 → (0 ≤ i78 ∧ i78 ≤ 4) → m80.1 a0 49 = v20 → m80.1 a0 47 = ((v24 : Nat) : Int) → m80.1 a0 50 = x41 → m80.1 a0 46 = ((v65 : Nat) : Int) → n76 = (4 - i78).toNat → ex_q (dt_fg L ρ) rc (d + 3, (304, 78, [some (eR a0), some (eI (i7)), some (eI (i34)), some (eI (i51)), some (eI (i78))], []), f :: F, m80) := by
                    intro n76
                    induction n76 using Nat.strongRecOn with
                    | _ n76 ih77 =>
                    intro m80 i78 I81 F82 b79 k83 k84 k85 k86 hn87
                    refine w_t (np := 80) (l2 := [some (eR a0), some (eI (i7)), some (eI (i34)), some (eI (i51)), some (eI (i78))]) (s2 := [eI (i78)]) rfl rfl rfl ?_
                    refine w_t (np := 81) (l2 := [some (eR a0), some (eI (i7)), some (eI (i34)), some (eI (i51)), some (eI (i78))]) (s2 := [eI (4), eI (i78)]) rfl rfl rfl ?_
                    refine b_cge (t1 := 112) (t2 := 84) rfl rfl rfl (ev_w_in (by omega) (by omega)) rfl (fun g88 => ?_) (fun g88 => ?_)
                    · have b89 : 4 ≤ i78 ∧ i78 ≤ 4 := by omega
                      refine w_t (np := 113) (l2 := [some (eR a0), some (eI (i7)), some (eI (i34)), some (eI (i51)), some (eI (i78))]) (s2 := [eR a0]) rfl (s_an rfl (pos_g I81 gA0 (by decide))) rfl ?_
                      refine w_t (np := 114) (l2 := [some (eR a0), some (eI (i7)), some (eI (i34)), some (eI (i51)), some (eI (i78))]) (s2 := [eR a0, eR a0]) rfl rfl rfl ?_
                      refine w_gf (np := 117) (v := eI (x41)) rfl rfl (I81.kd gA0 (by decide) (n := 69) rfl) (by rw [k85]; rfl) ?_
                      refine w_t (np := 118) (l2 := [some (eR a0), some (eI (i7)), some (eI (i34)), some (eI (i51)), some (eI (i78))]) (s2 := [eI (1), eI (x41), eR a0]) rfl rfl rfl ?_
                      obtain ⟨v89, e90⟩ : ∃ zz : Int, zz = (x41) + (1) := ⟨_, rfl⟩
                      have b91 : 2 ≤ v89 ∧ v89 ≤ 96 := by omega
                      refine w_t (np := 119) (l2 := [some (eR a0), some (eI (i7)), some (eI (i34)), some (eI (i51)), some (eI (i78))]) (s2 := [eI (v89), eR a0]) rfl (b_iadd (by rw [← e90]; exact ev_w_in (by omega) (by omega))) rfl ?_
                      refine j_pf (np := 122) (w := v89) rfl rfl I81 gA0 (by decide) (n := 69) rfl rfl (hO_i (lo := 0) (hi := 96) rfl (by omega)) ?_
                      intro m92 I93 W94
                      have F95 : Fr l_304 0 0 g μ m92 := F82.w W94 gA0 rfl
                      refine w_t (np := 123) (l2 := [some (eR a0), some (eI (i7)), some (eI (i34)), some (eI (i51)), some (eI (i78))]) (s2 := [eR a0]) rfl (s_an rfl (pos_g I93 gA0 (by decide))) rfl ?_
                      refine j_gr (np := 126) rfl rfl I93 gA0 (by decide) (n := 69) rfl rfl rfl ?_
                      intro v96 e97 b98 z99
                      have b98 : g v96 = 81 := Nat.eq_of_beq_eq_true b98
                      refine w_t (np := 127) (l2 := [some (eR a0), some (eI (i7)), some (eI (i34)), some (eI (i51)), some (eI (i78))]) (s2 := [eI (4), eR v96]) rfl rfl rfl ?_
                      refine w_t (np := 128) (l2 := [some (eR a0), some (eI (i7)), some (eI (i34)), some (eI (i51)), some (eI (i78))]) (s2 := [eI (i7), eI (4), eR v96]) rfl rfl rfl ?_
                      obtain ⟨v100, e101⟩ : ∃ zz : Int, zz = (4) * (i7) := ⟨_, rfl⟩
                      have b102 : 0 ≤ v100 ∧ v100 ≤ 92 := by omega
                      refine w_t (np := 129) (l2 := [some (eR a0), some (eI (i7)), some (eI (i34)), some (eI (i51)), some (eI (i78))]) (s2 := [eI (v100), eR v96]) rfl (b_imul (by rw [← e101]; exact ev_w_in (by omega) (by omega))) rfl ?_
                      refine w_t (np := 130) (l2 := [some (eR a0), some (eI (i7)), some (eI (i34)), some (eI (i51)), some (eI (i78))]) (s2 := [eI (i34), eI (v100), eR v96]) rfl rfl rfl ?_
                      obtain ⟨v103, e104⟩ : ∃ zz : Int, zz = (v100) + (i34) := ⟨_, rfl⟩
                      have b105 : 0 ≤ v103 ∧ v103 ≤ 95 := by omega
                      refine w_t (np := 131) (l2 := [some (eR a0), some (eI (i7)), some (eI (i34)), some (eI (i51)), some (eI (i78))]) (s2 := [eI (v103), eR v96]) rfl (b_iadd (by rw [← e104]; exact ev_w_in (by omega) (by omega))) rfl ?_
                      refine w_t (np := 132) (l2 := [some (eR a0), some (eI (i7)), some (eI (i34)), some (eI (i51)), some (eI (i78))]) (s2 := [eI (i51), eI (v103), eR v96]) rfl rfl rfl ?_
                      refine j_as (np := 133) rfl rfl I93 b98 (by decide) (n := 96) rfl rfl (lo := 0) (hi := 95) (fun _ => rfl) (by omega) (by omega) (by omega) ?_
                      intro m106 I107 W108
                      have F109 : Fr l_304 0 0 g μ m106 := F95.v W108 b98 rfl rfl
                      obtain ⟨v110, e111⟩ : ∃ zz : Int, zz = (i34) + (1) := ⟨_, rfl⟩
                      have b112 : 1 ≤ v110 ∧ v110 ≤ 4 := by omega
                      refine w_t (np := 136) (l2 := [some (eR a0), some (eI (i7)), some (eI (v110)), some (eI (i51)), some (eI (i78))]) (s2 := []) rfl (b_iinc rfl (by rw [← e111]; exact ev_w_in (by omega) (by omega)) rfl) rfl ?_
                      refine w_go (t1 := 26) rfl rfl ?_
                      exact ih33 (4 - (v110)).toNat (by omega) m106 (v110) (some (eI (i51))) (some (eI (i78))) (v89) I107 F109 (by omega) (W108.addr (W94.slot k83 (by decide)) b98 gA0 (by decide)) (W108.addr (W94.slot k84 (by decide)) b98 gA0 (by decide)) (W108.addr W94.at b98 gA0 (by decide)) (by omega)  (by omega) rfl
                    · have b89 : 0 ≤ i78 ∧ i78 ≤ 3 := by omega
                      refine w_t (np := 85) (l2 := [some (eR a0), some (eI (i7)), some (eI (i34)), some (eI (i51)), some (eI (i78))]) (s2 := [eR a0]) rfl (s_an rfl (pos_g I81 gA0 (by decide))) rfl ?_
                      refine w_gf (np := 88) (v := eR v65) rfl rfl (I81.kd gA0 (by decide) (n := 69) rfl) (by rw [k86]; rfl) ?_
                      refine w_t (np := 89) (l2 := [some (eR a0), some (eI (i7)), some (eI (i34)), some (eI (i51)), some (eI (i78))]) (s2 := [eI (4), eR v65]) rfl rfl rfl ?_
                      refine w_t (np := 90) (l2 := [some (eR a0), some (eI (i7)), some (eI (i34)), some (eI (i51)), some (eI (i78))]) (s2 := [eI (i51), eI (4), eR v65]) rfl rfl rfl ?_
                      obtain ⟨v89, e90⟩ : ∃ zz : Int, zz = (4) * (i51) := ⟨_, rfl⟩
                      have b91 : 4 ≤ v89 ∧ v89 ≤ 380 := by omega
                      refine w_t (np := 91) (l2 := [some (eR a0), some (eI (i7)), some (eI (i34)), some (eI (i51)), some (eI (i78))]) (s2 := [eI (v89), eR v65]) rfl (b_imul (by rw [← e90]; exact ev_w_in (by omega) (by omega))) rfl ?_
                      refine w_t (np := 93) (l2 := [some (eR a0), some (eI (i7)), some (eI (i34)), some (eI (i51)), some (eI (i78))]) (s2 := [eI (i78), eI (v89), eR v65]) rfl rfl rfl ?_
                      obtain ⟨v92, e93⟩ : ∃ zz : Int, zz = (v89) + (i78) := ⟨_, rfl⟩
                      have b94 : 4 ≤ v92 ∧ v92 ≤ 383 := by omega
                      refine w_t (np := 94) (l2 := [some (eR a0), some (eI (i7)), some (eI (i34)), some (eI (i51)), some (eI (i78))]) (s2 := [eI (v92), eR v65]) rfl (b_iadd (by rw [← e93]; exact ev_w_in (by omega) (by omega))) rfl ?_
                      refine w_t (np := 95) (l2 := [some (eR a0), some (eI (i7)), some (eI (i34)), some (eI (i51)), some (eI (i78))]) (s2 := [eR a0, eI (v92), eR v65]) rfl (s_an rfl (pos_g I81 gA0 (by decide))) rfl ?_
                      refine w_gf (np := 98) (v := eR v24) rfl rfl (I81.kd gA0 (by decide) (n := 69) rfl) (by rw [k84]; rfl) ?_
                      refine w_t (np := 99) (l2 := [some (eR a0), some (eI (i7)), some (eI (i34)), some (eI (i51)), some (eI (i78))]) (s2 := [eI (4), eR v24, eI (v92), eR v65]) rfl rfl rfl ?_
                      refine w_t (np := 100) (l2 := [some (eR a0), some (eI (i7)), some (eI (i34)), some (eI (i51)), some (eI (i78))]) (s2 := [eI (i34), eI (4), eR v24, eI (v92), eR v65]) rfl rfl rfl ?_
                      obtain ⟨v95, e96⟩ : ∃ zz : Int, zz = (4) * (i34) := ⟨_, rfl⟩
                      have b97 : 0 ≤ v95 ∧ v95 ≤ 12 := by omega
                      refine w_t (np := 101) (l2 := [some (eR a0), some (eI (i7)), some (eI (i34)), some (eI (i51)), some (eI (i78))]) (s2 := [eI (v95), eR v24, eI (v92), eR v65]) rfl (b_imul (by rw [← e96]; exact ev_w_in (by omega) (by omega))) rfl ?_
                      refine w_t (np := 103) (l2 := [some (eR a0), some (eI (i7)), some (eI (i34)), some (eI (i51)), some (eI (i78))]) (s2 := [eI (i78), eI (v95), eR v24, eI (v92), eR v65]) rfl rfl rfl ?_
                      obtain ⟨v98, e99⟩ : ∃ zz : Int, zz = (v95) + (i78) := ⟨_, rfl⟩
                      have b100 : 0 ≤ v98 ∧ v98 ≤ 15 := by omega
                      refine w_t (np := 104) (l2 := [some (eR a0), some (eI (i7)), some (eI (i34)), some (eI (i51)), some (eI (i78))]) (s2 := [eI (v98), eR v24, eI (v92), eR v65]) rfl (b_iadd (by rw [← e99]; exact ev_w_in (by omega) (by omega))) rfl ?_
                      refine j_al (np := 105) rfl rfl I81 b26 (by decide) (n := 16) rfl rfl (lo := -2147483648) (hi := 2147483647) (fun _ => rfl) (by omega) (by omega) ?_
                      intro v101 e102 b103
                      refine j_as (np := 106) rfl rfl I81 b67 (by decide) (n := 384) rfl rfl (lo := -2147483648) (hi := 2147483647) (fun _ => rfl) (by omega) (by omega) (by omega) ?_
                      intro m104 I105 W106
                      have F107 : Fr l_304 0 0 g μ m104 := F82.v W106 b67 rfl rfl
                      obtain ⟨v108, e109⟩ : ∃ zz : Int, zz = (i78) + (1) := ⟨_, rfl⟩
                      have b110 : 1 ≤ v108 ∧ v108 ≤ 4 := by omega
                      refine w_t (np := 109) (l2 := [some (eR a0), some (eI (i7)), some (eI (i34)), some (eI (i51)), some (eI (v108))]) (s2 := []) rfl (b_iinc rfl (by rw [← e109]; exact ev_w_in (by omega) (by omega)) rfl) rfl ?_
                      refine w_go (t1 := 78) rfl rfl ?_
                      exact ih77 (4 - (v108)).toNat (by omega) m104 (v108) I105 F107 (by omega) (W106.addr k83 b67 gA0 (by decide)) (W106.addr k84 b67 gA0 (by decide)) (W106.addr k85 b67 gA0 (by decide)) (W106.addr k86 b67 gA0 (by decide))    rfl
                  exact hL78 _ m53 (0) I54 F55 (by decide) k56 k57 k58 e66    rfl
              · have b75 : 0 ≤ v72 ∧ v72 ≤ 0 := by omega
                obtain ⟨v75, e76⟩ : ∃ zz : Int, zz = (i51) + (1) := ⟨_, rfl⟩
                have b77 : 1 ≤ v75 ∧ v75 ≤ 96 := by omega
                refine w_t (np := 64) (l2 := [some (eR a0), some (eI (i7)), some (eI (i34)), some (eI (v75)), o37]) (s2 := []) rfl (b_iinc rfl (by rw [← e76]; exact ev_w_in (by omega) (by omega)) rfl) rfl ?_
                refine w_go (t1 := 33) rfl rfl ?_
                exact ih50 (96 - (v75)).toNat (by omega) m53 (v75) I54 F55 (by omega) k56 k57 k58   (by omega) rfl
          exact hL33 _ m38 (0) I39 F40 (by decide) k44 k45 h42   (by omega) rfl
      exact hL26 _ m28 (0) (o10) (o11) (x15) I29 F31 (by decide) (F30.k e21 gA0 (by decide) rfl) (F30.k e25 gA0 (by decide) rfl) (F30.k h16 gA0 (by decide) rfl) (by omega)  (by omega) rfl
  exact hL7 _ m1 (0) (none) (none) (none) (0) I2 F4 (by decide)  W3.at (by decide)  (by omega) rfl
def l_305 : List Nat := [13315, 13316, 13317, 13318]
theorem s_305 {L : Nat} {ρ : Nat → Int} {rc : eQ} {d : Nat} {f : eFr} {F : List eFr} {μ : eM} {g : Nat → Nat} {a0 : Nat} {a1 : Nat} {a2 : Int} {a3 : Int} {a4 : Nat} {a5 : Int} (hI : SI g μ) (gA0 : g a0 = 52) (gA1 : g a1 = 83) (bA2 : 0 ≤ a2 ∧ a2 ≤ 12) (bA3 : 0 ≤ a3 ∧ a3 ≤ 12) (gA4 : g a4 = 83) (bA5 : 0 ≤ a5 ∧ a5 ≤ 12) (K : ∀ (μ2 : eM) (v : Int), SI g μ2 → Fr l_305 0 0 g μ μ2 → (-1 ≤ v ∧ v ≤ 1) → ex_q (dt_fg L ρ) rc (d + 5, (f.1, f.2.1, f.2.2.1, eI v :: f.2.2.2), F, μ2)) : ex_q (dt_fg L ρ) rc (d + 4, (305, 0, [some (eR a0), some (eR a1), some (eI (a2)), some (eI (a3)), some (eR a4), some (eI (a5))], []), f :: F, μ) := by
  have F0 : Fr l_305 0 0 g μ μ := Fr.r
  refine w_t (np := 1) (l2 := [some (eR a0), some (eR a1), some (eI (a2)), some (eI (a3)), some (eR a4), some (eI (a5))]) (s2 := [eR a0]) rfl (s_an rfl (pos_g hI gA0 (by decide))) rfl ?_
  refine w_t (np := 2) (l2 := [some (eR a0), some (eR a1), some (eI (a2)), some (eI (a3)), some (eR a4), some (eI (a5))]) (s2 := [eR a1, eR a0]) rfl (s_an rfl (pos_g hI gA1 (by decide))) rfl ?_
  refine w_t (np := 3) (l2 := [some (eR a0), some (eR a1), some (eI (a2)), some (eI (a3)), some (eR a4), some (eI (a5))]) (s2 := [eI (a3), eR a1, eR a0]) rfl rfl rfl ?_
  refine j_al (np := 4) rfl rfl hI gA1 (by decide) (n := 16) rfl rfl (lo := -2147483648) (hi := 2147483647) (fun _ => rfl) (by omega) (by omega) ?_
  intro v1 e2 b3
  refine w_t (np := 5) (l2 := [some (eR a0), some (eR a1), some (eI (a2)), some (eI (a3)), some (eR a4), some (eI (a5))]) (s2 := [eR a1, eI (v1), eR a0]) rfl (s_an rfl (pos_g hI gA1 (by decide))) rfl ?_
  refine w_t (np := 6) (l2 := [some (eR a0), some (eR a1), some (eI (a2)), some (eI (a3)), some (eR a4), some (eI (a5))]) (s2 := [eI (a2), eR a1, eI (v1), eR a0]) rfl rfl rfl ?_
  refine j_al (np := 7) rfl rfl hI gA1 (by decide) (n := 16) rfl rfl (lo := -2147483648) (hi := 2147483647) (fun _ => rfl) (by omega) (by omega) ?_
  intro v4 e5 b6
  obtain ⟨v7, e8, b9⟩ : ∃ zz : Int, ev_w ((v1) - (v4)) = zz ∧ (-2147483648 ≤ zz ∧ zz ≤ 2147483647) := ⟨_, rfl, hw_bd _⟩
  refine w_t (np := 8) (l2 := [some (eR a0), some (eR a1), some (eI (a2)), some (eI (a3)), some (eR a4), some (eI (a5))]) (s2 := [eI (v7), eR a0]) rfl (b_isub e8) rfl ?_
  refine w_t (np := 9) (l2 := [some (eR a0), some (eR a1), some (eI (a2)), some (eI (a3)), some (eR a4), some (eI (a5))]) (s2 := [eJ (v7), eR a0]) rfl (b_i2l (ev_w_in (by omega) (by omega))) rfl ?_
  refine w_t (np := 10) (l2 := [some (eR a0), some (eR a1), some (eI (a2)), some (eI (a3)), some (eR a4), some (eI (a5))]) (s2 := [eR a1, eJ (v7), eR a0]) rfl (s_an rfl (pos_g hI gA1 (by decide))) rfl ?_
  refine w_t (np := 11) (l2 := [some (eR a0), some (eR a1), some (eI (a2)), some (eI (a3)), some (eR a4), some (eI (a5))]) (s2 := [eI (a3), eR a1, eJ (v7), eR a0]) rfl rfl rfl ?_
  refine w_t (np := 12) (l2 := [some (eR a0), some (eR a1), some (eI (a2)), some (eI (a3)), some (eR a4), some (eI (a5))]) (s2 := [eI (1), eI (a3), eR a1, eJ (v7), eR a0]) rfl rfl rfl ?_
  obtain ⟨v10, e11⟩ : ∃ zz : Int, zz = (a3) + (1) := ⟨_, rfl⟩
  have b12 : 1 ≤ v10 ∧ v10 ≤ 13 := by omega
  refine w_t (np := 13) (l2 := [some (eR a0), some (eR a1), some (eI (a2)), some (eI (a3)), some (eR a4), some (eI (a5))]) (s2 := [eI (v10), eR a1, eJ (v7), eR a0]) rfl (b_iadd (by rw [← e11]; exact ev_w_in (by omega) (by omega))) rfl ?_
  refine j_al (np := 14) rfl rfl hI gA1 (by decide) (n := 16) rfl rfl (lo := -2147483648) (hi := 2147483647) (fun _ => rfl) (by omega) (by omega) ?_
  intro v13 e14 b15
  refine w_t (np := 15) (l2 := [some (eR a0), some (eR a1), some (eI (a2)), some (eI (a3)), some (eR a4), some (eI (a5))]) (s2 := [eR a1, eI (v13), eJ (v7), eR a0]) rfl (s_an rfl (pos_g hI gA1 (by decide))) rfl ?_
  refine w_t (np := 16) (l2 := [some (eR a0), some (eR a1), some (eI (a2)), some (eI (a3)), some (eR a4), some (eI (a5))]) (s2 := [eI (a2), eR a1, eI (v13), eJ (v7), eR a0]) rfl rfl rfl ?_
  refine w_t (np := 17) (l2 := [some (eR a0), some (eR a1), some (eI (a2)), some (eI (a3)), some (eR a4), some (eI (a5))]) (s2 := [eI (1), eI (a2), eR a1, eI (v13), eJ (v7), eR a0]) rfl rfl rfl ?_
  obtain ⟨v16, e17⟩ : ∃ zz : Int, zz = (a2) + (1) := ⟨_, rfl⟩
  have b18 : 1 ≤ v16 ∧ v16 ≤ 13 := by omega
  refine w_t (np := 18) (l2 := [some (eR a0), some (eR a1), some (eI (a2)), some (eI (a3)), some (eR a4), some (eI (a5))]) (s2 := [eI (v16), eR a1, eI (v13), eJ (v7), eR a0]) rfl (b_iadd (by rw [← e17]; exact ev_w_in (by omega) (by omega))) rfl ?_
  refine j_al (np := 19) rfl rfl hI gA1 (by decide) (n := 16) rfl rfl (lo := -2147483648) (hi := 2147483647) (fun _ => rfl) (by omega) (by omega) ?_
  intro v19 e20 b21
  obtain ⟨v22, e23, b24⟩ : ∃ zz : Int, ev_w ((v13) - (v19)) = zz ∧ (-2147483648 ≤ zz ∧ zz ≤ 2147483647) := ⟨_, rfl, hw_bd _⟩
  refine w_t (np := 20) (l2 := [some (eR a0), some (eR a1), some (eI (a2)), some (eI (a3)), some (eR a4), some (eI (a5))]) (s2 := [eI (v22), eJ (v7), eR a0]) rfl (b_isub e23) rfl ?_
  refine w_t (np := 21) (l2 := [some (eR a0), some (eR a1), some (eI (a2)), some (eI (a3)), some (eR a4), some (eI (a5))]) (s2 := [eJ (v22), eJ (v7), eR a0]) rfl (b_i2l (ev_w_in (by omega) (by omega))) rfl ?_
  refine w_t (np := 22) (l2 := [some (eR a0), some (eR a1), some (eI (a2)), some (eI (a3)), some (eR a4), some (eI (a5))]) (s2 := [eR a1, eJ (v22), eJ (v7), eR a0]) rfl (s_an rfl (pos_g hI gA1 (by decide))) rfl ?_
  refine w_t (np := 23) (l2 := [some (eR a0), some (eR a1), some (eI (a2)), some (eI (a3)), some (eR a4), some (eI (a5))]) (s2 := [eI (a3), eR a1, eJ (v22), eJ (v7), eR a0]) rfl rfl rfl ?_
  refine w_t (np := 24) (l2 := [some (eR a0), some (eR a1), some (eI (a2)), some (eI (a3)), some (eR a4), some (eI (a5))]) (s2 := [eI (2), eI (a3), eR a1, eJ (v22), eJ (v7), eR a0]) rfl rfl rfl ?_
  obtain ⟨v25, e26⟩ : ∃ zz : Int, zz = (a3) + (2) := ⟨_, rfl⟩
  have b27 : 2 ≤ v25 ∧ v25 ≤ 14 := by omega
  refine w_t (np := 25) (l2 := [some (eR a0), some (eR a1), some (eI (a2)), some (eI (a3)), some (eR a4), some (eI (a5))]) (s2 := [eI (v25), eR a1, eJ (v22), eJ (v7), eR a0]) rfl (b_iadd (by rw [← e26]; exact ev_w_in (by omega) (by omega))) rfl ?_
  refine j_al (np := 26) rfl rfl hI gA1 (by decide) (n := 16) rfl rfl (lo := -2147483648) (hi := 2147483647) (fun _ => rfl) (by omega) (by omega) ?_
  intro v28 e29 b30
  refine w_t (np := 27) (l2 := [some (eR a0), some (eR a1), some (eI (a2)), some (eI (a3)), some (eR a4), some (eI (a5))]) (s2 := [eR a1, eI (v28), eJ (v22), eJ (v7), eR a0]) rfl (s_an rfl (pos_g hI gA1 (by decide))) rfl ?_
  refine w_t (np := 28) (l2 := [some (eR a0), some (eR a1), some (eI (a2)), some (eI (a3)), some (eR a4), some (eI (a5))]) (s2 := [eI (a2), eR a1, eI (v28), eJ (v22), eJ (v7), eR a0]) rfl rfl rfl ?_
  refine w_t (np := 29) (l2 := [some (eR a0), some (eR a1), some (eI (a2)), some (eI (a3)), some (eR a4), some (eI (a5))]) (s2 := [eI (2), eI (a2), eR a1, eI (v28), eJ (v22), eJ (v7), eR a0]) rfl rfl rfl ?_
  obtain ⟨v31, e32⟩ : ∃ zz : Int, zz = (a2) + (2) := ⟨_, rfl⟩
  have b33 : 2 ≤ v31 ∧ v31 ≤ 14 := by omega
  refine w_t (np := 30) (l2 := [some (eR a0), some (eR a1), some (eI (a2)), some (eI (a3)), some (eR a4), some (eI (a5))]) (s2 := [eI (v31), eR a1, eI (v28), eJ (v22), eJ (v7), eR a0]) rfl (b_iadd (by rw [← e32]; exact ev_w_in (by omega) (by omega))) rfl ?_
  refine j_al (np := 31) rfl rfl hI gA1 (by decide) (n := 16) rfl rfl (lo := -2147483648) (hi := 2147483647) (fun _ => rfl) (by omega) (by omega) ?_
  intro v34 e35 b36
  obtain ⟨v37, e38, b39⟩ : ∃ zz : Int, ev_w ((v28) - (v34)) = zz ∧ (-2147483648 ≤ zz ∧ zz ≤ 2147483647) := ⟨_, rfl, hw_bd _⟩
  refine w_t (np := 32) (l2 := [some (eR a0), some (eR a1), some (eI (a2)), some (eI (a3)), some (eR a4), some (eI (a5))]) (s2 := [eI (v37), eJ (v22), eJ (v7), eR a0]) rfl (b_isub e38) rfl ?_
  refine w_t (np := 33) (l2 := [some (eR a0), some (eR a1), some (eI (a2)), some (eI (a3)), some (eR a4), some (eI (a5))]) (s2 := [eJ (v37), eJ (v22), eJ (v7), eR a0]) rfl (b_i2l (ev_w_in (by omega) (by omega))) rfl ?_
  refine w_t (np := 34) (l2 := [some (eR a0), some (eR a1), some (eI (a2)), some (eI (a3)), some (eR a4), some (eI (a5))]) (s2 := [eR a1, eJ (v37), eJ (v22), eJ (v7), eR a0]) rfl (s_an rfl (pos_g hI gA1 (by decide))) rfl ?_
  refine w_t (np := 35) (l2 := [some (eR a0), some (eR a1), some (eI (a2)), some (eI (a3)), some (eR a4), some (eI (a5))]) (s2 := [eI (a3), eR a1, eJ (v37), eJ (v22), eJ (v7), eR a0]) rfl rfl rfl ?_
  refine w_t (np := 36) (l2 := [some (eR a0), some (eR a1), some (eI (a2)), some (eI (a3)), some (eR a4), some (eI (a5))]) (s2 := [eI (3), eI (a3), eR a1, eJ (v37), eJ (v22), eJ (v7), eR a0]) rfl rfl rfl ?_
  obtain ⟨v40, e41⟩ : ∃ zz : Int, zz = (a3) + (3) := ⟨_, rfl⟩
  have b42 : 3 ≤ v40 ∧ v40 ≤ 15 := by omega
  refine w_t (np := 37) (l2 := [some (eR a0), some (eR a1), some (eI (a2)), some (eI (a3)), some (eR a4), some (eI (a5))]) (s2 := [eI (v40), eR a1, eJ (v37), eJ (v22), eJ (v7), eR a0]) rfl (b_iadd (by rw [← e41]; exact ev_w_in (by omega) (by omega))) rfl ?_
  refine j_al (np := 38) rfl rfl hI gA1 (by decide) (n := 16) rfl rfl (lo := -2147483648) (hi := 2147483647) (fun _ => rfl) (by omega) (by omega) ?_
  intro v43 e44 b45
  refine w_t (np := 39) (l2 := [some (eR a0), some (eR a1), some (eI (a2)), some (eI (a3)), some (eR a4), some (eI (a5))]) (s2 := [eR a1, eI (v43), eJ (v37), eJ (v22), eJ (v7), eR a0]) rfl (s_an rfl (pos_g hI gA1 (by decide))) rfl ?_
  refine w_t (np := 40) (l2 := [some (eR a0), some (eR a1), some (eI (a2)), some (eI (a3)), some (eR a4), some (eI (a5))]) (s2 := [eI (a2), eR a1, eI (v43), eJ (v37), eJ (v22), eJ (v7), eR a0]) rfl rfl rfl ?_
  refine w_t (np := 41) (l2 := [some (eR a0), some (eR a1), some (eI (a2)), some (eI (a3)), some (eR a4), some (eI (a5))]) (s2 := [eI (3), eI (a2), eR a1, eI (v43), eJ (v37), eJ (v22), eJ (v7), eR a0]) rfl rfl rfl ?_
  obtain ⟨v46, e47⟩ : ∃ zz : Int, zz = (a2) + (3) := ⟨_, rfl⟩
  have b48 : 3 ≤ v46 ∧ v46 ≤ 15 := by omega
  refine w_t (np := 42) (l2 := [some (eR a0), some (eR a1), some (eI (a2)), some (eI (a3)), some (eR a4), some (eI (a5))]) (s2 := [eI (v46), eR a1, eI (v43), eJ (v37), eJ (v22), eJ (v7), eR a0]) rfl (b_iadd (by rw [← e47]; exact ev_w_in (by omega) (by omega))) rfl ?_
  refine j_al (np := 43) rfl rfl hI gA1 (by decide) (n := 16) rfl rfl (lo := -2147483648) (hi := 2147483647) (fun _ => rfl) (by omega) (by omega) ?_
  intro v49 e50 b51
  obtain ⟨v52, e53, b54⟩ : ∃ zz : Int, ev_w ((v43) - (v49)) = zz ∧ (-2147483648 ≤ zz ∧ zz ≤ 2147483647) := ⟨_, rfl, hw_bd _⟩
  refine w_t (np := 44) (l2 := [some (eR a0), some (eR a1), some (eI (a2)), some (eI (a3)), some (eR a4), some (eI (a5))]) (s2 := [eI (v52), eJ (v37), eJ (v22), eJ (v7), eR a0]) rfl (b_isub e53) rfl ?_
  refine w_t (np := 45) (l2 := [some (eR a0), some (eR a1), some (eI (a2)), some (eI (a3)), some (eR a4), some (eI (a5))]) (s2 := [eJ (v52), eJ (v37), eJ (v22), eJ (v7), eR a0]) rfl (b_i2l (ev_w_in (by omega) (by omega))) rfl ?_
  refine w_t (np := 47) (l2 := [some (eR a0), some (eR a1), some (eI (a2)), some (eI (a3)), some (eR a4), some (eI (a5))]) (s2 := [eR a4, eJ (v52), eJ (v37), eJ (v22), eJ (v7), eR a0]) rfl (s_ao rfl (pos_g hI gA4 (by decide))) rfl ?_
  refine w_t (np := 49) (l2 := [some (eR a0), some (eR a1), some (eI (a2)), some (eI (a3)), some (eR a4), some (eI (a5))]) (s2 := [eI (a5), eR a4, eJ (v52), eJ (v37), eJ (v22), eJ (v7), eR a0]) rfl rfl rfl ?_
  refine j_al (np := 50) rfl rfl hI gA4 (by decide) (n := 16) rfl rfl (lo := -2147483648) (hi := 2147483647) (fun _ => rfl) (by omega) (by omega) ?_
  intro v55 e56 b57
  refine w_t (np := 51) (l2 := [some (eR a0), some (eR a1), some (eI (a2)), some (eI (a3)), some (eR a4), some (eI (a5))]) (s2 := [eR a1, eI (v55), eJ (v52), eJ (v37), eJ (v22), eJ (v7), eR a0]) rfl (s_an rfl (pos_g hI gA1 (by decide))) rfl ?_
  refine w_t (np := 52) (l2 := [some (eR a0), some (eR a1), some (eI (a2)), some (eI (a3)), some (eR a4), some (eI (a5))]) (s2 := [eI (a2), eR a1, eI (v55), eJ (v52), eJ (v37), eJ (v22), eJ (v7), eR a0]) rfl rfl rfl ?_
  refine j_al (np := 53) rfl rfl hI gA1 (by decide) (n := 16) rfl rfl (lo := -2147483648) (hi := 2147483647) (fun _ => rfl) (by omega) (by omega) ?_
  intro v58 e59 b60
  have e59 := e59.symm.trans e5
  rw [e59]
  obtain ⟨v61, e62, b63⟩ : ∃ zz : Int, ev_w ((v55) - (v4)) = zz ∧ (-2147483648 ≤ zz ∧ zz ≤ 2147483647) := ⟨_, rfl, hw_bd _⟩
  refine w_t (np := 54) (l2 := [some (eR a0), some (eR a1), some (eI (a2)), some (eI (a3)), some (eR a4), some (eI (a5))]) (s2 := [eI (v61), eJ (v52), eJ (v37), eJ (v22), eJ (v7), eR a0]) rfl (b_isub e62) rfl ?_
  refine w_t (np := 55) (l2 := [some (eR a0), some (eR a1), some (eI (a2)), some (eI (a3)), some (eR a4), some (eI (a5))]) (s2 := [eJ (v61), eJ (v52), eJ (v37), eJ (v22), eJ (v7), eR a0]) rfl (b_i2l (ev_w_in (by omega) (by omega))) rfl ?_
  refine w_t (np := 57) (l2 := [some (eR a0), some (eR a1), some (eI (a2)), some (eI (a3)), some (eR a4), some (eI (a5))]) (s2 := [eR a4, eJ (v61), eJ (v52), eJ (v37), eJ (v22), eJ (v7), eR a0]) rfl (s_ao rfl (pos_g hI gA4 (by decide))) rfl ?_
  refine w_t (np := 59) (l2 := [some (eR a0), some (eR a1), some (eI (a2)), some (eI (a3)), some (eR a4), some (eI (a5))]) (s2 := [eI (a5), eR a4, eJ (v61), eJ (v52), eJ (v37), eJ (v22), eJ (v7), eR a0]) rfl rfl rfl ?_
  refine w_t (np := 60) (l2 := [some (eR a0), some (eR a1), some (eI (a2)), some (eI (a3)), some (eR a4), some (eI (a5))]) (s2 := [eI (1), eI (a5), eR a4, eJ (v61), eJ (v52), eJ (v37), eJ (v22), eJ (v7), eR a0]) rfl rfl rfl ?_
  obtain ⟨v64, e65⟩ : ∃ zz : Int, zz = (a5) + (1) := ⟨_, rfl⟩
  have b66 : 1 ≤ v64 ∧ v64 ≤ 13 := by omega
  refine w_t (np := 61) (l2 := [some (eR a0), some (eR a1), some (eI (a2)), some (eI (a3)), some (eR a4), some (eI (a5))]) (s2 := [eI (v64), eR a4, eJ (v61), eJ (v52), eJ (v37), eJ (v22), eJ (v7), eR a0]) rfl (b_iadd (by rw [← e65]; exact ev_w_in (by omega) (by omega))) rfl ?_
  refine j_al (np := 62) rfl rfl hI gA4 (by decide) (n := 16) rfl rfl (lo := -2147483648) (hi := 2147483647) (fun _ => rfl) (by omega) (by omega) ?_
  intro v67 e68 b69
  refine w_t (np := 63) (l2 := [some (eR a0), some (eR a1), some (eI (a2)), some (eI (a3)), some (eR a4), some (eI (a5))]) (s2 := [eR a1, eI (v67), eJ (v61), eJ (v52), eJ (v37), eJ (v22), eJ (v7), eR a0]) rfl (s_an rfl (pos_g hI gA1 (by decide))) rfl ?_
  refine w_t (np := 64) (l2 := [some (eR a0), some (eR a1), some (eI (a2)), some (eI (a3)), some (eR a4), some (eI (a5))]) (s2 := [eI (a2), eR a1, eI (v67), eJ (v61), eJ (v52), eJ (v37), eJ (v22), eJ (v7), eR a0]) rfl rfl rfl ?_
  refine w_t (np := 65) (l2 := [some (eR a0), some (eR a1), some (eI (a2)), some (eI (a3)), some (eR a4), some (eI (a5))]) (s2 := [eI (1), eI (a2), eR a1, eI (v67), eJ (v61), eJ (v52), eJ (v37), eJ (v22), eJ (v7), eR a0]) rfl rfl rfl ?_
  obtain ⟨v70, e71⟩ : ∃ zz : Int, zz = (a2) + (1) := ⟨_, rfl⟩
  have b72 : 1 ≤ v70 ∧ v70 ≤ 13 := by omega
  refine w_t (np := 66) (l2 := [some (eR a0), some (eR a1), some (eI (a2)), some (eI (a3)), some (eR a4), some (eI (a5))]) (s2 := [eI (v70), eR a1, eI (v67), eJ (v61), eJ (v52), eJ (v37), eJ (v22), eJ (v7), eR a0]) rfl (b_iadd (by rw [← e71]; exact ev_w_in (by omega) (by omega))) rfl ?_
  refine j_al (np := 67) rfl rfl hI gA1 (by decide) (n := 16) rfl rfl (lo := -2147483648) (hi := 2147483647) (fun _ => rfl) (by omega) (by omega) ?_
  intro v73 e74 b75
  obtain ⟨v76, e77, b78⟩ : ∃ zz : Int, ev_w ((v67) - (v73)) = zz ∧ (-2147483648 ≤ zz ∧ zz ≤ 2147483647) := ⟨_, rfl, hw_bd _⟩
  refine w_t (np := 68) (l2 := [some (eR a0), some (eR a1), some (eI (a2)), some (eI (a3)), some (eR a4), some (eI (a5))]) (s2 := [eI (v76), eJ (v61), eJ (v52), eJ (v37), eJ (v22), eJ (v7), eR a0]) rfl (b_isub e77) rfl ?_
  refine w_t (np := 69) (l2 := [some (eR a0), some (eR a1), some (eI (a2)), some (eI (a3)), some (eR a4), some (eI (a5))]) (s2 := [eJ (v76), eJ (v61), eJ (v52), eJ (v37), eJ (v22), eJ (v7), eR a0]) rfl (b_i2l (ev_w_in (by omega) (by omega))) rfl ?_
  refine w_t (np := 71) (l2 := [some (eR a0), some (eR a1), some (eI (a2)), some (eI (a3)), some (eR a4), some (eI (a5))]) (s2 := [eR a4, eJ (v76), eJ (v61), eJ (v52), eJ (v37), eJ (v22), eJ (v7), eR a0]) rfl (s_ao rfl (pos_g hI gA4 (by decide))) rfl ?_
  refine w_t (np := 73) (l2 := [some (eR a0), some (eR a1), some (eI (a2)), some (eI (a3)), some (eR a4), some (eI (a5))]) (s2 := [eI (a5), eR a4, eJ (v76), eJ (v61), eJ (v52), eJ (v37), eJ (v22), eJ (v7), eR a0]) rfl rfl rfl ?_
  refine w_t (np := 74) (l2 := [some (eR a0), some (eR a1), some (eI (a2)), some (eI (a3)), some (eR a4), some (eI (a5))]) (s2 := [eI (2), eI (a5), eR a4, eJ (v76), eJ (v61), eJ (v52), eJ (v37), eJ (v22), eJ (v7), eR a0]) rfl rfl rfl ?_
  obtain ⟨v79, e80⟩ : ∃ zz : Int, zz = (a5) + (2) := ⟨_, rfl⟩
  have b81 : 2 ≤ v79 ∧ v79 ≤ 14 := by omega
  refine w_t (np := 75) (l2 := [some (eR a0), some (eR a1), some (eI (a2)), some (eI (a3)), some (eR a4), some (eI (a5))]) (s2 := [eI (v79), eR a4, eJ (v76), eJ (v61), eJ (v52), eJ (v37), eJ (v22), eJ (v7), eR a0]) rfl (b_iadd (by rw [← e80]; exact ev_w_in (by omega) (by omega))) rfl ?_
  refine j_al (np := 76) rfl rfl hI gA4 (by decide) (n := 16) rfl rfl (lo := -2147483648) (hi := 2147483647) (fun _ => rfl) (by omega) (by omega) ?_
  intro v82 e83 b84
  refine w_t (np := 77) (l2 := [some (eR a0), some (eR a1), some (eI (a2)), some (eI (a3)), some (eR a4), some (eI (a5))]) (s2 := [eR a1, eI (v82), eJ (v76), eJ (v61), eJ (v52), eJ (v37), eJ (v22), eJ (v7), eR a0]) rfl (s_an rfl (pos_g hI gA1 (by decide))) rfl ?_
  refine w_t (np := 78) (l2 := [some (eR a0), some (eR a1), some (eI (a2)), some (eI (a3)), some (eR a4), some (eI (a5))]) (s2 := [eI (a2), eR a1, eI (v82), eJ (v76), eJ (v61), eJ (v52), eJ (v37), eJ (v22), eJ (v7), eR a0]) rfl rfl rfl ?_
  refine w_t (np := 79) (l2 := [some (eR a0), some (eR a1), some (eI (a2)), some (eI (a3)), some (eR a4), some (eI (a5))]) (s2 := [eI (2), eI (a2), eR a1, eI (v82), eJ (v76), eJ (v61), eJ (v52), eJ (v37), eJ (v22), eJ (v7), eR a0]) rfl rfl rfl ?_
  obtain ⟨v85, e86⟩ : ∃ zz : Int, zz = (a2) + (2) := ⟨_, rfl⟩
  have b87 : 2 ≤ v85 ∧ v85 ≤ 14 := by omega
  refine w_t (np := 80) (l2 := [some (eR a0), some (eR a1), some (eI (a2)), some (eI (a3)), some (eR a4), some (eI (a5))]) (s2 := [eI (v85), eR a1, eI (v82), eJ (v76), eJ (v61), eJ (v52), eJ (v37), eJ (v22), eJ (v7), eR a0]) rfl (b_iadd (by rw [← e86]; exact ev_w_in (by omega) (by omega))) rfl ?_
  refine j_al (np := 81) rfl rfl hI gA1 (by decide) (n := 16) rfl rfl (lo := -2147483648) (hi := 2147483647) (fun _ => rfl) (by omega) (by omega) ?_
  intro v88 e89 b90
  obtain ⟨v91, e92, b93⟩ : ∃ zz : Int, ev_w ((v82) - (v88)) = zz ∧ (-2147483648 ≤ zz ∧ zz ≤ 2147483647) := ⟨_, rfl, hw_bd _⟩
  refine w_t (np := 82) (l2 := [some (eR a0), some (eR a1), some (eI (a2)), some (eI (a3)), some (eR a4), some (eI (a5))]) (s2 := [eI (v91), eJ (v76), eJ (v61), eJ (v52), eJ (v37), eJ (v22), eJ (v7), eR a0]) rfl (b_isub e92) rfl ?_
  refine w_t (np := 83) (l2 := [some (eR a0), some (eR a1), some (eI (a2)), some (eI (a3)), some (eR a4), some (eI (a5))]) (s2 := [eJ (v91), eJ (v76), eJ (v61), eJ (v52), eJ (v37), eJ (v22), eJ (v7), eR a0]) rfl (b_i2l (ev_w_in (by omega) (by omega))) rfl ?_
  refine w_t (np := 85) (l2 := [some (eR a0), some (eR a1), some (eI (a2)), some (eI (a3)), some (eR a4), some (eI (a5))]) (s2 := [eR a4, eJ (v91), eJ (v76), eJ (v61), eJ (v52), eJ (v37), eJ (v22), eJ (v7), eR a0]) rfl (s_ao rfl (pos_g hI gA4 (by decide))) rfl ?_
  refine w_t (np := 87) (l2 := [some (eR a0), some (eR a1), some (eI (a2)), some (eI (a3)), some (eR a4), some (eI (a5))]) (s2 := [eI (a5), eR a4, eJ (v91), eJ (v76), eJ (v61), eJ (v52), eJ (v37), eJ (v22), eJ (v7), eR a0]) rfl rfl rfl ?_
  refine w_t (np := 88) (l2 := [some (eR a0), some (eR a1), some (eI (a2)), some (eI (a3)), some (eR a4), some (eI (a5))]) (s2 := [eI (3), eI (a5), eR a4, eJ (v91), eJ (v76), eJ (v61), eJ (v52), eJ (v37), eJ (v22), eJ (v7), eR a0]) rfl rfl rfl ?_
  obtain ⟨v94, e95⟩ : ∃ zz : Int, zz = (a5) + (3) := ⟨_, rfl⟩
  have b96 : 3 ≤ v94 ∧ v94 ≤ 15 := by omega
  refine w_t (np := 89) (l2 := [some (eR a0), some (eR a1), some (eI (a2)), some (eI (a3)), some (eR a4), some (eI (a5))]) (s2 := [eI (v94), eR a4, eJ (v91), eJ (v76), eJ (v61), eJ (v52), eJ (v37), eJ (v22), eJ (v7), eR a0]) rfl (b_iadd (by rw [← e95]; exact ev_w_in (by omega) (by omega))) rfl ?_
  refine j_al (np := 90) rfl rfl hI gA4 (by decide) (n := 16) rfl rfl (lo := -2147483648) (hi := 2147483647) (fun _ => rfl) (by omega) (by omega) ?_
  intro v97 e98 b99
  refine w_t (np := 91) (l2 := [some (eR a0), some (eR a1), some (eI (a2)), some (eI (a3)), some (eR a4), some (eI (a5))]) (s2 := [eR a1, eI (v97), eJ (v91), eJ (v76), eJ (v61), eJ (v52), eJ (v37), eJ (v22), eJ (v7), eR a0]) rfl (s_an rfl (pos_g hI gA1 (by decide))) rfl ?_
  refine w_t (np := 92) (l2 := [some (eR a0), some (eR a1), some (eI (a2)), some (eI (a3)), some (eR a4), some (eI (a5))]) (s2 := [eI (a2), eR a1, eI (v97), eJ (v91), eJ (v76), eJ (v61), eJ (v52), eJ (v37), eJ (v22), eJ (v7), eR a0]) rfl rfl rfl ?_
  refine w_t (np := 93) (l2 := [some (eR a0), some (eR a1), some (eI (a2)), some (eI (a3)), some (eR a4), some (eI (a5))]) (s2 := [eI (3), eI (a2), eR a1, eI (v97), eJ (v91), eJ (v76), eJ (v61), eJ (v52), eJ (v37), eJ (v22), eJ (v7), eR a0]) rfl rfl rfl ?_
  obtain ⟨v100, e101⟩ : ∃ zz : Int, zz = (a2) + (3) := ⟨_, rfl⟩
  have b102 : 3 ≤ v100 ∧ v100 ≤ 15 := by omega
  refine w_t (np := 94) (l2 := [some (eR a0), some (eR a1), some (eI (a2)), some (eI (a3)), some (eR a4), some (eI (a5))]) (s2 := [eI (v100), eR a1, eI (v97), eJ (v91), eJ (v76), eJ (v61), eJ (v52), eJ (v37), eJ (v22), eJ (v7), eR a0]) rfl (b_iadd (by rw [← e101]; exact ev_w_in (by omega) (by omega))) rfl ?_
  refine j_al (np := 95) rfl rfl hI gA1 (by decide) (n := 16) rfl rfl (lo := -2147483648) (hi := 2147483647) (fun _ => rfl) (by omega) (by omega) ?_
  intro v103 e104 b105
  obtain ⟨v106, e107, b108⟩ : ∃ zz : Int, ev_w ((v97) - (v103)) = zz ∧ (-2147483648 ≤ zz ∧ zz ≤ 2147483647) := ⟨_, rfl, hw_bd _⟩
  refine w_t (np := 96) (l2 := [some (eR a0), some (eR a1), some (eI (a2)), some (eI (a3)), some (eR a4), some (eI (a5))]) (s2 := [eI (v106), eJ (v91), eJ (v76), eJ (v61), eJ (v52), eJ (v37), eJ (v22), eJ (v7), eR a0]) rfl (b_isub e107) rfl ?_
  refine w_t (np := 97) (l2 := [some (eR a0), some (eR a1), some (eI (a2)), some (eI (a3)), some (eR a4), some (eI (a5))]) (s2 := [eJ (v106), eJ (v91), eJ (v76), eJ (v61), eJ (v52), eJ (v37), eJ (v22), eJ (v7), eR a0]) rfl (b_i2l (ev_w_in (by omega) (by omega))) rfl ?_
  refine w_cw (np := 100) (as := [eJ (v7), eJ (v22), eJ (v37), eJ (v52), eJ (v61), eJ (v76), eJ (v91), eJ (v106)]) (l2 := [some (eR a0), some (eJ (v7)), none, some (eJ (v22)), none, some (eJ (v37)), none, some (eJ (v52)), none, some (eJ (v61)), none, some (eJ (v76)), none, some (eJ (v91)), none, some (eJ (v106)), none]) (rest := []) rfl rfl rfl (Nat.ble_eq.mp rfl) rfl rfl rfl (hI.kd gA0 (by decide) (n := 69) rfl) rfl ?_
  refine s_224 hI gA0 (by omega) (by omega) (by omega) (by omega) (by omega) (by omega) (by omega) (by omega) ?_
  intro m109 v112 I110 F111 b113
  have F114 : Fr l_305 0 0 g μ m109 := F0.t F111 rfl
  show ex_q (dt_fg L ρ) rc (d + 4, (305, 100, [some (eR a0), some (eR a1), some (eI (a2)), some (eI (a3)), some (eR a4), some (eI (a5))], [eI (v112)]), f :: F, m109)
  exact b_ri rfl rfl (K m109 (v112) I110 F114 (by omega))
def l_305_2 : List Nat := [13315, 13316, 13317, 13318]
theorem s_305_2 {L : Nat} {ρ : Nat → Int} {rc : eQ} {d : Nat} {f : eFr} {F : List eFr} {μ : eM} {g : Nat → Nat} {a0 : Nat} {a1 : Nat} {a2 : Int} {a3 : Int} {a4 : Nat} {a5 : Int} (hI : SI g μ) (gA0 : g a0 = 52) (gA1 : g a1 = 83) (bA2 : 0 ≤ a2 ∧ a2 ≤ 12) (bA3 : 0 ≤ a3 ∧ a3 ≤ 12) (gA4 : g a4 = 84) (bA5 : 0 ≤ a5 ∧ a5 ≤ 12) (K : ∀ (μ2 : eM) (v : Int), SI g μ2 → Fr l_305_2 0 0 g μ μ2 → (-1 ≤ v ∧ v ≤ 1) → ex_q (dt_fg L ρ) rc (d + 5, (f.1, f.2.1, f.2.2.1, eI v :: f.2.2.2), F, μ2)) : ex_q (dt_fg L ρ) rc (d + 4, (305, 0, [some (eR a0), some (eR a1), some (eI (a2)), some (eI (a3)), some (eR a4), some (eI (a5))], []), f :: F, μ) := by
  have F0 : Fr l_305_2 0 0 g μ μ := Fr.r
  refine w_t (np := 1) (l2 := [some (eR a0), some (eR a1), some (eI (a2)), some (eI (a3)), some (eR a4), some (eI (a5))]) (s2 := [eR a0]) rfl (s_an rfl (pos_g hI gA0 (by decide))) rfl ?_
  refine w_t (np := 2) (l2 := [some (eR a0), some (eR a1), some (eI (a2)), some (eI (a3)), some (eR a4), some (eI (a5))]) (s2 := [eR a1, eR a0]) rfl (s_an rfl (pos_g hI gA1 (by decide))) rfl ?_
  refine w_t (np := 3) (l2 := [some (eR a0), some (eR a1), some (eI (a2)), some (eI (a3)), some (eR a4), some (eI (a5))]) (s2 := [eI (a3), eR a1, eR a0]) rfl rfl rfl ?_
  refine j_al (np := 4) rfl rfl hI gA1 (by decide) (n := 16) rfl rfl (lo := -2147483648) (hi := 2147483647) (fun _ => rfl) (by omega) (by omega) ?_
  intro v1 e2 b3
  refine w_t (np := 5) (l2 := [some (eR a0), some (eR a1), some (eI (a2)), some (eI (a3)), some (eR a4), some (eI (a5))]) (s2 := [eR a1, eI (v1), eR a0]) rfl (s_an rfl (pos_g hI gA1 (by decide))) rfl ?_
  refine w_t (np := 6) (l2 := [some (eR a0), some (eR a1), some (eI (a2)), some (eI (a3)), some (eR a4), some (eI (a5))]) (s2 := [eI (a2), eR a1, eI (v1), eR a0]) rfl rfl rfl ?_
  refine j_al (np := 7) rfl rfl hI gA1 (by decide) (n := 16) rfl rfl (lo := -2147483648) (hi := 2147483647) (fun _ => rfl) (by omega) (by omega) ?_
  intro v4 e5 b6
  obtain ⟨v7, e8, b9⟩ : ∃ zz : Int, ev_w ((v1) - (v4)) = zz ∧ (-2147483648 ≤ zz ∧ zz ≤ 2147483647) := ⟨_, rfl, hw_bd _⟩
  refine w_t (np := 8) (l2 := [some (eR a0), some (eR a1), some (eI (a2)), some (eI (a3)), some (eR a4), some (eI (a5))]) (s2 := [eI (v7), eR a0]) rfl (b_isub e8) rfl ?_
  refine w_t (np := 9) (l2 := [some (eR a0), some (eR a1), some (eI (a2)), some (eI (a3)), some (eR a4), some (eI (a5))]) (s2 := [eJ (v7), eR a0]) rfl (b_i2l (ev_w_in (by omega) (by omega))) rfl ?_
  refine w_t (np := 10) (l2 := [some (eR a0), some (eR a1), some (eI (a2)), some (eI (a3)), some (eR a4), some (eI (a5))]) (s2 := [eR a1, eJ (v7), eR a0]) rfl (s_an rfl (pos_g hI gA1 (by decide))) rfl ?_
  refine w_t (np := 11) (l2 := [some (eR a0), some (eR a1), some (eI (a2)), some (eI (a3)), some (eR a4), some (eI (a5))]) (s2 := [eI (a3), eR a1, eJ (v7), eR a0]) rfl rfl rfl ?_
  refine w_t (np := 12) (l2 := [some (eR a0), some (eR a1), some (eI (a2)), some (eI (a3)), some (eR a4), some (eI (a5))]) (s2 := [eI (1), eI (a3), eR a1, eJ (v7), eR a0]) rfl rfl rfl ?_
  obtain ⟨v10, e11⟩ : ∃ zz : Int, zz = (a3) + (1) := ⟨_, rfl⟩
  have b12 : 1 ≤ v10 ∧ v10 ≤ 13 := by omega
  refine w_t (np := 13) (l2 := [some (eR a0), some (eR a1), some (eI (a2)), some (eI (a3)), some (eR a4), some (eI (a5))]) (s2 := [eI (v10), eR a1, eJ (v7), eR a0]) rfl (b_iadd (by rw [← e11]; exact ev_w_in (by omega) (by omega))) rfl ?_
  refine j_al (np := 14) rfl rfl hI gA1 (by decide) (n := 16) rfl rfl (lo := -2147483648) (hi := 2147483647) (fun _ => rfl) (by omega) (by omega) ?_
  intro v13 e14 b15
  refine w_t (np := 15) (l2 := [some (eR a0), some (eR a1), some (eI (a2)), some (eI (a3)), some (eR a4), some (eI (a5))]) (s2 := [eR a1, eI (v13), eJ (v7), eR a0]) rfl (s_an rfl (pos_g hI gA1 (by decide))) rfl ?_
  refine w_t (np := 16) (l2 := [some (eR a0), some (eR a1), some (eI (a2)), some (eI (a3)), some (eR a4), some (eI (a5))]) (s2 := [eI (a2), eR a1, eI (v13), eJ (v7), eR a0]) rfl rfl rfl ?_
  refine w_t (np := 17) (l2 := [some (eR a0), some (eR a1), some (eI (a2)), some (eI (a3)), some (eR a4), some (eI (a5))]) (s2 := [eI (1), eI (a2), eR a1, eI (v13), eJ (v7), eR a0]) rfl rfl rfl ?_
  obtain ⟨v16, e17⟩ : ∃ zz : Int, zz = (a2) + (1) := ⟨_, rfl⟩
  have b18 : 1 ≤ v16 ∧ v16 ≤ 13 := by omega
  refine w_t (np := 18) (l2 := [some (eR a0), some (eR a1), some (eI (a2)), some (eI (a3)), some (eR a4), some (eI (a5))]) (s2 := [eI (v16), eR a1, eI (v13), eJ (v7), eR a0]) rfl (b_iadd (by rw [← e17]; exact ev_w_in (by omega) (by omega))) rfl ?_
  refine j_al (np := 19) rfl rfl hI gA1 (by decide) (n := 16) rfl rfl (lo := -2147483648) (hi := 2147483647) (fun _ => rfl) (by omega) (by omega) ?_
  intro v19 e20 b21
  obtain ⟨v22, e23, b24⟩ : ∃ zz : Int, ev_w ((v13) - (v19)) = zz ∧ (-2147483648 ≤ zz ∧ zz ≤ 2147483647) := ⟨_, rfl, hw_bd _⟩
  refine w_t (np := 20) (l2 := [some (eR a0), some (eR a1), some (eI (a2)), some (eI (a3)), some (eR a4), some (eI (a5))]) (s2 := [eI (v22), eJ (v7), eR a0]) rfl (b_isub e23) rfl ?_
  refine w_t (np := 21) (l2 := [some (eR a0), some (eR a1), some (eI (a2)), some (eI (a3)), some (eR a4), some (eI (a5))]) (s2 := [eJ (v22), eJ (v7), eR a0]) rfl (b_i2l (ev_w_in (by omega) (by omega))) rfl ?_
  refine w_t (np := 22) (l2 := [some (eR a0), some (eR a1), some (eI (a2)), some (eI (a3)), some (eR a4), some (eI (a5))]) (s2 := [eR a1, eJ (v22), eJ (v7), eR a0]) rfl (s_an rfl (pos_g hI gA1 (by decide))) rfl ?_
  refine w_t (np := 23) (l2 := [some (eR a0), some (eR a1), some (eI (a2)), some (eI (a3)), some (eR a4), some (eI (a5))]) (s2 := [eI (a3), eR a1, eJ (v22), eJ (v7), eR a0]) rfl rfl rfl ?_
  refine w_t (np := 24) (l2 := [some (eR a0), some (eR a1), some (eI (a2)), some (eI (a3)), some (eR a4), some (eI (a5))]) (s2 := [eI (2), eI (a3), eR a1, eJ (v22), eJ (v7), eR a0]) rfl rfl rfl ?_
  obtain ⟨v25, e26⟩ : ∃ zz : Int, zz = (a3) + (2) := ⟨_, rfl⟩
  have b27 : 2 ≤ v25 ∧ v25 ≤ 14 := by omega
  refine w_t (np := 25) (l2 := [some (eR a0), some (eR a1), some (eI (a2)), some (eI (a3)), some (eR a4), some (eI (a5))]) (s2 := [eI (v25), eR a1, eJ (v22), eJ (v7), eR a0]) rfl (b_iadd (by rw [← e26]; exact ev_w_in (by omega) (by omega))) rfl ?_
  refine j_al (np := 26) rfl rfl hI gA1 (by decide) (n := 16) rfl rfl (lo := -2147483648) (hi := 2147483647) (fun _ => rfl) (by omega) (by omega) ?_
  intro v28 e29 b30
  refine w_t (np := 27) (l2 := [some (eR a0), some (eR a1), some (eI (a2)), some (eI (a3)), some (eR a4), some (eI (a5))]) (s2 := [eR a1, eI (v28), eJ (v22), eJ (v7), eR a0]) rfl (s_an rfl (pos_g hI gA1 (by decide))) rfl ?_
  refine w_t (np := 28) (l2 := [some (eR a0), some (eR a1), some (eI (a2)), some (eI (a3)), some (eR a4), some (eI (a5))]) (s2 := [eI (a2), eR a1, eI (v28), eJ (v22), eJ (v7), eR a0]) rfl rfl rfl ?_
  refine w_t (np := 29) (l2 := [some (eR a0), some (eR a1), some (eI (a2)), some (eI (a3)), some (eR a4), some (eI (a5))]) (s2 := [eI (2), eI (a2), eR a1, eI (v28), eJ (v22), eJ (v7), eR a0]) rfl rfl rfl ?_
  obtain ⟨v31, e32⟩ : ∃ zz : Int, zz = (a2) + (2) := ⟨_, rfl⟩
  have b33 : 2 ≤ v31 ∧ v31 ≤ 14 := by omega
  refine w_t (np := 30) (l2 := [some (eR a0), some (eR a1), some (eI (a2)), some (eI (a3)), some (eR a4), some (eI (a5))]) (s2 := [eI (v31), eR a1, eI (v28), eJ (v22), eJ (v7), eR a0]) rfl (b_iadd (by rw [← e32]; exact ev_w_in (by omega) (by omega))) rfl ?_
  refine j_al (np := 31) rfl rfl hI gA1 (by decide) (n := 16) rfl rfl (lo := -2147483648) (hi := 2147483647) (fun _ => rfl) (by omega) (by omega) ?_
  intro v34 e35 b36
  obtain ⟨v37, e38, b39⟩ : ∃ zz : Int, ev_w ((v28) - (v34)) = zz ∧ (-2147483648 ≤ zz ∧ zz ≤ 2147483647) := ⟨_, rfl, hw_bd _⟩
  refine w_t (np := 32) (l2 := [some (eR a0), some (eR a1), some (eI (a2)), some (eI (a3)), some (eR a4), some (eI (a5))]) (s2 := [eI (v37), eJ (v22), eJ (v7), eR a0]) rfl (b_isub e38) rfl ?_
  refine w_t (np := 33) (l2 := [some (eR a0), some (eR a1), some (eI (a2)), some (eI (a3)), some (eR a4), some (eI (a5))]) (s2 := [eJ (v37), eJ (v22), eJ (v7), eR a0]) rfl (b_i2l (ev_w_in (by omega) (by omega))) rfl ?_
  refine w_t (np := 34) (l2 := [some (eR a0), some (eR a1), some (eI (a2)), some (eI (a3)), some (eR a4), some (eI (a5))]) (s2 := [eR a1, eJ (v37), eJ (v22), eJ (v7), eR a0]) rfl (s_an rfl (pos_g hI gA1 (by decide))) rfl ?_
  refine w_t (np := 35) (l2 := [some (eR a0), some (eR a1), some (eI (a2)), some (eI (a3)), some (eR a4), some (eI (a5))]) (s2 := [eI (a3), eR a1, eJ (v37), eJ (v22), eJ (v7), eR a0]) rfl rfl rfl ?_
  refine w_t (np := 36) (l2 := [some (eR a0), some (eR a1), some (eI (a2)), some (eI (a3)), some (eR a4), some (eI (a5))]) (s2 := [eI (3), eI (a3), eR a1, eJ (v37), eJ (v22), eJ (v7), eR a0]) rfl rfl rfl ?_
  obtain ⟨v40, e41⟩ : ∃ zz : Int, zz = (a3) + (3) := ⟨_, rfl⟩
  have b42 : 3 ≤ v40 ∧ v40 ≤ 15 := by omega
  refine w_t (np := 37) (l2 := [some (eR a0), some (eR a1), some (eI (a2)), some (eI (a3)), some (eR a4), some (eI (a5))]) (s2 := [eI (v40), eR a1, eJ (v37), eJ (v22), eJ (v7), eR a0]) rfl (b_iadd (by rw [← e41]; exact ev_w_in (by omega) (by omega))) rfl ?_
  refine j_al (np := 38) rfl rfl hI gA1 (by decide) (n := 16) rfl rfl (lo := -2147483648) (hi := 2147483647) (fun _ => rfl) (by omega) (by omega) ?_
  intro v43 e44 b45
  refine w_t (np := 39) (l2 := [some (eR a0), some (eR a1), some (eI (a2)), some (eI (a3)), some (eR a4), some (eI (a5))]) (s2 := [eR a1, eI (v43), eJ (v37), eJ (v22), eJ (v7), eR a0]) rfl (s_an rfl (pos_g hI gA1 (by decide))) rfl ?_
  refine w_t (np := 40) (l2 := [some (eR a0), some (eR a1), some (eI (a2)), some (eI (a3)), some (eR a4), some (eI (a5))]) (s2 := [eI (a2), eR a1, eI (v43), eJ (v37), eJ (v22), eJ (v7), eR a0]) rfl rfl rfl ?_
  refine w_t (np := 41) (l2 := [some (eR a0), some (eR a1), some (eI (a2)), some (eI (a3)), some (eR a4), some (eI (a5))]) (s2 := [eI (3), eI (a2), eR a1, eI (v43), eJ (v37), eJ (v22), eJ (v7), eR a0]) rfl rfl rfl ?_
  obtain ⟨v46, e47⟩ : ∃ zz : Int, zz = (a2) + (3) := ⟨_, rfl⟩
  have b48 : 3 ≤ v46 ∧ v46 ≤ 15 := by omega
  refine w_t (np := 42) (l2 := [some (eR a0), some (eR a1), some (eI (a2)), some (eI (a3)), some (eR a4), some (eI (a5))]) (s2 := [eI (v46), eR a1, eI (v43), eJ (v37), eJ (v22), eJ (v7), eR a0]) rfl (b_iadd (by rw [← e47]; exact ev_w_in (by omega) (by omega))) rfl ?_
  refine j_al (np := 43) rfl rfl hI gA1 (by decide) (n := 16) rfl rfl (lo := -2147483648) (hi := 2147483647) (fun _ => rfl) (by omega) (by omega) ?_
  intro v49 e50 b51
  obtain ⟨v52, e53, b54⟩ : ∃ zz : Int, ev_w ((v43) - (v49)) = zz ∧ (-2147483648 ≤ zz ∧ zz ≤ 2147483647) := ⟨_, rfl, hw_bd _⟩
  refine w_t (np := 44) (l2 := [some (eR a0), some (eR a1), some (eI (a2)), some (eI (a3)), some (eR a4), some (eI (a5))]) (s2 := [eI (v52), eJ (v37), eJ (v22), eJ (v7), eR a0]) rfl (b_isub e53) rfl ?_
  refine w_t (np := 45) (l2 := [some (eR a0), some (eR a1), some (eI (a2)), some (eI (a3)), some (eR a4), some (eI (a5))]) (s2 := [eJ (v52), eJ (v37), eJ (v22), eJ (v7), eR a0]) rfl (b_i2l (ev_w_in (by omega) (by omega))) rfl ?_
  refine w_t (np := 47) (l2 := [some (eR a0), some (eR a1), some (eI (a2)), some (eI (a3)), some (eR a4), some (eI (a5))]) (s2 := [eR a4, eJ (v52), eJ (v37), eJ (v22), eJ (v7), eR a0]) rfl (s_ao rfl (pos_g hI gA4 (by decide))) rfl ?_
  refine w_t (np := 49) (l2 := [some (eR a0), some (eR a1), some (eI (a2)), some (eI (a3)), some (eR a4), some (eI (a5))]) (s2 := [eI (a5), eR a4, eJ (v52), eJ (v37), eJ (v22), eJ (v7), eR a0]) rfl rfl rfl ?_
  refine j_al (np := 50) rfl rfl hI gA4 (by decide) (n := 16) rfl rfl (lo := -2147483648) (hi := 2147483647) (fun _ => rfl) (by omega) (by omega) ?_
  intro v55 e56 b57
  refine w_t (np := 51) (l2 := [some (eR a0), some (eR a1), some (eI (a2)), some (eI (a3)), some (eR a4), some (eI (a5))]) (s2 := [eR a1, eI (v55), eJ (v52), eJ (v37), eJ (v22), eJ (v7), eR a0]) rfl (s_an rfl (pos_g hI gA1 (by decide))) rfl ?_
  refine w_t (np := 52) (l2 := [some (eR a0), some (eR a1), some (eI (a2)), some (eI (a3)), some (eR a4), some (eI (a5))]) (s2 := [eI (a2), eR a1, eI (v55), eJ (v52), eJ (v37), eJ (v22), eJ (v7), eR a0]) rfl rfl rfl ?_
  refine j_al (np := 53) rfl rfl hI gA1 (by decide) (n := 16) rfl rfl (lo := -2147483648) (hi := 2147483647) (fun _ => rfl) (by omega) (by omega) ?_
  intro v58 e59 b60
  have e59 := e59.symm.trans e5
  rw [e59]
  obtain ⟨v61, e62, b63⟩ : ∃ zz : Int, ev_w ((v55) - (v4)) = zz ∧ (-2147483648 ≤ zz ∧ zz ≤ 2147483647) := ⟨_, rfl, hw_bd _⟩
  refine w_t (np := 54) (l2 := [some (eR a0), some (eR a1), some (eI (a2)), some (eI (a3)), some (eR a4), some (eI (a5))]) (s2 := [eI (v61), eJ (v52), eJ (v37), eJ (v22), eJ (v7), eR a0]) rfl (b_isub e62) rfl ?_
  refine w_t (np := 55) (l2 := [some (eR a0), some (eR a1), some (eI (a2)), some (eI (a3)), some (eR a4), some (eI (a5))]) (s2 := [eJ (v61), eJ (v52), eJ (v37), eJ (v22), eJ (v7), eR a0]) rfl (b_i2l (ev_w_in (by omega) (by omega))) rfl ?_
  refine w_t (np := 57) (l2 := [some (eR a0), some (eR a1), some (eI (a2)), some (eI (a3)), some (eR a4), some (eI (a5))]) (s2 := [eR a4, eJ (v61), eJ (v52), eJ (v37), eJ (v22), eJ (v7), eR a0]) rfl (s_ao rfl (pos_g hI gA4 (by decide))) rfl ?_
  refine w_t (np := 59) (l2 := [some (eR a0), some (eR a1), some (eI (a2)), some (eI (a3)), some (eR a4), some (eI (a5))]) (s2 := [eI (a5), eR a4, eJ (v61), eJ (v52), eJ (v37), eJ (v22), eJ (v7), eR a0]) rfl rfl rfl ?_
  refine w_t (np := 60) (l2 := [some (eR a0), some (eR a1), some (eI (a2)), some (eI (a3)), some (eR a4), some (eI (a5))]) (s2 := [eI (1), eI (a5), eR a4, eJ (v61), eJ (v52), eJ (v37), eJ (v22), eJ (v7), eR a0]) rfl rfl rfl ?_
  obtain ⟨v64, e65⟩ : ∃ zz : Int, zz = (a5) + (1) := ⟨_, rfl⟩
  have b66 : 1 ≤ v64 ∧ v64 ≤ 13 := by omega
  refine w_t (np := 61) (l2 := [some (eR a0), some (eR a1), some (eI (a2)), some (eI (a3)), some (eR a4), some (eI (a5))]) (s2 := [eI (v64), eR a4, eJ (v61), eJ (v52), eJ (v37), eJ (v22), eJ (v7), eR a0]) rfl (b_iadd (by rw [← e65]; exact ev_w_in (by omega) (by omega))) rfl ?_
  refine j_al (np := 62) rfl rfl hI gA4 (by decide) (n := 16) rfl rfl (lo := -2147483648) (hi := 2147483647) (fun _ => rfl) (by omega) (by omega) ?_
  intro v67 e68 b69
  refine w_t (np := 63) (l2 := [some (eR a0), some (eR a1), some (eI (a2)), some (eI (a3)), some (eR a4), some (eI (a5))]) (s2 := [eR a1, eI (v67), eJ (v61), eJ (v52), eJ (v37), eJ (v22), eJ (v7), eR a0]) rfl (s_an rfl (pos_g hI gA1 (by decide))) rfl ?_
  refine w_t (np := 64) (l2 := [some (eR a0), some (eR a1), some (eI (a2)), some (eI (a3)), some (eR a4), some (eI (a5))]) (s2 := [eI (a2), eR a1, eI (v67), eJ (v61), eJ (v52), eJ (v37), eJ (v22), eJ (v7), eR a0]) rfl rfl rfl ?_
  refine w_t (np := 65) (l2 := [some (eR a0), some (eR a1), some (eI (a2)), some (eI (a3)), some (eR a4), some (eI (a5))]) (s2 := [eI (1), eI (a2), eR a1, eI (v67), eJ (v61), eJ (v52), eJ (v37), eJ (v22), eJ (v7), eR a0]) rfl rfl rfl ?_
  obtain ⟨v70, e71⟩ : ∃ zz : Int, zz = (a2) + (1) := ⟨_, rfl⟩
  have b72 : 1 ≤ v70 ∧ v70 ≤ 13 := by omega
  refine w_t (np := 66) (l2 := [some (eR a0), some (eR a1), some (eI (a2)), some (eI (a3)), some (eR a4), some (eI (a5))]) (s2 := [eI (v70), eR a1, eI (v67), eJ (v61), eJ (v52), eJ (v37), eJ (v22), eJ (v7), eR a0]) rfl (b_iadd (by rw [← e71]; exact ev_w_in (by omega) (by omega))) rfl ?_
  refine j_al (np := 67) rfl rfl hI gA1 (by decide) (n := 16) rfl rfl (lo := -2147483648) (hi := 2147483647) (fun _ => rfl) (by omega) (by omega) ?_
  intro v73 e74 b75
  obtain ⟨v76, e77, b78⟩ : ∃ zz : Int, ev_w ((v67) - (v73)) = zz ∧ (-2147483648 ≤ zz ∧ zz ≤ 2147483647) := ⟨_, rfl, hw_bd _⟩
  refine w_t (np := 68) (l2 := [some (eR a0), some (eR a1), some (eI (a2)), some (eI (a3)), some (eR a4), some (eI (a5))]) (s2 := [eI (v76), eJ (v61), eJ (v52), eJ (v37), eJ (v22), eJ (v7), eR a0]) rfl (b_isub e77) rfl ?_
  refine w_t (np := 69) (l2 := [some (eR a0), some (eR a1), some (eI (a2)), some (eI (a3)), some (eR a4), some (eI (a5))]) (s2 := [eJ (v76), eJ (v61), eJ (v52), eJ (v37), eJ (v22), eJ (v7), eR a0]) rfl (b_i2l (ev_w_in (by omega) (by omega))) rfl ?_
  refine w_t (np := 71) (l2 := [some (eR a0), some (eR a1), some (eI (a2)), some (eI (a3)), some (eR a4), some (eI (a5))]) (s2 := [eR a4, eJ (v76), eJ (v61), eJ (v52), eJ (v37), eJ (v22), eJ (v7), eR a0]) rfl (s_ao rfl (pos_g hI gA4 (by decide))) rfl ?_
  refine w_t (np := 73) (l2 := [some (eR a0), some (eR a1), some (eI (a2)), some (eI (a3)), some (eR a4), some (eI (a5))]) (s2 := [eI (a5), eR a4, eJ (v76), eJ (v61), eJ (v52), eJ (v37), eJ (v22), eJ (v7), eR a0]) rfl rfl rfl ?_
  refine w_t (np := 74) (l2 := [some (eR a0), some (eR a1), some (eI (a2)), some (eI (a3)), some (eR a4), some (eI (a5))]) (s2 := [eI (2), eI (a5), eR a4, eJ (v76), eJ (v61), eJ (v52), eJ (v37), eJ (v22), eJ (v7), eR a0]) rfl rfl rfl ?_
  obtain ⟨v79, e80⟩ : ∃ zz : Int, zz = (a5) + (2) := ⟨_, rfl⟩
  have b81 : 2 ≤ v79 ∧ v79 ≤ 14 := by omega
  refine w_t (np := 75) (l2 := [some (eR a0), some (eR a1), some (eI (a2)), some (eI (a3)), some (eR a4), some (eI (a5))]) (s2 := [eI (v79), eR a4, eJ (v76), eJ (v61), eJ (v52), eJ (v37), eJ (v22), eJ (v7), eR a0]) rfl (b_iadd (by rw [← e80]; exact ev_w_in (by omega) (by omega))) rfl ?_
  refine j_al (np := 76) rfl rfl hI gA4 (by decide) (n := 16) rfl rfl (lo := -2147483648) (hi := 2147483647) (fun _ => rfl) (by omega) (by omega) ?_
  intro v82 e83 b84
  refine w_t (np := 77) (l2 := [some (eR a0), some (eR a1), some (eI (a2)), some (eI (a3)), some (eR a4), some (eI (a5))]) (s2 := [eR a1, eI (v82), eJ (v76), eJ (v61), eJ (v52), eJ (v37), eJ (v22), eJ (v7), eR a0]) rfl (s_an rfl (pos_g hI gA1 (by decide))) rfl ?_
  refine w_t (np := 78) (l2 := [some (eR a0), some (eR a1), some (eI (a2)), some (eI (a3)), some (eR a4), some (eI (a5))]) (s2 := [eI (a2), eR a1, eI (v82), eJ (v76), eJ (v61), eJ (v52), eJ (v37), eJ (v22), eJ (v7), eR a0]) rfl rfl rfl ?_
  refine w_t (np := 79) (l2 := [some (eR a0), some (eR a1), some (eI (a2)), some (eI (a3)), some (eR a4), some (eI (a5))]) (s2 := [eI (2), eI (a2), eR a1, eI (v82), eJ (v76), eJ (v61), eJ (v52), eJ (v37), eJ (v22), eJ (v7), eR a0]) rfl rfl rfl ?_
  obtain ⟨v85, e86⟩ : ∃ zz : Int, zz = (a2) + (2) := ⟨_, rfl⟩
  have b87 : 2 ≤ v85 ∧ v85 ≤ 14 := by omega
  refine w_t (np := 80) (l2 := [some (eR a0), some (eR a1), some (eI (a2)), some (eI (a3)), some (eR a4), some (eI (a5))]) (s2 := [eI (v85), eR a1, eI (v82), eJ (v76), eJ (v61), eJ (v52), eJ (v37), eJ (v22), eJ (v7), eR a0]) rfl (b_iadd (by rw [← e86]; exact ev_w_in (by omega) (by omega))) rfl ?_
  refine j_al (np := 81) rfl rfl hI gA1 (by decide) (n := 16) rfl rfl (lo := -2147483648) (hi := 2147483647) (fun _ => rfl) (by omega) (by omega) ?_
  intro v88 e89 b90
  obtain ⟨v91, e92, b93⟩ : ∃ zz : Int, ev_w ((v82) - (v88)) = zz ∧ (-2147483648 ≤ zz ∧ zz ≤ 2147483647) := ⟨_, rfl, hw_bd _⟩
  refine w_t (np := 82) (l2 := [some (eR a0), some (eR a1), some (eI (a2)), some (eI (a3)), some (eR a4), some (eI (a5))]) (s2 := [eI (v91), eJ (v76), eJ (v61), eJ (v52), eJ (v37), eJ (v22), eJ (v7), eR a0]) rfl (b_isub e92) rfl ?_
  refine w_t (np := 83) (l2 := [some (eR a0), some (eR a1), some (eI (a2)), some (eI (a3)), some (eR a4), some (eI (a5))]) (s2 := [eJ (v91), eJ (v76), eJ (v61), eJ (v52), eJ (v37), eJ (v22), eJ (v7), eR a0]) rfl (b_i2l (ev_w_in (by omega) (by omega))) rfl ?_
  refine w_t (np := 85) (l2 := [some (eR a0), some (eR a1), some (eI (a2)), some (eI (a3)), some (eR a4), some (eI (a5))]) (s2 := [eR a4, eJ (v91), eJ (v76), eJ (v61), eJ (v52), eJ (v37), eJ (v22), eJ (v7), eR a0]) rfl (s_ao rfl (pos_g hI gA4 (by decide))) rfl ?_
  refine w_t (np := 87) (l2 := [some (eR a0), some (eR a1), some (eI (a2)), some (eI (a3)), some (eR a4), some (eI (a5))]) (s2 := [eI (a5), eR a4, eJ (v91), eJ (v76), eJ (v61), eJ (v52), eJ (v37), eJ (v22), eJ (v7), eR a0]) rfl rfl rfl ?_
  refine w_t (np := 88) (l2 := [some (eR a0), some (eR a1), some (eI (a2)), some (eI (a3)), some (eR a4), some (eI (a5))]) (s2 := [eI (3), eI (a5), eR a4, eJ (v91), eJ (v76), eJ (v61), eJ (v52), eJ (v37), eJ (v22), eJ (v7), eR a0]) rfl rfl rfl ?_
  obtain ⟨v94, e95⟩ : ∃ zz : Int, zz = (a5) + (3) := ⟨_, rfl⟩
  have b96 : 3 ≤ v94 ∧ v94 ≤ 15 := by omega
  refine w_t (np := 89) (l2 := [some (eR a0), some (eR a1), some (eI (a2)), some (eI (a3)), some (eR a4), some (eI (a5))]) (s2 := [eI (v94), eR a4, eJ (v91), eJ (v76), eJ (v61), eJ (v52), eJ (v37), eJ (v22), eJ (v7), eR a0]) rfl (b_iadd (by rw [← e95]; exact ev_w_in (by omega) (by omega))) rfl ?_
  refine j_al (np := 90) rfl rfl hI gA4 (by decide) (n := 16) rfl rfl (lo := -2147483648) (hi := 2147483647) (fun _ => rfl) (by omega) (by omega) ?_
  intro v97 e98 b99
  refine w_t (np := 91) (l2 := [some (eR a0), some (eR a1), some (eI (a2)), some (eI (a3)), some (eR a4), some (eI (a5))]) (s2 := [eR a1, eI (v97), eJ (v91), eJ (v76), eJ (v61), eJ (v52), eJ (v37), eJ (v22), eJ (v7), eR a0]) rfl (s_an rfl (pos_g hI gA1 (by decide))) rfl ?_
  refine w_t (np := 92) (l2 := [some (eR a0), some (eR a1), some (eI (a2)), some (eI (a3)), some (eR a4), some (eI (a5))]) (s2 := [eI (a2), eR a1, eI (v97), eJ (v91), eJ (v76), eJ (v61), eJ (v52), eJ (v37), eJ (v22), eJ (v7), eR a0]) rfl rfl rfl ?_
  refine w_t (np := 93) (l2 := [some (eR a0), some (eR a1), some (eI (a2)), some (eI (a3)), some (eR a4), some (eI (a5))]) (s2 := [eI (3), eI (a2), eR a1, eI (v97), eJ (v91), eJ (v76), eJ (v61), eJ (v52), eJ (v37), eJ (v22), eJ (v7), eR a0]) rfl rfl rfl ?_
  obtain ⟨v100, e101⟩ : ∃ zz : Int, zz = (a2) + (3) := ⟨_, rfl⟩
  have b102 : 3 ≤ v100 ∧ v100 ≤ 15 := by omega
  refine w_t (np := 94) (l2 := [some (eR a0), some (eR a1), some (eI (a2)), some (eI (a3)), some (eR a4), some (eI (a5))]) (s2 := [eI (v100), eR a1, eI (v97), eJ (v91), eJ (v76), eJ (v61), eJ (v52), eJ (v37), eJ (v22), eJ (v7), eR a0]) rfl (b_iadd (by rw [← e101]; exact ev_w_in (by omega) (by omega))) rfl ?_
  refine j_al (np := 95) rfl rfl hI gA1 (by decide) (n := 16) rfl rfl (lo := -2147483648) (hi := 2147483647) (fun _ => rfl) (by omega) (by omega) ?_
  intro v103 e104 b105
  obtain ⟨v106, e107, b108⟩ : ∃ zz : Int, ev_w ((v97) - (v103)) = zz ∧ (-2147483648 ≤ zz ∧ zz ≤ 2147483647) := ⟨_, rfl, hw_bd _⟩
  refine w_t (np := 96) (l2 := [some (eR a0), some (eR a1), some (eI (a2)), some (eI (a3)), some (eR a4), some (eI (a5))]) (s2 := [eI (v106), eJ (v91), eJ (v76), eJ (v61), eJ (v52), eJ (v37), eJ (v22), eJ (v7), eR a0]) rfl (b_isub e107) rfl ?_
  refine w_t (np := 97) (l2 := [some (eR a0), some (eR a1), some (eI (a2)), some (eI (a3)), some (eR a4), some (eI (a5))]) (s2 := [eJ (v106), eJ (v91), eJ (v76), eJ (v61), eJ (v52), eJ (v37), eJ (v22), eJ (v7), eR a0]) rfl (b_i2l (ev_w_in (by omega) (by omega))) rfl ?_
  refine w_cw (np := 100) (as := [eJ (v7), eJ (v22), eJ (v37), eJ (v52), eJ (v61), eJ (v76), eJ (v91), eJ (v106)]) (l2 := [some (eR a0), some (eJ (v7)), none, some (eJ (v22)), none, some (eJ (v37)), none, some (eJ (v52)), none, some (eJ (v61)), none, some (eJ (v76)), none, some (eJ (v91)), none, some (eJ (v106)), none]) (rest := []) rfl rfl rfl (Nat.ble_eq.mp rfl) rfl rfl rfl (hI.kd gA0 (by decide) (n := 69) rfl) rfl ?_
  refine s_224 hI gA0 (by omega) (by omega) (by omega) (by omega) (by omega) (by omega) (by omega) (by omega) ?_
  intro m109 v112 I110 F111 b113
  have F114 : Fr l_305_2 0 0 g μ m109 := F0.t F111 rfl
  show ex_q (dt_fg L ρ) rc (d + 4, (305, 100, [some (eR a0), some (eR a1), some (eI (a2)), some (eI (a3)), some (eR a4), some (eI (a5))], [eI (v112)]), f :: F, m109)
  exact b_ri rfl rfl (K m109 (v112) I110 F114 (by omega))
def l_305_3 : List Nat := [13315, 13316, 13317, 13318]
theorem s_305_3 {L : Nat} {ρ : Nat → Int} {rc : eQ} {d : Nat} {f : eFr} {F : List eFr} {μ : eM} {g : Nat → Nat} {a0 : Nat} {a1 : Nat} {a2 : Int} {a3 : Int} {a4 : Nat} {a5 : Int} (hI : SI g μ) (gA0 : g a0 = 52) (gA1 : g a1 = 84) (bA2 : 0 ≤ a2 ∧ a2 ≤ 12) (bA3 : 0 ≤ a3 ∧ a3 ≤ 12) (gA4 : g a4 = 83) (bA5 : 0 ≤ a5 ∧ a5 ≤ 12) (K : ∀ (μ2 : eM) (v : Int), SI g μ2 → Fr l_305_3 0 0 g μ μ2 → (-1 ≤ v ∧ v ≤ 1) → ex_q (dt_fg L ρ) rc (d + 5, (f.1, f.2.1, f.2.2.1, eI v :: f.2.2.2), F, μ2)) : ex_q (dt_fg L ρ) rc (d + 4, (305, 0, [some (eR a0), some (eR a1), some (eI (a2)), some (eI (a3)), some (eR a4), some (eI (a5))], []), f :: F, μ) := by
  have F0 : Fr l_305_3 0 0 g μ μ := Fr.r
  refine w_t (np := 1) (l2 := [some (eR a0), some (eR a1), some (eI (a2)), some (eI (a3)), some (eR a4), some (eI (a5))]) (s2 := [eR a0]) rfl (s_an rfl (pos_g hI gA0 (by decide))) rfl ?_
  refine w_t (np := 2) (l2 := [some (eR a0), some (eR a1), some (eI (a2)), some (eI (a3)), some (eR a4), some (eI (a5))]) (s2 := [eR a1, eR a0]) rfl (s_an rfl (pos_g hI gA1 (by decide))) rfl ?_
  refine w_t (np := 3) (l2 := [some (eR a0), some (eR a1), some (eI (a2)), some (eI (a3)), some (eR a4), some (eI (a5))]) (s2 := [eI (a3), eR a1, eR a0]) rfl rfl rfl ?_
  refine j_al (np := 4) rfl rfl hI gA1 (by decide) (n := 16) rfl rfl (lo := -2147483648) (hi := 2147483647) (fun _ => rfl) (by omega) (by omega) ?_
  intro v1 e2 b3
  refine w_t (np := 5) (l2 := [some (eR a0), some (eR a1), some (eI (a2)), some (eI (a3)), some (eR a4), some (eI (a5))]) (s2 := [eR a1, eI (v1), eR a0]) rfl (s_an rfl (pos_g hI gA1 (by decide))) rfl ?_
  refine w_t (np := 6) (l2 := [some (eR a0), some (eR a1), some (eI (a2)), some (eI (a3)), some (eR a4), some (eI (a5))]) (s2 := [eI (a2), eR a1, eI (v1), eR a0]) rfl rfl rfl ?_
  refine j_al (np := 7) rfl rfl hI gA1 (by decide) (n := 16) rfl rfl (lo := -2147483648) (hi := 2147483647) (fun _ => rfl) (by omega) (by omega) ?_
  intro v4 e5 b6
  obtain ⟨v7, e8, b9⟩ : ∃ zz : Int, ev_w ((v1) - (v4)) = zz ∧ (-2147483648 ≤ zz ∧ zz ≤ 2147483647) := ⟨_, rfl, hw_bd _⟩
  refine w_t (np := 8) (l2 := [some (eR a0), some (eR a1), some (eI (a2)), some (eI (a3)), some (eR a4), some (eI (a5))]) (s2 := [eI (v7), eR a0]) rfl (b_isub e8) rfl ?_
  refine w_t (np := 9) (l2 := [some (eR a0), some (eR a1), some (eI (a2)), some (eI (a3)), some (eR a4), some (eI (a5))]) (s2 := [eJ (v7), eR a0]) rfl (b_i2l (ev_w_in (by omega) (by omega))) rfl ?_
  refine w_t (np := 10) (l2 := [some (eR a0), some (eR a1), some (eI (a2)), some (eI (a3)), some (eR a4), some (eI (a5))]) (s2 := [eR a1, eJ (v7), eR a0]) rfl (s_an rfl (pos_g hI gA1 (by decide))) rfl ?_
  refine w_t (np := 11) (l2 := [some (eR a0), some (eR a1), some (eI (a2)), some (eI (a3)), some (eR a4), some (eI (a5))]) (s2 := [eI (a3), eR a1, eJ (v7), eR a0]) rfl rfl rfl ?_
  refine w_t (np := 12) (l2 := [some (eR a0), some (eR a1), some (eI (a2)), some (eI (a3)), some (eR a4), some (eI (a5))]) (s2 := [eI (1), eI (a3), eR a1, eJ (v7), eR a0]) rfl rfl rfl ?_
  obtain ⟨v10, e11⟩ : ∃ zz : Int, zz = (a3) + (1) := ⟨_, rfl⟩
  have b12 : 1 ≤ v10 ∧ v10 ≤ 13 := by omega
  refine w_t (np := 13) (l2 := [some (eR a0), some (eR a1), some (eI (a2)), some (eI (a3)), some (eR a4), some (eI (a5))]) (s2 := [eI (v10), eR a1, eJ (v7), eR a0]) rfl (b_iadd (by rw [← e11]; exact ev_w_in (by omega) (by omega))) rfl ?_
  refine j_al (np := 14) rfl rfl hI gA1 (by decide) (n := 16) rfl rfl (lo := -2147483648) (hi := 2147483647) (fun _ => rfl) (by omega) (by omega) ?_
  intro v13 e14 b15
  refine w_t (np := 15) (l2 := [some (eR a0), some (eR a1), some (eI (a2)), some (eI (a3)), some (eR a4), some (eI (a5))]) (s2 := [eR a1, eI (v13), eJ (v7), eR a0]) rfl (s_an rfl (pos_g hI gA1 (by decide))) rfl ?_
  refine w_t (np := 16) (l2 := [some (eR a0), some (eR a1), some (eI (a2)), some (eI (a3)), some (eR a4), some (eI (a5))]) (s2 := [eI (a2), eR a1, eI (v13), eJ (v7), eR a0]) rfl rfl rfl ?_
  refine w_t (np := 17) (l2 := [some (eR a0), some (eR a1), some (eI (a2)), some (eI (a3)), some (eR a4), some (eI (a5))]) (s2 := [eI (1), eI (a2), eR a1, eI (v13), eJ (v7), eR a0]) rfl rfl rfl ?_
  obtain ⟨v16, e17⟩ : ∃ zz : Int, zz = (a2) + (1) := ⟨_, rfl⟩
  have b18 : 1 ≤ v16 ∧ v16 ≤ 13 := by omega
  refine w_t (np := 18) (l2 := [some (eR a0), some (eR a1), some (eI (a2)), some (eI (a3)), some (eR a4), some (eI (a5))]) (s2 := [eI (v16), eR a1, eI (v13), eJ (v7), eR a0]) rfl (b_iadd (by rw [← e17]; exact ev_w_in (by omega) (by omega))) rfl ?_
  refine j_al (np := 19) rfl rfl hI gA1 (by decide) (n := 16) rfl rfl (lo := -2147483648) (hi := 2147483647) (fun _ => rfl) (by omega) (by omega) ?_
  intro v19 e20 b21
  obtain ⟨v22, e23, b24⟩ : ∃ zz : Int, ev_w ((v13) - (v19)) = zz ∧ (-2147483648 ≤ zz ∧ zz ≤ 2147483647) := ⟨_, rfl, hw_bd _⟩
  refine w_t (np := 20) (l2 := [some (eR a0), some (eR a1), some (eI (a2)), some (eI (a3)), some (eR a4), some (eI (a5))]) (s2 := [eI (v22), eJ (v7), eR a0]) rfl (b_isub e23) rfl ?_
  refine w_t (np := 21) (l2 := [some (eR a0), some (eR a1), some (eI (a2)), some (eI (a3)), some (eR a4), some (eI (a5))]) (s2 := [eJ (v22), eJ (v7), eR a0]) rfl (b_i2l (ev_w_in (by omega) (by omega))) rfl ?_
  refine w_t (np := 22) (l2 := [some (eR a0), some (eR a1), some (eI (a2)), some (eI (a3)), some (eR a4), some (eI (a5))]) (s2 := [eR a1, eJ (v22), eJ (v7), eR a0]) rfl (s_an rfl (pos_g hI gA1 (by decide))) rfl ?_
  refine w_t (np := 23) (l2 := [some (eR a0), some (eR a1), some (eI (a2)), some (eI (a3)), some (eR a4), some (eI (a5))]) (s2 := [eI (a3), eR a1, eJ (v22), eJ (v7), eR a0]) rfl rfl rfl ?_
  refine w_t (np := 24) (l2 := [some (eR a0), some (eR a1), some (eI (a2)), some (eI (a3)), some (eR a4), some (eI (a5))]) (s2 := [eI (2), eI (a3), eR a1, eJ (v22), eJ (v7), eR a0]) rfl rfl rfl ?_
  obtain ⟨v25, e26⟩ : ∃ zz : Int, zz = (a3) + (2) := ⟨_, rfl⟩
  have b27 : 2 ≤ v25 ∧ v25 ≤ 14 := by omega
  refine w_t (np := 25) (l2 := [some (eR a0), some (eR a1), some (eI (a2)), some (eI (a3)), some (eR a4), some (eI (a5))]) (s2 := [eI (v25), eR a1, eJ (v22), eJ (v7), eR a0]) rfl (b_iadd (by rw [← e26]; exact ev_w_in (by omega) (by omega))) rfl ?_
  refine j_al (np := 26) rfl rfl hI gA1 (by decide) (n := 16) rfl rfl (lo := -2147483648) (hi := 2147483647) (fun _ => rfl) (by omega) (by omega) ?_
  intro v28 e29 b30
  refine w_t (np := 27) (l2 := [some (eR a0), some (eR a1), some (eI (a2)), some (eI (a3)), some (eR a4), some (eI (a5))]) (s2 := [eR a1, eI (v28), eJ (v22), eJ (v7), eR a0]) rfl (s_an rfl (pos_g hI gA1 (by decide))) rfl ?_
  refine w_t (np := 28) (l2 := [some (eR a0), some (eR a1), some (eI (a2)), some (eI (a3)), some (eR a4), some (eI (a5))]) (s2 := [eI (a2), eR a1, eI (v28), eJ (v22), eJ (v7), eR a0]) rfl rfl rfl ?_
  refine w_t (np := 29) (l2 := [some (eR a0), some (eR a1), some (eI (a2)), some (eI (a3)), some (eR a4), some (eI (a5))]) (s2 := [eI (2), eI (a2), eR a1, eI (v28), eJ (v22), eJ (v7), eR a0]) rfl rfl rfl ?_
  obtain ⟨v31, e32⟩ : ∃ zz : Int, zz = (a2) + (2) := ⟨_, rfl⟩
  have b33 : 2 ≤ v31 ∧ v31 ≤ 14 := by omega
  refine w_t (np := 30) (l2 := [some (eR a0), some (eR a1), some (eI (a2)), some (eI (a3)), some (eR a4), some (eI (a5))]) (s2 := [eI (v31), eR a1, eI (v28), eJ (v22), eJ (v7), eR a0]) rfl (b_iadd (by rw [← e32]; exact ev_w_in (by omega) (by omega))) rfl ?_
  refine j_al (np := 31) rfl rfl hI gA1 (by decide) (n := 16) rfl rfl (lo := -2147483648) (hi := 2147483647) (fun _ => rfl) (by omega) (by omega) ?_
  intro v34 e35 b36
  obtain ⟨v37, e38, b39⟩ : ∃ zz : Int, ev_w ((v28) - (v34)) = zz ∧ (-2147483648 ≤ zz ∧ zz ≤ 2147483647) := ⟨_, rfl, hw_bd _⟩
  refine w_t (np := 32) (l2 := [some (eR a0), some (eR a1), some (eI (a2)), some (eI (a3)), some (eR a4), some (eI (a5))]) (s2 := [eI (v37), eJ (v22), eJ (v7), eR a0]) rfl (b_isub e38) rfl ?_
  refine w_t (np := 33) (l2 := [some (eR a0), some (eR a1), some (eI (a2)), some (eI (a3)), some (eR a4), some (eI (a5))]) (s2 := [eJ (v37), eJ (v22), eJ (v7), eR a0]) rfl (b_i2l (ev_w_in (by omega) (by omega))) rfl ?_
  refine w_t (np := 34) (l2 := [some (eR a0), some (eR a1), some (eI (a2)), some (eI (a3)), some (eR a4), some (eI (a5))]) (s2 := [eR a1, eJ (v37), eJ (v22), eJ (v7), eR a0]) rfl (s_an rfl (pos_g hI gA1 (by decide))) rfl ?_
  refine w_t (np := 35) (l2 := [some (eR a0), some (eR a1), some (eI (a2)), some (eI (a3)), some (eR a4), some (eI (a5))]) (s2 := [eI (a3), eR a1, eJ (v37), eJ (v22), eJ (v7), eR a0]) rfl rfl rfl ?_
  refine w_t (np := 36) (l2 := [some (eR a0), some (eR a1), some (eI (a2)), some (eI (a3)), some (eR a4), some (eI (a5))]) (s2 := [eI (3), eI (a3), eR a1, eJ (v37), eJ (v22), eJ (v7), eR a0]) rfl rfl rfl ?_
  obtain ⟨v40, e41⟩ : ∃ zz : Int, zz = (a3) + (3) := ⟨_, rfl⟩
  have b42 : 3 ≤ v40 ∧ v40 ≤ 15 := by omega
  refine w_t (np := 37) (l2 := [some (eR a0), some (eR a1), some (eI (a2)), some (eI (a3)), some (eR a4), some (eI (a5))]) (s2 := [eI (v40), eR a1, eJ (v37), eJ (v22), eJ (v7), eR a0]) rfl (b_iadd (by rw [← e41]; exact ev_w_in (by omega) (by omega))) rfl ?_
  refine j_al (np := 38) rfl rfl hI gA1 (by decide) (n := 16) rfl rfl (lo := -2147483648) (hi := 2147483647) (fun _ => rfl) (by omega) (by omega) ?_
  intro v43 e44 b45
  refine w_t (np := 39) (l2 := [some (eR a0), some (eR a1), some (eI (a2)), some (eI (a3)), some (eR a4), some (eI (a5))]) (s2 := [eR a1, eI (v43), eJ (v37), eJ (v22), eJ (v7), eR a0]) rfl (s_an rfl (pos_g hI gA1 (by decide))) rfl ?_
  refine w_t (np := 40) (l2 := [some (eR a0), some (eR a1), some (eI (a2)), some (eI (a3)), some (eR a4), some (eI (a5))]) (s2 := [eI (a2), eR a1, eI (v43), eJ (v37), eJ (v22), eJ (v7), eR a0]) rfl rfl rfl ?_
  refine w_t (np := 41) (l2 := [some (eR a0), some (eR a1), some (eI (a2)), some (eI (a3)), some (eR a4), some (eI (a5))]) (s2 := [eI (3), eI (a2), eR a1, eI (v43), eJ (v37), eJ (v22), eJ (v7), eR a0]) rfl rfl rfl ?_
  obtain ⟨v46, e47⟩ : ∃ zz : Int, zz = (a2) + (3) := ⟨_, rfl⟩
  have b48 : 3 ≤ v46 ∧ v46 ≤ 15 := by omega
  refine w_t (np := 42) (l2 := [some (eR a0), some (eR a1), some (eI (a2)), some (eI (a3)), some (eR a4), some (eI (a5))]) (s2 := [eI (v46), eR a1, eI (v43), eJ (v37), eJ (v22), eJ (v7), eR a0]) rfl (b_iadd (by rw [← e47]; exact ev_w_in (by omega) (by omega))) rfl ?_
  refine j_al (np := 43) rfl rfl hI gA1 (by decide) (n := 16) rfl rfl (lo := -2147483648) (hi := 2147483647) (fun _ => rfl) (by omega) (by omega) ?_
  intro v49 e50 b51
  obtain ⟨v52, e53, b54⟩ : ∃ zz : Int, ev_w ((v43) - (v49)) = zz ∧ (-2147483648 ≤ zz ∧ zz ≤ 2147483647) := ⟨_, rfl, hw_bd _⟩
  refine w_t (np := 44) (l2 := [some (eR a0), some (eR a1), some (eI (a2)), some (eI (a3)), some (eR a4), some (eI (a5))]) (s2 := [eI (v52), eJ (v37), eJ (v22), eJ (v7), eR a0]) rfl (b_isub e53) rfl ?_
  refine w_t (np := 45) (l2 := [some (eR a0), some (eR a1), some (eI (a2)), some (eI (a3)), some (eR a4), some (eI (a5))]) (s2 := [eJ (v52), eJ (v37), eJ (v22), eJ (v7), eR a0]) rfl (b_i2l (ev_w_in (by omega) (by omega))) rfl ?_
  refine w_t (np := 47) (l2 := [some (eR a0), some (eR a1), some (eI (a2)), some (eI (a3)), some (eR a4), some (eI (a5))]) (s2 := [eR a4, eJ (v52), eJ (v37), eJ (v22), eJ (v7), eR a0]) rfl (s_ao rfl (pos_g hI gA4 (by decide))) rfl ?_
  refine w_t (np := 49) (l2 := [some (eR a0), some (eR a1), some (eI (a2)), some (eI (a3)), some (eR a4), some (eI (a5))]) (s2 := [eI (a5), eR a4, eJ (v52), eJ (v37), eJ (v22), eJ (v7), eR a0]) rfl rfl rfl ?_
  refine j_al (np := 50) rfl rfl hI gA4 (by decide) (n := 16) rfl rfl (lo := -2147483648) (hi := 2147483647) (fun _ => rfl) (by omega) (by omega) ?_
  intro v55 e56 b57
  refine w_t (np := 51) (l2 := [some (eR a0), some (eR a1), some (eI (a2)), some (eI (a3)), some (eR a4), some (eI (a5))]) (s2 := [eR a1, eI (v55), eJ (v52), eJ (v37), eJ (v22), eJ (v7), eR a0]) rfl (s_an rfl (pos_g hI gA1 (by decide))) rfl ?_
  refine w_t (np := 52) (l2 := [some (eR a0), some (eR a1), some (eI (a2)), some (eI (a3)), some (eR a4), some (eI (a5))]) (s2 := [eI (a2), eR a1, eI (v55), eJ (v52), eJ (v37), eJ (v22), eJ (v7), eR a0]) rfl rfl rfl ?_
  refine j_al (np := 53) rfl rfl hI gA1 (by decide) (n := 16) rfl rfl (lo := -2147483648) (hi := 2147483647) (fun _ => rfl) (by omega) (by omega) ?_
  intro v58 e59 b60
  have e59 := e59.symm.trans e5
  rw [e59]
  obtain ⟨v61, e62, b63⟩ : ∃ zz : Int, ev_w ((v55) - (v4)) = zz ∧ (-2147483648 ≤ zz ∧ zz ≤ 2147483647) := ⟨_, rfl, hw_bd _⟩
  refine w_t (np := 54) (l2 := [some (eR a0), some (eR a1), some (eI (a2)), some (eI (a3)), some (eR a4), some (eI (a5))]) (s2 := [eI (v61), eJ (v52), eJ (v37), eJ (v22), eJ (v7), eR a0]) rfl (b_isub e62) rfl ?_
  refine w_t (np := 55) (l2 := [some (eR a0), some (eR a1), some (eI (a2)), some (eI (a3)), some (eR a4), some (eI (a5))]) (s2 := [eJ (v61), eJ (v52), eJ (v37), eJ (v22), eJ (v7), eR a0]) rfl (b_i2l (ev_w_in (by omega) (by omega))) rfl ?_
  refine w_t (np := 57) (l2 := [some (eR a0), some (eR a1), some (eI (a2)), some (eI (a3)), some (eR a4), some (eI (a5))]) (s2 := [eR a4, eJ (v61), eJ (v52), eJ (v37), eJ (v22), eJ (v7), eR a0]) rfl (s_ao rfl (pos_g hI gA4 (by decide))) rfl ?_
  refine w_t (np := 59) (l2 := [some (eR a0), some (eR a1), some (eI (a2)), some (eI (a3)), some (eR a4), some (eI (a5))]) (s2 := [eI (a5), eR a4, eJ (v61), eJ (v52), eJ (v37), eJ (v22), eJ (v7), eR a0]) rfl rfl rfl ?_
  refine w_t (np := 60) (l2 := [some (eR a0), some (eR a1), some (eI (a2)), some (eI (a3)), some (eR a4), some (eI (a5))]) (s2 := [eI (1), eI (a5), eR a4, eJ (v61), eJ (v52), eJ (v37), eJ (v22), eJ (v7), eR a0]) rfl rfl rfl ?_
  obtain ⟨v64, e65⟩ : ∃ zz : Int, zz = (a5) + (1) := ⟨_, rfl⟩
  have b66 : 1 ≤ v64 ∧ v64 ≤ 13 := by omega
  refine w_t (np := 61) (l2 := [some (eR a0), some (eR a1), some (eI (a2)), some (eI (a3)), some (eR a4), some (eI (a5))]) (s2 := [eI (v64), eR a4, eJ (v61), eJ (v52), eJ (v37), eJ (v22), eJ (v7), eR a0]) rfl (b_iadd (by rw [← e65]; exact ev_w_in (by omega) (by omega))) rfl ?_
  refine j_al (np := 62) rfl rfl hI gA4 (by decide) (n := 16) rfl rfl (lo := -2147483648) (hi := 2147483647) (fun _ => rfl) (by omega) (by omega) ?_
  intro v67 e68 b69
  refine w_t (np := 63) (l2 := [some (eR a0), some (eR a1), some (eI (a2)), some (eI (a3)), some (eR a4), some (eI (a5))]) (s2 := [eR a1, eI (v67), eJ (v61), eJ (v52), eJ (v37), eJ (v22), eJ (v7), eR a0]) rfl (s_an rfl (pos_g hI gA1 (by decide))) rfl ?_
  refine w_t (np := 64) (l2 := [some (eR a0), some (eR a1), some (eI (a2)), some (eI (a3)), some (eR a4), some (eI (a5))]) (s2 := [eI (a2), eR a1, eI (v67), eJ (v61), eJ (v52), eJ (v37), eJ (v22), eJ (v7), eR a0]) rfl rfl rfl ?_
  refine w_t (np := 65) (l2 := [some (eR a0), some (eR a1), some (eI (a2)), some (eI (a3)), some (eR a4), some (eI (a5))]) (s2 := [eI (1), eI (a2), eR a1, eI (v67), eJ (v61), eJ (v52), eJ (v37), eJ (v22), eJ (v7), eR a0]) rfl rfl rfl ?_
  obtain ⟨v70, e71⟩ : ∃ zz : Int, zz = (a2) + (1) := ⟨_, rfl⟩
  have b72 : 1 ≤ v70 ∧ v70 ≤ 13 := by omega
  refine w_t (np := 66) (l2 := [some (eR a0), some (eR a1), some (eI (a2)), some (eI (a3)), some (eR a4), some (eI (a5))]) (s2 := [eI (v70), eR a1, eI (v67), eJ (v61), eJ (v52), eJ (v37), eJ (v22), eJ (v7), eR a0]) rfl (b_iadd (by rw [← e71]; exact ev_w_in (by omega) (by omega))) rfl ?_
  refine j_al (np := 67) rfl rfl hI gA1 (by decide) (n := 16) rfl rfl (lo := -2147483648) (hi := 2147483647) (fun _ => rfl) (by omega) (by omega) ?_
  intro v73 e74 b75
  obtain ⟨v76, e77, b78⟩ : ∃ zz : Int, ev_w ((v67) - (v73)) = zz ∧ (-2147483648 ≤ zz ∧ zz ≤ 2147483647) := ⟨_, rfl, hw_bd _⟩
  refine w_t (np := 68) (l2 := [some (eR a0), some (eR a1), some (eI (a2)), some (eI (a3)), some (eR a4), some (eI (a5))]) (s2 := [eI (v76), eJ (v61), eJ (v52), eJ (v37), eJ (v22), eJ (v7), eR a0]) rfl (b_isub e77) rfl ?_
  refine w_t (np := 69) (l2 := [some (eR a0), some (eR a1), some (eI (a2)), some (eI (a3)), some (eR a4), some (eI (a5))]) (s2 := [eJ (v76), eJ (v61), eJ (v52), eJ (v37), eJ (v22), eJ (v7), eR a0]) rfl (b_i2l (ev_w_in (by omega) (by omega))) rfl ?_
  refine w_t (np := 71) (l2 := [some (eR a0), some (eR a1), some (eI (a2)), some (eI (a3)), some (eR a4), some (eI (a5))]) (s2 := [eR a4, eJ (v76), eJ (v61), eJ (v52), eJ (v37), eJ (v22), eJ (v7), eR a0]) rfl (s_ao rfl (pos_g hI gA4 (by decide))) rfl ?_
  refine w_t (np := 73) (l2 := [some (eR a0), some (eR a1), some (eI (a2)), some (eI (a3)), some (eR a4), some (eI (a5))]) (s2 := [eI (a5), eR a4, eJ (v76), eJ (v61), eJ (v52), eJ (v37), eJ (v22), eJ (v7), eR a0]) rfl rfl rfl ?_
  refine w_t (np := 74) (l2 := [some (eR a0), some (eR a1), some (eI (a2)), some (eI (a3)), some (eR a4), some (eI (a5))]) (s2 := [eI (2), eI (a5), eR a4, eJ (v76), eJ (v61), eJ (v52), eJ (v37), eJ (v22), eJ (v7), eR a0]) rfl rfl rfl ?_
  obtain ⟨v79, e80⟩ : ∃ zz : Int, zz = (a5) + (2) := ⟨_, rfl⟩
  have b81 : 2 ≤ v79 ∧ v79 ≤ 14 := by omega
  refine w_t (np := 75) (l2 := [some (eR a0), some (eR a1), some (eI (a2)), some (eI (a3)), some (eR a4), some (eI (a5))]) (s2 := [eI (v79), eR a4, eJ (v76), eJ (v61), eJ (v52), eJ (v37), eJ (v22), eJ (v7), eR a0]) rfl (b_iadd (by rw [← e80]; exact ev_w_in (by omega) (by omega))) rfl ?_
  refine j_al (np := 76) rfl rfl hI gA4 (by decide) (n := 16) rfl rfl (lo := -2147483648) (hi := 2147483647) (fun _ => rfl) (by omega) (by omega) ?_
  intro v82 e83 b84
  refine w_t (np := 77) (l2 := [some (eR a0), some (eR a1), some (eI (a2)), some (eI (a3)), some (eR a4), some (eI (a5))]) (s2 := [eR a1, eI (v82), eJ (v76), eJ (v61), eJ (v52), eJ (v37), eJ (v22), eJ (v7), eR a0]) rfl (s_an rfl (pos_g hI gA1 (by decide))) rfl ?_
  refine w_t (np := 78) (l2 := [some (eR a0), some (eR a1), some (eI (a2)), some (eI (a3)), some (eR a4), some (eI (a5))]) (s2 := [eI (a2), eR a1, eI (v82), eJ (v76), eJ (v61), eJ (v52), eJ (v37), eJ (v22), eJ (v7), eR a0]) rfl rfl rfl ?_
  refine w_t (np := 79) (l2 := [some (eR a0), some (eR a1), some (eI (a2)), some (eI (a3)), some (eR a4), some (eI (a5))]) (s2 := [eI (2), eI (a2), eR a1, eI (v82), eJ (v76), eJ (v61), eJ (v52), eJ (v37), eJ (v22), eJ (v7), eR a0]) rfl rfl rfl ?_
  obtain ⟨v85, e86⟩ : ∃ zz : Int, zz = (a2) + (2) := ⟨_, rfl⟩
  have b87 : 2 ≤ v85 ∧ v85 ≤ 14 := by omega
  refine w_t (np := 80) (l2 := [some (eR a0), some (eR a1), some (eI (a2)), some (eI (a3)), some (eR a4), some (eI (a5))]) (s2 := [eI (v85), eR a1, eI (v82), eJ (v76), eJ (v61), eJ (v52), eJ (v37), eJ (v22), eJ (v7), eR a0]) rfl (b_iadd (by rw [← e86]; exact ev_w_in (by omega) (by omega))) rfl ?_
  refine j_al (np := 81) rfl rfl hI gA1 (by decide) (n := 16) rfl rfl (lo := -2147483648) (hi := 2147483647) (fun _ => rfl) (by omega) (by omega) ?_
  intro v88 e89 b90
  obtain ⟨v91, e92, b93⟩ : ∃ zz : Int, ev_w ((v82) - (v88)) = zz ∧ (-2147483648 ≤ zz ∧ zz ≤ 2147483647) := ⟨_, rfl, hw_bd _⟩
  refine w_t (np := 82) (l2 := [some (eR a0), some (eR a1), some (eI (a2)), some (eI (a3)), some (eR a4), some (eI (a5))]) (s2 := [eI (v91), eJ (v76), eJ (v61), eJ (v52), eJ (v37), eJ (v22), eJ (v7), eR a0]) rfl (b_isub e92) rfl ?_
  refine w_t (np := 83) (l2 := [some (eR a0), some (eR a1), some (eI (a2)), some (eI (a3)), some (eR a4), some (eI (a5))]) (s2 := [eJ (v91), eJ (v76), eJ (v61), eJ (v52), eJ (v37), eJ (v22), eJ (v7), eR a0]) rfl (b_i2l (ev_w_in (by omega) (by omega))) rfl ?_
  refine w_t (np := 85) (l2 := [some (eR a0), some (eR a1), some (eI (a2)), some (eI (a3)), some (eR a4), some (eI (a5))]) (s2 := [eR a4, eJ (v91), eJ (v76), eJ (v61), eJ (v52), eJ (v37), eJ (v22), eJ (v7), eR a0]) rfl (s_ao rfl (pos_g hI gA4 (by decide))) rfl ?_
  refine w_t (np := 87) (l2 := [some (eR a0), some (eR a1), some (eI (a2)), some (eI (a3)), some (eR a4), some (eI (a5))]) (s2 := [eI (a5), eR a4, eJ (v91), eJ (v76), eJ (v61), eJ (v52), eJ (v37), eJ (v22), eJ (v7), eR a0]) rfl rfl rfl ?_
  refine w_t (np := 88) (l2 := [some (eR a0), some (eR a1), some (eI (a2)), some (eI (a3)), some (eR a4), some (eI (a5))]) (s2 := [eI (3), eI (a5), eR a4, eJ (v91), eJ (v76), eJ (v61), eJ (v52), eJ (v37), eJ (v22), eJ (v7), eR a0]) rfl rfl rfl ?_
  obtain ⟨v94, e95⟩ : ∃ zz : Int, zz = (a5) + (3) := ⟨_, rfl⟩
  have b96 : 3 ≤ v94 ∧ v94 ≤ 15 := by omega
  refine w_t (np := 89) (l2 := [some (eR a0), some (eR a1), some (eI (a2)), some (eI (a3)), some (eR a4), some (eI (a5))]) (s2 := [eI (v94), eR a4, eJ (v91), eJ (v76), eJ (v61), eJ (v52), eJ (v37), eJ (v22), eJ (v7), eR a0]) rfl (b_iadd (by rw [← e95]; exact ev_w_in (by omega) (by omega))) rfl ?_
  refine j_al (np := 90) rfl rfl hI gA4 (by decide) (n := 16) rfl rfl (lo := -2147483648) (hi := 2147483647) (fun _ => rfl) (by omega) (by omega) ?_
  intro v97 e98 b99
  refine w_t (np := 91) (l2 := [some (eR a0), some (eR a1), some (eI (a2)), some (eI (a3)), some (eR a4), some (eI (a5))]) (s2 := [eR a1, eI (v97), eJ (v91), eJ (v76), eJ (v61), eJ (v52), eJ (v37), eJ (v22), eJ (v7), eR a0]) rfl (s_an rfl (pos_g hI gA1 (by decide))) rfl ?_
  refine w_t (np := 92) (l2 := [some (eR a0), some (eR a1), some (eI (a2)), some (eI (a3)), some (eR a4), some (eI (a5))]) (s2 := [eI (a2), eR a1, eI (v97), eJ (v91), eJ (v76), eJ (v61), eJ (v52), eJ (v37), eJ (v22), eJ (v7), eR a0]) rfl rfl rfl ?_
  refine w_t (np := 93) (l2 := [some (eR a0), some (eR a1), some (eI (a2)), some (eI (a3)), some (eR a4), some (eI (a5))]) (s2 := [eI (3), eI (a2), eR a1, eI (v97), eJ (v91), eJ (v76), eJ (v61), eJ (v52), eJ (v37), eJ (v22), eJ (v7), eR a0]) rfl rfl rfl ?_
  obtain ⟨v100, e101⟩ : ∃ zz : Int, zz = (a2) + (3) := ⟨_, rfl⟩
  have b102 : 3 ≤ v100 ∧ v100 ≤ 15 := by omega
  refine w_t (np := 94) (l2 := [some (eR a0), some (eR a1), some (eI (a2)), some (eI (a3)), some (eR a4), some (eI (a5))]) (s2 := [eI (v100), eR a1, eI (v97), eJ (v91), eJ (v76), eJ (v61), eJ (v52), eJ (v37), eJ (v22), eJ (v7), eR a0]) rfl (b_iadd (by rw [← e101]; exact ev_w_in (by omega) (by omega))) rfl ?_
  refine j_al (np := 95) rfl rfl hI gA1 (by decide) (n := 16) rfl rfl (lo := -2147483648) (hi := 2147483647) (fun _ => rfl) (by omega) (by omega) ?_
  intro v103 e104 b105
  obtain ⟨v106, e107, b108⟩ : ∃ zz : Int, ev_w ((v97) - (v103)) = zz ∧ (-2147483648 ≤ zz ∧ zz ≤ 2147483647) := ⟨_, rfl, hw_bd _⟩
  refine w_t (np := 96) (l2 := [some (eR a0), some (eR a1), some (eI (a2)), some (eI (a3)), some (eR a4), some (eI (a5))]) (s2 := [eI (v106), eJ (v91), eJ (v76), eJ (v61), eJ (v52), eJ (v37), eJ (v22), eJ (v7), eR a0]) rfl (b_isub e107) rfl ?_
  refine w_t (np := 97) (l2 := [some (eR a0), some (eR a1), some (eI (a2)), some (eI (a3)), some (eR a4), some (eI (a5))]) (s2 := [eJ (v106), eJ (v91), eJ (v76), eJ (v61), eJ (v52), eJ (v37), eJ (v22), eJ (v7), eR a0]) rfl (b_i2l (ev_w_in (by omega) (by omega))) rfl ?_
  refine w_cw (np := 100) (as := [eJ (v7), eJ (v22), eJ (v37), eJ (v52), eJ (v61), eJ (v76), eJ (v91), eJ (v106)]) (l2 := [some (eR a0), some (eJ (v7)), none, some (eJ (v22)), none, some (eJ (v37)), none, some (eJ (v52)), none, some (eJ (v61)), none, some (eJ (v76)), none, some (eJ (v91)), none, some (eJ (v106)), none]) (rest := []) rfl rfl rfl (Nat.ble_eq.mp rfl) rfl rfl rfl (hI.kd gA0 (by decide) (n := 69) rfl) rfl ?_
  refine s_224 hI gA0 (by omega) (by omega) (by omega) (by omega) (by omega) (by omega) (by omega) (by omega) ?_
  intro m109 v112 I110 F111 b113
  have F114 : Fr l_305_3 0 0 g μ m109 := F0.t F111 rfl
  show ex_q (dt_fg L ρ) rc (d + 4, (305, 100, [some (eR a0), some (eR a1), some (eI (a2)), some (eI (a3)), some (eR a4), some (eI (a5))], [eI (v112)]), f :: F, m109)
  exact b_ri rfl rfl (K m109 (v112) I110 F114 (by omega))
def l_305_4 : List Nat := [13315, 13316, 13317, 13318]
theorem s_305_4 {L : Nat} {ρ : Nat → Int} {rc : eQ} {d : Nat} {f : eFr} {F : List eFr} {μ : eM} {g : Nat → Nat} {a0 : Nat} {a1 : Nat} {a2 : Int} {a3 : Int} {a4 : Nat} {a5 : Int} (hI : SI g μ) (gA0 : g a0 = 52) (gA1 : g a1 = 84) (bA2 : 0 ≤ a2 ∧ a2 ≤ 12) (bA3 : 0 ≤ a3 ∧ a3 ≤ 12) (gA4 : g a4 = 84) (bA5 : 0 ≤ a5 ∧ a5 ≤ 12) (K : ∀ (μ2 : eM) (v : Int), SI g μ2 → Fr l_305_4 0 0 g μ μ2 → (-1 ≤ v ∧ v ≤ 1) → ex_q (dt_fg L ρ) rc (d + 5, (f.1, f.2.1, f.2.2.1, eI v :: f.2.2.2), F, μ2)) : ex_q (dt_fg L ρ) rc (d + 4, (305, 0, [some (eR a0), some (eR a1), some (eI (a2)), some (eI (a3)), some (eR a4), some (eI (a5))], []), f :: F, μ) := by
  have F0 : Fr l_305_4 0 0 g μ μ := Fr.r
  refine w_t (np := 1) (l2 := [some (eR a0), some (eR a1), some (eI (a2)), some (eI (a3)), some (eR a4), some (eI (a5))]) (s2 := [eR a0]) rfl (s_an rfl (pos_g hI gA0 (by decide))) rfl ?_
  refine w_t (np := 2) (l2 := [some (eR a0), some (eR a1), some (eI (a2)), some (eI (a3)), some (eR a4), some (eI (a5))]) (s2 := [eR a1, eR a0]) rfl (s_an rfl (pos_g hI gA1 (by decide))) rfl ?_
  refine w_t (np := 3) (l2 := [some (eR a0), some (eR a1), some (eI (a2)), some (eI (a3)), some (eR a4), some (eI (a5))]) (s2 := [eI (a3), eR a1, eR a0]) rfl rfl rfl ?_
  refine j_al (np := 4) rfl rfl hI gA1 (by decide) (n := 16) rfl rfl (lo := -2147483648) (hi := 2147483647) (fun _ => rfl) (by omega) (by omega) ?_
  intro v1 e2 b3
  refine w_t (np := 5) (l2 := [some (eR a0), some (eR a1), some (eI (a2)), some (eI (a3)), some (eR a4), some (eI (a5))]) (s2 := [eR a1, eI (v1), eR a0]) rfl (s_an rfl (pos_g hI gA1 (by decide))) rfl ?_
  refine w_t (np := 6) (l2 := [some (eR a0), some (eR a1), some (eI (a2)), some (eI (a3)), some (eR a4), some (eI (a5))]) (s2 := [eI (a2), eR a1, eI (v1), eR a0]) rfl rfl rfl ?_
  refine j_al (np := 7) rfl rfl hI gA1 (by decide) (n := 16) rfl rfl (lo := -2147483648) (hi := 2147483647) (fun _ => rfl) (by omega) (by omega) ?_
  intro v4 e5 b6
  obtain ⟨v7, e8, b9⟩ : ∃ zz : Int, ev_w ((v1) - (v4)) = zz ∧ (-2147483648 ≤ zz ∧ zz ≤ 2147483647) := ⟨_, rfl, hw_bd _⟩
  refine w_t (np := 8) (l2 := [some (eR a0), some (eR a1), some (eI (a2)), some (eI (a3)), some (eR a4), some (eI (a5))]) (s2 := [eI (v7), eR a0]) rfl (b_isub e8) rfl ?_
  refine w_t (np := 9) (l2 := [some (eR a0), some (eR a1), some (eI (a2)), some (eI (a3)), some (eR a4), some (eI (a5))]) (s2 := [eJ (v7), eR a0]) rfl (b_i2l (ev_w_in (by omega) (by omega))) rfl ?_
  refine w_t (np := 10) (l2 := [some (eR a0), some (eR a1), some (eI (a2)), some (eI (a3)), some (eR a4), some (eI (a5))]) (s2 := [eR a1, eJ (v7), eR a0]) rfl (s_an rfl (pos_g hI gA1 (by decide))) rfl ?_
  refine w_t (np := 11) (l2 := [some (eR a0), some (eR a1), some (eI (a2)), some (eI (a3)), some (eR a4), some (eI (a5))]) (s2 := [eI (a3), eR a1, eJ (v7), eR a0]) rfl rfl rfl ?_
  refine w_t (np := 12) (l2 := [some (eR a0), some (eR a1), some (eI (a2)), some (eI (a3)), some (eR a4), some (eI (a5))]) (s2 := [eI (1), eI (a3), eR a1, eJ (v7), eR a0]) rfl rfl rfl ?_
  obtain ⟨v10, e11⟩ : ∃ zz : Int, zz = (a3) + (1) := ⟨_, rfl⟩
  have b12 : 1 ≤ v10 ∧ v10 ≤ 13 := by omega
  refine w_t (np := 13) (l2 := [some (eR a0), some (eR a1), some (eI (a2)), some (eI (a3)), some (eR a4), some (eI (a5))]) (s2 := [eI (v10), eR a1, eJ (v7), eR a0]) rfl (b_iadd (by rw [← e11]; exact ev_w_in (by omega) (by omega))) rfl ?_
  refine j_al (np := 14) rfl rfl hI gA1 (by decide) (n := 16) rfl rfl (lo := -2147483648) (hi := 2147483647) (fun _ => rfl) (by omega) (by omega) ?_
  intro v13 e14 b15
  refine w_t (np := 15) (l2 := [some (eR a0), some (eR a1), some (eI (a2)), some (eI (a3)), some (eR a4), some (eI (a5))]) (s2 := [eR a1, eI (v13), eJ (v7), eR a0]) rfl (s_an rfl (pos_g hI gA1 (by decide))) rfl ?_
  refine w_t (np := 16) (l2 := [some (eR a0), some (eR a1), some (eI (a2)), some (eI (a3)), some (eR a4), some (eI (a5))]) (s2 := [eI (a2), eR a1, eI (v13), eJ (v7), eR a0]) rfl rfl rfl ?_
  refine w_t (np := 17) (l2 := [some (eR a0), some (eR a1), some (eI (a2)), some (eI (a3)), some (eR a4), some (eI (a5))]) (s2 := [eI (1), eI (a2), eR a1, eI (v13), eJ (v7), eR a0]) rfl rfl rfl ?_
  obtain ⟨v16, e17⟩ : ∃ zz : Int, zz = (a2) + (1) := ⟨_, rfl⟩
  have b18 : 1 ≤ v16 ∧ v16 ≤ 13 := by omega
  refine w_t (np := 18) (l2 := [some (eR a0), some (eR a1), some (eI (a2)), some (eI (a3)), some (eR a4), some (eI (a5))]) (s2 := [eI (v16), eR a1, eI (v13), eJ (v7), eR a0]) rfl (b_iadd (by rw [← e17]; exact ev_w_in (by omega) (by omega))) rfl ?_
  refine j_al (np := 19) rfl rfl hI gA1 (by decide) (n := 16) rfl rfl (lo := -2147483648) (hi := 2147483647) (fun _ => rfl) (by omega) (by omega) ?_
  intro v19 e20 b21
  obtain ⟨v22, e23, b24⟩ : ∃ zz : Int, ev_w ((v13) - (v19)) = zz ∧ (-2147483648 ≤ zz ∧ zz ≤ 2147483647) := ⟨_, rfl, hw_bd _⟩
  refine w_t (np := 20) (l2 := [some (eR a0), some (eR a1), some (eI (a2)), some (eI (a3)), some (eR a4), some (eI (a5))]) (s2 := [eI (v22), eJ (v7), eR a0]) rfl (b_isub e23) rfl ?_
  refine w_t (np := 21) (l2 := [some (eR a0), some (eR a1), some (eI (a2)), some (eI (a3)), some (eR a4), some (eI (a5))]) (s2 := [eJ (v22), eJ (v7), eR a0]) rfl (b_i2l (ev_w_in (by omega) (by omega))) rfl ?_
  refine w_t (np := 22) (l2 := [some (eR a0), some (eR a1), some (eI (a2)), some (eI (a3)), some (eR a4), some (eI (a5))]) (s2 := [eR a1, eJ (v22), eJ (v7), eR a0]) rfl (s_an rfl (pos_g hI gA1 (by decide))) rfl ?_
  refine w_t (np := 23) (l2 := [some (eR a0), some (eR a1), some (eI (a2)), some (eI (a3)), some (eR a4), some (eI (a5))]) (s2 := [eI (a3), eR a1, eJ (v22), eJ (v7), eR a0]) rfl rfl rfl ?_
  refine w_t (np := 24) (l2 := [some (eR a0), some (eR a1), some (eI (a2)), some (eI (a3)), some (eR a4), some (eI (a5))]) (s2 := [eI (2), eI (a3), eR a1, eJ (v22), eJ (v7), eR a0]) rfl rfl rfl ?_
  obtain ⟨v25, e26⟩ : ∃ zz : Int, zz = (a3) + (2) := ⟨_, rfl⟩
  have b27 : 2 ≤ v25 ∧ v25 ≤ 14 := by omega
  refine w_t (np := 25) (l2 := [some (eR a0), some (eR a1), some (eI (a2)), some (eI (a3)), some (eR a4), some (eI (a5))]) (s2 := [eI (v25), eR a1, eJ (v22), eJ (v7), eR a0]) rfl (b_iadd (by rw [← e26]; exact ev_w_in (by omega) (by omega))) rfl ?_
  refine j_al (np := 26) rfl rfl hI gA1 (by decide) (n := 16) rfl rfl (lo := -2147483648) (hi := 2147483647) (fun _ => rfl) (by omega) (by omega) ?_
  intro v28 e29 b30
  refine w_t (np := 27) (l2 := [some (eR a0), some (eR a1), some (eI (a2)), some (eI (a3)), some (eR a4), some (eI (a5))]) (s2 := [eR a1, eI (v28), eJ (v22), eJ (v7), eR a0]) rfl (s_an rfl (pos_g hI gA1 (by decide))) rfl ?_
  refine w_t (np := 28) (l2 := [some (eR a0), some (eR a1), some (eI (a2)), some (eI (a3)), some (eR a4), some (eI (a5))]) (s2 := [eI (a2), eR a1, eI (v28), eJ (v22), eJ (v7), eR a0]) rfl rfl rfl ?_
  refine w_t (np := 29) (l2 := [some (eR a0), some (eR a1), some (eI (a2)), some (eI (a3)), some (eR a4), some (eI (a5))]) (s2 := [eI (2), eI (a2), eR a1, eI (v28), eJ (v22), eJ (v7), eR a0]) rfl rfl rfl ?_
  obtain ⟨v31, e32⟩ : ∃ zz : Int, zz = (a2) + (2) := ⟨_, rfl⟩
  have b33 : 2 ≤ v31 ∧ v31 ≤ 14 := by omega
  refine w_t (np := 30) (l2 := [some (eR a0), some (eR a1), some (eI (a2)), some (eI (a3)), some (eR a4), some (eI (a5))]) (s2 := [eI (v31), eR a1, eI (v28), eJ (v22), eJ (v7), eR a0]) rfl (b_iadd (by rw [← e32]; exact ev_w_in (by omega) (by omega))) rfl ?_
  refine j_al (np := 31) rfl rfl hI gA1 (by decide) (n := 16) rfl rfl (lo := -2147483648) (hi := 2147483647) (fun _ => rfl) (by omega) (by omega) ?_
  intro v34 e35 b36
  obtain ⟨v37, e38, b39⟩ : ∃ zz : Int, ev_w ((v28) - (v34)) = zz ∧ (-2147483648 ≤ zz ∧ zz ≤ 2147483647) := ⟨_, rfl, hw_bd _⟩
  refine w_t (np := 32) (l2 := [some (eR a0), some (eR a1), some (eI (a2)), some (eI (a3)), some (eR a4), some (eI (a5))]) (s2 := [eI (v37), eJ (v22), eJ (v7), eR a0]) rfl (b_isub e38) rfl ?_
  refine w_t (np := 33) (l2 := [some (eR a0), some (eR a1), some (eI (a2)), some (eI (a3)), some (eR a4), some (eI (a5))]) (s2 := [eJ (v37), eJ (v22), eJ (v7), eR a0]) rfl (b_i2l (ev_w_in (by omega) (by omega))) rfl ?_
  refine w_t (np := 34) (l2 := [some (eR a0), some (eR a1), some (eI (a2)), some (eI (a3)), some (eR a4), some (eI (a5))]) (s2 := [eR a1, eJ (v37), eJ (v22), eJ (v7), eR a0]) rfl (s_an rfl (pos_g hI gA1 (by decide))) rfl ?_
  refine w_t (np := 35) (l2 := [some (eR a0), some (eR a1), some (eI (a2)), some (eI (a3)), some (eR a4), some (eI (a5))]) (s2 := [eI (a3), eR a1, eJ (v37), eJ (v22), eJ (v7), eR a0]) rfl rfl rfl ?_
  refine w_t (np := 36) (l2 := [some (eR a0), some (eR a1), some (eI (a2)), some (eI (a3)), some (eR a4), some (eI (a5))]) (s2 := [eI (3), eI (a3), eR a1, eJ (v37), eJ (v22), eJ (v7), eR a0]) rfl rfl rfl ?_
  obtain ⟨v40, e41⟩ : ∃ zz : Int, zz = (a3) + (3) := ⟨_, rfl⟩
  have b42 : 3 ≤ v40 ∧ v40 ≤ 15 := by omega
  refine w_t (np := 37) (l2 := [some (eR a0), some (eR a1), some (eI (a2)), some (eI (a3)), some (eR a4), some (eI (a5))]) (s2 := [eI (v40), eR a1, eJ (v37), eJ (v22), eJ (v7), eR a0]) rfl (b_iadd (by rw [← e41]; exact ev_w_in (by omega) (by omega))) rfl ?_
  refine j_al (np := 38) rfl rfl hI gA1 (by decide) (n := 16) rfl rfl (lo := -2147483648) (hi := 2147483647) (fun _ => rfl) (by omega) (by omega) ?_
  intro v43 e44 b45
  refine w_t (np := 39) (l2 := [some (eR a0), some (eR a1), some (eI (a2)), some (eI (a3)), some (eR a4), some (eI (a5))]) (s2 := [eR a1, eI (v43), eJ (v37), eJ (v22), eJ (v7), eR a0]) rfl (s_an rfl (pos_g hI gA1 (by decide))) rfl ?_
  refine w_t (np := 40) (l2 := [some (eR a0), some (eR a1), some (eI (a2)), some (eI (a3)), some (eR a4), some (eI (a5))]) (s2 := [eI (a2), eR a1, eI (v43), eJ (v37), eJ (v22), eJ (v7), eR a0]) rfl rfl rfl ?_
  refine w_t (np := 41) (l2 := [some (eR a0), some (eR a1), some (eI (a2)), some (eI (a3)), some (eR a4), some (eI (a5))]) (s2 := [eI (3), eI (a2), eR a1, eI (v43), eJ (v37), eJ (v22), eJ (v7), eR a0]) rfl rfl rfl ?_
  obtain ⟨v46, e47⟩ : ∃ zz : Int, zz = (a2) + (3) := ⟨_, rfl⟩
  have b48 : 3 ≤ v46 ∧ v46 ≤ 15 := by omega
  refine w_t (np := 42) (l2 := [some (eR a0), some (eR a1), some (eI (a2)), some (eI (a3)), some (eR a4), some (eI (a5))]) (s2 := [eI (v46), eR a1, eI (v43), eJ (v37), eJ (v22), eJ (v7), eR a0]) rfl (b_iadd (by rw [← e47]; exact ev_w_in (by omega) (by omega))) rfl ?_
  refine j_al (np := 43) rfl rfl hI gA1 (by decide) (n := 16) rfl rfl (lo := -2147483648) (hi := 2147483647) (fun _ => rfl) (by omega) (by omega) ?_
  intro v49 e50 b51
  obtain ⟨v52, e53, b54⟩ : ∃ zz : Int, ev_w ((v43) - (v49)) = zz ∧ (-2147483648 ≤ zz ∧ zz ≤ 2147483647) := ⟨_, rfl, hw_bd _⟩
  refine w_t (np := 44) (l2 := [some (eR a0), some (eR a1), some (eI (a2)), some (eI (a3)), some (eR a4), some (eI (a5))]) (s2 := [eI (v52), eJ (v37), eJ (v22), eJ (v7), eR a0]) rfl (b_isub e53) rfl ?_
  refine w_t (np := 45) (l2 := [some (eR a0), some (eR a1), some (eI (a2)), some (eI (a3)), some (eR a4), some (eI (a5))]) (s2 := [eJ (v52), eJ (v37), eJ (v22), eJ (v7), eR a0]) rfl (b_i2l (ev_w_in (by omega) (by omega))) rfl ?_
  refine w_t (np := 47) (l2 := [some (eR a0), some (eR a1), some (eI (a2)), some (eI (a3)), some (eR a4), some (eI (a5))]) (s2 := [eR a4, eJ (v52), eJ (v37), eJ (v22), eJ (v7), eR a0]) rfl (s_ao rfl (pos_g hI gA4 (by decide))) rfl ?_
  refine w_t (np := 49) (l2 := [some (eR a0), some (eR a1), some (eI (a2)), some (eI (a3)), some (eR a4), some (eI (a5))]) (s2 := [eI (a5), eR a4, eJ (v52), eJ (v37), eJ (v22), eJ (v7), eR a0]) rfl rfl rfl ?_
  refine j_al (np := 50) rfl rfl hI gA4 (by decide) (n := 16) rfl rfl (lo := -2147483648) (hi := 2147483647) (fun _ => rfl) (by omega) (by omega) ?_
  intro v55 e56 b57
  refine w_t (np := 51) (l2 := [some (eR a0), some (eR a1), some (eI (a2)), some (eI (a3)), some (eR a4), some (eI (a5))]) (s2 := [eR a1, eI (v55), eJ (v52), eJ (v37), eJ (v22), eJ (v7), eR a0]) rfl (s_an rfl (pos_g hI gA1 (by decide))) rfl ?_
  refine w_t (np := 52) (l2 := [some (eR a0), some (eR a1), some (eI (a2)), some (eI (a3)), some (eR a4), some (eI (a5))]) (s2 := [eI (a2), eR a1, eI (v55), eJ (v52), eJ (v37), eJ (v22), eJ (v7), eR a0]) rfl rfl rfl ?_
  refine j_al (np := 53) rfl rfl hI gA1 (by decide) (n := 16) rfl rfl (lo := -2147483648) (hi := 2147483647) (fun _ => rfl) (by omega) (by omega) ?_
  intro v58 e59 b60
  have e59 := e59.symm.trans e5
  rw [e59]
  obtain ⟨v61, e62, b63⟩ : ∃ zz : Int, ev_w ((v55) - (v4)) = zz ∧ (-2147483648 ≤ zz ∧ zz ≤ 2147483647) := ⟨_, rfl, hw_bd _⟩
  refine w_t (np := 54) (l2 := [some (eR a0), some (eR a1), some (eI (a2)), some (eI (a3)), some (eR a4), some (eI (a5))]) (s2 := [eI (v61), eJ (v52), eJ (v37), eJ (v22), eJ (v7), eR a0]) rfl (b_isub e62) rfl ?_
  refine w_t (np := 55) (l2 := [some (eR a0), some (eR a1), some (eI (a2)), some (eI (a3)), some (eR a4), some (eI (a5))]) (s2 := [eJ (v61), eJ (v52), eJ (v37), eJ (v22), eJ (v7), eR a0]) rfl (b_i2l (ev_w_in (by omega) (by omega))) rfl ?_
  refine w_t (np := 57) (l2 := [some (eR a0), some (eR a1), some (eI (a2)), some (eI (a3)), some (eR a4), some (eI (a5))]) (s2 := [eR a4, eJ (v61), eJ (v52), eJ (v37), eJ (v22), eJ (v7), eR a0]) rfl (s_ao rfl (pos_g hI gA4 (by decide))) rfl ?_
  refine w_t (np := 59) (l2 := [some (eR a0), some (eR a1), some (eI (a2)), some (eI (a3)), some (eR a4), some (eI (a5))]) (s2 := [eI (a5), eR a4, eJ (v61), eJ (v52), eJ (v37), eJ (v22), eJ (v7), eR a0]) rfl rfl rfl ?_
  refine w_t (np := 60) (l2 := [some (eR a0), some (eR a1), some (eI (a2)), some (eI (a3)), some (eR a4), some (eI (a5))]) (s2 := [eI (1), eI (a5), eR a4, eJ (v61), eJ (v52), eJ (v37), eJ (v22), eJ (v7), eR a0]) rfl rfl rfl ?_
  obtain ⟨v64, e65⟩ : ∃ zz : Int, zz = (a5) + (1) := ⟨_, rfl⟩
  have b66 : 1 ≤ v64 ∧ v64 ≤ 13 := by omega
  refine w_t (np := 61) (l2 := [some (eR a0), some (eR a1), some (eI (a2)), some (eI (a3)), some (eR a4), some (eI (a5))]) (s2 := [eI (v64), eR a4, eJ (v61), eJ (v52), eJ (v37), eJ (v22), eJ (v7), eR a0]) rfl (b_iadd (by rw [← e65]; exact ev_w_in (by omega) (by omega))) rfl ?_
  refine j_al (np := 62) rfl rfl hI gA4 (by decide) (n := 16) rfl rfl (lo := -2147483648) (hi := 2147483647) (fun _ => rfl) (by omega) (by omega) ?_
  intro v67 e68 b69
  refine w_t (np := 63) (l2 := [some (eR a0), some (eR a1), some (eI (a2)), some (eI (a3)), some (eR a4), some (eI (a5))]) (s2 := [eR a1, eI (v67), eJ (v61), eJ (v52), eJ (v37), eJ (v22), eJ (v7), eR a0]) rfl (s_an rfl (pos_g hI gA1 (by decide))) rfl ?_
  refine w_t (np := 64) (l2 := [some (eR a0), some (eR a1), some (eI (a2)), some (eI (a3)), some (eR a4), some (eI (a5))]) (s2 := [eI (a2), eR a1, eI (v67), eJ (v61), eJ (v52), eJ (v37), eJ (v22), eJ (v7), eR a0]) rfl rfl rfl ?_
  refine w_t (np := 65) (l2 := [some (eR a0), some (eR a1), some (eI (a2)), some (eI (a3)), some (eR a4), some (eI (a5))]) (s2 := [eI (1), eI (a2), eR a1, eI (v67), eJ (v61), eJ (v52), eJ (v37), eJ (v22), eJ (v7), eR a0]) rfl rfl rfl ?_
  obtain ⟨v70, e71⟩ : ∃ zz : Int, zz = (a2) + (1) := ⟨_, rfl⟩
  have b72 : 1 ≤ v70 ∧ v70 ≤ 13 := by omega
  refine w_t (np := 66) (l2 := [some (eR a0), some (eR a1), some (eI (a2)), some (eI (a3)), some (eR a4), some (eI (a5))]) (s2 := [eI (v70), eR a1, eI (v67), eJ (v61), eJ (v52), eJ (v37), eJ (v22), eJ (v7), eR a0]) rfl (b_iadd (by rw [← e71]; exact ev_w_in (by omega) (by omega))) rfl ?_
  refine j_al (np := 67) rfl rfl hI gA1 (by decide) (n := 16) rfl rfl (lo := -2147483648) (hi := 2147483647) (fun _ => rfl) (by omega) (by omega) ?_
  intro v73 e74 b75
  obtain ⟨v76, e77, b78⟩ : ∃ zz : Int, ev_w ((v67) - (v73)) = zz ∧ (-2147483648 ≤ zz ∧ zz ≤ 2147483647) := ⟨_, rfl, hw_bd _⟩
  refine w_t (np := 68) (l2 := [some (eR a0), some (eR a1), some (eI (a2)), some (eI (a3)), some (eR a4), some (eI (a5))]) (s2 := [eI (v76), eJ (v61), eJ (v52), eJ (v37), eJ (v22), eJ (v7), eR a0]) rfl (b_isub e77) rfl ?_
  refine w_t (np := 69) (l2 := [some (eR a0), some (eR a1), some (eI (a2)), some (eI (a3)), some (eR a4), some (eI (a5))]) (s2 := [eJ (v76), eJ (v61), eJ (v52), eJ (v37), eJ (v22), eJ (v7), eR a0]) rfl (b_i2l (ev_w_in (by omega) (by omega))) rfl ?_
  refine w_t (np := 71) (l2 := [some (eR a0), some (eR a1), some (eI (a2)), some (eI (a3)), some (eR a4), some (eI (a5))]) (s2 := [eR a4, eJ (v76), eJ (v61), eJ (v52), eJ (v37), eJ (v22), eJ (v7), eR a0]) rfl (s_ao rfl (pos_g hI gA4 (by decide))) rfl ?_
  refine w_t (np := 73) (l2 := [some (eR a0), some (eR a1), some (eI (a2)), some (eI (a3)), some (eR a4), some (eI (a5))]) (s2 := [eI (a5), eR a4, eJ (v76), eJ (v61), eJ (v52), eJ (v37), eJ (v22), eJ (v7), eR a0]) rfl rfl rfl ?_
  refine w_t (np := 74) (l2 := [some (eR a0), some (eR a1), some (eI (a2)), some (eI (a3)), some (eR a4), some (eI (a5))]) (s2 := [eI (2), eI (a5), eR a4, eJ (v76), eJ (v61), eJ (v52), eJ (v37), eJ (v22), eJ (v7), eR a0]) rfl rfl rfl ?_
  obtain ⟨v79, e80⟩ : ∃ zz : Int, zz = (a5) + (2) := ⟨_, rfl⟩
  have b81 : 2 ≤ v79 ∧ v79 ≤ 14 := by omega
  refine w_t (np := 75) (l2 := [some (eR a0), some (eR a1), some (eI (a2)), some (eI (a3)), some (eR a4), some (eI (a5))]) (s2 := [eI (v79), eR a4, eJ (v76), eJ (v61), eJ (v52), eJ (v37), eJ (v22), eJ (v7), eR a0]) rfl (b_iadd (by rw [← e80]; exact ev_w_in (by omega) (by omega))) rfl ?_
  refine j_al (np := 76) rfl rfl hI gA4 (by decide) (n := 16) rfl rfl (lo := -2147483648) (hi := 2147483647) (fun _ => rfl) (by omega) (by omega) ?_
  intro v82 e83 b84
  refine w_t (np := 77) (l2 := [some (eR a0), some (eR a1), some (eI (a2)), some (eI (a3)), some (eR a4), some (eI (a5))]) (s2 := [eR a1, eI (v82), eJ (v76), eJ (v61), eJ (v52), eJ (v37), eJ (v22), eJ (v7), eR a0]) rfl (s_an rfl (pos_g hI gA1 (by decide))) rfl ?_
  refine w_t (np := 78) (l2 := [some (eR a0), some (eR a1), some (eI (a2)), some (eI (a3)), some (eR a4), some (eI (a5))]) (s2 := [eI (a2), eR a1, eI (v82), eJ (v76), eJ (v61), eJ (v52), eJ (v37), eJ (v22), eJ (v7), eR a0]) rfl rfl rfl ?_
  refine w_t (np := 79) (l2 := [some (eR a0), some (eR a1), some (eI (a2)), some (eI (a3)), some (eR a4), some (eI (a5))]) (s2 := [eI (2), eI (a2), eR a1, eI (v82), eJ (v76), eJ (v61), eJ (v52), eJ (v37), eJ (v22), eJ (v7), eR a0]) rfl rfl rfl ?_
  obtain ⟨v85, e86⟩ : ∃ zz : Int, zz = (a2) + (2) := ⟨_, rfl⟩
  have b87 : 2 ≤ v85 ∧ v85 ≤ 14 := by omega
  refine w_t (np := 80) (l2 := [some (eR a0), some (eR a1), some (eI (a2)), some (eI (a3)), some (eR a4), some (eI (a5))]) (s2 := [eI (v85), eR a1, eI (v82), eJ (v76), eJ (v61), eJ (v52), eJ (v37), eJ (v22), eJ (v7), eR a0]) rfl (b_iadd (by rw [← e86]; exact ev_w_in (by omega) (by omega))) rfl ?_
  refine j_al (np := 81) rfl rfl hI gA1 (by decide) (n := 16) rfl rfl (lo := -2147483648) (hi := 2147483647) (fun _ => rfl) (by omega) (by omega) ?_
  intro v88 e89 b90
  obtain ⟨v91, e92, b93⟩ : ∃ zz : Int, ev_w ((v82) - (v88)) = zz ∧ (-2147483648 ≤ zz ∧ zz ≤ 2147483647) := ⟨_, rfl, hw_bd _⟩
  refine w_t (np := 82) (l2 := [some (eR a0), some (eR a1), some (eI (a2)), some (eI (a3)), some (eR a4), some (eI (a5))]) (s2 := [eI (v91), eJ (v76), eJ (v61), eJ (v52), eJ (v37), eJ (v22), eJ (v7), eR a0]) rfl (b_isub e92) rfl ?_
  refine w_t (np := 83) (l2 := [some (eR a0), some (eR a1), some (eI (a2)), some (eI (a3)), some (eR a4), some (eI (a5))]) (s2 := [eJ (v91), eJ (v76), eJ (v61), eJ (v52), eJ (v37), eJ (v22), eJ (v7), eR a0]) rfl (b_i2l (ev_w_in (by omega) (by omega))) rfl ?_
  refine w_t (np := 85) (l2 := [some (eR a0), some (eR a1), some (eI (a2)), some (eI (a3)), some (eR a4), some (eI (a5))]) (s2 := [eR a4, eJ (v91), eJ (v76), eJ (v61), eJ (v52), eJ (v37), eJ (v22), eJ (v7), eR a0]) rfl (s_ao rfl (pos_g hI gA4 (by decide))) rfl ?_
  refine w_t (np := 87) (l2 := [some (eR a0), some (eR a1), some (eI (a2)), some (eI (a3)), some (eR a4), some (eI (a5))]) (s2 := [eI (a5), eR a4, eJ (v91), eJ (v76), eJ (v61), eJ (v52), eJ (v37), eJ (v22), eJ (v7), eR a0]) rfl rfl rfl ?_
  refine w_t (np := 88) (l2 := [some (eR a0), some (eR a1), some (eI (a2)), some (eI (a3)), some (eR a4), some (eI (a5))]) (s2 := [eI (3), eI (a5), eR a4, eJ (v91), eJ (v76), eJ (v61), eJ (v52), eJ (v37), eJ (v22), eJ (v7), eR a0]) rfl rfl rfl ?_
  obtain ⟨v94, e95⟩ : ∃ zz : Int, zz = (a5) + (3) := ⟨_, rfl⟩
  have b96 : 3 ≤ v94 ∧ v94 ≤ 15 := by omega
  refine w_t (np := 89) (l2 := [some (eR a0), some (eR a1), some (eI (a2)), some (eI (a3)), some (eR a4), some (eI (a5))]) (s2 := [eI (v94), eR a4, eJ (v91), eJ (v76), eJ (v61), eJ (v52), eJ (v37), eJ (v22), eJ (v7), eR a0]) rfl (b_iadd (by rw [← e95]; exact ev_w_in (by omega) (by omega))) rfl ?_
  refine j_al (np := 90) rfl rfl hI gA4 (by decide) (n := 16) rfl rfl (lo := -2147483648) (hi := 2147483647) (fun _ => rfl) (by omega) (by omega) ?_
  intro v97 e98 b99
  refine w_t (np := 91) (l2 := [some (eR a0), some (eR a1), some (eI (a2)), some (eI (a3)), some (eR a4), some (eI (a5))]) (s2 := [eR a1, eI (v97), eJ (v91), eJ (v76), eJ (v61), eJ (v52), eJ (v37), eJ (v22), eJ (v7), eR a0]) rfl (s_an rfl (pos_g hI gA1 (by decide))) rfl ?_
  refine w_t (np := 92) (l2 := [some (eR a0), some (eR a1), some (eI (a2)), some (eI (a3)), some (eR a4), some (eI (a5))]) (s2 := [eI (a2), eR a1, eI (v97), eJ (v91), eJ (v76), eJ (v61), eJ (v52), eJ (v37), eJ (v22), eJ (v7), eR a0]) rfl rfl rfl ?_
  refine w_t (np := 93) (l2 := [some (eR a0), some (eR a1), some (eI (a2)), some (eI (a3)), some (eR a4), some (eI (a5))]) (s2 := [eI (3), eI (a2), eR a1, eI (v97), eJ (v91), eJ (v76), eJ (v61), eJ (v52), eJ (v37), eJ (v22), eJ (v7), eR a0]) rfl rfl rfl ?_
  obtain ⟨v100, e101⟩ : ∃ zz : Int, zz = (a2) + (3) := ⟨_, rfl⟩
  have b102 : 3 ≤ v100 ∧ v100 ≤ 15 := by omega
  refine w_t (np := 94) (l2 := [some (eR a0), some (eR a1), some (eI (a2)), some (eI (a3)), some (eR a4), some (eI (a5))]) (s2 := [eI (v100), eR a1, eI (v97), eJ (v91), eJ (v76), eJ (v61), eJ (v52), eJ (v37), eJ (v22), eJ (v7), eR a0]) rfl (b_iadd (by rw [← e101]; exact ev_w_in (by omega) (by omega))) rfl ?_
  refine j_al (np := 95) rfl rfl hI gA1 (by decide) (n := 16) rfl rfl (lo := -2147483648) (hi := 2147483647) (fun _ => rfl) (by omega) (by omega) ?_
  intro v103 e104 b105
  obtain ⟨v106, e107, b108⟩ : ∃ zz : Int, ev_w ((v97) - (v103)) = zz ∧ (-2147483648 ≤ zz ∧ zz ≤ 2147483647) := ⟨_, rfl, hw_bd _⟩
  refine w_t (np := 96) (l2 := [some (eR a0), some (eR a1), some (eI (a2)), some (eI (a3)), some (eR a4), some (eI (a5))]) (s2 := [eI (v106), eJ (v91), eJ (v76), eJ (v61), eJ (v52), eJ (v37), eJ (v22), eJ (v7), eR a0]) rfl (b_isub e107) rfl ?_
  refine w_t (np := 97) (l2 := [some (eR a0), some (eR a1), some (eI (a2)), some (eI (a3)), some (eR a4), some (eI (a5))]) (s2 := [eJ (v106), eJ (v91), eJ (v76), eJ (v61), eJ (v52), eJ (v37), eJ (v22), eJ (v7), eR a0]) rfl (b_i2l (ev_w_in (by omega) (by omega))) rfl ?_
  refine w_cw (np := 100) (as := [eJ (v7), eJ (v22), eJ (v37), eJ (v52), eJ (v61), eJ (v76), eJ (v91), eJ (v106)]) (l2 := [some (eR a0), some (eJ (v7)), none, some (eJ (v22)), none, some (eJ (v37)), none, some (eJ (v52)), none, some (eJ (v61)), none, some (eJ (v76)), none, some (eJ (v91)), none, some (eJ (v106)), none]) (rest := []) rfl rfl rfl (Nat.ble_eq.mp rfl) rfl rfl rfl (hI.kd gA0 (by decide) (n := 69) rfl) rfl ?_
  refine s_224 hI gA0 (by omega) (by omega) (by omega) (by omega) (by omega) (by omega) (by omega) (by omega) ?_
  intro m109 v112 I110 F111 b113
  have F114 : Fr l_305_4 0 0 g μ m109 := F0.t F111 rfl
  show ex_q (dt_fg L ρ) rc (d + 4, (305, 100, [some (eR a0), some (eR a1), some (eI (a2)), some (eI (a3)), some (eR a4), some (eI (a5))], [eI (v112)]), f :: F, m109)
  exact b_ri rfl rfl (K m109 (v112) I110 F114 (by omega))
