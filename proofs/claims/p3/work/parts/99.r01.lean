/-! methods, walked -/
theorem s_244 {L : Nat} {ρ : Nat → Int} {rc : eQ} {d : Nat} {f : eFr} {F : List eFr} {μ : eM} {g : Nat → Nat} {a0 : Nat} {a1 : Int} {a2 : Int} (hI : SI g μ) (gA0 : g a0 = 52) (bA1 : 0 ≤ a1 ∧ a1 ≤ 889) (bA2 : 0 ≤ a2 ∧ a2 ≤ 1) (K : ∀ (v : Int), (0 ≤ v ∧ v ≤ 3) → ex_q (dt_fg L ρ) rc (d + 2, (f.1, f.2.1, f.2.2.1, eI v :: f.2.2.2), F, μ)) : ex_q (dt_fg L ρ) rc (d + 1, (244, 0, [some (eR a0), some (eI (a1)), some (eI (a2)), none, none, none], []), f :: F, μ) := by
  refine w_t (np := 1) (l2 := [some (eR a0), some (eI (a1)), some (eI (a2)), none, none, none]) (s2 := [eR a0]) rfl (s_an rfl (pos_g hI gA0 (by decide))) rfl ?_
  refine w_t (np := 2) (l2 := [some (eR a0), some (eI (a1)), some (eI (a2)), none, none, none]) (s2 := [eI (a1), eR a0]) rfl rfl rfl ?_
  refine w_t (np := 3) (l2 := [some (eR a0), some (eI (a1)), some (eI (a2)), none, none, none]) (s2 := [eI (0), eI (a1), eR a0]) rfl rfl rfl ?_
  refine w_cw (np := 6) (as := [eI (a1), eI (0)]) (l2 := [some (eR a0), some (eI (a1)), some (eI (0))]) (rest := []) rfl rfl rfl (Nat.ble_eq.mp rfl) rfl rfl rfl (hI.kd gA0 (by decide) (n := 69) rfl) rfl ?_
  refine w_t (np := 1) (l2 := [some (eR a0), some (eI (a1)), some (eI (0))]) (s2 := [eR a0]) rfl (s_an rfl (pos_g hI gA0 (by decide))) rfl ?_
  refine j_gr (np := 4) rfl rfl hI gA0 (by decide) (n := 69) rfl rfl rfl ?_
  intro v1 e2 b3 z4
  have b3 : g v1 = 64 := Nat.eq_of_beq_eq_true b3
  refine w_t (np := 5) (l2 := [some (eR a0), some (eI (a1)), some (eI (0))]) (s2 := [eI (3), eR v1]) rfl rfl rfl ?_
  refine w_t (np := 6) (l2 := [some (eR a0), some (eI (a1)), some (eI (0))]) (s2 := [eI (a1), eI (3), eR v1]) rfl rfl rfl ?_
  obtain ⟨v5, e6⟩ : ∃ zz : Int, zz = (3) * (a1) := ⟨_, rfl⟩
  have b7 : 0 ≤ v5 ∧ v5 ≤ 2667 := by omega
  refine w_t (np := 7) (l2 := [some (eR a0), some (eI (a1)), some (eI (0))]) (s2 := [eI (v5), eR v1]) rfl (b_imul (by rw [← e6]; exact ev_w_in (by omega) (by omega))) rfl ?_
  refine w_t (np := 8) (l2 := [some (eR a0), some (eI (a1)), some (eI (0))]) (s2 := [eI (0), eI (v5), eR v1]) rfl rfl rfl ?_
  refine w_t (np := 9) (l2 := [some (eR a0), some (eI (a1)), some (eI (0))]) (s2 := [eI (v5), eR v1]) rfl (b_iadd (by rw [Int.add_zero]; exact ev_w_in (by omega) (by omega))) rfl ?_
  refine j_al (np := 10) rfl rfl hI b3 (by decide) (n := 2670) rfl rfl (lo := 0) (hi := 2669) (fun _ => rfl) (by omega) (by omega) ?_
  intro v8 e9 b10
  refine b_ri rfl rfl ?_
  show ex_q (dt_fg L ρ) rc (d + 1, (244, 6, [some (eR a0), some (eI (a1)), some (eI (a2)), none, none, none], [eI (v8)]), f :: F, μ)
  refine w_t (np := 7) (l2 := [some (eR a0), some (eI (a1)), some (eI (a2)), some (eI (v8)), none, none]) (s2 := []) rfl rfl rfl ?_
  refine w_t (np := 8) (l2 := [some (eR a0), some (eI (a1)), some (eI (a2)), some (eI (v8)), none, none]) (s2 := [eR a0]) rfl (s_an rfl (pos_g hI gA0 (by decide))) rfl ?_
  refine w_t (np := 9) (l2 := [some (eR a0), some (eI (a1)), some (eI (a2)), some (eI (v8)), none, none]) (s2 := [eI (a1), eR a0]) rfl rfl rfl ?_
  refine w_t (np := 10) (l2 := [some (eR a0), some (eI (a1)), some (eI (a2)), some (eI (v8)), none, none]) (s2 := [eI (a2), eI (a1), eR a0]) rfl rfl rfl ?_
  refine b_ieq (t1 := 17) (t2 := 13) rfl rfl rfl (ev_w_in (by omega) (by omega)) (fun g11 => ?_) (fun g11 => ?_)
  · have b12 : 0 ≤ a2 ∧ a2 ≤ 0 := by omega
    refine w_t (np := 18) (l2 := [some (eR a0), some (eI (a1)), some (eI (a2)), some (eI (v8)), none, none]) (s2 := [eI (2), eI (a1), eR a0]) rfl rfl rfl ?_
    refine w_cw (np := 21) (as := [eI (a1), eI (2)]) (l2 := [some (eR a0), some (eI (a1)), some (eI (2))]) (rest := []) rfl rfl rfl (Nat.ble_eq.mp rfl) rfl rfl rfl (hI.kd gA0 (by decide) (n := 69) rfl) rfl ?_
    refine w_t (np := 1) (l2 := [some (eR a0), some (eI (a1)), some (eI (2))]) (s2 := [eR a0]) rfl (s_an rfl (pos_g hI gA0 (by decide))) rfl ?_
    refine w_gf (np := 4) (v := eR v1) rfl rfl (hI.kd gA0 (by decide) (n := 69) rfl) (by rw [e2]; rfl) ?_
    refine w_t (np := 5) (l2 := [some (eR a0), some (eI (a1)), some (eI (2))]) (s2 := [eI (3), eR v1]) rfl rfl rfl ?_
    refine w_t (np := 6) (l2 := [some (eR a0), some (eI (a1)), some (eI (2))]) (s2 := [eI (a1), eI (3), eR v1]) rfl rfl rfl ?_
    obtain ⟨v12, e13⟩ : ∃ zz : Int, zz = (3) * (a1) := ⟨_, rfl⟩
    have b14 : 0 ≤ v12 ∧ v12 ≤ 2667 := by omega
    refine w_t (np := 7) (l2 := [some (eR a0), some (eI (a1)), some (eI (2))]) (s2 := [eI (v12), eR v1]) rfl (b_imul (by rw [← e13]; exact ev_w_in (by omega) (by omega))) rfl ?_
    refine w_t (np := 8) (l2 := [some (eR a0), some (eI (a1)), some (eI (2))]) (s2 := [eI (2), eI (v12), eR v1]) rfl rfl rfl ?_
    obtain ⟨v15, e16⟩ : ∃ zz : Int, zz = (v12) + (2) := ⟨_, rfl⟩
    have b17 : 2 ≤ v15 ∧ v15 ≤ 2669 := by omega
    refine w_t (np := 9) (l2 := [some (eR a0), some (eI (a1)), some (eI (2))]) (s2 := [eI (v15), eR v1]) rfl (b_iadd (by rw [← e16]; exact ev_w_in (by omega) (by omega))) rfl ?_
    refine j_al (np := 10) rfl rfl hI b3 (by decide) (n := 2670) rfl rfl (lo := 0) (hi := 2669) (fun _ => rfl) (by omega) (by omega) ?_
    intro v18 e19 b20
    refine b_ri rfl rfl ?_
    show ex_q (dt_fg L ρ) rc (d + 1, (244, 21, [some (eR a0), some (eI (a1)), some (eI (a2)), some (eI (v8)), none, none], [eI (v18)]), f :: F, μ)
    refine w_t (np := 23) (l2 := [some (eR a0), some (eI (a1)), some (eI (a2)), some (eI (v8)), some (eI (v18)), none]) (s2 := []) rfl rfl rfl ?_
    refine w_t (np := 24) (l2 := [some (eR a0), some (eI (a1)), some (eI (a2)), some (eI (v8)), some (eI (v18)), none]) (s2 := [eI (a2)]) rfl rfl rfl ?_
    refine b_ieq (t1 := 36) (t2 := 27) rfl rfl rfl (ev_w_in (by omega) (by omega)) (fun g21 => ?_) (fun g21 => False.elim (by omega))
    refine w_t (np := 37) (l2 := [some (eR a0), some (eI (a1)), some (eI (a2)), some (eI (v8)), some (eI (v18)), none]) (s2 := [eI (1)]) rfl rfl rfl ?_
    refine w_go (t1 := 41) rfl rfl ?_
    refine w_t (np := 43) (l2 := [some (eR a0), some (eI (a1)), some (eI (a2)), some (eI (v8)), some (eI (v18)), some (eI (1))]) (s2 := []) rfl rfl rfl ?_
    refine w_t (np := 44) (l2 := [some (eR a0), some (eI (a1)), some (eI (a2)), some (eI (v8)), some (eI (v18)), some (eI (1))]) (s2 := [eI (a2)]) rfl rfl rfl ?_
    refine b_ieq (t1 := 51) (t2 := 47) rfl rfl rfl (ev_w_in (by omega) (by omega)) (fun g22 => ?_) (fun g22 => False.elim (by omega))
    refine w_t (np := 52) (l2 := [some (eR a0), some (eI (a1)), some (eI (a2)), some (eI (v8)), some (eI (v18)), some (eI (1))]) (s2 := [eI (2)]) rfl rfl rfl ?_
    refine w_t (np := 53) (l2 := [some (eR a0), some (eI (a1)), some (eI (a2)), some (eI (v8)), some (eI (v18)), some (eI (1))]) (s2 := [eI (v8), eI (2)]) rfl rfl rfl ?_
    refine w_t (np := 55) (l2 := [some (eR a0), some (eI (a1)), some (eI (a2)), some (eI (v8)), some (eI (v18)), some (eI (1))]) (s2 := [eI (v18), eI (v8), eI (2)]) rfl rfl rfl ?_
    refine b_cge (t1 := 62) (t2 := 58) rfl rfl rfl (ev_w_in (by omega) (by omega)) (ev_w_in (by omega) (by omega)) (fun g23 => ?_) (fun g23 => ?_)
    · refine w_t (np := 63) (l2 := [some (eR a0), some (eI (a1)), some (eI (a2)), some (eI (v8)), some (eI (v18)), some (eI (1))]) (s2 := [eI (0), eI (2)]) rfl rfl rfl ?_
      refine w_t (np := 65) (l2 := [some (eR a0), some (eI (a1)), some (eI (a2)), some (eI (v8)), some (eI (v18)), some (eI (1))]) (s2 := [eI (1), eI (0), eI (2)]) rfl rfl rfl ?_
      refine b_cne (t1 := 72) (t2 := 68) rfl rfl rfl rfl rfl (fun g24 => ?_) (fun g24 => absurd g24 (by decide))
      refine w_t (np := 73) (l2 := [some (eR a0), some (eI (a1)), some (eI (a2)), some (eI (v8)), some (eI (v18)), some (eI (1))]) (s2 := [eI (0), eI (2)]) rfl rfl rfl ?_
      refine w_t (np := 74) (l2 := [some (eR a0), some (eI (a1)), some (eI (a2)), some (eI (v8)), some (eI (v18)), some (eI (1))]) (s2 := [eI (2)]) rfl (b_iadd rfl) rfl ?_
      exact b_ri rfl rfl (K (2) (by decide))
    · have b24 : 0 ≤ v8 ∧ v8 ≤ 2668 := by omega
      have b25 : 1 ≤ v18 ∧ v18 ≤ 2669 := by omega
      refine w_t (np := 59) (l2 := [some (eR a0), some (eI (a1)), some (eI (a2)), some (eI (v8)), some (eI (v18)), some (eI (1))]) (s2 := [eI (1), eI (2)]) rfl rfl rfl ?_
      refine w_go (t1 := 63) rfl rfl ?_
      refine w_t (np := 65) (l2 := [some (eR a0), some (eI (a1)), some (eI (a2)), some (eI (v8)), some (eI (v18)), some (eI (1))]) (s2 := [eI (1), eI (1), eI (2)]) rfl rfl rfl ?_
      refine b_cne (t1 := 72) (t2 := 68) rfl rfl rfl rfl rfl (fun g24 => absurd g24 (by decide)) (fun g24 => ?_)
      refine w_t (np := 69) (l2 := [some (eR a0), some (eI (a1)), some (eI (a2)), some (eI (v8)), some (eI (v18)), some (eI (1))]) (s2 := [eI (1), eI (2)]) rfl rfl rfl ?_
      refine w_go (t1 := 73) rfl rfl ?_
      refine w_t (np := 74) (l2 := [some (eR a0), some (eI (a1)), some (eI (a2)), some (eI (v8)), some (eI (v18)), some (eI (1))]) (s2 := [eI (3)]) rfl (b_iadd rfl) rfl ?_
      exact b_ri rfl rfl (K (3) (by decide))
  · have b12 : 1 ≤ a2 ∧ a2 ≤ 1 := by omega
    refine w_t (np := 14) (l2 := [some (eR a0), some (eI (a1)), some (eI (a2)), some (eI (v8)), none, none]) (s2 := [eI (1), eI (a1), eR a0]) rfl rfl rfl ?_
    refine w_go (t1 := 18) rfl rfl ?_
    refine w_cw (np := 21) (as := [eI (a1), eI (1)]) (l2 := [some (eR a0), some (eI (a1)), some (eI (1))]) (rest := []) rfl rfl rfl (Nat.ble_eq.mp rfl) rfl rfl rfl (hI.kd gA0 (by decide) (n := 69) rfl) rfl ?_
    refine w_t (np := 1) (l2 := [some (eR a0), some (eI (a1)), some (eI (1))]) (s2 := [eR a0]) rfl (s_an rfl (pos_g hI gA0 (by decide))) rfl ?_
    refine w_gf (np := 4) (v := eR v1) rfl rfl (hI.kd gA0 (by decide) (n := 69) rfl) (by rw [e2]; rfl) ?_
    refine w_t (np := 5) (l2 := [some (eR a0), some (eI (a1)), some (eI (1))]) (s2 := [eI (3), eR v1]) rfl rfl rfl ?_
    refine w_t (np := 6) (l2 := [some (eR a0), some (eI (a1)), some (eI (1))]) (s2 := [eI (a1), eI (3), eR v1]) rfl rfl rfl ?_
    obtain ⟨v12, e13⟩ : ∃ zz : Int, zz = (3) * (a1) := ⟨_, rfl⟩
    have b14 : 0 ≤ v12 ∧ v12 ≤ 2667 := by omega
    refine w_t (np := 7) (l2 := [some (eR a0), some (eI (a1)), some (eI (1))]) (s2 := [eI (v12), eR v1]) rfl (b_imul (by rw [← e13]; exact ev_w_in (by omega) (by omega))) rfl ?_
    refine w_t (np := 8) (l2 := [some (eR a0), some (eI (a1)), some (eI (1))]) (s2 := [eI (1), eI (v12), eR v1]) rfl rfl rfl ?_
    obtain ⟨v15, e16⟩ : ∃ zz : Int, zz = (v12) + (1) := ⟨_, rfl⟩
    have b17 : 1 ≤ v15 ∧ v15 ≤ 2668 := by omega
    refine w_t (np := 9) (l2 := [some (eR a0), some (eI (a1)), some (eI (1))]) (s2 := [eI (v15), eR v1]) rfl (b_iadd (by rw [← e16]; exact ev_w_in (by omega) (by omega))) rfl ?_
    refine j_al (np := 10) rfl rfl hI b3 (by decide) (n := 2670) rfl rfl (lo := 0) (hi := 2669) (fun _ => rfl) (by omega) (by omega) ?_
    intro v18 e19 b20
    refine b_ri rfl rfl ?_
    show ex_q (dt_fg L ρ) rc (d + 1, (244, 21, [some (eR a0), some (eI (a1)), some (eI (a2)), some (eI (v8)), none, none], [eI (v18)]), f :: F, μ)
    refine w_t (np := 23) (l2 := [some (eR a0), some (eI (a1)), some (eI (a2)), some (eI (v8)), some (eI (v18)), none]) (s2 := []) rfl rfl rfl ?_
    refine w_t (np := 24) (l2 := [some (eR a0), some (eI (a1)), some (eI (a2)), some (eI (v8)), some (eI (v18)), none]) (s2 := [eI (a2)]) rfl rfl rfl ?_
    refine b_ieq (t1 := 36) (t2 := 27) rfl rfl rfl (ev_w_in (by omega) (by omega)) (fun g21 => False.elim (by omega)) (fun g21 => ?_)
    refine w_t (np := 28) (l2 := [some (eR a0), some (eI (a1)), some (eI (a2)), some (eI (v8)), some (eI (v18)), none]) (s2 := [eR a0]) rfl (s_an rfl (pos_g hI gA0 (by decide))) rfl ?_
    refine j_gr (np := 31) rfl rfl hI gA0 (by decide) (n := 69) rfl rfl rfl ?_
    intro v22 e23 b24 z25
    have b24 : g v22 = 56 := Nat.eq_of_beq_eq_true b24
    refine w_t (np := 32) (l2 := [some (eR a0), some (eI (a1)), some (eI (a2)), some (eI (v8)), some (eI (v18)), none]) (s2 := [eI (a1), eR v22]) rfl rfl rfl ?_
    refine j_al (np := 33) rfl rfl hI b24 (by decide) (n := 890) rfl rfl (lo := 0) (hi := 1) (fun _ => rfl) (by omega) (by omega) ?_
    intro v26 e27 b28
    refine b_ine (t1 := 40) (t2 := 36) rfl rfl rfl (ev_w_in (by omega) (by omega)) (fun g29 => ?_) (fun g29 => ?_)
    · have b30 : 1 ≤ v26 ∧ v26 ≤ 1 := by omega
      refine w_t (np := 41) (l2 := [some (eR a0), some (eI (a1)), some (eI (a2)), some (eI (v8)), some (eI (v18)), none]) (s2 := [eI (0)]) rfl rfl rfl ?_
      refine w_t (np := 43) (l2 := [some (eR a0), some (eI (a1)), some (eI (a2)), some (eI (v8)), some (eI (v18)), some (eI (0))]) (s2 := []) rfl rfl rfl ?_
      refine w_t (np := 44) (l2 := [some (eR a0), some (eI (a1)), some (eI (a2)), some (eI (v8)), some (eI (v18)), some (eI (0))]) (s2 := [eI (a2)]) rfl rfl rfl ?_
      refine b_ieq (t1 := 51) (t2 := 47) rfl rfl rfl (ev_w_in (by omega) (by omega)) (fun g30 => False.elim (by omega)) (fun g30 => ?_)
      refine w_t (np := 48) (l2 := [some (eR a0), some (eI (a1)), some (eI (a2)), some (eI (v8)), some (eI (v18)), some (eI (0))]) (s2 := [eI (0)]) rfl rfl rfl ?_
      refine w_go (t1 := 52) rfl rfl ?_
      refine w_t (np := 53) (l2 := [some (eR a0), some (eI (a1)), some (eI (a2)), some (eI (v8)), some (eI (v18)), some (eI (0))]) (s2 := [eI (v8), eI (0)]) rfl rfl rfl ?_
      refine w_t (np := 55) (l2 := [some (eR a0), some (eI (a1)), some (eI (a2)), some (eI (v8)), some (eI (v18)), some (eI (0))]) (s2 := [eI (v18), eI (v8), eI (0)]) rfl rfl rfl ?_
      refine b_cge (t1 := 62) (t2 := 58) rfl rfl rfl (ev_w_in (by omega) (by omega)) (ev_w_in (by omega) (by omega)) (fun g31 => ?_) (fun g31 => ?_)
      · refine w_t (np := 63) (l2 := [some (eR a0), some (eI (a1)), some (eI (a2)), some (eI (v8)), some (eI (v18)), some (eI (0))]) (s2 := [eI (0), eI (0)]) rfl rfl rfl ?_
        refine w_t (np := 65) (l2 := [some (eR a0), some (eI (a1)), some (eI (a2)), some (eI (v8)), some (eI (v18)), some (eI (0))]) (s2 := [eI (0), eI (0), eI (0)]) rfl rfl rfl ?_
        refine b_cne (t1 := 72) (t2 := 68) rfl rfl rfl rfl rfl (fun g32 => absurd g32 (by decide)) (fun g32 => ?_)
        refine w_t (np := 69) (l2 := [some (eR a0), some (eI (a1)), some (eI (a2)), some (eI (v8)), some (eI (v18)), some (eI (0))]) (s2 := [eI (1), eI (0)]) rfl rfl rfl ?_
        refine w_go (t1 := 73) rfl rfl ?_
        refine w_t (np := 74) (l2 := [some (eR a0), some (eI (a1)), some (eI (a2)), some (eI (v8)), some (eI (v18)), some (eI (0))]) (s2 := [eI (1)]) rfl (b_iadd rfl) rfl ?_
        exact b_ri rfl rfl (K (1) (by decide))
      · have b32 : 0 ≤ v8 ∧ v8 ≤ 2668 := by omega
        have b33 : 1 ≤ v18 ∧ v18 ≤ 2669 := by omega
        refine w_t (np := 59) (l2 := [some (eR a0), some (eI (a1)), some (eI (a2)), some (eI (v8)), some (eI (v18)), some (eI (0))]) (s2 := [eI (1), eI (0)]) rfl rfl rfl ?_
        refine w_go (t1 := 63) rfl rfl ?_
        refine w_t (np := 65) (l2 := [some (eR a0), some (eI (a1)), some (eI (a2)), some (eI (v8)), some (eI (v18)), some (eI (0))]) (s2 := [eI (0), eI (1), eI (0)]) rfl rfl rfl ?_
        refine b_cne (t1 := 72) (t2 := 68) rfl rfl rfl rfl rfl (fun g32 => ?_) (fun g32 => absurd g32 (by decide))
        refine w_t (np := 73) (l2 := [some (eR a0), some (eI (a1)), some (eI (a2)), some (eI (v8)), some (eI (v18)), some (eI (0))]) (s2 := [eI (0), eI (0)]) rfl rfl rfl ?_
        refine w_t (np := 74) (l2 := [some (eR a0), some (eI (a1)), some (eI (a2)), some (eI (v8)), some (eI (v18)), some (eI (0))]) (s2 := [eI (0)]) rfl (b_iadd rfl) rfl ?_
        exact b_ri rfl rfl (K (0) (by decide))
    · have b30 : 0 ≤ v26 ∧ v26 ≤ 0 := by omega
      refine w_t (np := 37) (l2 := [some (eR a0), some (eI (a1)), some (eI (a2)), some (eI (v8)), some (eI (v18)), none]) (s2 := [eI (1)]) rfl rfl rfl ?_
      refine w_go (t1 := 41) rfl rfl ?_
      refine w_t (np := 43) (l2 := [some (eR a0), some (eI (a1)), some (eI (a2)), some (eI (v8)), some (eI (v18)), some (eI (1))]) (s2 := []) rfl rfl rfl ?_
      refine w_t (np := 44) (l2 := [some (eR a0), some (eI (a1)), some (eI (a2)), some (eI (v8)), some (eI (v18)), some (eI (1))]) (s2 := [eI (a2)]) rfl rfl rfl ?_
      refine b_ieq (t1 := 51) (t2 := 47) rfl rfl rfl (ev_w_in (by omega) (by omega)) (fun g30 => False.elim (by omega)) (fun g30 => ?_)
      refine w_t (np := 48) (l2 := [some (eR a0), some (eI (a1)), some (eI (a2)), some (eI (v8)), some (eI (v18)), some (eI (1))]) (s2 := [eI (0)]) rfl rfl rfl ?_
      refine w_go (t1 := 52) rfl rfl ?_
      refine w_t (np := 53) (l2 := [some (eR a0), some (eI (a1)), some (eI (a2)), some (eI (v8)), some (eI (v18)), some (eI (1))]) (s2 := [eI (v8), eI (0)]) rfl rfl rfl ?_
      refine w_t (np := 55) (l2 := [some (eR a0), some (eI (a1)), some (eI (a2)), some (eI (v8)), some (eI (v18)), some (eI (1))]) (s2 := [eI (v18), eI (v8), eI (0)]) rfl rfl rfl ?_
      refine b_cge (t1 := 62) (t2 := 58) rfl rfl rfl (ev_w_in (by omega) (by omega)) (ev_w_in (by omega) (by omega)) (fun g31 => ?_) (fun g31 => ?_)
      · refine w_t (np := 63) (l2 := [some (eR a0), some (eI (a1)), some (eI (a2)), some (eI (v8)), some (eI (v18)), some (eI (1))]) (s2 := [eI (0), eI (0)]) rfl rfl rfl ?_
        refine w_t (np := 65) (l2 := [some (eR a0), some (eI (a1)), some (eI (a2)), some (eI (v8)), some (eI (v18)), some (eI (1))]) (s2 := [eI (1), eI (0), eI (0)]) rfl rfl rfl ?_
        refine b_cne (t1 := 72) (t2 := 68) rfl rfl rfl rfl rfl (fun g32 => ?_) (fun g32 => absurd g32 (by decide))
        refine w_t (np := 73) (l2 := [some (eR a0), some (eI (a1)), some (eI (a2)), some (eI (v8)), some (eI (v18)), some (eI (1))]) (s2 := [eI (0), eI (0)]) rfl rfl rfl ?_
        refine w_t (np := 74) (l2 := [some (eR a0), some (eI (a1)), some (eI (a2)), some (eI (v8)), some (eI (v18)), some (eI (1))]) (s2 := [eI (0)]) rfl (b_iadd rfl) rfl ?_
        exact b_ri rfl rfl (K (0) (by decide))
      · have b32 : 0 ≤ v8 ∧ v8 ≤ 2668 := by omega
        have b33 : 1 ≤ v18 ∧ v18 ≤ 2669 := by omega
        refine w_t (np := 59) (l2 := [some (eR a0), some (eI (a1)), some (eI (a2)), some (eI (v8)), some (eI (v18)), some (eI (1))]) (s2 := [eI (1), eI (0)]) rfl rfl rfl ?_
        refine w_go (t1 := 63) rfl rfl ?_
        refine w_t (np := 65) (l2 := [some (eR a0), some (eI (a1)), some (eI (a2)), some (eI (v8)), some (eI (v18)), some (eI (1))]) (s2 := [eI (1), eI (1), eI (0)]) rfl rfl rfl ?_
        refine b_cne (t1 := 72) (t2 := 68) rfl rfl rfl rfl rfl (fun g32 => absurd g32 (by decide)) (fun g32 => ?_)
        refine w_t (np := 69) (l2 := [some (eR a0), some (eI (a1)), some (eI (a2)), some (eI (v8)), some (eI (v18)), some (eI (1))]) (s2 := [eI (1), eI (0)]) rfl rfl rfl ?_
        refine w_go (t1 := 73) rfl rfl ?_
        refine w_t (np := 74) (l2 := [some (eR a0), some (eI (a1)), some (eI (a2)), some (eI (v8)), some (eI (v18)), some (eI (1))]) (s2 := [eI (1)]) rfl (b_iadd rfl) rfl ?_
        exact b_ri rfl rfl (K (1) (by decide))
theorem s_245 {L : Nat} {ρ : Nat → Int} {rc : eQ} {d : Nat} {f : eFr} {F : List eFr} {μ : eM} {g : Nat → Nat} {a0 : Nat} {a1 : Int} {a2 : Int} {a3 : Int} (hI : SI g μ) (gA0 : g a0 = 52) (bA1 : 0 ≤ a1 ∧ a1 ≤ 889) (bA2 : -2147483648 ≤ a2 ∧ a2 ≤ 2147483647) (bA3 : -2147483648 ≤ a3 ∧ a3 ≤ 2147483647) (K : ∀ (v : Int), (0 ≤ v ∧ v ≤ 3) → ex_q (dt_fg L ρ) rc (d + 3, (f.1, f.2.1, f.2.2.1, eI v :: f.2.2.2), F, μ)) : ex_q (dt_fg L ρ) rc (d + 2, (245, 0, [some (eR a0), some (eI (a1)), some (eI (a2)), some (eI (a3))], []), f :: F, μ) := by
  refine w_t (np := 1) (l2 := [some (eR a0), some (eI (a1)), some (eI (a2)), some (eI (a3))]) (s2 := [eR a0]) rfl (s_an rfl (pos_g hI gA0 (by decide))) rfl ?_
  refine w_t (np := 2) (l2 := [some (eR a0), some (eI (a1)), some (eI (a2)), some (eI (a3))]) (s2 := [eI (a1), eR a0]) rfl rfl rfl ?_
  refine w_t (np := 3) (l2 := [some (eR a0), some (eI (a1)), some (eI (a2)), some (eI (a3))]) (s2 := [eR a0, eI (a1), eR a0]) rfl (s_an rfl (pos_g hI gA0 (by decide))) rfl ?_
  refine w_t (np := 4) (l2 := [some (eR a0), some (eI (a1)), some (eI (a2)), some (eI (a3))]) (s2 := [eI (a1), eR a0, eI (a1), eR a0]) rfl rfl rfl ?_
  refine w_t (np := 5) (l2 := [some (eR a0), some (eI (a1)), some (eI (a2)), some (eI (a3))]) (s2 := [eI (0), eI (a1), eR a0, eI (a1), eR a0]) rfl rfl rfl ?_
  refine w_cw (np := 8) (as := [eI (a1), eI (0)]) (l2 := [some (eR a0), some (eI (a1)), some (eI (0))]) (rest := [eI (a1), eR a0]) rfl rfl rfl (Nat.ble_eq.mp rfl) rfl rfl rfl (hI.kd gA0 (by decide) (n := 69) rfl) rfl ?_
  refine w_t (np := 1) (l2 := [some (eR a0), some (eI (a1)), some (eI (0))]) (s2 := [eR a0]) rfl (s_an rfl (pos_g hI gA0 (by decide))) rfl ?_
  refine j_gr (np := 4) rfl rfl hI gA0 (by decide) (n := 69) rfl rfl rfl ?_
  intro v1 e2 b3 z4
  have b3 : g v1 = 64 := Nat.eq_of_beq_eq_true b3
  refine w_t (np := 5) (l2 := [some (eR a0), some (eI (a1)), some (eI (0))]) (s2 := [eI (3), eR v1]) rfl rfl rfl ?_
  refine w_t (np := 6) (l2 := [some (eR a0), some (eI (a1)), some (eI (0))]) (s2 := [eI (a1), eI (3), eR v1]) rfl rfl rfl ?_
  obtain ⟨v5, e6⟩ : ∃ zz : Int, zz = (3) * (a1) := ⟨_, rfl⟩
  have b7 : 0 ≤ v5 ∧ v5 ≤ 2667 := by omega
  refine w_t (np := 7) (l2 := [some (eR a0), some (eI (a1)), some (eI (0))]) (s2 := [eI (v5), eR v1]) rfl (b_imul (by rw [← e6]; exact ev_w_in (by omega) (by omega))) rfl ?_
  refine w_t (np := 8) (l2 := [some (eR a0), some (eI (a1)), some (eI (0))]) (s2 := [eI (0), eI (v5), eR v1]) rfl rfl rfl ?_
  refine w_t (np := 9) (l2 := [some (eR a0), some (eI (a1)), some (eI (0))]) (s2 := [eI (v5), eR v1]) rfl (b_iadd (by rw [Int.add_zero]; exact ev_w_in (by omega) (by omega))) rfl ?_
  refine j_al (np := 10) rfl rfl hI b3 (by decide) (n := 2670) rfl rfl (lo := 0) (hi := 2669) (fun _ => rfl) (by omega) (by omega) ?_
  intro v8 e9 b10
  refine b_ri rfl rfl ?_
  show ex_q (dt_fg L ρ) rc (d + 2, (245, 8, [some (eR a0), some (eI (a1)), some (eI (a2)), some (eI (a3))], [eI (v8), eI (a1), eR a0]), f :: F, μ)
  refine w_t (np := 9) (l2 := [some (eR a0), some (eI (a1)), some (eI (a2)), some (eI (a3))]) (s2 := [eR a0, eI (v8), eI (a1), eR a0]) rfl (s_an rfl (pos_g hI gA0 (by decide))) rfl ?_
  refine w_t (np := 10) (l2 := [some (eR a0), some (eI (a1)), some (eI (a2)), some (eI (a3))]) (s2 := [eI (a1), eR a0, eI (v8), eI (a1), eR a0]) rfl rfl rfl ?_
  refine w_t (np := 11) (l2 := [some (eR a0), some (eI (a1)), some (eI (a2)), some (eI (a3))]) (s2 := [eI (1), eI (a1), eR a0, eI (v8), eI (a1), eR a0]) rfl rfl rfl ?_
  refine w_cw (np := 14) (as := [eI (a1), eI (1)]) (l2 := [some (eR a0), some (eI (a1)), some (eI (1))]) (rest := [eI (v8), eI (a1), eR a0]) rfl rfl rfl (Nat.ble_eq.mp rfl) rfl rfl rfl (hI.kd gA0 (by decide) (n := 69) rfl) rfl ?_
  refine w_t (np := 1) (l2 := [some (eR a0), some (eI (a1)), some (eI (1))]) (s2 := [eR a0]) rfl (s_an rfl (pos_g hI gA0 (by decide))) rfl ?_
  refine w_gf (np := 4) (v := eR v1) rfl rfl (hI.kd gA0 (by decide) (n := 69) rfl) (by rw [e2]; rfl) ?_
  refine w_t (np := 5) (l2 := [some (eR a0), some (eI (a1)), some (eI (1))]) (s2 := [eI (3), eR v1]) rfl rfl rfl ?_
  refine w_t (np := 6) (l2 := [some (eR a0), some (eI (a1)), some (eI (1))]) (s2 := [eI (a1), eI (3), eR v1]) rfl rfl rfl ?_
  obtain ⟨v11, e12⟩ : ∃ zz : Int, zz = (3) * (a1) := ⟨_, rfl⟩
  have b13 : 0 ≤ v11 ∧ v11 ≤ 2667 := by omega
  refine w_t (np := 7) (l2 := [some (eR a0), some (eI (a1)), some (eI (1))]) (s2 := [eI (v11), eR v1]) rfl (b_imul (by rw [← e12]; exact ev_w_in (by omega) (by omega))) rfl ?_
  refine w_t (np := 8) (l2 := [some (eR a0), some (eI (a1)), some (eI (1))]) (s2 := [eI (1), eI (v11), eR v1]) rfl rfl rfl ?_
  obtain ⟨v14, e15⟩ : ∃ zz : Int, zz = (v11) + (1) := ⟨_, rfl⟩
  have b16 : 1 ≤ v14 ∧ v14 ≤ 2668 := by omega
  refine w_t (np := 9) (l2 := [some (eR a0), some (eI (a1)), some (eI (1))]) (s2 := [eI (v14), eR v1]) rfl (b_iadd (by rw [← e15]; exact ev_w_in (by omega) (by omega))) rfl ?_
  refine j_al (np := 10) rfl rfl hI b3 (by decide) (n := 2670) rfl rfl (lo := 0) (hi := 2669) (fun _ => rfl) (by omega) (by omega) ?_
  intro v17 e18 b19
  refine b_ri rfl rfl ?_
  show ex_q (dt_fg L ρ) rc (d + 2, (245, 14, [some (eR a0), some (eI (a1)), some (eI (a2)), some (eI (a3))], [eI (v17), eI (v8), eI (a1), eR a0]), f :: F, μ)
  refine w_t (np := 15) (l2 := [some (eR a0), some (eI (a1)), some (eI (a2)), some (eI (a3))]) (s2 := [eI (a2), eI (v17), eI (v8), eI (a1), eR a0]) rfl rfl rfl ?_
  refine w_t (np := 16) (l2 := [some (eR a0), some (eI (a1)), some (eI (a2)), some (eI (a3))]) (s2 := [eI (a3), eI (a2), eI (v17), eI (v8), eI (a1), eR a0]) rfl rfl rfl ?_
  refine w_cu (np := 19) (as := [eI (v8), eI (v17), eI (a2), eI (a3)]) (l2 := [some (eI (v8)), some (eI (v17)), some (eI (a2)), some (eI (a3))]) (rest := [eI (a1), eR a0]) rfl rfl rfl (Nat.ble_eq.mp rfl) rfl rfl rfl rfl ?_
  refine s_240 (a0 := v8) (a1 := v17) (a2 := a2) (a3 := a3) hI (by omega) (by omega) (by omega) (by omega) ?_
  intro v20 b21
  show ex_q (dt_fg L ρ) rc (d + 2, (245, 19, [some (eR a0), some (eI (a1)), some (eI (a2)), some (eI (a3))], [eI (v20), eI (a1), eR a0]), f :: F, μ)
  refine w_cw (np := 22) (as := [eI (a1), eI (v20)]) (l2 := [some (eR a0), some (eI (a1)), some (eI (v20)), none, none, none]) (rest := []) rfl rfl rfl (Nat.ble_eq.mp rfl) rfl rfl rfl (hI.kd gA0 (by decide) (n := 69) rfl) rfl ?_
  refine s_244 (a1 := a1) (a2 := v20) hI gA0 (by omega) (by omega) ?_
  intro v22 b23
  show ex_q (dt_fg L ρ) rc (d + 2, (245, 22, [some (eR a0), some (eI (a1)), some (eI (a2)), some (eI (a3))], [eI (v22)]), f :: F, μ)
  exact b_ri rfl rfl (K (v22) (by omega))
theorem s_247 {L : Nat} {ρ : Nat → Int} {rc : eQ} {d : Nat} {f : eFr} {F : List eFr} {μ : eM} {g : Nat → Nat} {a0 : Nat} {a1 : Int} (hI : SI g μ) (gA0 : g a0 = 52) (bA1 : -2147483648 ≤ a1 ∧ a1 ≤ 2147483647) (K : ∀ (v : Int), (-2147483648 ≤ v ∧ v ≤ 2147483647) → ex_q (dt_fg L ρ) rc (d + 5, (f.1, f.2.1, f.2.2.1, eI v :: f.2.2.2), F, μ)) : ex_q (dt_fg L ρ) rc (d + 4, (247, 0, [some (eR a0), some (eI (a1)), none, none, none, none], []), f :: F, μ) := by
  refine w_t (np := 1) (l2 := [some (eR a0), some (eI (a1)), none, none, none, none]) (s2 := [eI (0)]) rfl rfl rfl ?_
  refine w_t (np := 2) (l2 := [some (eR a0), some (eI (a1)), some (eI (0)), none, none, none]) (s2 := []) rfl rfl rfl ?_
  refine w_t (np := 3) (l2 := [some (eR a0), some (eI (a1)), some (eI (0)), none, none, none]) (s2 := [eI (0)]) rfl rfl rfl ?_
  refine w_t (np := 4) (l2 := [some (eR a0), some (eI (a1)), some (eI (0)), some (eI (0)), none, none]) (s2 := []) rfl rfl rfl ?_
  have hL4 : ∀ (n1 : Nat) (i3 : Int) (i5 : Int) (o7 : Option eV) (o8 : Option eV), (-2147483648 ≤ i3 ∧ i3 ≤ 2147483647) → (0 ≤ i5 ∧ i5 ≤ 890) → n1 = (890 - i5).toNat → ex_q (dt_fg L ρ) rc (d + 4, (247, 4, [some (eR a0), some (eI (a1)), some (eI (i3)), some (eI (i5)), o7, o8], []), f :: F, μ) := by
    intro n1
    induction n1 using Nat.strongRecOn with
    | _ n1 ih2 =>
    intro i3 i5 o7 o8 b4 b6 hn9
    refine w_t (np := 5) (l2 := [some (eR a0), some (eI (a1)), some (eI (i3)), some (eI (i5)), o7, o8]) (s2 := [eI (i5)]) rfl rfl rfl ?_
    refine w_t (np := 6) (l2 := [some (eR a0), some (eI (a1)), some (eI (i3)), some (eI (i5)), o7, o8]) (s2 := [eR a0, eI (i5)]) rfl (s_an rfl (pos_g hI gA0 (by decide))) rfl ?_
    refine j_gi (np := 9) rfl rfl rfl hI gA0 (by decide) (n := 69) rfl rfl (lo := 0) (hi := 890) rfl ?_
    intro v10 e11 b12
    refine b_cge (t1 := 115) (t2 := 12) rfl rfl rfl (ev_w_in (by omega) (by omega)) (ev_w_in (by omega) (by omega)) (fun g13 => ?_) (fun g13 => ?_)
    · refine w_t (np := 116) (l2 := [some (eR a0), some (eI (a1)), some (eI (i3)), some (eI (i5)), o7, o8]) (s2 := [eI (i3)]) rfl rfl rfl ?_
      exact b_ri rfl rfl (K (i3) (by omega))
    · have b14 : 0 ≤ i5 ∧ i5 ≤ 889 := by omega
      have b15 : 1 ≤ v10 ∧ v10 ≤ 890 := by omega
      refine w_t (np := 13) (l2 := [some (eR a0), some (eI (a1)), some (eI (i3)), some (eI (i5)), o7, o8]) (s2 := [eI (0)]) rfl rfl rfl ?_
      refine w_t (np := 15) (l2 := [some (eR a0), some (eI (a1)), some (eI (i3)), some (eI (i5)), some (eI (0)), o8]) (s2 := []) rfl rfl rfl ?_
      have hL15 : ∀ (n14 : Nat) (i16 : Int) (i18 : Int) (o20 : Option eV), (-2147483648 ≤ i16 ∧ i16 ≤ 2147483647) → (0 ≤ i18 ∧ i18 ≤ 2) → n14 = (2 - i18).toNat → ex_q (dt_fg L ρ) rc (d + 4, (247, 15, [some (eR a0), some (eI (a1)), some (eI (i16)), some (eI (i5)), some (eI (i18)), o20], []), f :: F, μ) := by
        intro n14
        induction n14 using Nat.strongRecOn with
        | _ n14 ih15 =>
        intro i16 i18 o20 b17 b19 hn21
        refine w_t (np := 17) (l2 := [some (eR a0), some (eI (a1)), some (eI (i16)), some (eI (i5)), some (eI (i18)), o20]) (s2 := [eI (i18)]) rfl rfl rfl ?_
        refine w_t (np := 18) (l2 := [some (eR a0), some (eI (a1)), some (eI (i16)), some (eI (i5)), some (eI (i18)), o20]) (s2 := [eI (2), eI (i18)]) rfl rfl rfl ?_
        refine b_cge (t1 := 109) (t2 := 21) rfl rfl rfl (ev_w_in (by omega) (by omega)) rfl (fun g22 => ?_) (fun g22 => ?_)
        · have b23 : 2 ≤ i18 ∧ i18 ≤ 2 := by omega
          obtain ⟨v23, e24⟩ : ∃ zz : Int, zz = (i5) + (1) := ⟨_, rfl⟩
          have b25 : 1 ≤ v23 ∧ v23 ≤ 890 := by omega
          refine w_t (np := 112) (l2 := [some (eR a0), some (eI (a1)), some (eI (i16)), some (eI (v23)), some (eI (i18)), o20]) (s2 := []) rfl (b_iinc rfl (by rw [← e24]; exact ev_w_in (by omega) (by omega)) rfl) rfl ?_
          refine w_go (t1 := 4) rfl rfl ?_
          exact ih2 (890 - (v23)).toNat (by omega) (i16) (v23) (some (eI (i18))) (o20) (by omega) (by omega)     rfl
        · have b23 : 0 ≤ i18 ∧ i18 ≤ 1 := by omega
          refine w_t (np := 23) (l2 := [some (eR a0), some (eI (a1)), some (eI (i16)), some (eI (i5)), some (eI (i18)), o20]) (s2 := [eI (i18)]) rfl rfl rfl ?_
          refine b_ine (t1 := 35) (t2 := 26) rfl rfl rfl (ev_w_in (by omega) (by omega)) (fun g23 => ?_) (fun g23 => ?_)
          · have b24 : 1 ≤ i18 ∧ i18 ≤ 1 := by omega
            refine w_t (np := 36) (l2 := [some (eR a0), some (eI (a1)), some (eI (i16)), some (eI (i5)), some (eI (i18)), o20]) (s2 := [eR a0]) rfl (s_an rfl (pos_g hI gA0 (by decide))) rfl ?_
            refine j_gr (np := 39) rfl rfl hI gA0 (by decide) (n := 69) rfl rfl rfl ?_
            intro v24 e25 b26 z27
            have b26 : g v24 = 69 := Nat.eq_of_beq_eq_true b26
            refine w_t (np := 40) (l2 := [some (eR a0), some (eI (a1)), some (eI (i16)), some (eI (i5)), some (eI (i18)), o20]) (s2 := [eI (i5), eR v24]) rfl rfl rfl ?_
            refine j_al (np := 41) rfl rfl hI b26 (by decide) (n := 890) rfl rfl (lo := -1) (hi := 889) (fun _ => rfl) (by omega) (by omega) ?_
            intro v28 e29 b30
            refine w_t (np := 43) (l2 := [some (eR a0), some (eI (a1)), some (eI (i16)), some (eI (i5)), some (eI (i18)), some (eI (v28))]) (s2 := []) rfl rfl rfl ?_
            refine w_t (np := 45) (l2 := [some (eR a0), some (eI (a1)), some (eI (i16)), some (eI (i5)), some (eI (i18)), some (eI (v28))]) (s2 := [eI (v28)]) rfl rfl rfl ?_
            refine b_ilt (t1 := 57) (t2 := 48) rfl rfl rfl (ev_w_in (by omega) (by omega)) (fun g31 => ?_) (fun g31 => ?_)
            · have b32 : -1 ≤ v28 ∧ v28 ≤ -1 := by omega
              refine w_t (np := 58) (l2 := [some (eR a0), some (eI (a1)), some (eI (i16)), some (eI (i5)), some (eI (i18)), some (eI (v28))]) (s2 := [eI (a1)]) rfl rfl rfl ?_
              refine b_ine (t1 := 67) (t2 := 61) rfl rfl rfl (ev_w_in (by omega) (by omega)) (fun g32 => ?_) (fun g32 => ?_)
              · refine w_t (np := 69) (l2 := [some (eR a0), some (eI (a1)), some (eI (i16)), some (eI (i5)), some (eI (i18)), some (eI (v28))]) (s2 := [eI (v28)]) rfl rfl rfl ?_
                refine b_ilt (t1 := 103) (t2 := 72) rfl rfl rfl (ev_w_in (by omega) (by omega)) (fun g33 => ?_) (fun g33 => False.elim (by omega))
                obtain ⟨v34, e35⟩ : ∃ zz : Int, zz = (i18) + (1) := ⟨_, rfl⟩
                have b36 : 2 ≤ v34 ∧ v34 ≤ 2 := by omega
                refine w_t (np := 106) (l2 := [some (eR a0), some (eI (a1)), some (eI (i16)), some (eI (i5)), some (eI (v34)), some (eI (v28))]) (s2 := []) rfl (b_iinc rfl (by rw [← e35]; exact ev_w_in (by omega) (by omega)) rfl) rfl ?_
                refine w_go (t1 := 15) rfl rfl ?_
                exact ih15 (2 - (v34)).toNat (by omega) (i16) (v34) (some (eI (v28))) (by omega) (by omega)     rfl
              · have b33 : 0 ≤ a1 ∧ a1 ≤ 0 := by omega
                obtain ⟨v33, e34, b35⟩ : ∃ zz : Int, ev_w ((i16) + (1)) = zz ∧ (-2147483648 ≤ zz ∧ zz ≤ 2147483647) := ⟨_, rfl, hw_bd _⟩
                refine w_t (np := 64) (l2 := [some (eR a0), some (eI (a1)), some (eI (v33)), some (eI (i5)), some (eI (i18)), some (eI (v28))]) (s2 := []) rfl (b_iinc rfl e34 rfl) rfl ?_
                refine w_go (t1 := 103) rfl rfl ?_
                obtain ⟨v36, e37⟩ : ∃ zz : Int, zz = (i18) + (1) := ⟨_, rfl⟩
                have b38 : 2 ≤ v36 ∧ v36 ≤ 2 := by omega
                refine w_t (np := 106) (l2 := [some (eR a0), some (eI (a1)), some (eI (v33)), some (eI (i5)), some (eI (v36)), some (eI (v28))]) (s2 := []) rfl (b_iinc rfl (by rw [← e37]; exact ev_w_in (by omega) (by omega)) rfl) rfl ?_
                refine w_go (t1 := 15) rfl rfl ?_
                exact ih15 (2 - (v36)).toNat (by omega) (v33) (v36) (some (eI (v28))) (by omega) (by omega)     rfl
            · have b32 : 0 ≤ v28 ∧ v28 ≤ 889 := by omega
              refine w_t (np := 50) (l2 := [some (eR a0), some (eI (a1)), some (eI (i16)), some (eI (i5)), some (eI (i18)), some (eI (v28))]) (s2 := [eI (v28)]) rfl rfl rfl ?_
              refine w_t (np := 51) (l2 := [some (eR a0), some (eI (a1)), some (eI (i16)), some (eI (i5)), some (eI (i18)), some (eI (v28))]) (s2 := [eI (i5), eI (v28)]) rfl rfl rfl ?_
              refine b_cge (t1 := 57) (t2 := 54) rfl rfl rfl (ev_w_in (by omega) (by omega)) (ev_w_in (by omega) (by omega)) (fun g32 => ?_) (fun g32 => ?_)
              · refine w_t (np := 58) (l2 := [some (eR a0), some (eI (a1)), some (eI (i16)), some (eI (i5)), some (eI (i18)), some (eI (v28))]) (s2 := [eI (a1)]) rfl rfl rfl ?_
                refine b_ine (t1 := 67) (t2 := 61) rfl rfl rfl (ev_w_in (by omega) (by omega)) (fun g33 => ?_) (fun g33 => ?_)
                · refine w_t (np := 69) (l2 := [some (eR a0), some (eI (a1)), some (eI (i16)), some (eI (i5)), some (eI (i18)), some (eI (v28))]) (s2 := [eI (v28)]) rfl rfl rfl ?_
                  refine b_ilt (t1 := 103) (t2 := 72) rfl rfl rfl (ev_w_in (by omega) (by omega)) (fun g34 => False.elim (by omega)) (fun g34 => ?_)
                  refine w_t (np := 73) (l2 := [some (eR a0), some (eI (a1)), some (eI (i16)), some (eI (i5)), some (eI (i18)), some (eI (v28))]) (s2 := [eR a0]) rfl (s_an rfl (pos_g hI gA0 (by decide))) rfl ?_
                  refine w_t (np := 74) (l2 := [some (eR a0), some (eI (a1)), some (eI (i16)), some (eI (i5)), some (eI (i18)), some (eI (v28))]) (s2 := [eI (i5), eR a0]) rfl rfl rfl ?_
                  refine w_t (np := 76) (l2 := [some (eR a0), some (eI (a1)), some (eI (i16)), some (eI (i5)), some (eI (i18)), some (eI (v28))]) (s2 := [eI (i18), eI (i5), eR a0]) rfl rfl rfl ?_
                  refine b_ine (t1 := 83) (t2 := 79) rfl rfl rfl (ev_w_in (by omega) (by omega)) (fun g35 => ?_) (fun g35 => False.elim (by omega))
                  refine w_t (np := 84) (l2 := [some (eR a0), some (eI (a1)), some (eI (i16)), some (eI (i5)), some (eI (i18)), some (eI (v28))]) (s2 := [eI (0), eI (i5), eR a0]) rfl rfl rfl ?_
                  refine w_cw (np := 87) (as := [eI (i5), eI (0)]) (l2 := [some (eR a0), some (eI (i5)), some (eI (0)), none]) (rest := []) rfl rfl rfl (Nat.ble_eq.mp rfl) rfl rfl rfl (hI.kd gA0 (by decide) (n := 69) rfl) rfl ?_
                  refine w_t (np := 1) (l2 := [some (eR a0), some (eI (i5)), some (eI (0)), none]) (s2 := [eI (0)]) rfl rfl rfl ?_
                  refine b_ieq (t1 := 13) (t2 := 4) rfl rfl rfl rfl (fun g36 => ?_) (fun g36 => absurd g36 (by decide))
                  refine w_t (np := 14) (l2 := [some (eR a0), some (eI (i5)), some (eI (0)), none]) (s2 := [eR a0]) rfl (s_an rfl (pos_g hI gA0 (by decide))) rfl ?_
                  refine w_gf (np := 17) (v := eR v24) rfl rfl (hI.kd gA0 (by decide) (n := 69) rfl) (by rw [e25]; rfl) ?_
                  refine w_t (np := 18) (l2 := [some (eR a0), some (eI (i5)), some (eI (0)), none]) (s2 := [eI (i5), eR v24]) rfl rfl rfl ?_
                  refine j_al (np := 19) rfl rfl hI b26 (by decide) (n := 890) rfl rfl (lo := -1) (hi := 889) (fun _ => rfl) (by omega) (by omega) ?_
                  intro v37 e38 b39
                  have e38 := e38.symm.trans e29
                  rw [e38]
                  refine w_t (np := 20) (l2 := [some (eR a0), some (eI (i5)), some (eI (0)), some (eI (v28))]) (s2 := []) rfl rfl rfl ?_
                  refine w_t (np := 21) (l2 := [some (eR a0), some (eI (i5)), some (eI (0)), some (eI (v28))]) (s2 := [eR a0]) rfl (s_an rfl (pos_g hI gA0 (by decide))) rfl ?_
                  refine w_t (np := 22) (l2 := [some (eR a0), some (eI (i5)), some (eI (0)), some (eI (v28))]) (s2 := [eI (i5), eR a0]) rfl rfl rfl ?_
                  refine w_t (np := 23) (l2 := [some (eR a0), some (eI (i5)), some (eI (0)), some (eI (v28))]) (s2 := [eI (0), eI (i5), eR a0]) rfl rfl rfl ?_
                  refine w_cw (np := 26) (as := [eI (i5), eI (0)]) (l2 := [some (eR a0), some (eI (i5)), some (eI (0)), none, none, none]) (rest := []) rfl rfl rfl (Nat.ble_eq.mp rfl) rfl rfl rfl (hI.kd gA0 (by decide) (n := 69) rfl) rfl ?_
                  refine s_244 (a1 := i5) (a2 := 0) hI gA0 (by omega) (by decide) ?_
                  intro v40 b41
                  show ex_q (dt_fg L ρ) rc (d + 3, (246, 26, [some (eR a0), some (eI (i5)), some (eI (0)), some (eI (v28))], [eI (v40)]), (247, 87, [some (eR a0), some (eI (a1)), some (eI (i16)), some (eI (i5)), some (eI (i18)), some (eI (v28))], []) :: f :: F, μ)
                  refine w_t (np := 27) (l2 := [some (eR a0), some (eI (i5)), some (eI (0)), some (eI (v28))]) (s2 := [eR a0, eI (v40)]) rfl (s_an rfl (pos_g hI gA0 (by decide))) rfl ?_
                  refine w_t (np := 28) (l2 := [some (eR a0), some (eI (i5)), some (eI (0)), some (eI (v28))]) (s2 := [eI (v28), eR a0, eI (v40)]) rfl rfl rfl ?_
                  refine w_t (np := 29) (l2 := [some (eR a0), some (eI (i5)), some (eI (0)), some (eI (v28))]) (s2 := [eR a0, eI (v28), eR a0, eI (v40)]) rfl (s_an rfl (pos_g hI gA0 (by decide))) rfl ?_
                  refine w_t (np := 30) (l2 := [some (eR a0), some (eI (i5)), some (eI (0)), some (eI (v28))]) (s2 := [eI (i5), eR a0, eI (v28), eR a0, eI (v40)]) rfl rfl rfl ?_
                  refine w_t (np := 31) (l2 := [some (eR a0), some (eI (i5)), some (eI (0)), some (eI (v28))]) (s2 := [eI (0), eI (i5), eR a0, eI (v28), eR a0, eI (v40)]) rfl rfl rfl ?_
                  refine w_cw (np := 34) (as := [eI (i5), eI (0)]) (l2 := [some (eR a0), some (eI (i5)), some (eI (0))]) (rest := [eI (v28), eR a0, eI (v40)]) rfl rfl rfl (Nat.ble_eq.mp rfl) rfl rfl rfl (hI.kd gA0 (by decide) (n := 69) rfl) rfl ?_
                  refine w_t (np := 1) (l2 := [some (eR a0), some (eI (i5)), some (eI (0))]) (s2 := [eR a0]) rfl (s_an rfl (pos_g hI gA0 (by decide))) rfl ?_
                  refine j_gr (np := 4) rfl rfl hI gA0 (by decide) (n := 69) rfl rfl rfl ?_
                  intro v42 e43 b44 z45
                  have b44 : g v42 = 64 := Nat.eq_of_beq_eq_true b44
                  refine w_t (np := 5) (l2 := [some (eR a0), some (eI (i5)), some (eI (0))]) (s2 := [eI (3), eR v42]) rfl rfl rfl ?_
                  refine w_t (np := 6) (l2 := [some (eR a0), some (eI (i5)), some (eI (0))]) (s2 := [eI (i5), eI (3), eR v42]) rfl rfl rfl ?_
                  obtain ⟨v46, e47⟩ : ∃ zz : Int, zz = (3) * (i5) := ⟨_, rfl⟩
                  have b48 : 0 ≤ v46 ∧ v46 ≤ 2667 := by omega
                  refine w_t (np := 7) (l2 := [some (eR a0), some (eI (i5)), some (eI (0))]) (s2 := [eI (v46), eR v42]) rfl (b_imul (by rw [← e47]; exact ev_w_in (by omega) (by omega))) rfl ?_
                  refine w_t (np := 8) (l2 := [some (eR a0), some (eI (i5)), some (eI (0))]) (s2 := [eI (0), eI (v46), eR v42]) rfl rfl rfl ?_
                  refine w_t (np := 9) (l2 := [some (eR a0), some (eI (i5)), some (eI (0))]) (s2 := [eI (v46), eR v42]) rfl (b_iadd (by rw [Int.add_zero]; exact ev_w_in (by omega) (by omega))) rfl ?_
                  refine j_al (np := 10) rfl rfl hI b44 (by decide) (n := 2670) rfl rfl (lo := 0) (hi := 2669) (fun _ => rfl) (by omega) (by omega) ?_
                  intro v49 e50 b51
                  refine b_ri rfl rfl ?_
                  show ex_q (dt_fg L ρ) rc (d + 3, (246, 34, [some (eR a0), some (eI (i5)), some (eI (0)), some (eI (v28))], [eI (v49), eI (v28), eR a0, eI (v40)]), (247, 87, [some (eR a0), some (eI (a1)), some (eI (i16)), some (eI (i5)), some (eI (i18)), some (eI (v28))], []) :: f :: F, μ)
                  refine w_t (np := 35) (l2 := [some (eR a0), some (eI (i5)), some (eI (0)), some (eI (v28))]) (s2 := [eR a0, eI (v49), eI (v28), eR a0, eI (v40)]) rfl (s_an rfl (pos_g hI gA0 (by decide))) rfl ?_
                  refine w_t (np := 36) (l2 := [some (eR a0), some (eI (i5)), some (eI (0)), some (eI (v28))]) (s2 := [eI (i5), eR a0, eI (v49), eI (v28), eR a0, eI (v40)]) rfl rfl rfl ?_
                  refine w_t (np := 37) (l2 := [some (eR a0), some (eI (i5)), some (eI (0)), some (eI (v28))]) (s2 := [eI (0), eI (i5), eR a0, eI (v49), eI (v28), eR a0, eI (v40)]) rfl rfl rfl ?_
                  refine b_ieq (t1 := 44) (t2 := 40) rfl rfl rfl rfl (fun g52 => ?_) (fun g52 => absurd g52 (by decide))
                  refine w_t (np := 45) (l2 := [some (eR a0), some (eI (i5)), some (eI (0)), some (eI (v28))]) (s2 := [eI (2), eI (i5), eR a0, eI (v49), eI (v28), eR a0, eI (v40)]) rfl rfl rfl ?_
                  refine w_cw (np := 48) (as := [eI (i5), eI (2)]) (l2 := [some (eR a0), some (eI (i5)), some (eI (2))]) (rest := [eI (v49), eI (v28), eR a0, eI (v40)]) rfl rfl rfl (Nat.ble_eq.mp rfl) rfl rfl rfl (hI.kd gA0 (by decide) (n := 69) rfl) rfl ?_
                  refine w_t (np := 1) (l2 := [some (eR a0), some (eI (i5)), some (eI (2))]) (s2 := [eR a0]) rfl (s_an rfl (pos_g hI gA0 (by decide))) rfl ?_
                  refine w_gf (np := 4) (v := eR v42) rfl rfl (hI.kd gA0 (by decide) (n := 69) rfl) (by rw [e43]; rfl) ?_
                  refine w_t (np := 5) (l2 := [some (eR a0), some (eI (i5)), some (eI (2))]) (s2 := [eI (3), eR v42]) rfl rfl rfl ?_
                  refine w_t (np := 6) (l2 := [some (eR a0), some (eI (i5)), some (eI (2))]) (s2 := [eI (i5), eI (3), eR v42]) rfl rfl rfl ?_
                  obtain ⟨v53, e54⟩ : ∃ zz : Int, zz = (3) * (i5) := ⟨_, rfl⟩
                  have b55 : 0 ≤ v53 ∧ v53 ≤ 2667 := by omega
                  refine w_t (np := 7) (l2 := [some (eR a0), some (eI (i5)), some (eI (2))]) (s2 := [eI (v53), eR v42]) rfl (b_imul (by rw [← e54]; exact ev_w_in (by omega) (by omega))) rfl ?_
                  refine w_t (np := 8) (l2 := [some (eR a0), some (eI (i5)), some (eI (2))]) (s2 := [eI (2), eI (v53), eR v42]) rfl rfl rfl ?_
                  obtain ⟨v56, e57⟩ : ∃ zz : Int, zz = (v53) + (2) := ⟨_, rfl⟩
                  have b58 : 2 ≤ v56 ∧ v56 ≤ 2669 := by omega
                  refine w_t (np := 9) (l2 := [some (eR a0), some (eI (i5)), some (eI (2))]) (s2 := [eI (v56), eR v42]) rfl (b_iadd (by rw [← e57]; exact ev_w_in (by omega) (by omega))) rfl ?_
                  refine j_al (np := 10) rfl rfl hI b44 (by decide) (n := 2670) rfl rfl (lo := 0) (hi := 2669) (fun _ => rfl) (by omega) (by omega) ?_
                  intro v59 e60 b61
                  refine b_ri rfl rfl ?_
                  show ex_q (dt_fg L ρ) rc (d + 3, (246, 48, [some (eR a0), some (eI (i5)), some (eI (0)), some (eI (v28))], [eI (v59), eI (v49), eI (v28), eR a0, eI (v40)]), (247, 87, [some (eR a0), some (eI (a1)), some (eI (i16)), some (eI (i5)), some (eI (i18)), some (eI (v28))], []) :: f :: F, μ)
                  refine w_cw (np := 51) (as := [eI (v28), eI (v49), eI (v59)]) (l2 := [some (eR a0), some (eI (v28)), some (eI (v49)), some (eI (v59))]) (rest := [eI (v40)]) rfl rfl rfl (Nat.ble_eq.mp rfl) rfl rfl rfl (hI.kd gA0 (by decide) (n := 69) rfl) rfl ?_
                  refine s_245 (a1 := v28) (a2 := v49) (a3 := v59) hI gA0 (by omega) (by omega) (by omega) ?_
                  intro v62 b63
                  show ex_q (dt_fg L ρ) rc (d + 3, (246, 51, [some (eR a0), some (eI (i5)), some (eI (0)), some (eI (v28))], [eI (v62), eI (v40)]), (247, 87, [some (eR a0), some (eI (a1)), some (eI (i16)), some (eI (i5)), some (eI (i18)), some (eI (v28))], []) :: f :: F, μ)
                  refine b_cne (t1 := 58) (t2 := 54) rfl rfl rfl (ev_w_in (by omega) (by omega)) (ev_w_in (by omega) (by omega)) (fun g64 => ?_) (fun g64 => ?_)
                  · refine w_t (np := 59) (l2 := [some (eR a0), some (eI (i5)), some (eI (0)), some (eI (v28))]) (s2 := [eI (0)]) rfl rfl rfl ?_
                    refine b_rz rfl rfl (Or.inl rfl) ?_
                    show ex_q (dt_fg L ρ) rc (d + 4, (247, 87, [some (eR a0), some (eI (a1)), some (eI (i16)), some (eI (i5)), some (eI (i18)), some (eI (v28))], [eI (0)]), f :: F, μ)
                    refine w_t (np := 88) (l2 := [some (eR a0), some (eI (a1)), some (eI (i16)), some (eI (i5)), some (eI (i18)), some (eI (v28))]) (s2 := [eI (a1), eI (0)]) rfl rfl rfl ?_
                    refine w_t (np := 89) (l2 := [some (eR a0), some (eI (a1)), some (eI (i16)), some (eI (i5)), some (eI (i18)), some (eI (v28))]) (s2 := [eI (1), eI (a1), eI (0)]) rfl rfl rfl ?_
                    refine b_cne (t1 := 96) (t2 := 92) rfl rfl rfl (ev_w_in (by omega) (by omega)) rfl (fun g65 => ?_) (fun g65 => ?_)
                    · refine w_t (np := 97) (l2 := [some (eR a0), some (eI (a1)), some (eI (i16)), some (eI (i5)), some (eI (i18)), some (eI (v28))]) (s2 := [eI (0), eI (0)]) rfl rfl rfl ?_
                      refine b_cne (t1 := 103) (t2 := 100) rfl rfl rfl rfl rfl (fun g66 => absurd g66 (by decide)) (fun g66 => ?_)
                      obtain ⟨v67, e68, b69⟩ : ∃ zz : Int, ev_w ((i16) + (1)) = zz ∧ (-2147483648 ≤ zz ∧ zz ≤ 2147483647) := ⟨_, rfl, hw_bd _⟩
                      refine w_t (np := 103) (l2 := [some (eR a0), some (eI (a1)), some (eI (v67)), some (eI (i5)), some (eI (i18)), some (eI (v28))]) (s2 := []) rfl (b_iinc rfl e68 rfl) rfl ?_
                      obtain ⟨v70, e71⟩ : ∃ zz : Int, zz = (i18) + (1) := ⟨_, rfl⟩
                      have b72 : 2 ≤ v70 ∧ v70 ≤ 2 := by omega
                      refine w_t (np := 106) (l2 := [some (eR a0), some (eI (a1)), some (eI (v67)), some (eI (i5)), some (eI (v70)), some (eI (v28))]) (s2 := []) rfl (b_iinc rfl (by rw [← e71]; exact ev_w_in (by omega) (by omega)) rfl) rfl ?_
                      refine w_go (t1 := 15) rfl rfl ?_
                      exact ih15 (2 - (v70)).toNat (by omega) (v67) (v70) (some (eI (v28))) (by omega) (by omega)     rfl
                    · have b66 : 1 ≤ a1 ∧ a1 ≤ 1 := by omega
                      refine w_t (np := 93) (l2 := [some (eR a0), some (eI (a1)), some (eI (i16)), some (eI (i5)), some (eI (i18)), some (eI (v28))]) (s2 := [eI (1), eI (0)]) rfl rfl rfl ?_
                      refine w_go (t1 := 97) rfl rfl ?_
                      refine b_cne (t1 := 103) (t2 := 100) rfl rfl rfl rfl rfl (fun g66 => ?_) (fun g66 => absurd g66 (by decide))
                      obtain ⟨v67, e68⟩ : ∃ zz : Int, zz = (i18) + (1) := ⟨_, rfl⟩
                      have b69 : 2 ≤ v67 ∧ v67 ≤ 2 := by omega
                      refine w_t (np := 106) (l2 := [some (eR a0), some (eI (a1)), some (eI (i16)), some (eI (i5)), some (eI (v67)), some (eI (v28))]) (s2 := []) rfl (b_iinc rfl (by rw [← e68]; exact ev_w_in (by omega) (by omega)) rfl) rfl ?_
                      refine w_go (t1 := 15) rfl rfl ?_
                      exact ih15 (2 - (v67)).toNat (by omega) (i16) (v67) (some (eI (v28))) (by omega) (by omega)     rfl
                  · refine w_t (np := 55) (l2 := [some (eR a0), some (eI (i5)), some (eI (0)), some (eI (v28))]) (s2 := [eI (1)]) rfl rfl rfl ?_
                    refine w_go (t1 := 59) rfl rfl ?_
                    refine b_rz rfl rfl (Or.inr rfl) ?_
                    show ex_q (dt_fg L ρ) rc (d + 4, (247, 87, [some (eR a0), some (eI (a1)), some (eI (i16)), some (eI (i5)), some (eI (i18)), some (eI (v28))], [eI (1)]), f :: F, μ)
                    refine w_t (np := 88) (l2 := [some (eR a0), some (eI (a1)), some (eI (i16)), some (eI (i5)), some (eI (i18)), some (eI (v28))]) (s2 := [eI (a1), eI (1)]) rfl rfl rfl ?_
                    refine w_t (np := 89) (l2 := [some (eR a0), some (eI (a1)), some (eI (i16)), some (eI (i5)), some (eI (i18)), some (eI (v28))]) (s2 := [eI (1), eI (a1), eI (1)]) rfl rfl rfl ?_
                    refine b_cne (t1 := 96) (t2 := 92) rfl rfl rfl (ev_w_in (by omega) (by omega)) rfl (fun g65 => ?_) (fun g65 => ?_)
                    · refine w_t (np := 97) (l2 := [some (eR a0), some (eI (a1)), some (eI (i16)), some (eI (i5)), some (eI (i18)), some (eI (v28))]) (s2 := [eI (0), eI (1)]) rfl rfl rfl ?_
                      refine b_cne (t1 := 103) (t2 := 100) rfl rfl rfl rfl rfl (fun g66 => ?_) (fun g66 => absurd g66 (by decide))
                      obtain ⟨v67, e68⟩ : ∃ zz : Int, zz = (i18) + (1) := ⟨_, rfl⟩
                      have b69 : 2 ≤ v67 ∧ v67 ≤ 2 := by omega
                      refine w_t (np := 106) (l2 := [some (eR a0), some (eI (a1)), some (eI (i16)), some (eI (i5)), some (eI (v67)), some (eI (v28))]) (s2 := []) rfl (b_iinc rfl (by rw [← e68]; exact ev_w_in (by omega) (by omega)) rfl) rfl ?_
                      refine w_go (t1 := 15) rfl rfl ?_
                      exact ih15 (2 - (v67)).toNat (by omega) (i16) (v67) (some (eI (v28))) (by omega) (by omega)     rfl
                    · have b66 : 1 ≤ a1 ∧ a1 ≤ 1 := by omega
                      refine w_t (np := 93) (l2 := [some (eR a0), some (eI (a1)), some (eI (i16)), some (eI (i5)), some (eI (i18)), some (eI (v28))]) (s2 := [eI (1), eI (1)]) rfl rfl rfl ?_
                      refine w_go (t1 := 97) rfl rfl ?_
                      refine b_cne (t1 := 103) (t2 := 100) rfl rfl rfl rfl rfl (fun g66 => absurd g66 (by decide)) (fun g66 => ?_)
                      obtain ⟨v67, e68, b69⟩ : ∃ zz : Int, ev_w ((i16) + (1)) = zz ∧ (-2147483648 ≤ zz ∧ zz ≤ 2147483647) := ⟨_, rfl, hw_bd _⟩
                      refine w_t (np := 103) (l2 := [some (eR a0), some (eI (a1)), some (eI (v67)), some (eI (i5)), some (eI (i18)), some (eI (v28))]) (s2 := []) rfl (b_iinc rfl e68 rfl) rfl ?_
                      obtain ⟨v70, e71⟩ : ∃ zz : Int, zz = (i18) + (1) := ⟨_, rfl⟩
                      have b72 : 2 ≤ v70 ∧ v70 ≤ 2 := by omega
                      refine w_t (np := 106) (l2 := [some (eR a0), some (eI (a1)), some (eI (v67)), some (eI (i5)), some (eI (v70)), some (eI (v28))]) (s2 := []) rfl (b_iinc rfl (by rw [← e71]; exact ev_w_in (by omega) (by omega)) rfl) rfl ?_
                      refine w_go (t1 := 15) rfl rfl ?_
                      exact ih15 (2 - (v70)).toNat (by omega) (v67) (v70) (some (eI (v28))) (by omega) (by omega)     rfl
                · have b34 : 0 ≤ a1 ∧ a1 ≤ 0 := by omega
                  obtain ⟨v34, e35, b36⟩ : ∃ zz : Int, ev_w ((i16) + (1)) = zz ∧ (-2147483648 ≤ zz ∧ zz ≤ 2147483647) := ⟨_, rfl, hw_bd _⟩
                  refine w_t (np := 64) (l2 := [some (eR a0), some (eI (a1)), some (eI (v34)), some (eI (i5)), some (eI (i18)), some (eI (v28))]) (s2 := []) rfl (b_iinc rfl e35 rfl) rfl ?_
                  refine w_go (t1 := 103) rfl rfl ?_
                  obtain ⟨v37, e38⟩ : ∃ zz : Int, zz = (i18) + (1) := ⟨_, rfl⟩
                  have b39 : 2 ≤ v37 ∧ v37 ≤ 2 := by omega
                  refine w_t (np := 106) (l2 := [some (eR a0), some (eI (a1)), some (eI (v34)), some (eI (i5)), some (eI (v37)), some (eI (v28))]) (s2 := []) rfl (b_iinc rfl (by rw [← e38]; exact ev_w_in (by omega) (by omega)) rfl) rfl ?_
                  refine w_go (t1 := 15) rfl rfl ?_
                  exact ih15 (2 - (v37)).toNat (by omega) (v34) (v37) (some (eI (v28))) (by omega) (by omega)     rfl
              · have b33 : 0 ≤ v28 ∧ v28 ≤ 888 := by omega
                have b34 : 1 ≤ i5 ∧ i5 ≤ 889 := by omega
                refine w_go (t1 := 103) rfl rfl ?_
                obtain ⟨v33, e34⟩ : ∃ zz : Int, zz = (i18) + (1) := ⟨_, rfl⟩
                have b35 : 2 ≤ v33 ∧ v33 ≤ 2 := by omega
                refine w_t (np := 106) (l2 := [some (eR a0), some (eI (a1)), some (eI (i16)), some (eI (i5)), some (eI (v33)), some (eI (v28))]) (s2 := []) rfl (b_iinc rfl (by rw [← e34]; exact ev_w_in (by omega) (by omega)) rfl) rfl ?_
                refine w_go (t1 := 15) rfl rfl ?_
                exact ih15 (2 - (v33)).toNat (by omega) (i16) (v33) (some (eI (v28))) (by omega) (by omega)     rfl
          · have b24 : 0 ≤ i18 ∧ i18 ≤ 0 := by omega
            refine w_t (np := 27) (l2 := [some (eR a0), some (eI (a1)), some (eI (i16)), some (eI (i5)), some (eI (i18)), o20]) (s2 := [eR a0]) rfl (s_an rfl (pos_g hI gA0 (by decide))) rfl ?_
            refine j_gr (np := 30) rfl rfl hI gA0 (by decide) (n := 69) rfl rfl rfl ?_
            intro v24 e25 b26 z27
            have b26 : g v24 = 68 := Nat.eq_of_beq_eq_true b26
            refine w_t (np := 31) (l2 := [some (eR a0), some (eI (a1)), some (eI (i16)), some (eI (i5)), some (eI (i18)), o20]) (s2 := [eI (i5), eR v24]) rfl rfl rfl ?_
            refine j_al (np := 32) rfl rfl hI b26 (by decide) (n := 890) rfl rfl (lo := -1) (hi := 889) (fun _ => rfl) (by omega) (by omega) ?_
            intro v28 e29 b30
            refine w_go (t1 := 41) rfl rfl ?_
            refine w_t (np := 43) (l2 := [some (eR a0), some (eI (a1)), some (eI (i16)), some (eI (i5)), some (eI (i18)), some (eI (v28))]) (s2 := []) rfl rfl rfl ?_
            refine w_t (np := 45) (l2 := [some (eR a0), some (eI (a1)), some (eI (i16)), some (eI (i5)), some (eI (i18)), some (eI (v28))]) (s2 := [eI (v28)]) rfl rfl rfl ?_
            refine b_ilt (t1 := 57) (t2 := 48) rfl rfl rfl (ev_w_in (by omega) (by omega)) (fun g31 => ?_) (fun g31 => ?_)
            · have b32 : -1 ≤ v28 ∧ v28 ≤ -1 := by omega
              refine w_t (np := 58) (l2 := [some (eR a0), some (eI (a1)), some (eI (i16)), some (eI (i5)), some (eI (i18)), some (eI (v28))]) (s2 := [eI (a1)]) rfl rfl rfl ?_
              refine b_ine (t1 := 67) (t2 := 61) rfl rfl rfl (ev_w_in (by omega) (by omega)) (fun g32 => ?_) (fun g32 => ?_)
              · refine w_t (np := 69) (l2 := [some (eR a0), some (eI (a1)), some (eI (i16)), some (eI (i5)), some (eI (i18)), some (eI (v28))]) (s2 := [eI (v28)]) rfl rfl rfl ?_
                refine b_ilt (t1 := 103) (t2 := 72) rfl rfl rfl (ev_w_in (by omega) (by omega)) (fun g33 => ?_) (fun g33 => False.elim (by omega))
                obtain ⟨v34, e35⟩ : ∃ zz : Int, zz = (i18) + (1) := ⟨_, rfl⟩
                have b36 : 1 ≤ v34 ∧ v34 ≤ 1 := by omega
                refine w_t (np := 106) (l2 := [some (eR a0), some (eI (a1)), some (eI (i16)), some (eI (i5)), some (eI (v34)), some (eI (v28))]) (s2 := []) rfl (b_iinc rfl (by rw [← e35]; exact ev_w_in (by omega) (by omega)) rfl) rfl ?_
                refine w_go (t1 := 15) rfl rfl ?_
                exact ih15 (2 - (v34)).toNat (by omega) (i16) (v34) (some (eI (v28))) (by omega) (by omega)     rfl
              · have b33 : 0 ≤ a1 ∧ a1 ≤ 0 := by omega
                obtain ⟨v33, e34, b35⟩ : ∃ zz : Int, ev_w ((i16) + (1)) = zz ∧ (-2147483648 ≤ zz ∧ zz ≤ 2147483647) := ⟨_, rfl, hw_bd _⟩
                refine w_t (np := 64) (l2 := [some (eR a0), some (eI (a1)), some (eI (v33)), some (eI (i5)), some (eI (i18)), some (eI (v28))]) (s2 := []) rfl (b_iinc rfl e34 rfl) rfl ?_
                refine w_go (t1 := 103) rfl rfl ?_
                obtain ⟨v36, e37⟩ : ∃ zz : Int, zz = (i18) + (1) := ⟨_, rfl⟩
                have b38 : 1 ≤ v36 ∧ v36 ≤ 1 := by omega
                refine w_t (np := 106) (l2 := [some (eR a0), some (eI (a1)), some (eI (v33)), some (eI (i5)), some (eI (v36)), some (eI (v28))]) (s2 := []) rfl (b_iinc rfl (by rw [← e37]; exact ev_w_in (by omega) (by omega)) rfl) rfl ?_
                refine w_go (t1 := 15) rfl rfl ?_
                exact ih15 (2 - (v36)).toNat (by omega) (v33) (v36) (some (eI (v28))) (by omega) (by omega)     rfl
            · have b32 : 0 ≤ v28 ∧ v28 ≤ 889 := by omega
              refine w_t (np := 50) (l2 := [some (eR a0), some (eI (a1)), some (eI (i16)), some (eI (i5)), some (eI (i18)), some (eI (v28))]) (s2 := [eI (v28)]) rfl rfl rfl ?_
              refine w_t (np := 51) (l2 := [some (eR a0), some (eI (a1)), some (eI (i16)), some (eI (i5)), some (eI (i18)), some (eI (v28))]) (s2 := [eI (i5), eI (v28)]) rfl rfl rfl ?_
              refine b_cge (t1 := 57) (t2 := 54) rfl rfl rfl (ev_w_in (by omega) (by omega)) (ev_w_in (by omega) (by omega)) (fun g32 => ?_) (fun g32 => ?_)
              · refine w_t (np := 58) (l2 := [some (eR a0), some (eI (a1)), some (eI (i16)), some (eI (i5)), some (eI (i18)), some (eI (v28))]) (s2 := [eI (a1)]) rfl rfl rfl ?_
                refine b_ine (t1 := 67) (t2 := 61) rfl rfl rfl (ev_w_in (by omega) (by omega)) (fun g33 => ?_) (fun g33 => ?_)
                · refine w_t (np := 69) (l2 := [some (eR a0), some (eI (a1)), some (eI (i16)), some (eI (i5)), some (eI (i18)), some (eI (v28))]) (s2 := [eI (v28)]) rfl rfl rfl ?_
                  refine b_ilt (t1 := 103) (t2 := 72) rfl rfl rfl (ev_w_in (by omega) (by omega)) (fun g34 => False.elim (by omega)) (fun g34 => ?_)
                  refine w_t (np := 73) (l2 := [some (eR a0), some (eI (a1)), some (eI (i16)), some (eI (i5)), some (eI (i18)), some (eI (v28))]) (s2 := [eR a0]) rfl (s_an rfl (pos_g hI gA0 (by decide))) rfl ?_
                  refine w_t (np := 74) (l2 := [some (eR a0), some (eI (a1)), some (eI (i16)), some (eI (i5)), some (eI (i18)), some (eI (v28))]) (s2 := [eI (i5), eR a0]) rfl rfl rfl ?_
                  refine w_t (np := 76) (l2 := [some (eR a0), some (eI (a1)), some (eI (i16)), some (eI (i5)), some (eI (i18)), some (eI (v28))]) (s2 := [eI (i18), eI (i5), eR a0]) rfl rfl rfl ?_
                  refine b_ine (t1 := 83) (t2 := 79) rfl rfl rfl (ev_w_in (by omega) (by omega)) (fun g35 => False.elim (by omega)) (fun g35 => ?_)
                  refine w_t (np := 80) (l2 := [some (eR a0), some (eI (a1)), some (eI (i16)), some (eI (i5)), some (eI (i18)), some (eI (v28))]) (s2 := [eI (1), eI (i5), eR a0]) rfl rfl rfl ?_
                  refine w_go (t1 := 84) rfl rfl ?_
                  refine w_cw (np := 87) (as := [eI (i5), eI (1)]) (l2 := [some (eR a0), some (eI (i5)), some (eI (1)), none]) (rest := []) rfl rfl rfl (Nat.ble_eq.mp rfl) rfl rfl rfl (hI.kd gA0 (by decide) (n := 69) rfl) rfl ?_
                  refine w_t (np := 1) (l2 := [some (eR a0), some (eI (i5)), some (eI (1)), none]) (s2 := [eI (1)]) rfl rfl rfl ?_
                  refine b_ieq (t1 := 13) (t2 := 4) rfl rfl rfl rfl (fun g36 => absurd g36 (by decide)) (fun g36 => ?_)
                  refine w_t (np := 5) (l2 := [some (eR a0), some (eI (i5)), some (eI (1)), none]) (s2 := [eR a0]) rfl (s_an rfl (pos_g hI gA0 (by decide))) rfl ?_
                  refine w_gf (np := 8) (v := eR v24) rfl rfl (hI.kd gA0 (by decide) (n := 69) rfl) (by rw [e25]; rfl) ?_
                  refine w_t (np := 9) (l2 := [some (eR a0), some (eI (i5)), some (eI (1)), none]) (s2 := [eI (i5), eR v24]) rfl rfl rfl ?_
                  refine j_al (np := 10) rfl rfl hI b26 (by decide) (n := 890) rfl rfl (lo := -1) (hi := 889) (fun _ => rfl) (by omega) (by omega) ?_
                  intro v37 e38 b39
                  have e38 := e38.symm.trans e29
                  rw [e38]
                  refine w_go (t1 := 19) rfl rfl ?_
                  refine w_t (np := 20) (l2 := [some (eR a0), some (eI (i5)), some (eI (1)), some (eI (v28))]) (s2 := []) rfl rfl rfl ?_
                  refine w_t (np := 21) (l2 := [some (eR a0), some (eI (i5)), some (eI (1)), some (eI (v28))]) (s2 := [eR a0]) rfl (s_an rfl (pos_g hI gA0 (by decide))) rfl ?_
                  refine w_t (np := 22) (l2 := [some (eR a0), some (eI (i5)), some (eI (1)), some (eI (v28))]) (s2 := [eI (i5), eR a0]) rfl rfl rfl ?_
                  refine w_t (np := 23) (l2 := [some (eR a0), some (eI (i5)), some (eI (1)), some (eI (v28))]) (s2 := [eI (1), eI (i5), eR a0]) rfl rfl rfl ?_
                  refine w_cw (np := 26) (as := [eI (i5), eI (1)]) (l2 := [some (eR a0), some (eI (i5)), some (eI (1)), none, none, none]) (rest := []) rfl rfl rfl (Nat.ble_eq.mp rfl) rfl rfl rfl (hI.kd gA0 (by decide) (n := 69) rfl) rfl ?_
                  refine s_244 (a1 := i5) (a2 := 1) hI gA0 (by omega) (by decide) ?_
                  intro v40 b41
                  show ex_q (dt_fg L ρ) rc (d + 3, (246, 26, [some (eR a0), some (eI (i5)), some (eI (1)), some (eI (v28))], [eI (v40)]), (247, 87, [some (eR a0), some (eI (a1)), some (eI (i16)), some (eI (i5)), some (eI (i18)), some (eI (v28))], []) :: f :: F, μ)
                  refine w_t (np := 27) (l2 := [some (eR a0), some (eI (i5)), some (eI (1)), some (eI (v28))]) (s2 := [eR a0, eI (v40)]) rfl (s_an rfl (pos_g hI gA0 (by decide))) rfl ?_
                  refine w_t (np := 28) (l2 := [some (eR a0), some (eI (i5)), some (eI (1)), some (eI (v28))]) (s2 := [eI (v28), eR a0, eI (v40)]) rfl rfl rfl ?_
                  refine w_t (np := 29) (l2 := [some (eR a0), some (eI (i5)), some (eI (1)), some (eI (v28))]) (s2 := [eR a0, eI (v28), eR a0, eI (v40)]) rfl (s_an rfl (pos_g hI gA0 (by decide))) rfl ?_
                  refine w_t (np := 30) (l2 := [some (eR a0), some (eI (i5)), some (eI (1)), some (eI (v28))]) (s2 := [eI (i5), eR a0, eI (v28), eR a0, eI (v40)]) rfl rfl rfl ?_
                  refine w_t (np := 31) (l2 := [some (eR a0), some (eI (i5)), some (eI (1)), some (eI (v28))]) (s2 := [eI (0), eI (i5), eR a0, eI (v28), eR a0, eI (v40)]) rfl rfl rfl ?_
                  refine w_cw (np := 34) (as := [eI (i5), eI (0)]) (l2 := [some (eR a0), some (eI (i5)), some (eI (0))]) (rest := [eI (v28), eR a0, eI (v40)]) rfl rfl rfl (Nat.ble_eq.mp rfl) rfl rfl rfl (hI.kd gA0 (by decide) (n := 69) rfl) rfl ?_
                  refine w_t (np := 1) (l2 := [some (eR a0), some (eI (i5)), some (eI (0))]) (s2 := [eR a0]) rfl (s_an rfl (pos_g hI gA0 (by decide))) rfl ?_
                  refine j_gr (np := 4) rfl rfl hI gA0 (by decide) (n := 69) rfl rfl rfl ?_
                  intro v42 e43 b44 z45
                  have b44 : g v42 = 64 := Nat.eq_of_beq_eq_true b44
                  refine w_t (np := 5) (l2 := [some (eR a0), some (eI (i5)), some (eI (0))]) (s2 := [eI (3), eR v42]) rfl rfl rfl ?_
                  refine w_t (np := 6) (l2 := [some (eR a0), some (eI (i5)), some (eI (0))]) (s2 := [eI (i5), eI (3), eR v42]) rfl rfl rfl ?_
                  obtain ⟨v46, e47⟩ : ∃ zz : Int, zz = (3) * (i5) := ⟨_, rfl⟩
                  have b48 : 0 ≤ v46 ∧ v46 ≤ 2667 := by omega
                  refine w_t (np := 7) (l2 := [some (eR a0), some (eI (i5)), some (eI (0))]) (s2 := [eI (v46), eR v42]) rfl (b_imul (by rw [← e47]; exact ev_w_in (by omega) (by omega))) rfl ?_
                  refine w_t (np := 8) (l2 := [some (eR a0), some (eI (i5)), some (eI (0))]) (s2 := [eI (0), eI (v46), eR v42]) rfl rfl rfl ?_
                  refine w_t (np := 9) (l2 := [some (eR a0), some (eI (i5)), some (eI (0))]) (s2 := [eI (v46), eR v42]) rfl (b_iadd (by rw [Int.add_zero]; exact ev_w_in (by omega) (by omega))) rfl ?_
                  refine j_al (np := 10) rfl rfl hI b44 (by decide) (n := 2670) rfl rfl (lo := 0) (hi := 2669) (fun _ => rfl) (by omega) (by omega) ?_
                  intro v49 e50 b51
                  refine b_ri rfl rfl ?_
                  show ex_q (dt_fg L ρ) rc (d + 3, (246, 34, [some (eR a0), some (eI (i5)), some (eI (1)), some (eI (v28))], [eI (v49), eI (v28), eR a0, eI (v40)]), (247, 87, [some (eR a0), some (eI (a1)), some (eI (i16)), some (eI (i5)), some (eI (i18)), some (eI (v28))], []) :: f :: F, μ)
                  refine w_t (np := 35) (l2 := [some (eR a0), some (eI (i5)), some (eI (1)), some (eI (v28))]) (s2 := [eR a0, eI (v49), eI (v28), eR a0, eI (v40)]) rfl (s_an rfl (pos_g hI gA0 (by decide))) rfl ?_
                  refine w_t (np := 36) (l2 := [some (eR a0), some (eI (i5)), some (eI (1)), some (eI (v28))]) (s2 := [eI (i5), eR a0, eI (v49), eI (v28), eR a0, eI (v40)]) rfl rfl rfl ?_
                  refine w_t (np := 37) (l2 := [some (eR a0), some (eI (i5)), some (eI (1)), some (eI (v28))]) (s2 := [eI (1), eI (i5), eR a0, eI (v49), eI (v28), eR a0, eI (v40)]) rfl rfl rfl ?_
                  refine b_ieq (t1 := 44) (t2 := 40) rfl rfl rfl rfl (fun g52 => absurd g52 (by decide)) (fun g52 => ?_)
                  refine w_t (np := 41) (l2 := [some (eR a0), some (eI (i5)), some (eI (1)), some (eI (v28))]) (s2 := [eI (1), eI (i5), eR a0, eI (v49), eI (v28), eR a0, eI (v40)]) rfl rfl rfl ?_
                  refine w_go (t1 := 45) rfl rfl ?_
                  refine w_cw (np := 48) (as := [eI (i5), eI (1)]) (l2 := [some (eR a0), some (eI (i5)), some (eI (1))]) (rest := [eI (v49), eI (v28), eR a0, eI (v40)]) rfl rfl rfl (Nat.ble_eq.mp rfl) rfl rfl rfl (hI.kd gA0 (by decide) (n := 69) rfl) rfl ?_
                  refine w_t (np := 1) (l2 := [some (eR a0), some (eI (i5)), some (eI (1))]) (s2 := [eR a0]) rfl (s_an rfl (pos_g hI gA0 (by decide))) rfl ?_
                  refine w_gf (np := 4) (v := eR v42) rfl rfl (hI.kd gA0 (by decide) (n := 69) rfl) (by rw [e43]; rfl) ?_
                  refine w_t (np := 5) (l2 := [some (eR a0), some (eI (i5)), some (eI (1))]) (s2 := [eI (3), eR v42]) rfl rfl rfl ?_
                  refine w_t (np := 6) (l2 := [some (eR a0), some (eI (i5)), some (eI (1))]) (s2 := [eI (i5), eI (3), eR v42]) rfl rfl rfl ?_
                  obtain ⟨v53, e54⟩ : ∃ zz : Int, zz = (3) * (i5) := ⟨_, rfl⟩
                  have b55 : 0 ≤ v53 ∧ v53 ≤ 2667 := by omega
                  refine w_t (np := 7) (l2 := [some (eR a0), some (eI (i5)), some (eI (1))]) (s2 := [eI (v53), eR v42]) rfl (b_imul (by rw [← e54]; exact ev_w_in (by omega) (by omega))) rfl ?_
                  refine w_t (np := 8) (l2 := [some (eR a0), some (eI (i5)), some (eI (1))]) (s2 := [eI (1), eI (v53), eR v42]) rfl rfl rfl ?_
                  obtain ⟨v56, e57⟩ : ∃ zz : Int, zz = (v53) + (1) := ⟨_, rfl⟩
                  have b58 : 1 ≤ v56 ∧ v56 ≤ 2668 := by omega
                  refine w_t (np := 9) (l2 := [some (eR a0), some (eI (i5)), some (eI (1))]) (s2 := [eI (v56), eR v42]) rfl (b_iadd (by rw [← e57]; exact ev_w_in (by omega) (by omega))) rfl ?_
                  refine j_al (np := 10) rfl rfl hI b44 (by decide) (n := 2670) rfl rfl (lo := 0) (hi := 2669) (fun _ => rfl) (by omega) (by omega) ?_
                  intro v59 e60 b61
                  refine b_ri rfl rfl ?_
                  show ex_q (dt_fg L ρ) rc (d + 3, (246, 48, [some (eR a0), some (eI (i5)), some (eI (1)), some (eI (v28))], [eI (v59), eI (v49), eI (v28), eR a0, eI (v40)]), (247, 87, [some (eR a0), some (eI (a1)), some (eI (i16)), some (eI (i5)), some (eI (i18)), some (eI (v28))], []) :: f :: F, μ)
                  refine w_cw (np := 51) (as := [eI (v28), eI (v49), eI (v59)]) (l2 := [some (eR a0), some (eI (v28)), some (eI (v49)), some (eI (v59))]) (rest := [eI (v40)]) rfl rfl rfl (Nat.ble_eq.mp rfl) rfl rfl rfl (hI.kd gA0 (by decide) (n := 69) rfl) rfl ?_
                  refine s_245 (a1 := v28) (a2 := v49) (a3 := v59) hI gA0 (by omega) (by omega) (by omega) ?_
                  intro v62 b63
                  show ex_q (dt_fg L ρ) rc (d + 3, (246, 51, [some (eR a0), some (eI (i5)), some (eI (1)), some (eI (v28))], [eI (v62), eI (v40)]), (247, 87, [some (eR a0), some (eI (a1)), some (eI (i16)), some (eI (i5)), some (eI (i18)), some (eI (v28))], []) :: f :: F, μ)
                  refine b_cne (t1 := 58) (t2 := 54) rfl rfl rfl (ev_w_in (by omega) (by omega)) (ev_w_in (by omega) (by omega)) (fun g64 => ?_) (fun g64 => ?_)
                  · refine w_t (np := 59) (l2 := [some (eR a0), some (eI (i5)), some (eI (1)), some (eI (v28))]) (s2 := [eI (0)]) rfl rfl rfl ?_
                    refine b_rz rfl rfl (Or.inl rfl) ?_
                    show ex_q (dt_fg L ρ) rc (d + 4, (247, 87, [some (eR a0), some (eI (a1)), some (eI (i16)), some (eI (i5)), some (eI (i18)), some (eI (v28))], [eI (0)]), f :: F, μ)
                    refine w_t (np := 88) (l2 := [some (eR a0), some (eI (a1)), some (eI (i16)), some (eI (i5)), some (eI (i18)), some (eI (v28))]) (s2 := [eI (a1), eI (0)]) rfl rfl rfl ?_
                    refine w_t (np := 89) (l2 := [some (eR a0), some (eI (a1)), some (eI (i16)), some (eI (i5)), some (eI (i18)), some (eI (v28))]) (s2 := [eI (1), eI (a1), eI (0)]) rfl rfl rfl ?_
                    refine b_cne (t1 := 96) (t2 := 92) rfl rfl rfl (ev_w_in (by omega) (by omega)) rfl (fun g65 => ?_) (fun g65 => ?_)
                    · refine w_t (np := 97) (l2 := [some (eR a0), some (eI (a1)), some (eI (i16)), some (eI (i5)), some (eI (i18)), some (eI (v28))]) (s2 := [eI (0), eI (0)]) rfl rfl rfl ?_
                      refine b_cne (t1 := 103) (t2 := 100) rfl rfl rfl rfl rfl (fun g66 => absurd g66 (by decide)) (fun g66 => ?_)
                      obtain ⟨v67, e68, b69⟩ : ∃ zz : Int, ev_w ((i16) + (1)) = zz ∧ (-2147483648 ≤ zz ∧ zz ≤ 2147483647) := ⟨_, rfl, hw_bd _⟩
                      refine w_t (np := 103) (l2 := [some (eR a0), some (eI (a1)), some (eI (v67)), some (eI (i5)), some (eI (i18)), some (eI (v28))]) (s2 := []) rfl (b_iinc rfl e68 rfl) rfl ?_
                      obtain ⟨v70, e71⟩ : ∃ zz : Int, zz = (i18) + (1) := ⟨_, rfl⟩
                      have b72 : 1 ≤ v70 ∧ v70 ≤ 1 := by omega
                      refine w_t (np := 106) (l2 := [some (eR a0), some (eI (a1)), some (eI (v67)), some (eI (i5)), some (eI (v70)), some (eI (v28))]) (s2 := []) rfl (b_iinc rfl (by rw [← e71]; exact ev_w_in (by omega) (by omega)) rfl) rfl ?_
                      refine w_go (t1 := 15) rfl rfl ?_
                      exact ih15 (2 - (v70)).toNat (by omega) (v67) (v70) (some (eI (v28))) (by omega) (by omega)     rfl
                    · have b66 : 1 ≤ a1 ∧ a1 ≤ 1 := by omega
                      refine w_t (np := 93) (l2 := [some (eR a0), some (eI (a1)), some (eI (i16)), some (eI (i5)), some (eI (i18)), some (eI (v28))]) (s2 := [eI (1), eI (0)]) rfl rfl rfl ?_
                      refine w_go (t1 := 97) rfl rfl ?_
                      refine b_cne (t1 := 103) (t2 := 100) rfl rfl rfl rfl rfl (fun g66 => ?_) (fun g66 => absurd g66 (by decide))
                      obtain ⟨v67, e68⟩ : ∃ zz : Int, zz = (i18) + (1) := ⟨_, rfl⟩
                      have b69 : 1 ≤ v67 ∧ v67 ≤ 1 := by omega
                      refine w_t (np := 106) (l2 := [some (eR a0), some (eI (a1)), some (eI (i16)), some (eI (i5)), some (eI (v67)), some (eI (v28))]) (s2 := []) rfl (b_iinc rfl (by rw [← e68]; exact ev_w_in (by omega) (by omega)) rfl) rfl ?_
                      refine w_go (t1 := 15) rfl rfl ?_
                      exact ih15 (2 - (v67)).toNat (by omega) (i16) (v67) (some (eI (v28))) (by omega) (by omega)     rfl
                  · refine w_t (np := 55) (l2 := [some (eR a0), some (eI (i5)), some (eI (1)), some (eI (v28))]) (s2 := [eI (1)]) rfl rfl rfl ?_
                    refine w_go (t1 := 59) rfl rfl ?_
                    refine b_rz rfl rfl (Or.inr rfl) ?_
                    show ex_q (dt_fg L ρ) rc (d + 4, (247, 87, [some (eR a0), some (eI (a1)), some (eI (i16)), some (eI (i5)), some (eI (i18)), some (eI (v28))], [eI (1)]), f :: F, μ)
                    refine w_t (np := 88) (l2 := [some (eR a0), some (eI (a1)), some (eI (i16)), some (eI (i5)), some (eI (i18)), some (eI (v28))]) (s2 := [eI (a1), eI (1)]) rfl rfl rfl ?_
                    refine w_t (np := 89) (l2 := [some (eR a0), some (eI (a1)), some (eI (i16)), some (eI (i5)), some (eI (i18)), some (eI (v28))]) (s2 := [eI (1), eI (a1), eI (1)]) rfl rfl rfl ?_
                    refine b_cne (t1 := 96) (t2 := 92) rfl rfl rfl (ev_w_in (by omega) (by omega)) rfl (fun g65 => ?_) (fun g65 => ?_)
                    · refine w_t (np := 97) (l2 := [some (eR a0), some (eI (a1)), some (eI (i16)), some (eI (i5)), some (eI (i18)), some (eI (v28))]) (s2 := [eI (0), eI (1)]) rfl rfl rfl ?_
                      refine b_cne (t1 := 103) (t2 := 100) rfl rfl rfl rfl rfl (fun g66 => ?_) (fun g66 => absurd g66 (by decide))
                      obtain ⟨v67, e68⟩ : ∃ zz : Int, zz = (i18) + (1) := ⟨_, rfl⟩
                      have b69 : 1 ≤ v67 ∧ v67 ≤ 1 := by omega
                      refine w_t (np := 106) (l2 := [some (eR a0), some (eI (a1)), some (eI (i16)), some (eI (i5)), some (eI (v67)), some (eI (v28))]) (s2 := []) rfl (b_iinc rfl (by rw [← e68]; exact ev_w_in (by omega) (by omega)) rfl) rfl ?_
                      refine w_go (t1 := 15) rfl rfl ?_
                      exact ih15 (2 - (v67)).toNat (by omega) (i16) (v67) (some (eI (v28))) (by omega) (by omega)     rfl
                    · have b66 : 1 ≤ a1 ∧ a1 ≤ 1 := by omega
                      refine w_t (np := 93) (l2 := [some (eR a0), some (eI (a1)), some (eI (i16)), some (eI (i5)), some (eI (i18)), some (eI (v28))]) (s2 := [eI (1), eI (1)]) rfl rfl rfl ?_
                      refine w_go (t1 := 97) rfl rfl ?_
                      refine b_cne (t1 := 103) (t2 := 100) rfl rfl rfl rfl rfl (fun g66 => absurd g66 (by decide)) (fun g66 => ?_)
                      obtain ⟨v67, e68, b69⟩ : ∃ zz : Int, ev_w ((i16) + (1)) = zz ∧ (-2147483648 ≤ zz ∧ zz ≤ 2147483647) := ⟨_, rfl, hw_bd _⟩
                      refine w_t (np := 103) (l2 := [some (eR a0), some (eI (a1)), some (eI (v67)), some (eI (i5)), some (eI (i18)), some (eI (v28))]) (s2 := []) rfl (b_iinc rfl e68 rfl) rfl ?_
                      obtain ⟨v70, e71⟩ : ∃ zz : Int, zz = (i18) + (1) := ⟨_, rfl⟩
                      have b72 : 1 ≤ v70 ∧ v70 ≤ 1 := by omega
                      refine w_t (np := 106) (l2 := [some (eR a0), some (eI (a1)), some (eI (v67)), some (eI (i5)), some (eI (v70)), some (eI (v28))]) (s2 := []) rfl (b_iinc rfl (by rw [← e71]; exact ev_w_in (by omega) (by omega)) rfl) rfl ?_
                      refine w_go (t1 := 15) rfl rfl ?_
                      exact ih15 (2 - (v70)).toNat (by omega) (v67) (v70) (some (eI (v28))) (by omega) (by omega)     rfl
                · have b34 : 0 ≤ a1 ∧ a1 ≤ 0 := by omega
                  obtain ⟨v34, e35, b36⟩ : ∃ zz : Int, ev_w ((i16) + (1)) = zz ∧ (-2147483648 ≤ zz ∧ zz ≤ 2147483647) := ⟨_, rfl, hw_bd _⟩
                  refine w_t (np := 64) (l2 := [some (eR a0), some (eI (a1)), some (eI (v34)), some (eI (i5)), some (eI (i18)), some (eI (v28))]) (s2 := []) rfl (b_iinc rfl e35 rfl) rfl ?_
                  refine w_go (t1 := 103) rfl rfl ?_
                  obtain ⟨v37, e38⟩ : ∃ zz : Int, zz = (i18) + (1) := ⟨_, rfl⟩
                  have b39 : 1 ≤ v37 ∧ v37 ≤ 1 := by omega
                  refine w_t (np := 106) (l2 := [some (eR a0), some (eI (a1)), some (eI (v34)), some (eI (i5)), some (eI (v37)), some (eI (v28))]) (s2 := []) rfl (b_iinc rfl (by rw [← e38]; exact ev_w_in (by omega) (by omega)) rfl) rfl ?_
                  refine w_go (t1 := 15) rfl rfl ?_
                  exact ih15 (2 - (v37)).toNat (by omega) (v34) (v37) (some (eI (v28))) (by omega) (by omega)     rfl
              · have b33 : 0 ≤ v28 ∧ v28 ≤ 888 := by omega
                have b34 : 1 ≤ i5 ∧ i5 ≤ 889 := by omega
                refine w_go (t1 := 103) rfl rfl ?_
                obtain ⟨v33, e34⟩ : ∃ zz : Int, zz = (i18) + (1) := ⟨_, rfl⟩
                have b35 : 1 ≤ v33 ∧ v33 ≤ 1 := by omega
                refine w_t (np := 106) (l2 := [some (eR a0), some (eI (a1)), some (eI (i16)), some (eI (i5)), some (eI (v33)), some (eI (v28))]) (s2 := []) rfl (b_iinc rfl (by rw [← e34]; exact ev_w_in (by omega) (by omega)) rfl) rfl ?_
                refine w_go (t1 := 15) rfl rfl ?_
                exact ih15 (2 - (v33)).toNat (by omega) (i16) (v33) (some (eI (v28))) (by omega) (by omega)     rfl
      exact hL15 _ (i3) (0) (o8) (by omega) (by decide)     rfl
  exact hL4 _ (0) (0) (none) (none) (by decide) (by decide)     rfl
def l_250 : List Nat := [17920, 18176]
theorem s_250 {L : Nat} {ρ : Nat → Int} {rc : eQ} {d : Nat} {f : eFr} {F : List eFr} {μ : eM} {g : Nat → Nat} {a0 : Nat} {a1 : Int} {a2 : Int} {a3 : Int} {a4 : Int} (hI : SI g μ) (gA0 : g a0 = 52) (bA1 : 0 ≤ a1 ∧ a1 ≤ 5) (bA2 : 1 ≤ a2 ∧ a2 ≤ 4) (bA3 : 0 ≤ a3 ∧ a3 ≤ 9) (bA4 : 0 ≤ a4 ∧ a4 ≤ 9) (K : ∀ (μ2 : eM), SI g μ2 → Fr l_250 0 0 g μ μ2 → ex_q (dt_fg L ρ) rc (d + 2, (f.1, f.2.1, f.2.2.1, f.2.2.2), F, μ2)) : ex_q (dt_fg L ρ) rc (d + 1, (250, 0, [some (eR a0), some (eI (a1)), some (eI (a2)), some (eI (a3)), some (eI (a4)), none], []), f :: F, μ) := by
  have F0 : Fr l_250 0 0 g μ μ := Fr.r
  refine w_t (np := 2) (l2 := [some (eR a0), some (eI (a1)), some (eI (a2)), some (eI (a3)), some (eI (a4)), none]) (s2 := [eI (a4)]) rfl rfl rfl ?_
  refine w_t (np := 3) (l2 := [some (eR a0), some (eI (a1)), some (eI (a2)), some (eI (a3)), some (eI (a4)), none]) (s2 := [eI (a3), eI (a4)]) rfl rfl rfl ?_
  obtain ⟨v1, e2⟩ : ∃ zz : Int, zz = (a4) - (a3) := ⟨_, rfl⟩
  have b3 : -9 ≤ v1 ∧ v1 ≤ 9 := by omega
  refine w_t (np := 4) (l2 := [some (eR a0), some (eI (a1)), some (eI (a2)), some (eI (a3)), some (eI (a4)), none]) (s2 := [eI (v1)]) rfl (b_isub (by rw [← e2]; exact ev_w_in (by omega) (by omega))) rfl ?_
  refine w_cu (np := 7) (as := [eI (v1)]) (l2 := [some (eI (v1))]) (rest := []) rfl rfl rfl (Nat.ble_eq.mp rfl) rfl rfl rfl rfl ?_
  refine s_217 (a0 := v1) hI (by omega) ?_
  intro v4 b5
  show ex_q (dt_fg L ρ) rc (d + 1, (250, 7, [some (eR a0), some (eI (a1)), some (eI (a2)), some (eI (a3)), some (eI (a4)), none], [eI (v4)]), f :: F, μ)
  refine w_t (np := 8) (l2 := [some (eR a0), some (eI (a1)), some (eI (a2)), some (eI (a3)), some (eI (a4)), none]) (s2 := [eI (a2), eI (v4)]) rfl rfl rfl ?_
  refine b_cne (t1 := 15) (t2 := 11) rfl rfl rfl (ev_w_in (by omega) (by omega)) (ev_w_in (by omega) (by omega)) (fun g6 => ?_) (fun g6 => ?_)
  · refine w_t (np := 17) (l2 := [some (eR a0), some (eI (a1)), some (eI (a2)), some (eI (a3)), some (eI (a4)), none]) (s2 := [eI (a4)]) rfl rfl rfl ?_
    refine w_t (np := 19) (l2 := [some (eR a0), some (eI (a1)), some (eI (a2)), some (eI (a3)), some (eI (a4)), some (eI (a4))]) (s2 := []) rfl rfl rfl ?_
    refine w_t (np := 20) (l2 := [some (eR a0), some (eI (a1)), some (eI (a2)), some (eI (a3)), some (eI (a4)), some (eI (a4))]) (s2 := [eR a0]) rfl (s_an rfl (pos_g hI gA0 (by decide))) rfl ?_
    refine j_gr (np := 23) rfl rfl hI gA0 (by decide) (n := 69) rfl rfl rfl ?_
    intro v7 e8 b9 z10
    have b9 : g v7 = 70 := Nat.eq_of_beq_eq_true b9
    refine w_t (np := 25) (l2 := [some (eR a0), some (eI (a1)), some (eI (a2)), some (eI (a3)), some (eI (a4)), some (eI (a4))]) (s2 := [eI (a4), eR v7]) rfl rfl rfl ?_
    refine w_t (np := 26) (l2 := [some (eR a0), some (eI (a1)), some (eI (a2)), some (eI (a3)), some (eI (a4)), some (eI (a4))]) (s2 := [eI (a1), eI (a4), eR v7]) rfl rfl rfl ?_
    refine j_as (np := 27) rfl rfl hI b9 (by decide) (n := 10) rfl rfl (lo := -1) (hi := 5) (fun _ => rfl) (by omega) (by omega) (by omega) ?_
    intro m11 I12 W13
    have F14 : Fr l_250 0 0 g μ m11 := F0.v W13 b9 rfl rfl
    refine w_t (np := 28) (l2 := [some (eR a0), some (eI (a1)), some (eI (a2)), some (eI (a3)), some (eI (a4)), some (eI (a4))]) (s2 := [eR a0]) rfl (s_an rfl (pos_g I12 gA0 (by decide))) rfl ?_
    refine j_gr (np := 31) rfl rfl I12 gA0 (by decide) (n := 69) rfl rfl rfl ?_
    intro v15 e16 b17 z18
    have b17 : g v15 = 71 := Nat.eq_of_beq_eq_true b17
    refine w_t (np := 33) (l2 := [some (eR a0), some (eI (a1)), some (eI (a2)), some (eI (a3)), some (eI (a4)), some (eI (a4))]) (s2 := [eI (a4), eR v15]) rfl rfl rfl ?_
    refine w_t (np := 34) (l2 := [some (eR a0), some (eI (a1)), some (eI (a2)), some (eI (a3)), some (eI (a4)), some (eI (a4))]) (s2 := [eI (a2), eI (a4), eR v15]) rfl rfl rfl ?_
    refine j_as (np := 35) rfl rfl I12 b17 (by decide) (n := 10) rfl rfl (lo := 0) (hi := 4) (fun _ => rfl) (by omega) (by omega) (by omega) ?_
    intro m19 I20 W21
    have F22 : Fr l_250 0 0 g μ m19 := F14.v W21 b17 rfl rfl
    exact v_rv rfl rfl (K m19 I20 F22)
  · have b7 : 1 ≤ v4 ∧ v4 ≤ 4 := by omega
    refine w_t (np := 12) (l2 := [some (eR a0), some (eI (a1)), some (eI (a2)), some (eI (a3)), some (eI (a4)), none]) (s2 := [eI (a3)]) rfl rfl rfl ?_
    refine w_go (t1 := 17) rfl rfl ?_
    refine w_t (np := 19) (l2 := [some (eR a0), some (eI (a1)), some (eI (a2)), some (eI (a3)), some (eI (a4)), some (eI (a3))]) (s2 := []) rfl rfl rfl ?_
    refine w_t (np := 20) (l2 := [some (eR a0), some (eI (a1)), some (eI (a2)), some (eI (a3)), some (eI (a4)), some (eI (a3))]) (s2 := [eR a0]) rfl (s_an rfl (pos_g hI gA0 (by decide))) rfl ?_
    refine j_gr (np := 23) rfl rfl hI gA0 (by decide) (n := 69) rfl rfl rfl ?_
    intro v7 e8 b9 z10
    have b9 : g v7 = 70 := Nat.eq_of_beq_eq_true b9
    refine w_t (np := 25) (l2 := [some (eR a0), some (eI (a1)), some (eI (a2)), some (eI (a3)), some (eI (a4)), some (eI (a3))]) (s2 := [eI (a3), eR v7]) rfl rfl rfl ?_
    refine w_t (np := 26) (l2 := [some (eR a0), some (eI (a1)), some (eI (a2)), some (eI (a3)), some (eI (a4)), some (eI (a3))]) (s2 := [eI (a1), eI (a3), eR v7]) rfl rfl rfl ?_
    refine j_as (np := 27) rfl rfl hI b9 (by decide) (n := 10) rfl rfl (lo := -1) (hi := 5) (fun _ => rfl) (by omega) (by omega) (by omega) ?_
    intro m11 I12 W13
    have F14 : Fr l_250 0 0 g μ m11 := F0.v W13 b9 rfl rfl
    refine w_t (np := 28) (l2 := [some (eR a0), some (eI (a1)), some (eI (a2)), some (eI (a3)), some (eI (a4)), some (eI (a3))]) (s2 := [eR a0]) rfl (s_an rfl (pos_g I12 gA0 (by decide))) rfl ?_
    refine j_gr (np := 31) rfl rfl I12 gA0 (by decide) (n := 69) rfl rfl rfl ?_
    intro v15 e16 b17 z18
    have b17 : g v15 = 71 := Nat.eq_of_beq_eq_true b17
    refine w_t (np := 33) (l2 := [some (eR a0), some (eI (a1)), some (eI (a2)), some (eI (a3)), some (eI (a4)), some (eI (a3))]) (s2 := [eI (a3), eR v15]) rfl rfl rfl ?_
    refine w_t (np := 34) (l2 := [some (eR a0), some (eI (a1)), some (eI (a2)), some (eI (a3)), some (eI (a4)), some (eI (a3))]) (s2 := [eI (a2), eI (a3), eR v15]) rfl rfl rfl ?_
    refine j_as (np := 35) rfl rfl I12 b17 (by decide) (n := 10) rfl rfl (lo := 0) (hi := 4) (fun _ => rfl) (by omega) (by omega) (by omega) ?_
    intro m19 I20 W21
    have F22 : Fr l_250 0 0 g μ m19 := F14.v W21 b17 rfl rfl
    exact v_rv rfl rfl (K m19 I20 F22)
theorem s_258 {L : Nat} {ρ : Nat → Int} {rc : eQ} {d : Nat} {f : eFr} {F : List eFr} {μ : eM} {g : Nat → Nat} {a0 : Nat} {a1 : Int} (hI : SI g μ) (gA0 : g a0 = 52) (bA1 : -2147483648 ≤ a1 ∧ a1 ≤ 2147483647) (K : ∀ (v : Int), (-2147483648 ≤ v ∧ v ≤ 2147483647) → ex_q (dt_fg L ρ) rc (d + 1, (f.1, f.2.1, f.2.2.1, eI v :: f.2.2.2), F, μ)) : ex_q (dt_fg L ρ) rc (d, (258, 0, [some (eR a0), some (eI (a1)), none, none], []), f :: F, μ) := by
  refine w_t (np := 1) (l2 := [some (eR a0), some (eI (a1)), none, none]) (s2 := [eI (0)]) rfl rfl rfl ?_
  refine w_t (np := 2) (l2 := [some (eR a0), some (eI (a1)), some (eI (0)), none]) (s2 := []) rfl rfl rfl ?_
  refine w_t (np := 3) (l2 := [some (eR a0), some (eI (a1)), some (eI (0)), none]) (s2 := [eI (0)]) rfl rfl rfl ?_
  refine w_t (np := 4) (l2 := [some (eR a0), some (eI (a1)), some (eI (0)), some (eI (0))]) (s2 := []) rfl rfl rfl ?_
  have hL4 : ∀ (n1 : Nat) (i3 : Int) (i5 : Int), (-2147483648 ≤ i3 ∧ i3 ≤ 2147483647) → (0 ≤ i5 ∧ i5 ≤ 890) → n1 = (890 - i5).toNat → ex_q (dt_fg L ρ) rc (d, (258, 4, [some (eR a0), some (eI (a1)), some (eI (i3)), some (eI (i5))], []), f :: F, μ) := by
    intro n1
    induction n1 using Nat.strongRecOn with
    | _ n1 ih2 =>
    intro i3 i5 b4 b6 hn7
    refine w_t (np := 5) (l2 := [some (eR a0), some (eI (a1)), some (eI (i3)), some (eI (i5))]) (s2 := [eI (i5)]) rfl rfl rfl ?_
    refine w_t (np := 6) (l2 := [some (eR a0), some (eI (a1)), some (eI (i3)), some (eI (i5))]) (s2 := [eR a0, eI (i5)]) rfl (s_an rfl (pos_g hI gA0 (by decide))) rfl ?_
    refine j_gi (np := 9) rfl rfl rfl hI gA0 (by decide) (n := 69) rfl rfl (lo := 0) (hi := 890) rfl ?_
    intro v8 e9 b10
    refine b_cge (t1 := 36) (t2 := 12) rfl rfl rfl (ev_w_in (by omega) (by omega)) (ev_w_in (by omega) (by omega)) (fun g11 => ?_) (fun g11 => ?_)
    · refine w_t (np := 37) (l2 := [some (eR a0), some (eI (a1)), some (eI (i3)), some (eI (i5))]) (s2 := [eI (i3)]) rfl rfl rfl ?_
      exact b_ri rfl rfl (K (i3) (by omega))
    · have b12 : 0 ≤ i5 ∧ i5 ≤ 889 := by omega
      have b13 : 1 ≤ v8 ∧ v8 ≤ 890 := by omega
      refine w_t (np := 13) (l2 := [some (eR a0), some (eI (a1)), some (eI (i3)), some (eI (i5))]) (s2 := [eI (i3)]) rfl rfl rfl ?_
      refine w_t (np := 14) (l2 := [some (eR a0), some (eI (a1)), some (eI (i3)), some (eI (i5))]) (s2 := [eR a0, eI (i3)]) rfl (s_an rfl (pos_g hI gA0 (by decide))) rfl ?_
      refine j_gr (np := 17) rfl rfl hI gA0 (by decide) (n := 69) rfl rfl rfl ?_
      intro v12 e13 b14 z15
      have b14 : g v12 = 56 := Nat.eq_of_beq_eq_true b14
      refine w_t (np := 18) (l2 := [some (eR a0), some (eI (a1)), some (eI (i3)), some (eI (i5))]) (s2 := [eI (i5), eR v12, eI (i3)]) rfl rfl rfl ?_
      refine j_al (np := 19) rfl rfl hI b14 (by decide) (n := 890) rfl rfl (lo := 0) (hi := 1) (fun _ => rfl) (by omega) (by omega) ?_
      intro v16 e17 b18
      refine w_t (np := 20) (l2 := [some (eR a0), some (eI (a1)), some (eI (i3)), some (eI (i5))]) (s2 := [eI (a1), eI (v16), eI (i3)]) rfl rfl rfl ?_
      refine b_cne (t1 := 27) (t2 := 23) rfl rfl rfl (ev_w_in (by omega) (by omega)) (ev_w_in (by omega) (by omega)) (fun g19 => ?_) (fun g19 => ?_)
      · refine w_t (np := 28) (l2 := [some (eR a0), some (eI (a1)), some (eI (i3)), some (eI (i5))]) (s2 := [eI (0), eI (i3)]) rfl rfl rfl ?_
        refine w_t (np := 29) (l2 := [some (eR a0), some (eI (a1)), some (eI (i3)), some (eI (i5))]) (s2 := [eI (i3)]) rfl (b_iadd (by rw [Int.add_zero]; exact ev_w_in (by omega) (by omega))) rfl ?_
        refine w_t (np := 30) (l2 := [some (eR a0), some (eI (a1)), some (eI (i3)), some (eI (i5))]) (s2 := []) rfl rfl rfl ?_
        obtain ⟨v20, e21⟩ : ∃ zz : Int, zz = (i5) + (1) := ⟨_, rfl⟩
        have b22 : 1 ≤ v20 ∧ v20 ≤ 890 := by omega
        refine w_t (np := 33) (l2 := [some (eR a0), some (eI (a1)), some (eI (i3)), some (eI (v20))]) (s2 := []) rfl (b_iinc rfl (by rw [← e21]; exact ev_w_in (by omega) (by omega)) rfl) rfl ?_
        refine w_go (t1 := 4) rfl rfl ?_
        exact ih2 (890 - (v20)).toNat (by omega) (i3) (v20) (by omega) (by omega)     rfl
      · have b20 : 0 ≤ a1 ∧ a1 ≤ 1 := by omega
        refine w_t (np := 24) (l2 := [some (eR a0), some (eI (a1)), some (eI (i3)), some (eI (i5))]) (s2 := [eI (1), eI (i3)]) rfl rfl rfl ?_
        refine w_go (t1 := 28) rfl rfl ?_
        obtain ⟨v20, e21, b22⟩ : ∃ zz : Int, ev_w ((i3) + (1)) = zz ∧ (-2147483648 ≤ zz ∧ zz ≤ 2147483647) := ⟨_, rfl, hw_bd _⟩
        refine w_t (np := 29) (l2 := [some (eR a0), some (eI (a1)), some (eI (i3)), some (eI (i5))]) (s2 := [eI (v20)]) rfl (b_iadd e21) rfl ?_
        refine w_t (np := 30) (l2 := [some (eR a0), some (eI (a1)), some (eI (v20)), some (eI (i5))]) (s2 := []) rfl rfl rfl ?_
        obtain ⟨v23, e24⟩ : ∃ zz : Int, zz = (i5) + (1) := ⟨_, rfl⟩
        have b25 : 1 ≤ v23 ∧ v23 ≤ 890 := by omega
        refine w_t (np := 33) (l2 := [some (eR a0), some (eI (a1)), some (eI (v20)), some (eI (v23))]) (s2 := []) rfl (b_iinc rfl (by rw [← e24]; exact ev_w_in (by omega) (by omega)) rfl) rfl ?_
        refine w_go (t1 := 4) rfl rfl ?_
        exact ih2 (890 - (v23)).toNat (by omega) (v20) (v23) (by omega) (by omega)     rfl
  exact hL4 _ (0) (0) (by decide) (by decide)     rfl
theorem s_259 {L : Nat} {ρ : Nat → Int} {rc : eQ} {d : Nat} {f : eFr} {F : List eFr} {μ : eM} {g : Nat → Nat} {a0 : Nat} (hI : SI g μ) (gA0 : g a0 = 52) (K : ∀ (v : Int), (-2147483648 ≤ v ∧ v ≤ 2147483647) → ex_q (dt_fg L ρ) rc (d + 1, (f.1, f.2.1, f.2.2.1, eI v :: f.2.2.2), F, μ)) : ex_q (dt_fg L ρ) rc (d, (259, 0, [some (eR a0), none, none], []), f :: F, μ) := by
  refine w_t (np := 1) (l2 := [some (eR a0), none, none]) (s2 := [eI (0)]) rfl rfl rfl ?_
  refine w_t (np := 2) (l2 := [some (eR a0), some (eI (0)), none]) (s2 := []) rfl rfl rfl ?_
  refine w_t (np := 3) (l2 := [some (eR a0), some (eI (0)), none]) (s2 := [eI (0)]) rfl rfl rfl ?_
  refine w_t (np := 4) (l2 := [some (eR a0), some (eI (0)), some (eI (0))]) (s2 := []) rfl rfl rfl ?_
  have hL4 : ∀ (n1 : Nat) (i3 : Int) (i5 : Int), (-2147483648 ≤ i3 ∧ i3 ≤ 2147483647) → (0 ≤ i5 ∧ i5 ≤ 890) → n1 = (890 - i5).toNat → ex_q (dt_fg L ρ) rc (d, (259, 4, [some (eR a0), some (eI (i3)), some (eI (i5))], []), f :: F, μ) := by
    intro n1
    induction n1 using Nat.strongRecOn with
    | _ n1 ih2 =>
    intro i3 i5 b4 b6 hn7
    refine w_t (np := 5) (l2 := [some (eR a0), some (eI (i3)), some (eI (i5))]) (s2 := [eI (i5)]) rfl rfl rfl ?_
    refine w_t (np := 6) (l2 := [some (eR a0), some (eI (i3)), some (eI (i5))]) (s2 := [eR a0, eI (i5)]) rfl (s_an rfl (pos_g hI gA0 (by decide))) rfl ?_
    refine j_gi (np := 9) rfl rfl rfl hI gA0 (by decide) (n := 69) rfl rfl (lo := 0) (hi := 890) rfl ?_
    intro v8 e9 b10
    refine b_cge (t1 := 35) (t2 := 12) rfl rfl rfl (ev_w_in (by omega) (by omega)) (ev_w_in (by omega) (by omega)) (fun g11 => ?_) (fun g11 => ?_)
    · refine w_t (np := 36) (l2 := [some (eR a0), some (eI (i3)), some (eI (i5))]) (s2 := [eI (i3)]) rfl rfl rfl ?_
      exact b_ri rfl rfl (K (i3) (by omega))
    · have b12 : 0 ≤ i5 ∧ i5 ≤ 889 := by omega
      have b13 : 1 ≤ v8 ∧ v8 ≤ 890 := by omega
      refine w_t (np := 13) (l2 := [some (eR a0), some (eI (i3)), some (eI (i5))]) (s2 := [eI (i3)]) rfl rfl rfl ?_
      refine w_t (np := 14) (l2 := [some (eR a0), some (eI (i3)), some (eI (i5))]) (s2 := [eR a0, eI (i3)]) rfl (s_an rfl (pos_g hI gA0 (by decide))) rfl ?_
      refine j_gr (np := 17) rfl rfl hI gA0 (by decide) (n := 69) rfl rfl rfl ?_
      intro v12 e13 b14 z15
      have b14 : g v12 = 67 := Nat.eq_of_beq_eq_true b14
      refine w_t (np := 18) (l2 := [some (eR a0), some (eI (i3)), some (eI (i5))]) (s2 := [eI (i5), eR v12, eI (i3)]) rfl rfl rfl ?_
      refine j_al (np := 19) rfl rfl hI b14 (by decide) (n := 890) rfl rfl (lo := -1) (hi := 889) (fun _ => rfl) (by omega) (by omega) ?_
      intro v16 e17 b18
      refine b_ilt (t1 := 26) (t2 := 22) rfl rfl rfl (ev_w_in (by omega) (by omega)) (fun g19 => ?_) (fun g19 => ?_)
      · have b20 : -1 ≤ v16 ∧ v16 ≤ -1 := by omega
        refine w_t (np := 27) (l2 := [some (eR a0), some (eI (i3)), some (eI (i5))]) (s2 := [eI (0), eI (i3)]) rfl rfl rfl ?_
        refine w_t (np := 28) (l2 := [some (eR a0), some (eI (i3)), some (eI (i5))]) (s2 := [eI (i3)]) rfl (b_iadd (by rw [Int.add_zero]; exact ev_w_in (by omega) (by omega))) rfl ?_
        refine w_t (np := 29) (l2 := [some (eR a0), some (eI (i3)), some (eI (i5))]) (s2 := []) rfl rfl rfl ?_
        obtain ⟨v20, e21⟩ : ∃ zz : Int, zz = (i5) + (1) := ⟨_, rfl⟩
        have b22 : 1 ≤ v20 ∧ v20 ≤ 890 := by omega
        refine w_t (np := 32) (l2 := [some (eR a0), some (eI (i3)), some (eI (v20))]) (s2 := []) rfl (b_iinc rfl (by rw [← e21]; exact ev_w_in (by omega) (by omega)) rfl) rfl ?_
        refine w_go (t1 := 4) rfl rfl ?_
        exact ih2 (890 - (v20)).toNat (by omega) (i3) (v20) (by omega) (by omega)     rfl
      · have b20 : 0 ≤ v16 ∧ v16 ≤ 889 := by omega
        refine w_t (np := 23) (l2 := [some (eR a0), some (eI (i3)), some (eI (i5))]) (s2 := [eI (1), eI (i3)]) rfl rfl rfl ?_
        refine w_go (t1 := 27) rfl rfl ?_
        obtain ⟨v20, e21, b22⟩ : ∃ zz : Int, ev_w ((i3) + (1)) = zz ∧ (-2147483648 ≤ zz ∧ zz ≤ 2147483647) := ⟨_, rfl, hw_bd _⟩
        refine w_t (np := 28) (l2 := [some (eR a0), some (eI (i3)), some (eI (i5))]) (s2 := [eI (v20)]) rfl (b_iadd e21) rfl ?_
        refine w_t (np := 29) (l2 := [some (eR a0), some (eI (v20)), some (eI (i5))]) (s2 := []) rfl rfl rfl ?_
        obtain ⟨v23, e24⟩ : ∃ zz : Int, zz = (i5) + (1) := ⟨_, rfl⟩
        have b25 : 1 ≤ v23 ∧ v23 ≤ 890 := by omega
        refine w_t (np := 32) (l2 := [some (eR a0), some (eI (v20)), some (eI (v23))]) (s2 := []) rfl (b_iinc rfl (by rw [← e24]; exact ev_w_in (by omega) (by omega)) rfl) rfl ?_
        refine w_go (t1 := 4) rfl rfl ?_
        exact ih2 (890 - (v23)).toNat (by omega) (v20) (v23) (by omega) (by omega)     rfl
  exact hL4 _ (0) (0) (by decide) (by decide)     rfl
theorem s_260 {L : Nat} {ρ : Nat → Int} {rc : eQ} {d : Nat} {f : eFr} {F : List eFr} {μ : eM} {g : Nat → Nat} {a0 : Nat} (hI : SI g μ) (gA0 : g a0 = 52) (K : ∀ (v : Int), (-2147483648 ≤ v ∧ v ≤ 2147483647) → ex_q (dt_fg L ρ) rc (d + 1, (f.1, f.2.1, f.2.2.1, eI v :: f.2.2.2), F, μ)) : ex_q (dt_fg L ρ) rc (d, (260, 0, [some (eR a0), none, none], []), f :: F, μ) := by
  refine w_t (np := 1) (l2 := [some (eR a0), none, none]) (s2 := [eI (0)]) rfl rfl rfl ?_
  refine w_t (np := 2) (l2 := [some (eR a0), some (eI (0)), none]) (s2 := []) rfl rfl rfl ?_
  refine w_t (np := 3) (l2 := [some (eR a0), some (eI (0)), none]) (s2 := [eI (0)]) rfl rfl rfl ?_
  refine w_t (np := 4) (l2 := [some (eR a0), some (eI (0)), some (eI (0))]) (s2 := []) rfl rfl rfl ?_
  have hL4 : ∀ (n1 : Nat) (i3 : Int) (i5 : Int), (-2147483648 ≤ i3 ∧ i3 ≤ 2147483647) → (0 ≤ i5 ∧ i5 ≤ 2670) → n1 = (2670 - i5).toNat → ex_q (dt_fg L ρ) rc (d, (260, 4, [some (eR a0), some (eI (i3)), some (eI (i5))], []), f :: F, μ) := by
    intro n1
    induction n1 using Nat.strongRecOn with
    | _ n1 ih2 =>
    intro i3 i5 b4 b6 hn7
    refine w_t (np := 5) (l2 := [some (eR a0), some (eI (i3)), some (eI (i5))]) (s2 := [eI (i5)]) rfl rfl rfl ?_
    refine w_t (np := 6) (l2 := [some (eR a0), some (eI (i3)), some (eI (i5))]) (s2 := [eR a0, eI (i5)]) rfl (s_an rfl (pos_g hI gA0 (by decide))) rfl ?_
    refine j_gi (np := 9) rfl rfl rfl hI gA0 (by decide) (n := 69) rfl rfl (lo := 0) (hi := 2670) rfl ?_
    intro v8 e9 b10
    refine b_cge (t1 := 37) (t2 := 12) rfl rfl rfl (ev_w_in (by omega) (by omega)) (ev_w_in (by omega) (by omega)) (fun g11 => ?_) (fun g11 => ?_)
    · refine w_t (np := 38) (l2 := [some (eR a0), some (eI (i3)), some (eI (i5))]) (s2 := [eI (i3)]) rfl rfl rfl ?_
      exact b_ri rfl rfl (K (i3) (by omega))
    · have b12 : 0 ≤ i5 ∧ i5 ≤ 2669 := by omega
      have b13 : 1 ≤ v8 ∧ v8 ≤ 2670 := by omega
      refine w_t (np := 13) (l2 := [some (eR a0), some (eI (i3)), some (eI (i5))]) (s2 := [eI (i3)]) rfl rfl rfl ?_
      refine w_t (np := 14) (l2 := [some (eR a0), some (eI (i3)), some (eI (i5))]) (s2 := [eR a0, eI (i3)]) rfl (s_an rfl (pos_g hI gA0 (by decide))) rfl ?_
      refine j_gr (np := 17) rfl rfl hI gA0 (by decide) (n := 69) rfl rfl rfl ?_
      intro v12 e13 b14 z15
      have b14 : g v12 = 66 := Nat.eq_of_beq_eq_true b14
      refine w_t (np := 18) (l2 := [some (eR a0), some (eI (i3)), some (eI (i5))]) (s2 := [eI (i5), eR v12, eI (i3)]) rfl rfl rfl ?_
      refine j_al (np := 19) rfl rfl hI b14 (by decide) (n := 2670) rfl rfl (lo := -2147483648) (hi := 2147483647) (fun _ => rfl) (by omega) (by omega) ?_
      intro v16 e17 b18
      refine w_t (np := 21) (l2 := [some (eR a0), some (eI (i3)), some (eI (i5))]) (s2 := [eI (10), eI (v16), eI (i3)]) rfl rfl rfl ?_
      refine b_cne (t1 := 28) (t2 := 24) rfl rfl rfl (ev_w_in (by omega) (by omega)) rfl (fun g19 => ?_) (fun g19 => ?_)
      · refine w_t (np := 29) (l2 := [some (eR a0), some (eI (i3)), some (eI (i5))]) (s2 := [eI (0), eI (i3)]) rfl rfl rfl ?_
        refine w_t (np := 30) (l2 := [some (eR a0), some (eI (i3)), some (eI (i5))]) (s2 := [eI (i3)]) rfl (b_iadd (by rw [Int.add_zero]; exact ev_w_in (by omega) (by omega))) rfl ?_
        refine w_t (np := 31) (l2 := [some (eR a0), some (eI (i3)), some (eI (i5))]) (s2 := []) rfl rfl rfl ?_
        obtain ⟨v20, e21⟩ : ∃ zz : Int, zz = (i5) + (1) := ⟨_, rfl⟩
        have b22 : 1 ≤ v20 ∧ v20 ≤ 2670 := by omega
        refine w_t (np := 34) (l2 := [some (eR a0), some (eI (i3)), some (eI (v20))]) (s2 := []) rfl (b_iinc rfl (by rw [← e21]; exact ev_w_in (by omega) (by omega)) rfl) rfl ?_
        refine w_go (t1 := 4) rfl rfl ?_
        exact ih2 (2670 - (v20)).toNat (by omega) (i3) (v20) (by omega) (by omega)     rfl
      · have b20 : 10 ≤ v16 ∧ v16 ≤ 10 := by omega
        refine w_t (np := 25) (l2 := [some (eR a0), some (eI (i3)), some (eI (i5))]) (s2 := [eI (1), eI (i3)]) rfl rfl rfl ?_
        refine w_go (t1 := 29) rfl rfl ?_
        obtain ⟨v20, e21, b22⟩ : ∃ zz : Int, ev_w ((i3) + (1)) = zz ∧ (-2147483648 ≤ zz ∧ zz ≤ 2147483647) := ⟨_, rfl, hw_bd _⟩
        refine w_t (np := 30) (l2 := [some (eR a0), some (eI (i3)), some (eI (i5))]) (s2 := [eI (v20)]) rfl (b_iadd e21) rfl ?_
        refine w_t (np := 31) (l2 := [some (eR a0), some (eI (v20)), some (eI (i5))]) (s2 := []) rfl rfl rfl ?_
        obtain ⟨v23, e24⟩ : ∃ zz : Int, zz = (i5) + (1) := ⟨_, rfl⟩
        have b25 : 1 ≤ v23 ∧ v23 ≤ 2670 := by omega
        refine w_t (np := 34) (l2 := [some (eR a0), some (eI (v20)), some (eI (v23))]) (s2 := []) rfl (b_iinc rfl (by rw [← e24]; exact ev_w_in (by omega) (by omega)) rfl) rfl ?_
        refine w_go (t1 := 4) rfl rfl ?_
        exact ih2 (2670 - (v23)).toNat (by omega) (v20) (v23) (by omega) (by omega)     rfl
  exact hL4 _ (0) (0) (by decide) (by decide)     rfl
def l_262 : List Nat := [13313, 13314]
theorem s_262 {L : Nat} {ρ : Nat → Int} {rc : eQ} {d : Nat} {f : eFr} {F : List eFr} {μ : eM} {g : Nat → Nat} {a0 : Nat} {a1 : Int} {a2 : Int} (hI : SI g μ) (gA0 : g a0 = 52) (bA1 : -2147483648 ≤ a1 ∧ a1 ≤ 2147483647) (bA2 : -2147483648 ≤ a2 ∧ a2 ≤ 2147483647) (K : ∀ (μ2 : eM) (v : Int), SI g μ2 → Fr l_262 0 0 g μ μ2 → (-2147483648 ≤ v ∧ v ≤ 2147483647) → ex_q (dt_fg L ρ) rc (d + 3, (f.1, f.2.1, f.2.2.1, eI v :: f.2.2.2), F, μ2)) : ex_q (dt_fg L ρ) rc (d + 2, (262, 0, [some (eR a0), some (eI (a1)), some (eI (a2))], []), f :: F, μ) := by
  have F0 : Fr l_262 0 0 g μ μ := Fr.r
  refine w_t (np := 1) (l2 := [some (eR a0), some (eI (a1)), some (eI (a2))]) (s2 := [eR a0]) rfl (s_an rfl (pos_g hI gA0 (by decide))) rfl ?_
  refine w_t (np := 2) (l2 := [some (eR a0), some (eI (a1)), some (eI (a2))]) (s2 := [eI (a2), eR a0]) rfl rfl rfl ?_
  refine w_t (np := 3) (l2 := [some (eR a0), some (eI (a1)), some (eI (a2))]) (s2 := [eI (0), eI (a2), eR a0]) rfl rfl rfl ?_
  refine w_t (np := 5) (l2 := [some (eR a0), some (eI (a1)), some (eI (a2))]) (s2 := [eI (6), eI (0), eI (a2), eR a0]) rfl rfl rfl ?_
  refine w_cu (np := 8) (as := [eI (a2), eI (0), eI (6)]) (l2 := [some (eI (a2)), some (eI (0)), some (eI (6))]) (rest := [eR a0]) rfl rfl rfl (Nat.ble_eq.mp rfl) rfl rfl rfl rfl ?_
  refine w_t (np := 1) (l2 := [some (eI (a2)), some (eI (0)), some (eI (6))]) (s2 := [eI (a2)]) rfl rfl rfl ?_
  refine w_t (np := 2) (l2 := [some (eI (a2)), some (eI (0)), some (eI (6))]) (s2 := [eI (0), eI (a2)]) rfl rfl rfl ?_
  refine b_clt (t1 := 14) (t2 := 5) rfl rfl rfl (ev_w_in (by omega) (by omega)) rfl (fun g1 => ?_) (fun g1 => ?_)
  · have b2 : -2147483648 ≤ a2 ∧ a2 ≤ -1 := by omega
    refine w_t (np := 15) (l2 := [some (eI (a2)), some (eI (0)), some (eI (6))]) (s2 := [eI (0)]) rfl rfl rfl ?_
    refine b_rz rfl rfl (Or.inl rfl) ?_
    show ex_q (dt_fg L ρ) rc (d + 2, (262, 8, [some (eR a0), some (eI (a1)), some (eI (a2))], [eI (0), eR a0]), f :: F, μ)
    refine b_ine (t1 := 15) (t2 := 11) rfl rfl rfl rfl (fun g2 => absurd g2 (by decide)) (fun g2 => ?_)
    refine w_t (np := 12) (l2 := [some (eR a0), some (eI (a1)), some (eI (a2))]) (s2 := [eI (1), eR a0]) rfl rfl rfl ?_
    refine w_go (t1 := 28) rfl rfl ?_
    refine w_cw (np := 31) (as := [eI (1)]) (l2 := [some (eR a0), some (eI (1))]) (rest := []) rfl rfl rfl (Nat.ble_eq.mp rfl) rfl rfl rfl (hI.kd gA0 (by decide) (n := 69) rfl) rfl ?_
    refine w_t (np := 1) (l2 := [some (eR a0), some (eI (1))]) (s2 := [eR a0]) rfl (s_an rfl (pos_g hI gA0 (by decide))) rfl ?_
    refine w_t (np := 2) (l2 := [some (eR a0), some (eI (1))]) (s2 := [eI (0), eR a0]) rfl rfl rfl ?_
    refine j_pf (np := 5) (w := 0) rfl rfl hI gA0 (by decide) (n := 69) rfl rfl (hO_i (lo := -2147483648) (hi := 2147483647) rfl (by decide)) ?_
    intro m3 I4 W5
    have F6 : Fr l_262 0 0 g μ m3 := F0.w W5 gA0 rfl
    refine w_t (np := 6) (l2 := [some (eR a0), some (eI (1))]) (s2 := [eR a0]) rfl (s_an rfl (pos_g I4 gA0 (by decide))) rfl ?_
    refine w_t (np := 7) (l2 := [some (eR a0), some (eI (1))]) (s2 := [eI (1), eR a0]) rfl rfl rfl ?_
    refine j_pf (np := 10) (w := 1) rfl rfl I4 gA0 (by decide) (n := 69) rfl rfl (hO_i (lo := -2147483648) (hi := 2147483647) rfl (by decide)) ?_
    intro m7 I8 W9
    have F10 : Fr l_262 0 0 g μ m7 := F6.w W9 gA0 rfl
    refine w_t (np := 11) (l2 := [some (eR a0), some (eI (1))]) (s2 := [eI (1)]) rfl rfl rfl ?_
    refine b_ine (t1 := 18) (t2 := 14) rfl rfl rfl rfl (fun g11 => ?_) (fun g11 => absurd g11 (by decide))
    refine w_t (np := 19) (l2 := [some (eR a0), some (eI (1))]) (s2 := [eI (0)]) rfl rfl rfl ?_
    refine b_rz rfl rfl (Or.inl rfl) ?_
    show ex_q (dt_fg L ρ) rc (d + 2, (262, 31, [some (eR a0), some (eI (a1)), some (eI (a2))], [eI (0)]), f :: F, m7)
    refine b_ine (t1 := 36) (t2 := 34) rfl rfl rfl rfl (fun g12 => absurd g12 (by decide)) (fun g12 => ?_)
    refine w_t (np := 35) (l2 := [some (eR a0), some (eI (a1)), some (eI (a2))]) (s2 := [eI (-1)]) rfl rfl rfl ?_
    exact b_ri rfl rfl (K m7 (-1) I8 F10 (by decide))
  · have b2 : 0 ≤ a2 ∧ a2 ≤ 2147483647 := by omega
    refine w_t (np := 6) (l2 := [some (eI (a2)), some (eI (0)), some (eI (6))]) (s2 := [eI (a2)]) rfl rfl rfl ?_
    refine w_t (np := 7) (l2 := [some (eI (a2)), some (eI (0)), some (eI (6))]) (s2 := [eI (6), eI (a2)]) rfl rfl rfl ?_
    refine b_cgt (t1 := 14) (t2 := 10) rfl rfl rfl (ev_w_in (by omega) (by omega)) rfl (fun g2 => ?_) (fun g2 => ?_)
    · have b3 : 7 ≤ a2 ∧ a2 ≤ 2147483647 := by omega
      refine w_t (np := 15) (l2 := [some (eI (a2)), some (eI (0)), some (eI (6))]) (s2 := [eI (0)]) rfl rfl rfl ?_
      refine b_rz rfl rfl (Or.inl rfl) ?_
      show ex_q (dt_fg L ρ) rc (d + 2, (262, 8, [some (eR a0), some (eI (a1)), some (eI (a2))], [eI (0), eR a0]), f :: F, μ)
      refine b_ine (t1 := 15) (t2 := 11) rfl rfl rfl rfl (fun g3 => absurd g3 (by decide)) (fun g3 => ?_)
      refine w_t (np := 12) (l2 := [some (eR a0), some (eI (a1)), some (eI (a2))]) (s2 := [eI (1), eR a0]) rfl rfl rfl ?_
      refine w_go (t1 := 28) rfl rfl ?_
      refine w_cw (np := 31) (as := [eI (1)]) (l2 := [some (eR a0), some (eI (1))]) (rest := []) rfl rfl rfl (Nat.ble_eq.mp rfl) rfl rfl rfl (hI.kd gA0 (by decide) (n := 69) rfl) rfl ?_
      refine w_t (np := 1) (l2 := [some (eR a0), some (eI (1))]) (s2 := [eR a0]) rfl (s_an rfl (pos_g hI gA0 (by decide))) rfl ?_
      refine w_t (np := 2) (l2 := [some (eR a0), some (eI (1))]) (s2 := [eI (0), eR a0]) rfl rfl rfl ?_
      refine j_pf (np := 5) (w := 0) rfl rfl hI gA0 (by decide) (n := 69) rfl rfl (hO_i (lo := -2147483648) (hi := 2147483647) rfl (by decide)) ?_
      intro m4 I5 W6
      have F7 : Fr l_262 0 0 g μ m4 := F0.w W6 gA0 rfl
      refine w_t (np := 6) (l2 := [some (eR a0), some (eI (1))]) (s2 := [eR a0]) rfl (s_an rfl (pos_g I5 gA0 (by decide))) rfl ?_
      refine w_t (np := 7) (l2 := [some (eR a0), some (eI (1))]) (s2 := [eI (1), eR a0]) rfl rfl rfl ?_
      refine j_pf (np := 10) (w := 1) rfl rfl I5 gA0 (by decide) (n := 69) rfl rfl (hO_i (lo := -2147483648) (hi := 2147483647) rfl (by decide)) ?_
      intro m8 I9 W10
      have F11 : Fr l_262 0 0 g μ m8 := F7.w W10 gA0 rfl
      refine w_t (np := 11) (l2 := [some (eR a0), some (eI (1))]) (s2 := [eI (1)]) rfl rfl rfl ?_
      refine b_ine (t1 := 18) (t2 := 14) rfl rfl rfl rfl (fun g12 => ?_) (fun g12 => absurd g12 (by decide))
      refine w_t (np := 19) (l2 := [some (eR a0), some (eI (1))]) (s2 := [eI (0)]) rfl rfl rfl ?_
      refine b_rz rfl rfl (Or.inl rfl) ?_
      show ex_q (dt_fg L ρ) rc (d + 2, (262, 31, [some (eR a0), some (eI (a1)), some (eI (a2))], [eI (0)]), f :: F, m8)
      refine b_ine (t1 := 36) (t2 := 34) rfl rfl rfl rfl (fun g13 => absurd g13 (by decide)) (fun g13 => ?_)
      refine w_t (np := 35) (l2 := [some (eR a0), some (eI (a1)), some (eI (a2))]) (s2 := [eI (-1)]) rfl rfl rfl ?_
      exact b_ri rfl rfl (K m8 (-1) I9 F11 (by decide))
    · have b3 : 0 ≤ a2 ∧ a2 ≤ 6 := by omega
      refine w_t (np := 11) (l2 := [some (eI (a2)), some (eI (0)), some (eI (6))]) (s2 := [eI (1)]) rfl rfl rfl ?_
      refine w_go (t1 := 15) rfl rfl ?_
      refine b_rz rfl rfl (Or.inr rfl) ?_
      show ex_q (dt_fg L ρ) rc (d + 2, (262, 8, [some (eR a0), some (eI (a1)), some (eI (a2))], [eI (1), eR a0]), f :: F, μ)
      refine b_ine (t1 := 15) (t2 := 11) rfl rfl rfl rfl (fun g3 => ?_) (fun g3 => absurd g3 (by decide))
      refine w_t (np := 16) (l2 := [some (eR a0), some (eI (a1)), some (eI (a2))]) (s2 := [eR a0, eR a0]) rfl (s_an rfl (pos_g hI gA0 (by decide))) rfl ?_
      refine w_t (np := 17) (l2 := [some (eR a0), some (eI (a1)), some (eI (a2))]) (s2 := [eI (a1), eR a0, eR a0]) rfl rfl rfl ?_
      refine w_cw (np := 20) (as := [eI (a1)]) (l2 := [some (eR a0), some (eI (a1))]) (rest := [eR a0]) rfl rfl rfl (Nat.ble_eq.mp rfl) rfl rfl rfl (hI.kd gA0 (by decide) (n := 69) rfl) rfl ?_
      refine w_t (np := 1) (l2 := [some (eR a0), some (eI (a1))]) (s2 := [eI (a1)]) rfl rfl rfl ?_
      refine w_t (np := 2) (l2 := [some (eR a0), some (eI (a1))]) (s2 := [eI (0), eI (a1)]) rfl rfl rfl ?_
      refine w_t (np := 3) (l2 := [some (eR a0), some (eI (a1))]) (s2 := [eR a0, eI (0), eI (a1)]) rfl (s_an rfl (pos_g hI gA0 (by decide))) rfl ?_
      refine j_gi (np := 6) rfl rfl rfl hI gA0 (by decide) (n := 69) rfl rfl (lo := 0) (hi := 890) rfl ?_
      intro v4 e5 b6
      refine w_t (np := 7) (l2 := [some (eR a0), some (eI (a1))]) (s2 := [eI (1), eI (v4), eI (0), eI (a1)]) rfl rfl rfl ?_
      obtain ⟨v7, e8⟩ : ∃ zz : Int, zz = (v4) - (1) := ⟨_, rfl⟩
      have b9 : -1 ≤ v7 ∧ v7 ≤ 889 := by omega
      refine w_t (np := 8) (l2 := [some (eR a0), some (eI (a1))]) (s2 := [eI (v7), eI (0), eI (a1)]) rfl (b_isub (by rw [← e8]; exact ev_w_in (by omega) (by omega))) rfl ?_
      refine w_cu (np := 11) (as := [eI (a1), eI (0), eI (v7)]) (l2 := [some (eI (a1)), some (eI (0)), some (eI (v7))]) (rest := []) rfl rfl rfl (Nat.ble_eq.mp rfl) rfl rfl rfl rfl ?_
      refine w_t (np := 1) (l2 := [some (eI (a1)), some (eI (0)), some (eI (v7))]) (s2 := [eI (a1)]) rfl rfl rfl ?_
      refine w_t (np := 2) (l2 := [some (eI (a1)), some (eI (0)), some (eI (v7))]) (s2 := [eI (0), eI (a1)]) rfl rfl rfl ?_
      refine b_clt (t1 := 14) (t2 := 5) rfl rfl rfl (ev_w_in (by omega) (by omega)) rfl (fun g10 => ?_) (fun g10 => ?_)
      · have b11 : -2147483648 ≤ a1 ∧ a1 ≤ -1 := by omega
        refine w_t (np := 15) (l2 := [some (eI (a1)), some (eI (0)), some (eI (v7))]) (s2 := [eI (0)]) rfl rfl rfl ?_
        refine b_rz rfl rfl (Or.inl rfl) ?_
        show ex_q (dt_fg L ρ) rc (d + 1, (243, 11, [some (eR a0), some (eI (a1))], [eI (0)]), (262, 20, [some (eR a0), some (eI (a1)), some (eI (a2))], [eR a0]) :: f :: F, μ)
        refine b_rz rfl rfl (Or.inl rfl) ?_
        show ex_q (dt_fg L ρ) rc (d + 2, (262, 20, [some (eR a0), some (eI (a1)), some (eI (a2))], [eI (0), eR a0]), f :: F, μ)
        refine b_ieq (t1 := 27) (t2 := 23) rfl rfl rfl rfl (fun g11 => ?_) (fun g11 => absurd g11 (by decide))
        refine w_t (np := 28) (l2 := [some (eR a0), some (eI (a1)), some (eI (a2))]) (s2 := [eI (2), eR a0]) rfl rfl rfl ?_
        refine w_cw (np := 31) (as := [eI (2)]) (l2 := [some (eR a0), some (eI (2))]) (rest := []) rfl rfl rfl (Nat.ble_eq.mp rfl) rfl rfl rfl (hI.kd gA0 (by decide) (n := 69) rfl) rfl ?_
        refine w_t (np := 1) (l2 := [some (eR a0), some (eI (2))]) (s2 := [eR a0]) rfl (s_an rfl (pos_g hI gA0 (by decide))) rfl ?_
        refine w_t (np := 2) (l2 := [some (eR a0), some (eI (2))]) (s2 := [eI (0), eR a0]) rfl rfl rfl ?_
        refine j_pf (np := 5) (w := 0) rfl rfl hI gA0 (by decide) (n := 69) rfl rfl (hO_i (lo := -2147483648) (hi := 2147483647) rfl (by decide)) ?_
        intro m12 I13 W14
        have F15 : Fr l_262 0 0 g μ m12 := F0.w W14 gA0 rfl
        refine w_t (np := 6) (l2 := [some (eR a0), some (eI (2))]) (s2 := [eR a0]) rfl (s_an rfl (pos_g I13 gA0 (by decide))) rfl ?_
        refine w_t (np := 7) (l2 := [some (eR a0), some (eI (2))]) (s2 := [eI (2), eR a0]) rfl rfl rfl ?_
        refine j_pf (np := 10) (w := 2) rfl rfl I13 gA0 (by decide) (n := 69) rfl rfl (hO_i (lo := -2147483648) (hi := 2147483647) rfl (by decide)) ?_
        intro m16 I17 W18
        have F19 : Fr l_262 0 0 g μ m16 := F15.w W18 gA0 rfl
        refine w_t (np := 11) (l2 := [some (eR a0), some (eI (2))]) (s2 := [eI (2)]) rfl rfl rfl ?_
        refine b_ine (t1 := 18) (t2 := 14) rfl rfl rfl rfl (fun g20 => ?_) (fun g20 => absurd g20 (by decide))
        refine w_t (np := 19) (l2 := [some (eR a0), some (eI (2))]) (s2 := [eI (0)]) rfl rfl rfl ?_
        refine b_rz rfl rfl (Or.inl rfl) ?_
        show ex_q (dt_fg L ρ) rc (d + 2, (262, 31, [some (eR a0), some (eI (a1)), some (eI (a2))], [eI (0)]), f :: F, m16)
        refine b_ine (t1 := 36) (t2 := 34) rfl rfl rfl rfl (fun g21 => absurd g21 (by decide)) (fun g21 => ?_)
        refine w_t (np := 35) (l2 := [some (eR a0), some (eI (a1)), some (eI (a2))]) (s2 := [eI (-1)]) rfl rfl rfl ?_
        exact b_ri rfl rfl (K m16 (-1) I17 F19 (by decide))
      · have b11 : 0 ≤ a1 ∧ a1 ≤ 2147483647 := by omega
        refine w_t (np := 6) (l2 := [some (eI (a1)), some (eI (0)), some (eI (v7))]) (s2 := [eI (a1)]) rfl rfl rfl ?_
        refine w_t (np := 7) (l2 := [some (eI (a1)), some (eI (0)), some (eI (v7))]) (s2 := [eI (v7), eI (a1)]) rfl rfl rfl ?_
        refine b_cgt (t1 := 14) (t2 := 10) rfl rfl rfl (ev_w_in (by omega) (by omega)) (ev_w_in (by omega) (by omega)) (fun g11 => ?_) (fun g11 => ?_)
        · refine w_t (np := 15) (l2 := [some (eI (a1)), some (eI (0)), some (eI (v7))]) (s2 := [eI (0)]) rfl rfl rfl ?_
          refine b_rz rfl rfl (Or.inl rfl) ?_
          show ex_q (dt_fg L ρ) rc (d + 1, (243, 11, [some (eR a0), some (eI (a1))], [eI (0)]), (262, 20, [some (eR a0), some (eI (a1)), some (eI (a2))], [eR a0]) :: f :: F, μ)
          refine b_rz rfl rfl (Or.inl rfl) ?_
          show ex_q (dt_fg L ρ) rc (d + 2, (262, 20, [some (eR a0), some (eI (a1)), some (eI (a2))], [eI (0), eR a0]), f :: F, μ)
          refine b_ieq (t1 := 27) (t2 := 23) rfl rfl rfl rfl (fun g12 => ?_) (fun g12 => absurd g12 (by decide))
          refine w_t (np := 28) (l2 := [some (eR a0), some (eI (a1)), some (eI (a2))]) (s2 := [eI (2), eR a0]) rfl rfl rfl ?_
          refine w_cw (np := 31) (as := [eI (2)]) (l2 := [some (eR a0), some (eI (2))]) (rest := []) rfl rfl rfl (Nat.ble_eq.mp rfl) rfl rfl rfl (hI.kd gA0 (by decide) (n := 69) rfl) rfl ?_
          refine w_t (np := 1) (l2 := [some (eR a0), some (eI (2))]) (s2 := [eR a0]) rfl (s_an rfl (pos_g hI gA0 (by decide))) rfl ?_
          refine w_t (np := 2) (l2 := [some (eR a0), some (eI (2))]) (s2 := [eI (0), eR a0]) rfl rfl rfl ?_
          refine j_pf (np := 5) (w := 0) rfl rfl hI gA0 (by decide) (n := 69) rfl rfl (hO_i (lo := -2147483648) (hi := 2147483647) rfl (by decide)) ?_
          intro m13 I14 W15
          have F16 : Fr l_262 0 0 g μ m13 := F0.w W15 gA0 rfl
          refine w_t (np := 6) (l2 := [some (eR a0), some (eI (2))]) (s2 := [eR a0]) rfl (s_an rfl (pos_g I14 gA0 (by decide))) rfl ?_
          refine w_t (np := 7) (l2 := [some (eR a0), some (eI (2))]) (s2 := [eI (2), eR a0]) rfl rfl rfl ?_
          refine j_pf (np := 10) (w := 2) rfl rfl I14 gA0 (by decide) (n := 69) rfl rfl (hO_i (lo := -2147483648) (hi := 2147483647) rfl (by decide)) ?_
          intro m17 I18 W19
          have F20 : Fr l_262 0 0 g μ m17 := F16.w W19 gA0 rfl
          refine w_t (np := 11) (l2 := [some (eR a0), some (eI (2))]) (s2 := [eI (2)]) rfl rfl rfl ?_
          refine b_ine (t1 := 18) (t2 := 14) rfl rfl rfl rfl (fun g21 => ?_) (fun g21 => absurd g21 (by decide))
          refine w_t (np := 19) (l2 := [some (eR a0), some (eI (2))]) (s2 := [eI (0)]) rfl rfl rfl ?_
          refine b_rz rfl rfl (Or.inl rfl) ?_
          show ex_q (dt_fg L ρ) rc (d + 2, (262, 31, [some (eR a0), some (eI (a1)), some (eI (a2))], [eI (0)]), f :: F, m17)
          refine b_ine (t1 := 36) (t2 := 34) rfl rfl rfl rfl (fun g22 => absurd g22 (by decide)) (fun g22 => ?_)
          refine w_t (np := 35) (l2 := [some (eR a0), some (eI (a1)), some (eI (a2))]) (s2 := [eI (-1)]) rfl rfl rfl ?_
          exact b_ri rfl rfl (K m17 (-1) I18 F20 (by decide))
        · have b12 : 0 ≤ a1 ∧ a1 ≤ 889 := by omega
          have b13 : 0 ≤ v7 ∧ v7 ≤ 889 := by omega
          refine w_t (np := 11) (l2 := [some (eI (a1)), some (eI (0)), some (eI (v7))]) (s2 := [eI (1)]) rfl rfl rfl ?_
          refine w_go (t1 := 15) rfl rfl ?_
          refine b_rz rfl rfl (Or.inr rfl) ?_
          show ex_q (dt_fg L ρ) rc (d + 1, (243, 11, [some (eR a0), some (eI (a1))], [eI (1)]), (262, 20, [some (eR a0), some (eI (a1)), some (eI (a2))], [eR a0]) :: f :: F, μ)
          refine b_rz rfl rfl (Or.inr rfl) ?_
          show ex_q (dt_fg L ρ) rc (d + 2, (262, 20, [some (eR a0), some (eI (a1)), some (eI (a2))], [eI (1), eR a0]), f :: F, μ)
          refine b_ieq (t1 := 27) (t2 := 23) rfl rfl rfl rfl (fun g12 => absurd g12 (by decide)) (fun g12 => ?_)
          refine w_t (np := 24) (l2 := [some (eR a0), some (eI (a1)), some (eI (a2))]) (s2 := [eI (0), eR a0]) rfl rfl rfl ?_
          refine w_go (t1 := 28) rfl rfl ?_
          refine w_cw (np := 31) (as := [eI (0)]) (l2 := [some (eR a0), some (eI (0))]) (rest := []) rfl rfl rfl (Nat.ble_eq.mp rfl) rfl rfl rfl (hI.kd gA0 (by decide) (n := 69) rfl) rfl ?_
          refine w_t (np := 1) (l2 := [some (eR a0), some (eI (0))]) (s2 := [eR a0]) rfl (s_an rfl (pos_g hI gA0 (by decide))) rfl ?_
          refine w_t (np := 2) (l2 := [some (eR a0), some (eI (0))]) (s2 := [eI (0), eR a0]) rfl rfl rfl ?_
          refine j_pf (np := 5) (w := 0) rfl rfl hI gA0 (by decide) (n := 69) rfl rfl (hO_i (lo := -2147483648) (hi := 2147483647) rfl (by decide)) ?_
          intro m13 I14 W15
          have F16 : Fr l_262 0 0 g μ m13 := F0.w W15 gA0 rfl
          refine w_t (np := 6) (l2 := [some (eR a0), some (eI (0))]) (s2 := [eR a0]) rfl (s_an rfl (pos_g I14 gA0 (by decide))) rfl ?_
          refine w_t (np := 7) (l2 := [some (eR a0), some (eI (0))]) (s2 := [eI (0), eR a0]) rfl rfl rfl ?_
          refine j_pf (np := 10) (w := 0) rfl rfl I14 gA0 (by decide) (n := 69) rfl rfl (hO_i (lo := -2147483648) (hi := 2147483647) rfl (by decide)) ?_
          intro m17 I18 W19
          have F20 : Fr l_262 0 0 g μ m17 := F16.w W19 gA0 rfl
          refine w_t (np := 11) (l2 := [some (eR a0), some (eI (0))]) (s2 := [eI (0)]) rfl rfl rfl ?_
          refine b_ine (t1 := 18) (t2 := 14) rfl rfl rfl rfl (fun g21 => absurd g21 (by decide)) (fun g21 => ?_)
          refine w_t (np := 15) (l2 := [some (eR a0), some (eI (0))]) (s2 := [eI (1)]) rfl rfl rfl ?_
          refine w_go (t1 := 19) rfl rfl ?_
          refine b_rz rfl rfl (Or.inr rfl) ?_
          show ex_q (dt_fg L ρ) rc (d + 2, (262, 31, [some (eR a0), some (eI (a1)), some (eI (a2))], [eI (1)]), f :: F, m17)
          refine b_ine (t1 := 36) (t2 := 34) rfl rfl rfl rfl (fun g22 => ?_) (fun g22 => absurd g22 (by decide))
          refine w_t (np := 37) (l2 := [some (eR a0), some (eI (a1)), some (eI (a2))]) (s2 := [eI (a2)]) rfl rfl rfl ?_
          rcases (show a2 = 0 ∨ a2 = 1 ∨ a2 = 2 ∨ a2 = 3 ∨ a2 = 4 ∨ a2 = 5 ∨ a2 = 6 by omega) with g23 | g23 | g23 | g23 | g23 | g23 | g23
          · subst g23
            refine w_j (np := 76) (st' := []) rfl rfl rfl ?_
            refine w_t (np := 77) (l2 := [some (eR a0), some (eI (a1)), some (eI (0))]) (s2 := [eR a0]) rfl (s_an rfl (pos_g I18 gA0 (by decide))) rfl ?_
            refine j_gr (np := 80) rfl rfl I18 gA0 (by decide) (n := 69) rfl rfl rfl ?_
            intro v24 e25 b26 z27
            have b26 : g v24 = 56 := Nat.eq_of_beq_eq_true b26
            refine w_t (np := 81) (l2 := [some (eR a0), some (eI (a1)), some (eI (0))]) (s2 := [eI (a1), eR v24]) rfl rfl rfl ?_
            refine j_al (np := 82) rfl rfl I18 b26 (by decide) (n := 890) rfl rfl (lo := 0) (hi := 1) (fun _ => rfl) (by omega) (by omega) ?_
            intro v28 e29 b30
            exact b_ri rfl rfl (K m17 (v28) I18 F20 (by omega))
          · subst g23
            refine w_j (np := 83) (st' := []) rfl rfl rfl ?_
            refine w_t (np := 84) (l2 := [some (eR a0), some (eI (a1)), some (eI (1))]) (s2 := [eR a0]) rfl (s_an rfl (pos_g I18 gA0 (by decide))) rfl ?_
            refine j_gr (np := 87) rfl rfl I18 gA0 (by decide) (n := 69) rfl rfl rfl ?_
            intro v24 e25 b26 z27
            have b26 : g v24 = 60 := Nat.eq_of_beq_eq_true b26
            refine w_t (np := 88) (l2 := [some (eR a0), some (eI (a1)), some (eI (1))]) (s2 := [eI (a1), eR v24]) rfl rfl rfl ?_
            refine j_al (np := 89) rfl rfl I18 b26 (by decide) (n := 890) rfl rfl (lo := -2147483648) (hi := 2147483647) (fun _ => rfl) (by omega) (by omega) ?_
            intro v28 e29 b30
            exact b_ri rfl rfl (K m17 (v28) I18 F20 (by omega))
          · subst g23
            refine w_j (np := 90) (st' := []) rfl rfl rfl ?_
            refine w_t (np := 91) (l2 := [some (eR a0), some (eI (a1)), some (eI (2))]) (s2 := [eR a0]) rfl (s_an rfl (pos_g I18 gA0 (by decide))) rfl ?_
            refine j_gi (np := 94) rfl rfl rfl I18 gA0 (by decide) (n := 69) rfl rfl (lo := 0) (hi := 5) rfl ?_
            intro v24 e25 b26
            refine b_ine (t1 := 101) (t2 := 97) rfl rfl rfl (ev_w_in (by omega) (by omega)) (fun g27 => ?_) (fun g27 => ?_)
            · have b28 : 1 ≤ v24 ∧ v24 ≤ 5 := by omega
              refine w_t (np := 102) (l2 := [some (eR a0), some (eI (a1)), some (eI (2))]) (s2 := [eR a0]) rfl (s_an rfl (pos_g I18 gA0 (by decide))) rfl ?_
              refine j_gr (np := 105) rfl rfl I18 gA0 (by decide) (n := 69) rfl rfl rfl ?_
              intro v28 e29 b30 z31
              have b30 : g v28 = 58 := Nat.eq_of_beq_eq_true b30
              refine w_t (np := 108) (l2 := [some (eR a0), some (eI (a1)), some (eI (2))]) (s2 := [eI (890), eR v28]) rfl rfl rfl ?_
              refine w_t (np := 109) (l2 := [some (eR a0), some (eI (a1)), some (eI (2))]) (s2 := [eR a0, eI (890), eR v28]) rfl (s_an rfl (pos_g I18 gA0 (by decide))) rfl ?_
              refine w_gf (np := 112) (v := eI (v24)) rfl rfl (I18.kd gA0 (by decide) (n := 69) rfl) (by rw [e25]; rfl) ?_
              obtain ⟨v32, e33⟩ : ∃ zz : Int, zz = (890) * (v24) := ⟨_, rfl⟩
              have b34 : 890 ≤ v32 ∧ v32 ≤ 4450 := by omega
              refine w_t (np := 113) (l2 := [some (eR a0), some (eI (a1)), some (eI (2))]) (s2 := [eI (v32), eR v28]) rfl (b_imul (by rw [← e33]; exact ev_w_in (by omega) (by omega))) rfl ?_
              refine w_t (np := 114) (l2 := [some (eR a0), some (eI (a1)), some (eI (2))]) (s2 := [eI (a1), eI (v32), eR v28]) rfl rfl rfl ?_
              obtain ⟨v35, e36⟩ : ∃ zz : Int, zz = (v32) + (a1) := ⟨_, rfl⟩
              have b37 : 890 ≤ v35 ∧ v35 ≤ 5339 := by omega
              refine w_t (np := 115) (l2 := [some (eR a0), some (eI (a1)), some (eI (2))]) (s2 := [eI (v35), eR v28]) rfl (b_iadd (by rw [← e36]; exact ev_w_in (by omega) (by omega))) rfl ?_
              refine j_ap (np := 116) rfl rfl I18 b30 (by decide) (n := 5340) rfl rfl (lo := 0) (hi := 889) (by omega) (by omega) (SDfrom (by omega)) ?_
              intro v38 e39 b40
              exact b_ri rfl rfl (K m17 (v38) I18 F20 (by omega))
            · have b28 : 0 ≤ v24 ∧ v24 ≤ 0 := by omega
              refine w_t (np := 98) (l2 := [some (eR a0), some (eI (a1)), some (eI (2))]) (s2 := [eI (-1)]) rfl rfl rfl ?_
              refine w_go (t1 := 116) rfl rfl ?_
              exact b_ri rfl rfl (K m17 (-1) I18 F20 (by decide))
          · subst g23
            refine w_j (np := 117) (st' := []) rfl rfl rfl ?_
            refine w_t (np := 118) (l2 := [some (eR a0), some (eI (a1)), some (eI (3))]) (s2 := [eR a0]) rfl (s_an rfl (pos_g I18 gA0 (by decide))) rfl ?_
            refine j_gi (np := 121) rfl rfl rfl I18 gA0 (by decide) (n := 69) rfl rfl (lo := 0) (hi := 5) rfl ?_
            intro v24 e25 b26
            refine b_ine (t1 := 128) (t2 := 124) rfl rfl rfl (ev_w_in (by omega) (by omega)) (fun g27 => ?_) (fun g27 => ?_)
            · have b28 : 1 ≤ v24 ∧ v24 ≤ 5 := by omega
              refine w_t (np := 129) (l2 := [some (eR a0), some (eI (a1)), some (eI (3))]) (s2 := [eR a0]) rfl (s_an rfl (pos_g I18 gA0 (by decide))) rfl ?_
              refine j_gr (np := 132) rfl rfl I18 gA0 (by decide) (n := 69) rfl rfl rfl ?_
              intro v28 e29 b30 z31
              have b30 : g v28 = 59 := Nat.eq_of_beq_eq_true b30
              refine w_t (np := 135) (l2 := [some (eR a0), some (eI (a1)), some (eI (3))]) (s2 := [eI (890), eR v28]) rfl rfl rfl ?_
              refine w_t (np := 136) (l2 := [some (eR a0), some (eI (a1)), some (eI (3))]) (s2 := [eR a0, eI (890), eR v28]) rfl (s_an rfl (pos_g I18 gA0 (by decide))) rfl ?_
              refine w_gf (np := 139) (v := eI (v24)) rfl rfl (I18.kd gA0 (by decide) (n := 69) rfl) (by rw [e25]; rfl) ?_
              obtain ⟨v32, e33⟩ : ∃ zz : Int, zz = (890) * (v24) := ⟨_, rfl⟩
              have b34 : 890 ≤ v32 ∧ v32 ≤ 4450 := by omega
              refine w_t (np := 140) (l2 := [some (eR a0), some (eI (a1)), some (eI (3))]) (s2 := [eI (v32), eR v28]) rfl (b_imul (by rw [← e33]; exact ev_w_in (by omega) (by omega))) rfl ?_
              refine w_t (np := 141) (l2 := [some (eR a0), some (eI (a1)), some (eI (3))]) (s2 := [eI (a1), eI (v32), eR v28]) rfl rfl rfl ?_
              obtain ⟨v35, e36⟩ : ∃ zz : Int, zz = (v32) + (a1) := ⟨_, rfl⟩
              have b37 : 890 ≤ v35 ∧ v35 ≤ 5339 := by omega
              refine w_t (np := 142) (l2 := [some (eR a0), some (eI (a1)), some (eI (3))]) (s2 := [eI (v35), eR v28]) rfl (b_iadd (by rw [← e36]; exact ev_w_in (by omega) (by omega))) rfl ?_
              refine j_al (np := 143) rfl rfl I18 b30 (by decide) (n := 5340) rfl rfl (lo := -2147483648) (hi := 2147483647) (fun _ => rfl) (by omega) (by omega) ?_
              intro v38 e39 b40
              exact b_ri rfl rfl (K m17 (v38) I18 F20 (by omega))
            · have b28 : 0 ≤ v24 ∧ v24 ≤ 0 := by omega
              refine w_t (np := 125) (l2 := [some (eR a0), some (eI (a1)), some (eI (3))]) (s2 := [eI (-1)]) rfl rfl rfl ?_
              refine w_go (t1 := 143) rfl rfl ?_
              exact b_ri rfl rfl (K m17 (-1) I18 F20 (by decide))
          · subst g23
            refine w_j (np := 144) (st' := []) rfl rfl rfl ?_
            refine w_t (np := 145) (l2 := [some (eR a0), some (eI (a1)), some (eI (4))]) (s2 := [eR a0]) rfl (s_an rfl (pos_g I18 gA0 (by decide))) rfl ?_
            refine j_gr (np := 148) rfl rfl I18 gA0 (by decide) (n := 69) rfl rfl rfl ?_
            intro v24 e25 b26 z27
            have b26 : g v24 = 67 := Nat.eq_of_beq_eq_true b26
            refine w_t (np := 149) (l2 := [some (eR a0), some (eI (a1)), some (eI (4))]) (s2 := [eI (a1), eR v24]) rfl rfl rfl ?_
            refine j_al (np := 150) rfl rfl I18 b26 (by decide) (n := 890) rfl rfl (lo := -1) (hi := 889) (fun _ => rfl) (by omega) (by omega) ?_
            intro v28 e29 b30
            exact b_ri rfl rfl (K m17 (v28) I18 F20 (by omega))
          · subst g23
            refine w_j (np := 151) (st' := []) rfl rfl rfl ?_
            refine w_t (np := 152) (l2 := [some (eR a0), some (eI (a1)), some (eI (5))]) (s2 := [eR a0]) rfl (s_an rfl (pos_g I18 gA0 (by decide))) rfl ?_
            refine j_gr (np := 155) rfl rfl I18 gA0 (by decide) (n := 69) rfl rfl rfl ?_
            intro v24 e25 b26 z27
            have b26 : g v24 = 68 := Nat.eq_of_beq_eq_true b26
            refine w_t (np := 156) (l2 := [some (eR a0), some (eI (a1)), some (eI (5))]) (s2 := [eI (a1), eR v24]) rfl rfl rfl ?_
            refine j_al (np := 157) rfl rfl I18 b26 (by decide) (n := 890) rfl rfl (lo := -1) (hi := 889) (fun _ => rfl) (by omega) (by omega) ?_
            intro v28 e29 b30
            exact b_ri rfl rfl (K m17 (v28) I18 F20 (by omega))
          · subst g23
            refine w_j (np := 158) (st' := []) rfl rfl rfl ?_
            refine w_t (np := 159) (l2 := [some (eR a0), some (eI (a1)), some (eI (6))]) (s2 := [eR a0]) rfl (s_an rfl (pos_g I18 gA0 (by decide))) rfl ?_
            refine j_gr (np := 162) rfl rfl I18 gA0 (by decide) (n := 69) rfl rfl rfl ?_
            intro v24 e25 b26 z27
            have b26 : g v24 = 69 := Nat.eq_of_beq_eq_true b26
            refine w_t (np := 163) (l2 := [some (eR a0), some (eI (a1)), some (eI (6))]) (s2 := [eI (a1), eR v24]) rfl rfl rfl ?_
            refine j_al (np := 164) rfl rfl I18 b26 (by decide) (n := 890) rfl rfl (lo := -1) (hi := 889) (fun _ => rfl) (by omega) (by omega) ?_
            intro v28 e29 b30
            exact b_ri rfl rfl (K m17 (v28) I18 F20 (by omega))
def l_263 : List Nat := [13313, 13314]
theorem s_263 {L : Nat} {ρ : Nat → Int} {rc : eQ} {d : Nat} {f : eFr} {F : List eFr} {μ : eM} {g : Nat → Nat} {a0 : Nat} {a1 : Int} {a2 : Int} {a3 : Int} (hI : SI g μ) (gA0 : g a0 = 52) (bA1 : -2147483648 ≤ a1 ∧ a1 ≤ 2147483647) (bA2 : -2147483648 ≤ a2 ∧ a2 ≤ 2147483647) (bA3 : -2147483648 ≤ a3 ∧ a3 ≤ 2147483647) (K : ∀ (μ2 : eM) (v : Int), SI g μ2 → Fr l_263 0 0 g μ μ2 → (-2147483648 ≤ v ∧ v ≤ 2147483647) → ex_q (dt_fg L ρ) rc (d + 3, (f.1, f.2.1, f.2.2.1, eI v :: f.2.2.2), F, μ2)) : ex_q (dt_fg L ρ) rc (d + 2, (263, 0, [some (eR a0), some (eI (a1)), some (eI (a2)), some (eI (a3))], []), f :: F, μ) := by
  have F0 : Fr l_263 0 0 g μ μ := Fr.r
  refine w_t (np := 1) (l2 := [some (eR a0), some (eI (a1)), some (eI (a2)), some (eI (a3))]) (s2 := [eR a0]) rfl (s_an rfl (pos_g hI gA0 (by decide))) rfl ?_
  refine w_t (np := 2) (l2 := [some (eR a0), some (eI (a1)), some (eI (a2)), some (eI (a3))]) (s2 := [eI (a2), eR a0]) rfl rfl rfl ?_
  refine w_t (np := 3) (l2 := [some (eR a0), some (eI (a1)), some (eI (a2)), some (eI (a3))]) (s2 := [eI (0), eI (a2), eR a0]) rfl rfl rfl ?_
  refine w_t (np := 4) (l2 := [some (eR a0), some (eI (a1)), some (eI (a2)), some (eI (a3))]) (s2 := [eI (2), eI (0), eI (a2), eR a0]) rfl rfl rfl ?_
  refine w_cu (np := 7) (as := [eI (a2), eI (0), eI (2)]) (l2 := [some (eI (a2)), some (eI (0)), some (eI (2))]) (rest := [eR a0]) rfl rfl rfl (Nat.ble_eq.mp rfl) rfl rfl rfl rfl ?_
  refine w_t (np := 1) (l2 := [some (eI (a2)), some (eI (0)), some (eI (2))]) (s2 := [eI (a2)]) rfl rfl rfl ?_
  refine w_t (np := 2) (l2 := [some (eI (a2)), some (eI (0)), some (eI (2))]) (s2 := [eI (0), eI (a2)]) rfl rfl rfl ?_
  refine b_clt (t1 := 14) (t2 := 5) rfl rfl rfl (ev_w_in (by omega) (by omega)) rfl (fun g1 => ?_) (fun g1 => ?_)
  · have b2 : -2147483648 ≤ a2 ∧ a2 ≤ -1 := by omega
    refine w_t (np := 15) (l2 := [some (eI (a2)), some (eI (0)), some (eI (2))]) (s2 := [eI (0)]) rfl rfl rfl ?_
    refine b_rz rfl rfl (Or.inl rfl) ?_
    show ex_q (dt_fg L ρ) rc (d + 2, (263, 7, [some (eR a0), some (eI (a1)), some (eI (a2)), some (eI (a3))], [eI (0), eR a0]), f :: F, μ)
    refine b_ieq (t1 := 19) (t2 := 10) rfl rfl rfl rfl (fun g2 => ?_) (fun g2 => absurd g2 (by decide))
    refine w_t (np := 20) (l2 := [some (eR a0), some (eI (a1)), some (eI (a2)), some (eI (a3))]) (s2 := [eI (1), eR a0]) rfl rfl rfl ?_
    refine w_go (t1 := 36) rfl rfl ?_
    refine w_cw (np := 39) (as := [eI (1)]) (l2 := [some (eR a0), some (eI (1))]) (rest := []) rfl rfl rfl (Nat.ble_eq.mp rfl) rfl rfl rfl (hI.kd gA0 (by decide) (n := 69) rfl) rfl ?_
    refine w_t (np := 1) (l2 := [some (eR a0), some (eI (1))]) (s2 := [eR a0]) rfl (s_an rfl (pos_g hI gA0 (by decide))) rfl ?_
    refine w_t (np := 2) (l2 := [some (eR a0), some (eI (1))]) (s2 := [eI (0), eR a0]) rfl rfl rfl ?_
    refine j_pf (np := 5) (w := 0) rfl rfl hI gA0 (by decide) (n := 69) rfl rfl (hO_i (lo := -2147483648) (hi := 2147483647) rfl (by decide)) ?_
    intro m3 I4 W5
    have F6 : Fr l_263 0 0 g μ m3 := F0.w W5 gA0 rfl
    refine w_t (np := 6) (l2 := [some (eR a0), some (eI (1))]) (s2 := [eR a0]) rfl (s_an rfl (pos_g I4 gA0 (by decide))) rfl ?_
    refine w_t (np := 7) (l2 := [some (eR a0), some (eI (1))]) (s2 := [eI (1), eR a0]) rfl rfl rfl ?_
    refine j_pf (np := 10) (w := 1) rfl rfl I4 gA0 (by decide) (n := 69) rfl rfl (hO_i (lo := -2147483648) (hi := 2147483647) rfl (by decide)) ?_
    intro m7 I8 W9
    have F10 : Fr l_263 0 0 g μ m7 := F6.w W9 gA0 rfl
    refine w_t (np := 11) (l2 := [some (eR a0), some (eI (1))]) (s2 := [eI (1)]) rfl rfl rfl ?_
    refine b_ine (t1 := 18) (t2 := 14) rfl rfl rfl rfl (fun g11 => ?_) (fun g11 => absurd g11 (by decide))
    refine w_t (np := 19) (l2 := [some (eR a0), some (eI (1))]) (s2 := [eI (0)]) rfl rfl rfl ?_
    refine b_rz rfl rfl (Or.inl rfl) ?_
    show ex_q (dt_fg L ρ) rc (d + 2, (263, 39, [some (eR a0), some (eI (a1)), some (eI (a2)), some (eI (a3))], [eI (0)]), f :: F, m7)
    refine b_ieq (t1 := 60) (t2 := 42) rfl rfl rfl rfl (fun g12 => ?_) (fun g12 => absurd g12 (by decide))
    refine w_t (np := 61) (l2 := [some (eR a0), some (eI (a1)), some (eI (a2)), some (eI (a3))]) (s2 := [eI (-1)]) rfl rfl rfl ?_
    exact b_ri rfl rfl (K m7 (-1) I8 F10 (by decide))
  · have b2 : 0 ≤ a2 ∧ a2 ≤ 2147483647 := by omega
    refine w_t (np := 6) (l2 := [some (eI (a2)), some (eI (0)), some (eI (2))]) (s2 := [eI (a2)]) rfl rfl rfl ?_
    refine w_t (np := 7) (l2 := [some (eI (a2)), some (eI (0)), some (eI (2))]) (s2 := [eI (2), eI (a2)]) rfl rfl rfl ?_
    refine b_cgt (t1 := 14) (t2 := 10) rfl rfl rfl (ev_w_in (by omega) (by omega)) rfl (fun g2 => ?_) (fun g2 => ?_)
    · have b3 : 3 ≤ a2 ∧ a2 ≤ 2147483647 := by omega
      refine w_t (np := 15) (l2 := [some (eI (a2)), some (eI (0)), some (eI (2))]) (s2 := [eI (0)]) rfl rfl rfl ?_
      refine b_rz rfl rfl (Or.inl rfl) ?_
      show ex_q (dt_fg L ρ) rc (d + 2, (263, 7, [some (eR a0), some (eI (a1)), some (eI (a2)), some (eI (a3))], [eI (0), eR a0]), f :: F, μ)
      refine b_ieq (t1 := 19) (t2 := 10) rfl rfl rfl rfl (fun g3 => ?_) (fun g3 => absurd g3 (by decide))
      refine w_t (np := 20) (l2 := [some (eR a0), some (eI (a1)), some (eI (a2)), some (eI (a3))]) (s2 := [eI (1), eR a0]) rfl rfl rfl ?_
      refine w_go (t1 := 36) rfl rfl ?_
      refine w_cw (np := 39) (as := [eI (1)]) (l2 := [some (eR a0), some (eI (1))]) (rest := []) rfl rfl rfl (Nat.ble_eq.mp rfl) rfl rfl rfl (hI.kd gA0 (by decide) (n := 69) rfl) rfl ?_
      refine w_t (np := 1) (l2 := [some (eR a0), some (eI (1))]) (s2 := [eR a0]) rfl (s_an rfl (pos_g hI gA0 (by decide))) rfl ?_
      refine w_t (np := 2) (l2 := [some (eR a0), some (eI (1))]) (s2 := [eI (0), eR a0]) rfl rfl rfl ?_
      refine j_pf (np := 5) (w := 0) rfl rfl hI gA0 (by decide) (n := 69) rfl rfl (hO_i (lo := -2147483648) (hi := 2147483647) rfl (by decide)) ?_
      intro m4 I5 W6
      have F7 : Fr l_263 0 0 g μ m4 := F0.w W6 gA0 rfl
      refine w_t (np := 6) (l2 := [some (eR a0), some (eI (1))]) (s2 := [eR a0]) rfl (s_an rfl (pos_g I5 gA0 (by decide))) rfl ?_
      refine w_t (np := 7) (l2 := [some (eR a0), some (eI (1))]) (s2 := [eI (1), eR a0]) rfl rfl rfl ?_
      refine j_pf (np := 10) (w := 1) rfl rfl I5 gA0 (by decide) (n := 69) rfl rfl (hO_i (lo := -2147483648) (hi := 2147483647) rfl (by decide)) ?_
      intro m8 I9 W10
      have F11 : Fr l_263 0 0 g μ m8 := F7.w W10 gA0 rfl
      refine w_t (np := 11) (l2 := [some (eR a0), some (eI (1))]) (s2 := [eI (1)]) rfl rfl rfl ?_
      refine b_ine (t1 := 18) (t2 := 14) rfl rfl rfl rfl (fun g12 => ?_) (fun g12 => absurd g12 (by decide))
      refine w_t (np := 19) (l2 := [some (eR a0), some (eI (1))]) (s2 := [eI (0)]) rfl rfl rfl ?_
      refine b_rz rfl rfl (Or.inl rfl) ?_
      show ex_q (dt_fg L ρ) rc (d + 2, (263, 39, [some (eR a0), some (eI (a1)), some (eI (a2)), some (eI (a3))], [eI (0)]), f :: F, m8)
      refine b_ieq (t1 := 60) (t2 := 42) rfl rfl rfl rfl (fun g13 => ?_) (fun g13 => absurd g13 (by decide))
      refine w_t (np := 61) (l2 := [some (eR a0), some (eI (a1)), some (eI (a2)), some (eI (a3))]) (s2 := [eI (-1)]) rfl rfl rfl ?_
      exact b_ri rfl rfl (K m8 (-1) I9 F11 (by decide))
    · have b3 : 0 ≤ a2 ∧ a2 ≤ 2 := by omega
      refine w_t (np := 11) (l2 := [some (eI (a2)), some (eI (0)), some (eI (2))]) (s2 := [eI (1)]) rfl rfl rfl ?_
      refine w_go (t1 := 15) rfl rfl ?_
      refine b_rz rfl rfl (Or.inr rfl) ?_
      show ex_q (dt_fg L ρ) rc (d + 2, (263, 7, [some (eR a0), some (eI (a1)), some (eI (a2)), some (eI (a3))], [eI (1), eR a0]), f :: F, μ)
      refine b_ieq (t1 := 19) (t2 := 10) rfl rfl rfl rfl (fun g3 => absurd g3 (by decide)) (fun g3 => ?_)
      refine w_t (np := 11) (l2 := [some (eR a0), some (eI (a1)), some (eI (a2)), some (eI (a3))]) (s2 := [eI (a3), eR a0]) rfl rfl rfl ?_
      refine w_t (np := 12) (l2 := [some (eR a0), some (eI (a1)), some (eI (a2)), some (eI (a3))]) (s2 := [eI (0), eI (a3), eR a0]) rfl rfl rfl ?_
      refine w_t (np := 13) (l2 := [some (eR a0), some (eI (a1)), some (eI (a2)), some (eI (a3))]) (s2 := [eI (3), eI (0), eI (a3), eR a0]) rfl rfl rfl ?_
      refine w_cu (np := 16) (as := [eI (a3), eI (0), eI (3)]) (l2 := [some (eI (a3)), some (eI (0)), some (eI (3))]) (rest := [eR a0]) rfl rfl rfl (Nat.ble_eq.mp rfl) rfl rfl rfl rfl ?_
      refine w_t (np := 1) (l2 := [some (eI (a3)), some (eI (0)), some (eI (3))]) (s2 := [eI (a3)]) rfl rfl rfl ?_
      refine w_t (np := 2) (l2 := [some (eI (a3)), some (eI (0)), some (eI (3))]) (s2 := [eI (0), eI (a3)]) rfl rfl rfl ?_
      refine b_clt (t1 := 14) (t2 := 5) rfl rfl rfl (ev_w_in (by omega) (by omega)) rfl (fun g4 => ?_) (fun g4 => ?_)
      · have b5 : -2147483648 ≤ a3 ∧ a3 ≤ -1 := by omega
        refine w_t (np := 15) (l2 := [some (eI (a3)), some (eI (0)), some (eI (3))]) (s2 := [eI (0)]) rfl rfl rfl ?_
        refine b_rz rfl rfl (Or.inl rfl) ?_
        show ex_q (dt_fg L ρ) rc (d + 2, (263, 16, [some (eR a0), some (eI (a1)), some (eI (a2)), some (eI (a3))], [eI (0), eR a0]), f :: F, μ)
        refine b_ine (t1 := 23) (t2 := 19) rfl rfl rfl rfl (fun g5 => absurd g5 (by decide)) (fun g5 => ?_)
        refine w_t (np := 20) (l2 := [some (eR a0), some (eI (a1)), some (eI (a2)), some (eI (a3))]) (s2 := [eI (1), eR a0]) rfl rfl rfl ?_
        refine w_go (t1 := 36) rfl rfl ?_
        refine w_cw (np := 39) (as := [eI (1)]) (l2 := [some (eR a0), some (eI (1))]) (rest := []) rfl rfl rfl (Nat.ble_eq.mp rfl) rfl rfl rfl (hI.kd gA0 (by decide) (n := 69) rfl) rfl ?_
        refine w_t (np := 1) (l2 := [some (eR a0), some (eI (1))]) (s2 := [eR a0]) rfl (s_an rfl (pos_g hI gA0 (by decide))) rfl ?_
        refine w_t (np := 2) (l2 := [some (eR a0), some (eI (1))]) (s2 := [eI (0), eR a0]) rfl rfl rfl ?_
        refine j_pf (np := 5) (w := 0) rfl rfl hI gA0 (by decide) (n := 69) rfl rfl (hO_i (lo := -2147483648) (hi := 2147483647) rfl (by decide)) ?_
        intro m6 I7 W8
        have F9 : Fr l_263 0 0 g μ m6 := F0.w W8 gA0 rfl
        refine w_t (np := 6) (l2 := [some (eR a0), some (eI (1))]) (s2 := [eR a0]) rfl (s_an rfl (pos_g I7 gA0 (by decide))) rfl ?_
        refine w_t (np := 7) (l2 := [some (eR a0), some (eI (1))]) (s2 := [eI (1), eR a0]) rfl rfl rfl ?_
        refine j_pf (np := 10) (w := 1) rfl rfl I7 gA0 (by decide) (n := 69) rfl rfl (hO_i (lo := -2147483648) (hi := 2147483647) rfl (by decide)) ?_
        intro m10 I11 W12
        have F13 : Fr l_263 0 0 g μ m10 := F9.w W12 gA0 rfl
        refine w_t (np := 11) (l2 := [some (eR a0), some (eI (1))]) (s2 := [eI (1)]) rfl rfl rfl ?_
        refine b_ine (t1 := 18) (t2 := 14) rfl rfl rfl rfl (fun g14 => ?_) (fun g14 => absurd g14 (by decide))
        refine w_t (np := 19) (l2 := [some (eR a0), some (eI (1))]) (s2 := [eI (0)]) rfl rfl rfl ?_
        refine b_rz rfl rfl (Or.inl rfl) ?_
        show ex_q (dt_fg L ρ) rc (d + 2, (263, 39, [some (eR a0), some (eI (a1)), some (eI (a2)), some (eI (a3))], [eI (0)]), f :: F, m10)
        refine b_ieq (t1 := 60) (t2 := 42) rfl rfl rfl rfl (fun g15 => ?_) (fun g15 => absurd g15 (by decide))
        refine w_t (np := 61) (l2 := [some (eR a0), some (eI (a1)), some (eI (a2)), some (eI (a3))]) (s2 := [eI (-1)]) rfl rfl rfl ?_
        exact b_ri rfl rfl (K m10 (-1) I11 F13 (by decide))
      · have b5 : 0 ≤ a3 ∧ a3 ≤ 2147483647 := by omega
        refine w_t (np := 6) (l2 := [some (eI (a3)), some (eI (0)), some (eI (3))]) (s2 := [eI (a3)]) rfl rfl rfl ?_
        refine w_t (np := 7) (l2 := [some (eI (a3)), some (eI (0)), some (eI (3))]) (s2 := [eI (3), eI (a3)]) rfl rfl rfl ?_
        refine b_cgt (t1 := 14) (t2 := 10) rfl rfl rfl (ev_w_in (by omega) (by omega)) rfl (fun g5 => ?_) (fun g5 => ?_)
        · have b6 : 4 ≤ a3 ∧ a3 ≤ 2147483647 := by omega
          refine w_t (np := 15) (l2 := [some (eI (a3)), some (eI (0)), some (eI (3))]) (s2 := [eI (0)]) rfl rfl rfl ?_
          refine b_rz rfl rfl (Or.inl rfl) ?_
          show ex_q (dt_fg L ρ) rc (d + 2, (263, 16, [some (eR a0), some (eI (a1)), some (eI (a2)), some (eI (a3))], [eI (0), eR a0]), f :: F, μ)
          refine b_ine (t1 := 23) (t2 := 19) rfl rfl rfl rfl (fun g6 => absurd g6 (by decide)) (fun g6 => ?_)
          refine w_t (np := 20) (l2 := [some (eR a0), some (eI (a1)), some (eI (a2)), some (eI (a3))]) (s2 := [eI (1), eR a0]) rfl rfl rfl ?_
          refine w_go (t1 := 36) rfl rfl ?_
          refine w_cw (np := 39) (as := [eI (1)]) (l2 := [some (eR a0), some (eI (1))]) (rest := []) rfl rfl rfl (Nat.ble_eq.mp rfl) rfl rfl rfl (hI.kd gA0 (by decide) (n := 69) rfl) rfl ?_
          refine w_t (np := 1) (l2 := [some (eR a0), some (eI (1))]) (s2 := [eR a0]) rfl (s_an rfl (pos_g hI gA0 (by decide))) rfl ?_
          refine w_t (np := 2) (l2 := [some (eR a0), some (eI (1))]) (s2 := [eI (0), eR a0]) rfl rfl rfl ?_
          refine j_pf (np := 5) (w := 0) rfl rfl hI gA0 (by decide) (n := 69) rfl rfl (hO_i (lo := -2147483648) (hi := 2147483647) rfl (by decide)) ?_
          intro m7 I8 W9
          have F10 : Fr l_263 0 0 g μ m7 := F0.w W9 gA0 rfl
          refine w_t (np := 6) (l2 := [some (eR a0), some (eI (1))]) (s2 := [eR a0]) rfl (s_an rfl (pos_g I8 gA0 (by decide))) rfl ?_
          refine w_t (np := 7) (l2 := [some (eR a0), some (eI (1))]) (s2 := [eI (1), eR a0]) rfl rfl rfl ?_
          refine j_pf (np := 10) (w := 1) rfl rfl I8 gA0 (by decide) (n := 69) rfl rfl (hO_i (lo := -2147483648) (hi := 2147483647) rfl (by decide)) ?_
          intro m11 I12 W13
          have F14 : Fr l_263 0 0 g μ m11 := F10.w W13 gA0 rfl
          refine w_t (np := 11) (l2 := [some (eR a0), some (eI (1))]) (s2 := [eI (1)]) rfl rfl rfl ?_
          refine b_ine (t1 := 18) (t2 := 14) rfl rfl rfl rfl (fun g15 => ?_) (fun g15 => absurd g15 (by decide))
          refine w_t (np := 19) (l2 := [some (eR a0), some (eI (1))]) (s2 := [eI (0)]) rfl rfl rfl ?_
          refine b_rz rfl rfl (Or.inl rfl) ?_
          show ex_q (dt_fg L ρ) rc (d + 2, (263, 39, [some (eR a0), some (eI (a1)), some (eI (a2)), some (eI (a3))], [eI (0)]), f :: F, m11)
          refine b_ieq (t1 := 60) (t2 := 42) rfl rfl rfl rfl (fun g16 => ?_) (fun g16 => absurd g16 (by decide))
          refine w_t (np := 61) (l2 := [some (eR a0), some (eI (a1)), some (eI (a2)), some (eI (a3))]) (s2 := [eI (-1)]) rfl rfl rfl ?_
          exact b_ri rfl rfl (K m11 (-1) I12 F14 (by decide))
        · have b6 : 0 ≤ a3 ∧ a3 ≤ 3 := by omega
          refine w_t (np := 11) (l2 := [some (eI (a3)), some (eI (0)), some (eI (3))]) (s2 := [eI (1)]) rfl rfl rfl ?_
          refine w_go (t1 := 15) rfl rfl ?_
          refine b_rz rfl rfl (Or.inr rfl) ?_
          show ex_q (dt_fg L ρ) rc (d + 2, (263, 16, [some (eR a0), some (eI (a1)), some (eI (a2)), some (eI (a3))], [eI (1), eR a0]), f :: F, μ)
          refine b_ine (t1 := 23) (t2 := 19) rfl rfl rfl rfl (fun g6 => ?_) (fun g6 => absurd g6 (by decide))
          refine w_t (np := 24) (l2 := [some (eR a0), some (eI (a1)), some (eI (a2)), some (eI (a3))]) (s2 := [eR a0, eR a0]) rfl (s_an rfl (pos_g hI gA0 (by decide))) rfl ?_
          refine w_t (np := 25) (l2 := [some (eR a0), some (eI (a1)), some (eI (a2)), some (eI (a3))]) (s2 := [eI (a1), eR a0, eR a0]) rfl rfl rfl ?_
          refine w_cw (np := 28) (as := [eI (a1)]) (l2 := [some (eR a0), some (eI (a1))]) (rest := [eR a0]) rfl rfl rfl (Nat.ble_eq.mp rfl) rfl rfl rfl (hI.kd gA0 (by decide) (n := 69) rfl) rfl ?_
          refine w_t (np := 1) (l2 := [some (eR a0), some (eI (a1))]) (s2 := [eI (a1)]) rfl rfl rfl ?_
          refine w_t (np := 2) (l2 := [some (eR a0), some (eI (a1))]) (s2 := [eI (0), eI (a1)]) rfl rfl rfl ?_
          refine w_t (np := 3) (l2 := [some (eR a0), some (eI (a1))]) (s2 := [eR a0, eI (0), eI (a1)]) rfl (s_an rfl (pos_g hI gA0 (by decide))) rfl ?_
          refine j_gi (np := 6) rfl rfl rfl hI gA0 (by decide) (n := 69) rfl rfl (lo := 0) (hi := 890) rfl ?_
          intro v7 e8 b9
          refine w_t (np := 7) (l2 := [some (eR a0), some (eI (a1))]) (s2 := [eI (1), eI (v7), eI (0), eI (a1)]) rfl rfl rfl ?_
          obtain ⟨v10, e11⟩ : ∃ zz : Int, zz = (v7) - (1) := ⟨_, rfl⟩
          have b12 : -1 ≤ v10 ∧ v10 ≤ 889 := by omega
          refine w_t (np := 8) (l2 := [some (eR a0), some (eI (a1))]) (s2 := [eI (v10), eI (0), eI (a1)]) rfl (b_isub (by rw [← e11]; exact ev_w_in (by omega) (by omega))) rfl ?_
          refine w_cu (np := 11) (as := [eI (a1), eI (0), eI (v10)]) (l2 := [some (eI (a1)), some (eI (0)), some (eI (v10))]) (rest := []) rfl rfl rfl (Nat.ble_eq.mp rfl) rfl rfl rfl rfl ?_
          refine w_t (np := 1) (l2 := [some (eI (a1)), some (eI (0)), some (eI (v10))]) (s2 := [eI (a1)]) rfl rfl rfl ?_
          refine w_t (np := 2) (l2 := [some (eI (a1)), some (eI (0)), some (eI (v10))]) (s2 := [eI (0), eI (a1)]) rfl rfl rfl ?_
          refine b_clt (t1 := 14) (t2 := 5) rfl rfl rfl (ev_w_in (by omega) (by omega)) rfl (fun g13 => ?_) (fun g13 => ?_)
          · have b14 : -2147483648 ≤ a1 ∧ a1 ≤ -1 := by omega
            refine w_t (np := 15) (l2 := [some (eI (a1)), some (eI (0)), some (eI (v10))]) (s2 := [eI (0)]) rfl rfl rfl ?_
            refine b_rz rfl rfl (Or.inl rfl) ?_
            show ex_q (dt_fg L ρ) rc (d + 1, (243, 11, [some (eR a0), some (eI (a1))], [eI (0)]), (263, 28, [some (eR a0), some (eI (a1)), some (eI (a2)), some (eI (a3))], [eR a0]) :: f :: F, μ)
            refine b_rz rfl rfl (Or.inl rfl) ?_
            show ex_q (dt_fg L ρ) rc (d + 2, (263, 28, [some (eR a0), some (eI (a1)), some (eI (a2)), some (eI (a3))], [eI (0), eR a0]), f :: F, μ)
            refine b_ieq (t1 := 35) (t2 := 31) rfl rfl rfl rfl (fun g14 => ?_) (fun g14 => absurd g14 (by decide))
            refine w_t (np := 36) (l2 := [some (eR a0), some (eI (a1)), some (eI (a2)), some (eI (a3))]) (s2 := [eI (2), eR a0]) rfl rfl rfl ?_
            refine w_cw (np := 39) (as := [eI (2)]) (l2 := [some (eR a0), some (eI (2))]) (rest := []) rfl rfl rfl (Nat.ble_eq.mp rfl) rfl rfl rfl (hI.kd gA0 (by decide) (n := 69) rfl) rfl ?_
            refine w_t (np := 1) (l2 := [some (eR a0), some (eI (2))]) (s2 := [eR a0]) rfl (s_an rfl (pos_g hI gA0 (by decide))) rfl ?_
            refine w_t (np := 2) (l2 := [some (eR a0), some (eI (2))]) (s2 := [eI (0), eR a0]) rfl rfl rfl ?_
            refine j_pf (np := 5) (w := 0) rfl rfl hI gA0 (by decide) (n := 69) rfl rfl (hO_i (lo := -2147483648) (hi := 2147483647) rfl (by decide)) ?_
            intro m15 I16 W17
            have F18 : Fr l_263 0 0 g μ m15 := F0.w W17 gA0 rfl
            refine w_t (np := 6) (l2 := [some (eR a0), some (eI (2))]) (s2 := [eR a0]) rfl (s_an rfl (pos_g I16 gA0 (by decide))) rfl ?_
            refine w_t (np := 7) (l2 := [some (eR a0), some (eI (2))]) (s2 := [eI (2), eR a0]) rfl rfl rfl ?_
            refine j_pf (np := 10) (w := 2) rfl rfl I16 gA0 (by decide) (n := 69) rfl rfl (hO_i (lo := -2147483648) (hi := 2147483647) rfl (by decide)) ?_
            intro m19 I20 W21
            have F22 : Fr l_263 0 0 g μ m19 := F18.w W21 gA0 rfl
            refine w_t (np := 11) (l2 := [some (eR a0), some (eI (2))]) (s2 := [eI (2)]) rfl rfl rfl ?_
            refine b_ine (t1 := 18) (t2 := 14) rfl rfl rfl rfl (fun g23 => ?_) (fun g23 => absurd g23 (by decide))
            refine w_t (np := 19) (l2 := [some (eR a0), some (eI (2))]) (s2 := [eI (0)]) rfl rfl rfl ?_
            refine b_rz rfl rfl (Or.inl rfl) ?_
            show ex_q (dt_fg L ρ) rc (d + 2, (263, 39, [some (eR a0), some (eI (a1)), some (eI (a2)), some (eI (a3))], [eI (0)]), f :: F, m19)
            refine b_ieq (t1 := 60) (t2 := 42) rfl rfl rfl rfl (fun g24 => ?_) (fun g24 => absurd g24 (by decide))
            refine w_t (np := 61) (l2 := [some (eR a0), some (eI (a1)), some (eI (a2)), some (eI (a3))]) (s2 := [eI (-1)]) rfl rfl rfl ?_
            exact b_ri rfl rfl (K m19 (-1) I20 F22 (by decide))
          · have b14 : 0 ≤ a1 ∧ a1 ≤ 2147483647 := by omega
            refine w_t (np := 6) (l2 := [some (eI (a1)), some (eI (0)), some (eI (v10))]) (s2 := [eI (a1)]) rfl rfl rfl ?_
            refine w_t (np := 7) (l2 := [some (eI (a1)), some (eI (0)), some (eI (v10))]) (s2 := [eI (v10), eI (a1)]) rfl rfl rfl ?_
            refine b_cgt (t1 := 14) (t2 := 10) rfl rfl rfl (ev_w_in (by omega) (by omega)) (ev_w_in (by omega) (by omega)) (fun g14 => ?_) (fun g14 => ?_)
            · refine w_t (np := 15) (l2 := [some (eI (a1)), some (eI (0)), some (eI (v10))]) (s2 := [eI (0)]) rfl rfl rfl ?_
              refine b_rz rfl rfl (Or.inl rfl) ?_
              show ex_q (dt_fg L ρ) rc (d + 1, (243, 11, [some (eR a0), some (eI (a1))], [eI (0)]), (263, 28, [some (eR a0), some (eI (a1)), some (eI (a2)), some (eI (a3))], [eR a0]) :: f :: F, μ)
              refine b_rz rfl rfl (Or.inl rfl) ?_
              show ex_q (dt_fg L ρ) rc (d + 2, (263, 28, [some (eR a0), some (eI (a1)), some (eI (a2)), some (eI (a3))], [eI (0), eR a0]), f :: F, μ)
              refine b_ieq (t1 := 35) (t2 := 31) rfl rfl rfl rfl (fun g15 => ?_) (fun g15 => absurd g15 (by decide))
              refine w_t (np := 36) (l2 := [some (eR a0), some (eI (a1)), some (eI (a2)), some (eI (a3))]) (s2 := [eI (2), eR a0]) rfl rfl rfl ?_
              refine w_cw (np := 39) (as := [eI (2)]) (l2 := [some (eR a0), some (eI (2))]) (rest := []) rfl rfl rfl (Nat.ble_eq.mp rfl) rfl rfl rfl (hI.kd gA0 (by decide) (n := 69) rfl) rfl ?_
              refine w_t (np := 1) (l2 := [some (eR a0), some (eI (2))]) (s2 := [eR a0]) rfl (s_an rfl (pos_g hI gA0 (by decide))) rfl ?_
              refine w_t (np := 2) (l2 := [some (eR a0), some (eI (2))]) (s2 := [eI (0), eR a0]) rfl rfl rfl ?_
              refine j_pf (np := 5) (w := 0) rfl rfl hI gA0 (by decide) (n := 69) rfl rfl (hO_i (lo := -2147483648) (hi := 2147483647) rfl (by decide)) ?_
              intro m16 I17 W18
              have F19 : Fr l_263 0 0 g μ m16 := F0.w W18 gA0 rfl
              refine w_t (np := 6) (l2 := [some (eR a0), some (eI (2))]) (s2 := [eR a0]) rfl (s_an rfl (pos_g I17 gA0 (by decide))) rfl ?_
              refine w_t (np := 7) (l2 := [some (eR a0), some (eI (2))]) (s2 := [eI (2), eR a0]) rfl rfl rfl ?_
              refine j_pf (np := 10) (w := 2) rfl rfl I17 gA0 (by decide) (n := 69) rfl rfl (hO_i (lo := -2147483648) (hi := 2147483647) rfl (by decide)) ?_
              intro m20 I21 W22
              have F23 : Fr l_263 0 0 g μ m20 := F19.w W22 gA0 rfl
              refine w_t (np := 11) (l2 := [some (eR a0), some (eI (2))]) (s2 := [eI (2)]) rfl rfl rfl ?_
              refine b_ine (t1 := 18) (t2 := 14) rfl rfl rfl rfl (fun g24 => ?_) (fun g24 => absurd g24 (by decide))
              refine w_t (np := 19) (l2 := [some (eR a0), some (eI (2))]) (s2 := [eI (0)]) rfl rfl rfl ?_
              refine b_rz rfl rfl (Or.inl rfl) ?_
              show ex_q (dt_fg L ρ) rc (d + 2, (263, 39, [some (eR a0), some (eI (a1)), some (eI (a2)), some (eI (a3))], [eI (0)]), f :: F, m20)
              refine b_ieq (t1 := 60) (t2 := 42) rfl rfl rfl rfl (fun g25 => ?_) (fun g25 => absurd g25 (by decide))
              refine w_t (np := 61) (l2 := [some (eR a0), some (eI (a1)), some (eI (a2)), some (eI (a3))]) (s2 := [eI (-1)]) rfl rfl rfl ?_
              exact b_ri rfl rfl (K m20 (-1) I21 F23 (by decide))
            · have b15 : 0 ≤ a1 ∧ a1 ≤ 889 := by omega
              have b16 : 0 ≤ v10 ∧ v10 ≤ 889 := by omega
              refine w_t (np := 11) (l2 := [some (eI (a1)), some (eI (0)), some (eI (v10))]) (s2 := [eI (1)]) rfl rfl rfl ?_
              refine w_go (t1 := 15) rfl rfl ?_
              refine b_rz rfl rfl (Or.inr rfl) ?_
              show ex_q (dt_fg L ρ) rc (d + 1, (243, 11, [some (eR a0), some (eI (a1))], [eI (1)]), (263, 28, [some (eR a0), some (eI (a1)), some (eI (a2)), some (eI (a3))], [eR a0]) :: f :: F, μ)
              refine b_rz rfl rfl (Or.inr rfl) ?_
              show ex_q (dt_fg L ρ) rc (d + 2, (263, 28, [some (eR a0), some (eI (a1)), some (eI (a2)), some (eI (a3))], [eI (1), eR a0]), f :: F, μ)
              refine b_ieq (t1 := 35) (t2 := 31) rfl rfl rfl rfl (fun g15 => absurd g15 (by decide)) (fun g15 => ?_)
              refine w_t (np := 32) (l2 := [some (eR a0), some (eI (a1)), some (eI (a2)), some (eI (a3))]) (s2 := [eI (0), eR a0]) rfl rfl rfl ?_
              refine w_go (t1 := 36) rfl rfl ?_
              refine w_cw (np := 39) (as := [eI (0)]) (l2 := [some (eR a0), some (eI (0))]) (rest := []) rfl rfl rfl (Nat.ble_eq.mp rfl) rfl rfl rfl (hI.kd gA0 (by decide) (n := 69) rfl) rfl ?_
              refine w_t (np := 1) (l2 := [some (eR a0), some (eI (0))]) (s2 := [eR a0]) rfl (s_an rfl (pos_g hI gA0 (by decide))) rfl ?_
              refine w_t (np := 2) (l2 := [some (eR a0), some (eI (0))]) (s2 := [eI (0), eR a0]) rfl rfl rfl ?_
              refine j_pf (np := 5) (w := 0) rfl rfl hI gA0 (by decide) (n := 69) rfl rfl (hO_i (lo := -2147483648) (hi := 2147483647) rfl (by decide)) ?_
              intro m16 I17 W18
              have F19 : Fr l_263 0 0 g μ m16 := F0.w W18 gA0 rfl
              refine w_t (np := 6) (l2 := [some (eR a0), some (eI (0))]) (s2 := [eR a0]) rfl (s_an rfl (pos_g I17 gA0 (by decide))) rfl ?_
              refine w_t (np := 7) (l2 := [some (eR a0), some (eI (0))]) (s2 := [eI (0), eR a0]) rfl rfl rfl ?_
              refine j_pf (np := 10) (w := 0) rfl rfl I17 gA0 (by decide) (n := 69) rfl rfl (hO_i (lo := -2147483648) (hi := 2147483647) rfl (by decide)) ?_
              intro m20 I21 W22
              have F23 : Fr l_263 0 0 g μ m20 := F19.w W22 gA0 rfl
              refine w_t (np := 11) (l2 := [some (eR a0), some (eI (0))]) (s2 := [eI (0)]) rfl rfl rfl ?_
              refine b_ine (t1 := 18) (t2 := 14) rfl rfl rfl rfl (fun g24 => absurd g24 (by decide)) (fun g24 => ?_)
              refine w_t (np := 15) (l2 := [some (eR a0), some (eI (0))]) (s2 := [eI (1)]) rfl rfl rfl ?_
              refine w_go (t1 := 19) rfl rfl ?_
              refine b_rz rfl rfl (Or.inr rfl) ?_
              show ex_q (dt_fg L ρ) rc (d + 2, (263, 39, [some (eR a0), some (eI (a1)), some (eI (a2)), some (eI (a3))], [eI (1)]), f :: F, m20)
              refine b_ieq (t1 := 60) (t2 := 42) rfl rfl rfl rfl (fun g25 => absurd g25 (by decide)) (fun g25 => ?_)
              refine w_t (np := 43) (l2 := [some (eR a0), some (eI (a1)), some (eI (a2)), some (eI (a3))]) (s2 := [eR a0]) rfl (s_an rfl (pos_g I21 gA0 (by decide))) rfl ?_
              refine j_gr (np := 46) rfl rfl I21 gA0 (by decide) (n := 69) rfl rfl rfl ?_
              intro v26 e27 b28 z29
              have b28 : g v26 = 54 := Nat.eq_of_beq_eq_true b28
              refine w_t (np := 48) (l2 := [some (eR a0), some (eI (a1)), some (eI (a2)), some (eI (a3))]) (s2 := [eI (12), eR v26]) rfl rfl rfl ?_
              refine w_t (np := 49) (l2 := [some (eR a0), some (eI (a1)), some (eI (a2)), some (eI (a3))]) (s2 := [eI (a1), eI (12), eR v26]) rfl rfl rfl ?_
              obtain ⟨v30, e31⟩ : ∃ zz : Int, zz = (12) * (a1) := ⟨_, rfl⟩
              have b32 : 0 ≤ v30 ∧ v30 ≤ 10668 := by omega
              refine w_t (np := 50) (l2 := [some (eR a0), some (eI (a1)), some (eI (a2)), some (eI (a3))]) (s2 := [eI (v30), eR v26]) rfl (b_imul (by rw [← e31]; exact ev_w_in (by omega) (by omega))) rfl ?_
              refine w_t (np := 51) (l2 := [some (eR a0), some (eI (a1)), some (eI (a2)), some (eI (a3))]) (s2 := [eI (4), eI (v30), eR v26]) rfl rfl rfl ?_
              refine w_t (np := 52) (l2 := [some (eR a0), some (eI (a1)), some (eI (a2)), some (eI (a3))]) (s2 := [eI (a2), eI (4), eI (v30), eR v26]) rfl rfl rfl ?_
              obtain ⟨v33, e34⟩ : ∃ zz : Int, zz = (4) * (a2) := ⟨_, rfl⟩
              have b35 : 0 ≤ v33 ∧ v33 ≤ 8 := by omega
              refine w_t (np := 53) (l2 := [some (eR a0), some (eI (a1)), some (eI (a2)), some (eI (a3))]) (s2 := [eI (v33), eI (v30), eR v26]) rfl (b_imul (by rw [← e34]; exact ev_w_in (by omega) (by omega))) rfl ?_
              obtain ⟨v36, e37⟩ : ∃ zz : Int, zz = (v30) + (v33) := ⟨_, rfl⟩
              have b38 : 0 ≤ v36 ∧ v36 ≤ 10676 := by omega
              refine w_t (np := 54) (l2 := [some (eR a0), some (eI (a1)), some (eI (a2)), some (eI (a3))]) (s2 := [eI (v36), eR v26]) rfl (b_iadd (by rw [← e37]; exact ev_w_in (by omega) (by omega))) rfl ?_
              refine w_t (np := 55) (l2 := [some (eR a0), some (eI (a1)), some (eI (a2)), some (eI (a3))]) (s2 := [eI (a3), eI (v36), eR v26]) rfl rfl rfl ?_
              obtain ⟨v39, e40⟩ : ∃ zz : Int, zz = (v36) + (a3) := ⟨_, rfl⟩
              have b41 : 0 ≤ v39 ∧ v39 ≤ 10679 := by omega
              refine w_t (np := 56) (l2 := [some (eR a0), some (eI (a1)), some (eI (a2)), some (eI (a3))]) (s2 := [eI (v39), eR v26]) rfl (b_iadd (by rw [← e40]; exact ev_w_in (by omega) (by omega))) rfl ?_
              refine j_al (np := 57) rfl rfl I21 b28 (by decide) (n := 10680) rfl rfl (lo := -2147483648) (hi := 2147483647) (fun _ => rfl) (by omega) (by omega) ?_
              intro v42 e43 b44
              refine w_go (t1 := 61) rfl rfl ?_
              exact b_ri rfl rfl (K m20 (v42) I21 F23 (by omega))
def l_264 : List Nat := [13313, 13314]
theorem s_264 {L : Nat} {ρ : Nat → Int} {rc : eQ} {d : Nat} {f : eFr} {F : List eFr} {μ : eM} {g : Nat → Nat} {a0 : Nat} {a1 : Int} (hI : SI g μ) (gA0 : g a0 = 52) (bA1 : -2147483648 ≤ a1 ∧ a1 ≤ 2147483647) (K : ∀ (μ2 : eM) (v : Int), SI g μ2 → Fr l_264 0 0 g μ μ2 → (-2147483648 ≤ v ∧ v ≤ 2147483647) → ex_q (dt_fg L ρ) rc (d + 2, (f.1, f.2.1, f.2.2.1, eI v :: f.2.2.2), F, μ2)) : ex_q (dt_fg L ρ) rc (d + 1, (264, 0, [some (eR a0), some (eI (a1)), none], []), f :: F, μ) := by
  have F0 : Fr l_264 0 0 g μ μ := Fr.r
  refine w_t (np := 1) (l2 := [some (eR a0), some (eI (a1)), none]) (s2 := [eR a0]) rfl (s_an rfl (pos_g hI gA0 (by decide))) rfl ?_
  refine w_t (np := 2) (l2 := [some (eR a0), some (eI (a1)), none]) (s2 := [eI (a1), eR a0]) rfl rfl rfl ?_
  refine b_ige (t1 := 9) (t2 := 5) rfl rfl rfl (ev_w_in (by omega) (by omega)) (fun g1 => ?_) (fun g1 => ?_)
  · have b2 : 0 ≤ a1 ∧ a1 ≤ 2147483647 := by omega
    refine w_t (np := 10) (l2 := [some (eR a0), some (eI (a1)), none]) (s2 := [eI (0), eR a0]) rfl rfl rfl ?_
    refine w_cw (np := 13) (as := [eI (0)]) (l2 := [some (eR a0), some (eI (0))]) (rest := []) rfl rfl rfl (Nat.ble_eq.mp rfl) rfl rfl rfl (hI.kd gA0 (by decide) (n := 69) rfl) rfl ?_
    refine w_t (np := 1) (l2 := [some (eR a0), some (eI (0))]) (s2 := [eR a0]) rfl (s_an rfl (pos_g hI gA0 (by decide))) rfl ?_
    refine w_t (np := 2) (l2 := [some (eR a0), some (eI (0))]) (s2 := [eI (0), eR a0]) rfl rfl rfl ?_
    refine j_pf (np := 5) (w := 0) rfl rfl hI gA0 (by decide) (n := 69) rfl rfl (hO_i (lo := -2147483648) (hi := 2147483647) rfl (by decide)) ?_
    intro m2 I3 W4
    have F5 : Fr l_264 0 0 g μ m2 := F0.w W4 gA0 rfl
    refine w_t (np := 6) (l2 := [some (eR a0), some (eI (0))]) (s2 := [eR a0]) rfl (s_an rfl (pos_g I3 gA0 (by decide))) rfl ?_
    refine w_t (np := 7) (l2 := [some (eR a0), some (eI (0))]) (s2 := [eI (0), eR a0]) rfl rfl rfl ?_
    refine j_pf (np := 10) (w := 0) rfl rfl I3 gA0 (by decide) (n := 69) rfl rfl (hO_i (lo := -2147483648) (hi := 2147483647) rfl (by decide)) ?_
    intro m6 I7 W8
    have F9 : Fr l_264 0 0 g μ m6 := F5.w W8 gA0 rfl
    refine w_t (np := 11) (l2 := [some (eR a0), some (eI (0))]) (s2 := [eI (0)]) rfl rfl rfl ?_
    refine b_ine (t1 := 18) (t2 := 14) rfl rfl rfl rfl (fun g10 => absurd g10 (by decide)) (fun g10 => ?_)
    refine w_t (np := 15) (l2 := [some (eR a0), some (eI (0))]) (s2 := [eI (1)]) rfl rfl rfl ?_
    refine w_go (t1 := 19) rfl rfl ?_
    refine b_rz rfl rfl (Or.inr rfl) ?_
    show ex_q (dt_fg L ρ) rc (d + 1, (264, 13, [some (eR a0), some (eI (a1)), none], [eI (1)]), f :: F, m6)
    refine b_ine (t1 := 18) (t2 := 16) rfl rfl rfl rfl (fun g11 => ?_) (fun g11 => absurd g11 (by decide))
    refine w_t (np := 19) (l2 := [some (eR a0), some (eI (a1)), none]) (s2 := [eI (0)]) rfl rfl rfl ?_
    refine w_t (np := 20) (l2 := [some (eR a0), some (eI (a1)), some (eI (0))]) (s2 := []) rfl rfl rfl ?_
    have hL20 : ∀ (n12 : Nat) (m16 : eM) (i14 : Int), SI g m16 → Fr l_264 0 0 g μ m16 → (0 ≤ i14 ∧ i14 ≤ 890) → m16.1 a0 1 = 0 → m16.1 a0 0 = 0 → n12 = (890 - i14).toNat → ex_q (dt_fg L ρ) rc (d + 1, (264, 20, [some (eR a0), some (eI (a1)), some (eI (i14))], []), f :: F, m16) := by
      intro n12
      induction n12 using Nat.strongRecOn with
      | _ n12 ih13 =>
      intro m16 i14 I17 F18 b15 k19 k20 hn21
      refine w_t (np := 21) (l2 := [some (eR a0), some (eI (a1)), some (eI (i14))]) (s2 := [eI (i14)]) rfl rfl rfl ?_
      refine w_t (np := 22) (l2 := [some (eR a0), some (eI (a1)), some (eI (i14))]) (s2 := [eR a0, eI (i14)]) rfl (s_an rfl (pos_g I17 gA0 (by decide))) rfl ?_
      refine j_gi (np := 25) rfl rfl rfl I17 gA0 (by decide) (n := 69) rfl rfl (lo := 0) (hi := 890) rfl ?_
      intro v22 e23 b24
      refine b_cge (t1 := 46) (t2 := 28) rfl rfl rfl (ev_w_in (by omega) (by omega)) (ev_w_in (by omega) (by omega)) (fun g25 => ?_) (fun g25 => ?_)
      · refine w_t (np := 47) (l2 := [some (eR a0), some (eI (a1)), some (eI (i14))]) (s2 := [eR a0]) rfl (s_an rfl (pos_g I17 gA0 (by decide))) rfl ?_
        refine w_t (np := 48) (l2 := [some (eR a0), some (eI (a1)), some (eI (i14))]) (s2 := [eI (5), eR a0]) rfl rfl rfl ?_
        refine w_cw (np := 51) (as := [eI (5)]) (l2 := [some (eR a0), some (eI (5))]) (rest := []) rfl rfl rfl (Nat.ble_eq.mp rfl) rfl rfl rfl (I17.kd gA0 (by decide) (n := 69) rfl) rfl ?_
        refine w_t (np := 1) (l2 := [some (eR a0), some (eI (5))]) (s2 := [eR a0]) rfl (s_an rfl (pos_g I17 gA0 (by decide))) rfl ?_
        refine w_t (np := 2) (l2 := [some (eR a0), some (eI (5))]) (s2 := [eI (5), eR a0]) rfl rfl rfl ?_
        refine j_pf (np := 5) (w := 5) rfl rfl I17 gA0 (by decide) (n := 69) rfl rfl (hO_i (lo := -2147483648) (hi := 2147483647) rfl (by decide)) ?_
        intro m26 I27 W28
        have F29 : Fr l_264 0 0 g μ m26 := F18.w W28 gA0 rfl
        refine w_t (np := 6) (l2 := [some (eR a0), some (eI (5))]) (s2 := [eI (-1)]) rfl rfl rfl ?_
        refine b_ri rfl rfl ?_
        show ex_q (dt_fg L ρ) rc (d + 1, (264, 51, [some (eR a0), some (eI (a1)), some (eI (i14))], [eI (-1)]), f :: F, m26)
        exact b_ri rfl rfl (K m26 (-1) I27 F29 (by decide))
      · have b26 : 0 ≤ i14 ∧ i14 ≤ 889 := by omega
        have b27 : 1 ≤ v22 ∧ v22 ≤ 890 := by omega
        refine w_t (np := 29) (l2 := [some (eR a0), some (eI (a1)), some (eI (i14))]) (s2 := [eR a0]) rfl (s_an rfl (pos_g I17 gA0 (by decide))) rfl ?_
        refine j_gr (np := 32) rfl rfl I17 gA0 (by decide) (n := 69) rfl rfl rfl ?_
        intro v26 e27 b28 z29
        have b28 : g v26 = 60 := Nat.eq_of_beq_eq_true b28
        refine w_t (np := 33) (l2 := [some (eR a0), some (eI (a1)), some (eI (i14))]) (s2 := [eI (i14), eR v26]) rfl rfl rfl ?_
        refine j_al (np := 34) rfl rfl I17 b28 (by decide) (n := 890) rfl rfl (lo := -2147483648) (hi := 2147483647) (fun _ => rfl) (by omega) (by omega) ?_
        intro v30 e31 b32
        refine w_t (np := 35) (l2 := [some (eR a0), some (eI (a1)), some (eI (i14))]) (s2 := [eI (a1), eI (v30)]) rfl rfl rfl ?_
        refine b_cne (t1 := 40) (t2 := 38) rfl rfl rfl (ev_w_in (by omega) (by omega)) (ev_w_in (by omega) (by omega)) (fun g33 => ?_) (fun g33 => ?_)
        · obtain ⟨v34, e35⟩ : ∃ zz : Int, zz = (i14) + (1) := ⟨_, rfl⟩
          have b36 : 1 ≤ v34 ∧ v34 ≤ 890 := by omega
          refine w_t (np := 43) (l2 := [some (eR a0), some (eI (a1)), some (eI (v34))]) (s2 := []) rfl (b_iinc rfl (by rw [← e35]; exact ev_w_in (by omega) (by omega)) rfl) rfl ?_
          refine w_go (t1 := 20) rfl rfl ?_
          exact ih13 (890 - (v34)).toNat (by omega) m16 (v34) I17 F18 (by omega) k19 k20    rfl
        · have b34 : 0 ≤ v30 ∧ v30 ≤ 2147483647 := by omega
          refine w_t (np := 39) (l2 := [some (eR a0), some (eI (a1)), some (eI (i14))]) (s2 := [eI (i14)]) rfl rfl rfl ?_
          exact b_ri rfl rfl (K m16 (i14) I17 F18 (by omega))
    exact hL20 _ m6 (0) I7 F9 (by decide) (W8.slot W4.at (by decide)) W8.at    rfl
  · have b2 : -2147483648 ≤ a1 ∧ a1 ≤ -1 := by omega
    refine w_t (np := 6) (l2 := [some (eR a0), some (eI (a1)), none]) (s2 := [eI (1), eR a0]) rfl rfl rfl ?_
    refine w_go (t1 := 10) rfl rfl ?_
    refine w_cw (np := 13) (as := [eI (1)]) (l2 := [some (eR a0), some (eI (1))]) (rest := []) rfl rfl rfl (Nat.ble_eq.mp rfl) rfl rfl rfl (hI.kd gA0 (by decide) (n := 69) rfl) rfl ?_
    refine w_t (np := 1) (l2 := [some (eR a0), some (eI (1))]) (s2 := [eR a0]) rfl (s_an rfl (pos_g hI gA0 (by decide))) rfl ?_
    refine w_t (np := 2) (l2 := [some (eR a0), some (eI (1))]) (s2 := [eI (0), eR a0]) rfl rfl rfl ?_
    refine j_pf (np := 5) (w := 0) rfl rfl hI gA0 (by decide) (n := 69) rfl rfl (hO_i (lo := -2147483648) (hi := 2147483647) rfl (by decide)) ?_
    intro m2 I3 W4
    have F5 : Fr l_264 0 0 g μ m2 := F0.w W4 gA0 rfl
    refine w_t (np := 6) (l2 := [some (eR a0), some (eI (1))]) (s2 := [eR a0]) rfl (s_an rfl (pos_g I3 gA0 (by decide))) rfl ?_
    refine w_t (np := 7) (l2 := [some (eR a0), some (eI (1))]) (s2 := [eI (1), eR a0]) rfl rfl rfl ?_
    refine j_pf (np := 10) (w := 1) rfl rfl I3 gA0 (by decide) (n := 69) rfl rfl (hO_i (lo := -2147483648) (hi := 2147483647) rfl (by decide)) ?_
    intro m6 I7 W8
    have F9 : Fr l_264 0 0 g μ m6 := F5.w W8 gA0 rfl
    refine w_t (np := 11) (l2 := [some (eR a0), some (eI (1))]) (s2 := [eI (1)]) rfl rfl rfl ?_
    refine b_ine (t1 := 18) (t2 := 14) rfl rfl rfl rfl (fun g10 => ?_) (fun g10 => absurd g10 (by decide))
    refine w_t (np := 19) (l2 := [some (eR a0), some (eI (1))]) (s2 := [eI (0)]) rfl rfl rfl ?_
    refine b_rz rfl rfl (Or.inl rfl) ?_
    show ex_q (dt_fg L ρ) rc (d + 1, (264, 13, [some (eR a0), some (eI (a1)), none], [eI (0)]), f :: F, m6)
    refine b_ine (t1 := 18) (t2 := 16) rfl rfl rfl rfl (fun g11 => absurd g11 (by decide)) (fun g11 => ?_)
    refine w_t (np := 17) (l2 := [some (eR a0), some (eI (a1)), none]) (s2 := [eI (-1)]) rfl rfl rfl ?_
    exact b_ri rfl rfl (K m6 (-1) I7 F9 (by decide))
def l_265 : List Nat := [13315, 13316, 13317, 13318]
theorem s_265 {L : Nat} {ρ : Nat → Int} {rc : eQ} {d : Nat} {f : eFr} {F : List eFr} {μ : eM} {g : Nat → Nat} {a0 : Nat} {a1 : Int} {a2 : Int} {a3 : Int} {a4 : Int} {a5 : Int} {a6 : Int} {a7 : Int} (hI : SI g μ) (gA0 : g a0 = 52) (bA1 : 0 ≤ a1 ∧ a1 ≤ 889) (bA2 : 0 ≤ a2 ∧ a2 ≤ 2) (bA3 : 0 ≤ a3 ∧ a3 ≤ 2) (bA4 : -2147483648 ≤ a4 ∧ a4 ≤ 2147483647) (bA5 : -2147483648 ≤ a5 ∧ a5 ≤ 2147483647) (bA6 : -2147483648 ≤ a6 ∧ a6 ≤ 2147483647) (bA7 : -2147483648 ≤ a7 ∧ a7 ≤ 2147483647) (K : ∀ (μ2 : eM) (v : Int), SI g μ2 → Fr l_265 0 0 g μ μ2 → (-1 ≤ v ∧ v ≤ 1) → ex_q (dt_fg L ρ) rc (d + 5, (f.1, f.2.1, f.2.2.1, eI v :: f.2.2.2), F, μ2)) : ex_q (dt_fg L ρ) rc (d + 4, (265, 0, [some (eR a0), some (eI (a1)), some (eI (a2)), some (eI (a3)), some (eI (a4)), some (eI (a5)), some (eI (a6)), some (eI (a7)), none, none], []), f :: F, μ) := by
  have F0 : Fr l_265 0 0 g μ μ := Fr.r
  refine w_t (np := 2) (l2 := [some (eR a0), some (eI (a1)), some (eI (a2)), some (eI (a3)), some (eI (a4)), some (eI (a5)), some (eI (a6)), some (eI (a7)), none, none]) (s2 := [eI (12)]) rfl rfl rfl ?_
  refine w_t (np := 3) (l2 := [some (eR a0), some (eI (a1)), some (eI (a2)), some (eI (a3)), some (eI (a4)), some (eI (a5)), some (eI (a6)), some (eI (a7)), none, none]) (s2 := [eI (a1), eI (12)]) rfl rfl rfl ?_
  obtain ⟨v1, e2⟩ : ∃ zz : Int, zz = (12) * (a1) := ⟨_, rfl⟩
  have b3 : 0 ≤ v1 ∧ v1 ≤ 10668 := by omega
  refine w_t (np := 4) (l2 := [some (eR a0), some (eI (a1)), some (eI (a2)), some (eI (a3)), some (eI (a4)), some (eI (a5)), some (eI (a6)), some (eI (a7)), none, none]) (s2 := [eI (v1)]) rfl (b_imul (by rw [← e2]; exact ev_w_in (by omega) (by omega))) rfl ?_
  refine w_t (np := 5) (l2 := [some (eR a0), some (eI (a1)), some (eI (a2)), some (eI (a3)), some (eI (a4)), some (eI (a5)), some (eI (a6)), some (eI (a7)), none, none]) (s2 := [eI (4), eI (v1)]) rfl rfl rfl ?_
  refine w_t (np := 6) (l2 := [some (eR a0), some (eI (a1)), some (eI (a2)), some (eI (a3)), some (eI (a4)), some (eI (a5)), some (eI (a6)), some (eI (a7)), none, none]) (s2 := [eI (a2), eI (4), eI (v1)]) rfl rfl rfl ?_
  obtain ⟨v4, e5⟩ : ∃ zz : Int, zz = (4) * (a2) := ⟨_, rfl⟩
  have b6 : 0 ≤ v4 ∧ v4 ≤ 8 := by omega
  refine w_t (np := 7) (l2 := [some (eR a0), some (eI (a1)), some (eI (a2)), some (eI (a3)), some (eI (a4)), some (eI (a5)), some (eI (a6)), some (eI (a7)), none, none]) (s2 := [eI (v4), eI (v1)]) rfl (b_imul (by rw [← e5]; exact ev_w_in (by omega) (by omega))) rfl ?_
  obtain ⟨v7, e8⟩ : ∃ zz : Int, zz = (v1) + (v4) := ⟨_, rfl⟩
  have b9 : 0 ≤ v7 ∧ v7 ≤ 10676 := by omega
  refine w_t (np := 8) (l2 := [some (eR a0), some (eI (a1)), some (eI (a2)), some (eI (a3)), some (eI (a4)), some (eI (a5)), some (eI (a6)), some (eI (a7)), none, none]) (s2 := [eI (v7)]) rfl (b_iadd (by rw [← e8]; exact ev_w_in (by omega) (by omega))) rfl ?_
  refine w_t (np := 10) (l2 := [some (eR a0), some (eI (a1)), some (eI (a2)), some (eI (a3)), some (eI (a4)), some (eI (a5)), some (eI (a6)), some (eI (a7)), some (eI (v7)), none]) (s2 := []) rfl rfl rfl ?_
  refine w_t (np := 12) (l2 := [some (eR a0), some (eI (a1)), some (eI (a2)), some (eI (a3)), some (eI (a4)), some (eI (a5)), some (eI (a6)), some (eI (a7)), some (eI (v7)), none]) (s2 := [eI (12)]) rfl rfl rfl ?_
  refine w_t (np := 13) (l2 := [some (eR a0), some (eI (a1)), some (eI (a2)), some (eI (a3)), some (eI (a4)), some (eI (a5)), some (eI (a6)), some (eI (a7)), some (eI (v7)), none]) (s2 := [eI (a1), eI (12)]) rfl rfl rfl ?_
  obtain ⟨v10, e11⟩ : ∃ zz : Int, zz = (12) * (a1) := ⟨_, rfl⟩
  have b12 : 0 ≤ v10 ∧ v10 ≤ 10668 := by omega
  refine w_t (np := 14) (l2 := [some (eR a0), some (eI (a1)), some (eI (a2)), some (eI (a3)), some (eI (a4)), some (eI (a5)), some (eI (a6)), some (eI (a7)), some (eI (v7)), none]) (s2 := [eI (v10)]) rfl (b_imul (by rw [← e11]; exact ev_w_in (by omega) (by omega))) rfl ?_
  refine w_t (np := 15) (l2 := [some (eR a0), some (eI (a1)), some (eI (a2)), some (eI (a3)), some (eI (a4)), some (eI (a5)), some (eI (a6)), some (eI (a7)), some (eI (v7)), none]) (s2 := [eI (4), eI (v10)]) rfl rfl rfl ?_
  refine w_t (np := 16) (l2 := [some (eR a0), some (eI (a1)), some (eI (a2)), some (eI (a3)), some (eI (a4)), some (eI (a5)), some (eI (a6)), some (eI (a7)), some (eI (v7)), none]) (s2 := [eI (a3), eI (4), eI (v10)]) rfl rfl rfl ?_
  obtain ⟨v13, e14⟩ : ∃ zz : Int, zz = (4) * (a3) := ⟨_, rfl⟩
  have b15 : 0 ≤ v13 ∧ v13 ≤ 8 := by omega
  refine w_t (np := 17) (l2 := [some (eR a0), some (eI (a1)), some (eI (a2)), some (eI (a3)), some (eI (a4)), some (eI (a5)), some (eI (a6)), some (eI (a7)), some (eI (v7)), none]) (s2 := [eI (v13), eI (v10)]) rfl (b_imul (by rw [← e14]; exact ev_w_in (by omega) (by omega))) rfl ?_
  obtain ⟨v16, e17⟩ : ∃ zz : Int, zz = (v10) + (v13) := ⟨_, rfl⟩
  have b18 : 0 ≤ v16 ∧ v16 ≤ 10676 := by omega
  refine w_t (np := 18) (l2 := [some (eR a0), some (eI (a1)), some (eI (a2)), some (eI (a3)), some (eI (a4)), some (eI (a5)), some (eI (a6)), some (eI (a7)), some (eI (v7)), none]) (s2 := [eI (v16)]) rfl (b_iadd (by rw [← e17]; exact ev_w_in (by omega) (by omega))) rfl ?_
  refine w_t (np := 20) (l2 := [some (eR a0), some (eI (a1)), some (eI (a2)), some (eI (a3)), some (eI (a4)), some (eI (a5)), some (eI (a6)), some (eI (a7)), some (eI (v7)), some (eI (v16))]) (s2 := []) rfl rfl rfl ?_
  refine w_t (np := 21) (l2 := [some (eR a0), some (eI (a1)), some (eI (a2)), some (eI (a3)), some (eI (a4)), some (eI (a5)), some (eI (a6)), some (eI (a7)), some (eI (v7)), some (eI (v16))]) (s2 := [eR a0]) rfl (s_an rfl (pos_g hI gA0 (by decide))) rfl ?_
  refine w_t (np := 22) (l2 := [some (eR a0), some (eI (a1)), some (eI (a2)), some (eI (a3)), some (eI (a4)), some (eI (a5)), some (eI (a6)), some (eI (a7)), some (eI (v7)), some (eI (v16))]) (s2 := [eR a0, eR a0]) rfl (s_an rfl (pos_g hI gA0 (by decide))) rfl ?_
  refine j_gr (np := 25) rfl rfl hI gA0 (by decide) (n := 69) rfl rfl rfl ?_
  intro v19 e20 b21 z22
  have b21 : g v19 = 54 := Nat.eq_of_beq_eq_true b21
  refine w_t (np := 27) (l2 := [some (eR a0), some (eI (a1)), some (eI (a2)), some (eI (a3)), some (eI (a4)), some (eI (a5)), some (eI (a6)), some (eI (a7)), some (eI (v7)), some (eI (v16))]) (s2 := [eI (v16), eR v19, eR a0]) rfl rfl rfl ?_
  refine j_al (np := 28) rfl rfl hI b21 (by decide) (n := 10680) rfl rfl (lo := -2147483648) (hi := 2147483647) (fun _ => rfl) (by omega) (by omega) ?_
  intro v23 e24 b25
  refine w_t (np := 29) (l2 := [some (eR a0), some (eI (a1)), some (eI (a2)), some (eI (a3)), some (eI (a4)), some (eI (a5)), some (eI (a6)), some (eI (a7)), some (eI (v7)), some (eI (v16))]) (s2 := [eR a0, eI (v23), eR a0]) rfl (s_an rfl (pos_g hI gA0 (by decide))) rfl ?_
  refine w_gf (np := 32) (v := eR v19) rfl rfl (hI.kd gA0 (by decide) (n := 69) rfl) (by rw [e20]; rfl) ?_
  refine w_t (np := 34) (l2 := [some (eR a0), some (eI (a1)), some (eI (a2)), some (eI (a3)), some (eI (a4)), some (eI (a5)), some (eI (a6)), some (eI (a7)), some (eI (v7)), some (eI (v16))]) (s2 := [eI (v7), eR v19, eI (v23), eR a0]) rfl rfl rfl ?_
  refine j_al (np := 35) rfl rfl hI b21 (by decide) (n := 10680) rfl rfl (lo := -2147483648) (hi := 2147483647) (fun _ => rfl) (by omega) (by omega) ?_
  intro v26 e27 b28
  obtain ⟨v29, e30, b31⟩ : ∃ zz : Int, ev_w ((v23) - (v26)) = zz ∧ (-2147483648 ≤ zz ∧ zz ≤ 2147483647) := ⟨_, rfl, hw_bd _⟩
  refine w_t (np := 36) (l2 := [some (eR a0), some (eI (a1)), some (eI (a2)), some (eI (a3)), some (eI (a4)), some (eI (a5)), some (eI (a6)), some (eI (a7)), some (eI (v7)), some (eI (v16))]) (s2 := [eI (v29), eR a0]) rfl (b_isub e30) rfl ?_
  refine w_t (np := 37) (l2 := [some (eR a0), some (eI (a1)), some (eI (a2)), some (eI (a3)), some (eI (a4)), some (eI (a5)), some (eI (a6)), some (eI (a7)), some (eI (v7)), some (eI (v16))]) (s2 := [eJ (v29), eR a0]) rfl (b_i2l (ev_w_in (by omega) (by omega))) rfl ?_
  refine w_t (np := 38) (l2 := [some (eR a0), some (eI (a1)), some (eI (a2)), some (eI (a3)), some (eI (a4)), some (eI (a5)), some (eI (a6)), some (eI (a7)), some (eI (v7)), some (eI (v16))]) (s2 := [eR a0, eJ (v29), eR a0]) rfl (s_an rfl (pos_g hI gA0 (by decide))) rfl ?_
  refine w_gf (np := 41) (v := eR v19) rfl rfl (hI.kd gA0 (by decide) (n := 69) rfl) (by rw [e20]; rfl) ?_
  refine w_t (np := 43) (l2 := [some (eR a0), some (eI (a1)), some (eI (a2)), some (eI (a3)), some (eI (a4)), some (eI (a5)), some (eI (a6)), some (eI (a7)), some (eI (v7)), some (eI (v16))]) (s2 := [eI (v16), eR v19, eJ (v29), eR a0]) rfl rfl rfl ?_
  refine w_t (np := 44) (l2 := [some (eR a0), some (eI (a1)), some (eI (a2)), some (eI (a3)), some (eI (a4)), some (eI (a5)), some (eI (a6)), some (eI (a7)), some (eI (v7)), some (eI (v16))]) (s2 := [eI (1), eI (v16), eR v19, eJ (v29), eR a0]) rfl rfl rfl ?_
  obtain ⟨v32, e33⟩ : ∃ zz : Int, zz = (v16) + (1) := ⟨_, rfl⟩
  have b34 : 1 ≤ v32 ∧ v32 ≤ 10677 := by omega
  refine w_t (np := 45) (l2 := [some (eR a0), some (eI (a1)), some (eI (a2)), some (eI (a3)), some (eI (a4)), some (eI (a5)), some (eI (a6)), some (eI (a7)), some (eI (v7)), some (eI (v16))]) (s2 := [eI (v32), eR v19, eJ (v29), eR a0]) rfl (b_iadd (by rw [← e33]; exact ev_w_in (by omega) (by omega))) rfl ?_
  refine j_al (np := 46) rfl rfl hI b21 (by decide) (n := 10680) rfl rfl (lo := -2147483648) (hi := 2147483647) (fun _ => rfl) (by omega) (by omega) ?_
  intro v35 e36 b37
  refine w_t (np := 47) (l2 := [some (eR a0), some (eI (a1)), some (eI (a2)), some (eI (a3)), some (eI (a4)), some (eI (a5)), some (eI (a6)), some (eI (a7)), some (eI (v7)), some (eI (v16))]) (s2 := [eR a0, eI (v35), eJ (v29), eR a0]) rfl (s_an rfl (pos_g hI gA0 (by decide))) rfl ?_
  refine w_gf (np := 50) (v := eR v19) rfl rfl (hI.kd gA0 (by decide) (n := 69) rfl) (by rw [e20]; rfl) ?_
  refine w_t (np := 52) (l2 := [some (eR a0), some (eI (a1)), some (eI (a2)), some (eI (a3)), some (eI (a4)), some (eI (a5)), some (eI (a6)), some (eI (a7)), some (eI (v7)), some (eI (v16))]) (s2 := [eI (v7), eR v19, eI (v35), eJ (v29), eR a0]) rfl rfl rfl ?_
  refine w_t (np := 53) (l2 := [some (eR a0), some (eI (a1)), some (eI (a2)), some (eI (a3)), some (eI (a4)), some (eI (a5)), some (eI (a6)), some (eI (a7)), some (eI (v7)), some (eI (v16))]) (s2 := [eI (1), eI (v7), eR v19, eI (v35), eJ (v29), eR a0]) rfl rfl rfl ?_
  obtain ⟨v38, e39⟩ : ∃ zz : Int, zz = (v7) + (1) := ⟨_, rfl⟩
  have b40 : 1 ≤ v38 ∧ v38 ≤ 10677 := by omega
  refine w_t (np := 54) (l2 := [some (eR a0), some (eI (a1)), some (eI (a2)), some (eI (a3)), some (eI (a4)), some (eI (a5)), some (eI (a6)), some (eI (a7)), some (eI (v7)), some (eI (v16))]) (s2 := [eI (v38), eR v19, eI (v35), eJ (v29), eR a0]) rfl (b_iadd (by rw [← e39]; exact ev_w_in (by omega) (by omega))) rfl ?_
  refine j_al (np := 55) rfl rfl hI b21 (by decide) (n := 10680) rfl rfl (lo := -2147483648) (hi := 2147483647) (fun _ => rfl) (by omega) (by omega) ?_
  intro v41 e42 b43
  obtain ⟨v44, e45, b46⟩ : ∃ zz : Int, ev_w ((v35) - (v41)) = zz ∧ (-2147483648 ≤ zz ∧ zz ≤ 2147483647) := ⟨_, rfl, hw_bd _⟩
  refine w_t (np := 56) (l2 := [some (eR a0), some (eI (a1)), some (eI (a2)), some (eI (a3)), some (eI (a4)), some (eI (a5)), some (eI (a6)), some (eI (a7)), some (eI (v7)), some (eI (v16))]) (s2 := [eI (v44), eJ (v29), eR a0]) rfl (b_isub e45) rfl ?_
  refine w_t (np := 57) (l2 := [some (eR a0), some (eI (a1)), some (eI (a2)), some (eI (a3)), some (eI (a4)), some (eI (a5)), some (eI (a6)), some (eI (a7)), some (eI (v7)), some (eI (v16))]) (s2 := [eJ (v44), eJ (v29), eR a0]) rfl (b_i2l (ev_w_in (by omega) (by omega))) rfl ?_
  refine w_t (np := 58) (l2 := [some (eR a0), some (eI (a1)), some (eI (a2)), some (eI (a3)), some (eI (a4)), some (eI (a5)), some (eI (a6)), some (eI (a7)), some (eI (v7)), some (eI (v16))]) (s2 := [eR a0, eJ (v44), eJ (v29), eR a0]) rfl (s_an rfl (pos_g hI gA0 (by decide))) rfl ?_
  refine w_gf (np := 61) (v := eR v19) rfl rfl (hI.kd gA0 (by decide) (n := 69) rfl) (by rw [e20]; rfl) ?_
  refine w_t (np := 63) (l2 := [some (eR a0), some (eI (a1)), some (eI (a2)), some (eI (a3)), some (eI (a4)), some (eI (a5)), some (eI (a6)), some (eI (a7)), some (eI (v7)), some (eI (v16))]) (s2 := [eI (v16), eR v19, eJ (v44), eJ (v29), eR a0]) rfl rfl rfl ?_
  refine w_t (np := 64) (l2 := [some (eR a0), some (eI (a1)), some (eI (a2)), some (eI (a3)), some (eI (a4)), some (eI (a5)), some (eI (a6)), some (eI (a7)), some (eI (v7)), some (eI (v16))]) (s2 := [eI (2), eI (v16), eR v19, eJ (v44), eJ (v29), eR a0]) rfl rfl rfl ?_
  obtain ⟨v47, e48⟩ : ∃ zz : Int, zz = (v16) + (2) := ⟨_, rfl⟩
  have b49 : 2 ≤ v47 ∧ v47 ≤ 10678 := by omega
  refine w_t (np := 65) (l2 := [some (eR a0), some (eI (a1)), some (eI (a2)), some (eI (a3)), some (eI (a4)), some (eI (a5)), some (eI (a6)), some (eI (a7)), some (eI (v7)), some (eI (v16))]) (s2 := [eI (v47), eR v19, eJ (v44), eJ (v29), eR a0]) rfl (b_iadd (by rw [← e48]; exact ev_w_in (by omega) (by omega))) rfl ?_
  refine j_al (np := 66) rfl rfl hI b21 (by decide) (n := 10680) rfl rfl (lo := -2147483648) (hi := 2147483647) (fun _ => rfl) (by omega) (by omega) ?_
  intro v50 e51 b52
  refine w_t (np := 67) (l2 := [some (eR a0), some (eI (a1)), some (eI (a2)), some (eI (a3)), some (eI (a4)), some (eI (a5)), some (eI (a6)), some (eI (a7)), some (eI (v7)), some (eI (v16))]) (s2 := [eR a0, eI (v50), eJ (v44), eJ (v29), eR a0]) rfl (s_an rfl (pos_g hI gA0 (by decide))) rfl ?_
  refine w_gf (np := 70) (v := eR v19) rfl rfl (hI.kd gA0 (by decide) (n := 69) rfl) (by rw [e20]; rfl) ?_
  refine w_t (np := 72) (l2 := [some (eR a0), some (eI (a1)), some (eI (a2)), some (eI (a3)), some (eI (a4)), some (eI (a5)), some (eI (a6)), some (eI (a7)), some (eI (v7)), some (eI (v16))]) (s2 := [eI (v7), eR v19, eI (v50), eJ (v44), eJ (v29), eR a0]) rfl rfl rfl ?_
  refine w_t (np := 73) (l2 := [some (eR a0), some (eI (a1)), some (eI (a2)), some (eI (a3)), some (eI (a4)), some (eI (a5)), some (eI (a6)), some (eI (a7)), some (eI (v7)), some (eI (v16))]) (s2 := [eI (2), eI (v7), eR v19, eI (v50), eJ (v44), eJ (v29), eR a0]) rfl rfl rfl ?_
  obtain ⟨v53, e54⟩ : ∃ zz : Int, zz = (v7) + (2) := ⟨_, rfl⟩
  have b55 : 2 ≤ v53 ∧ v53 ≤ 10678 := by omega
  refine w_t (np := 74) (l2 := [some (eR a0), some (eI (a1)), some (eI (a2)), some (eI (a3)), some (eI (a4)), some (eI (a5)), some (eI (a6)), some (eI (a7)), some (eI (v7)), some (eI (v16))]) (s2 := [eI (v53), eR v19, eI (v50), eJ (v44), eJ (v29), eR a0]) rfl (b_iadd (by rw [← e54]; exact ev_w_in (by omega) (by omega))) rfl ?_
  refine j_al (np := 75) rfl rfl hI b21 (by decide) (n := 10680) rfl rfl (lo := -2147483648) (hi := 2147483647) (fun _ => rfl) (by omega) (by omega) ?_
  intro v56 e57 b58
  obtain ⟨v59, e60, b61⟩ : ∃ zz : Int, ev_w ((v50) - (v56)) = zz ∧ (-2147483648 ≤ zz ∧ zz ≤ 2147483647) := ⟨_, rfl, hw_bd _⟩
  refine w_t (np := 76) (l2 := [some (eR a0), some (eI (a1)), some (eI (a2)), some (eI (a3)), some (eI (a4)), some (eI (a5)), some (eI (a6)), some (eI (a7)), some (eI (v7)), some (eI (v16))]) (s2 := [eI (v59), eJ (v44), eJ (v29), eR a0]) rfl (b_isub e60) rfl ?_
  refine w_t (np := 77) (l2 := [some (eR a0), some (eI (a1)), some (eI (a2)), some (eI (a3)), some (eI (a4)), some (eI (a5)), some (eI (a6)), some (eI (a7)), some (eI (v7)), some (eI (v16))]) (s2 := [eJ (v59), eJ (v44), eJ (v29), eR a0]) rfl (b_i2l (ev_w_in (by omega) (by omega))) rfl ?_
  refine w_t (np := 78) (l2 := [some (eR a0), some (eI (a1)), some (eI (a2)), some (eI (a3)), some (eI (a4)), some (eI (a5)), some (eI (a6)), some (eI (a7)), some (eI (v7)), some (eI (v16))]) (s2 := [eR a0, eJ (v59), eJ (v44), eJ (v29), eR a0]) rfl (s_an rfl (pos_g hI gA0 (by decide))) rfl ?_
  refine w_gf (np := 81) (v := eR v19) rfl rfl (hI.kd gA0 (by decide) (n := 69) rfl) (by rw [e20]; rfl) ?_
  refine w_t (np := 83) (l2 := [some (eR a0), some (eI (a1)), some (eI (a2)), some (eI (a3)), some (eI (a4)), some (eI (a5)), some (eI (a6)), some (eI (a7)), some (eI (v7)), some (eI (v16))]) (s2 := [eI (v16), eR v19, eJ (v59), eJ (v44), eJ (v29), eR a0]) rfl rfl rfl ?_
  refine w_t (np := 84) (l2 := [some (eR a0), some (eI (a1)), some (eI (a2)), some (eI (a3)), some (eI (a4)), some (eI (a5)), some (eI (a6)), some (eI (a7)), some (eI (v7)), some (eI (v16))]) (s2 := [eI (3), eI (v16), eR v19, eJ (v59), eJ (v44), eJ (v29), eR a0]) rfl rfl rfl ?_
  obtain ⟨v62, e63⟩ : ∃ zz : Int, zz = (v16) + (3) := ⟨_, rfl⟩
  have b64 : 3 ≤ v62 ∧ v62 ≤ 10679 := by omega
  refine w_t (np := 85) (l2 := [some (eR a0), some (eI (a1)), some (eI (a2)), some (eI (a3)), some (eI (a4)), some (eI (a5)), some (eI (a6)), some (eI (a7)), some (eI (v7)), some (eI (v16))]) (s2 := [eI (v62), eR v19, eJ (v59), eJ (v44), eJ (v29), eR a0]) rfl (b_iadd (by rw [← e63]; exact ev_w_in (by omega) (by omega))) rfl ?_
  refine j_al (np := 86) rfl rfl hI b21 (by decide) (n := 10680) rfl rfl (lo := -2147483648) (hi := 2147483647) (fun _ => rfl) (by omega) (by omega) ?_
  intro v65 e66 b67
  refine w_t (np := 87) (l2 := [some (eR a0), some (eI (a1)), some (eI (a2)), some (eI (a3)), some (eI (a4)), some (eI (a5)), some (eI (a6)), some (eI (a7)), some (eI (v7)), some (eI (v16))]) (s2 := [eR a0, eI (v65), eJ (v59), eJ (v44), eJ (v29), eR a0]) rfl (s_an rfl (pos_g hI gA0 (by decide))) rfl ?_
  refine w_gf (np := 90) (v := eR v19) rfl rfl (hI.kd gA0 (by decide) (n := 69) rfl) (by rw [e20]; rfl) ?_
  refine w_t (np := 92) (l2 := [some (eR a0), some (eI (a1)), some (eI (a2)), some (eI (a3)), some (eI (a4)), some (eI (a5)), some (eI (a6)), some (eI (a7)), some (eI (v7)), some (eI (v16))]) (s2 := [eI (v7), eR v19, eI (v65), eJ (v59), eJ (v44), eJ (v29), eR a0]) rfl rfl rfl ?_
  refine w_t (np := 93) (l2 := [some (eR a0), some (eI (a1)), some (eI (a2)), some (eI (a3)), some (eI (a4)), some (eI (a5)), some (eI (a6)), some (eI (a7)), some (eI (v7)), some (eI (v16))]) (s2 := [eI (3), eI (v7), eR v19, eI (v65), eJ (v59), eJ (v44), eJ (v29), eR a0]) rfl rfl rfl ?_
  obtain ⟨v68, e69⟩ : ∃ zz : Int, zz = (v7) + (3) := ⟨_, rfl⟩
  have b70 : 3 ≤ v68 ∧ v68 ≤ 10679 := by omega
  refine w_t (np := 94) (l2 := [some (eR a0), some (eI (a1)), some (eI (a2)), some (eI (a3)), some (eI (a4)), some (eI (a5)), some (eI (a6)), some (eI (a7)), some (eI (v7)), some (eI (v16))]) (s2 := [eI (v68), eR v19, eI (v65), eJ (v59), eJ (v44), eJ (v29), eR a0]) rfl (b_iadd (by rw [← e69]; exact ev_w_in (by omega) (by omega))) rfl ?_
  refine j_al (np := 95) rfl rfl hI b21 (by decide) (n := 10680) rfl rfl (lo := -2147483648) (hi := 2147483647) (fun _ => rfl) (by omega) (by omega) ?_
  intro v71 e72 b73
  obtain ⟨v74, e75, b76⟩ : ∃ zz : Int, ev_w ((v65) - (v71)) = zz ∧ (-2147483648 ≤ zz ∧ zz ≤ 2147483647) := ⟨_, rfl, hw_bd _⟩
  refine w_t (np := 96) (l2 := [some (eR a0), some (eI (a1)), some (eI (a2)), some (eI (a3)), some (eI (a4)), some (eI (a5)), some (eI (a6)), some (eI (a7)), some (eI (v7)), some (eI (v16))]) (s2 := [eI (v74), eJ (v59), eJ (v44), eJ (v29), eR a0]) rfl (b_isub e75) rfl ?_
  refine w_t (np := 97) (l2 := [some (eR a0), some (eI (a1)), some (eI (a2)), some (eI (a3)), some (eI (a4)), some (eI (a5)), some (eI (a6)), some (eI (a7)), some (eI (v7)), some (eI (v16))]) (s2 := [eJ (v74), eJ (v59), eJ (v44), eJ (v29), eR a0]) rfl (b_i2l (ev_w_in (by omega) (by omega))) rfl ?_
  refine w_t (np := 99) (l2 := [some (eR a0), some (eI (a1)), some (eI (a2)), some (eI (a3)), some (eI (a4)), some (eI (a5)), some (eI (a6)), some (eI (a7)), some (eI (v7)), some (eI (v16))]) (s2 := [eI (a4), eJ (v74), eJ (v59), eJ (v44), eJ (v29), eR a0]) rfl rfl rfl ?_
  refine w_t (np := 100) (l2 := [some (eR a0), some (eI (a1)), some (eI (a2)), some (eI (a3)), some (eI (a4)), some (eI (a5)), some (eI (a6)), some (eI (a7)), some (eI (v7)), some (eI (v16))]) (s2 := [eJ (a4), eJ (v74), eJ (v59), eJ (v44), eJ (v29), eR a0]) rfl (b_i2l (ev_w_in (by omega) (by omega))) rfl ?_
  refine w_t (np := 101) (l2 := [some (eR a0), some (eI (a1)), some (eI (a2)), some (eI (a3)), some (eI (a4)), some (eI (a5)), some (eI (a6)), some (eI (a7)), some (eI (v7)), some (eI (v16))]) (s2 := [eR a0, eJ (a4), eJ (v74), eJ (v59), eJ (v44), eJ (v29), eR a0]) rfl (s_an rfl (pos_g hI gA0 (by decide))) rfl ?_
  refine w_gf (np := 104) (v := eR v19) rfl rfl (hI.kd gA0 (by decide) (n := 69) rfl) (by rw [e20]; rfl) ?_
  refine w_t (np := 106) (l2 := [some (eR a0), some (eI (a1)), some (eI (a2)), some (eI (a3)), some (eI (a4)), some (eI (a5)), some (eI (a6)), some (eI (a7)), some (eI (v7)), some (eI (v16))]) (s2 := [eI (v7), eR v19, eJ (a4), eJ (v74), eJ (v59), eJ (v44), eJ (v29), eR a0]) rfl rfl rfl ?_
  refine j_al (np := 107) rfl rfl hI b21 (by decide) (n := 10680) rfl rfl (lo := -2147483648) (hi := 2147483647) (fun _ => rfl) (by omega) (by omega) ?_
  intro v77 e78 b79
  have e78 := e78.symm.trans e27
  rw [e78]
  refine w_t (np := 108) (l2 := [some (eR a0), some (eI (a1)), some (eI (a2)), some (eI (a3)), some (eI (a4)), some (eI (a5)), some (eI (a6)), some (eI (a7)), some (eI (v7)), some (eI (v16))]) (s2 := [eJ (v26), eJ (a4), eJ (v74), eJ (v59), eJ (v44), eJ (v29), eR a0]) rfl (b_i2l (ev_w_in (by omega) (by omega))) rfl ?_
  obtain ⟨v80, e81⟩ : ∃ zz : Int, zz = (a4) - (v26) := ⟨_, rfl⟩
  have b82 : -4294967295 ≤ v80 ∧ v80 ≤ 4294967295 := by omega
  refine w_t (np := 109) (l2 := [some (eR a0), some (eI (a1)), some (eI (a2)), some (eI (a3)), some (eI (a4)), some (eI (a5)), some (eI (a6)), some (eI (a7)), some (eI (v7)), some (eI (v16))]) (s2 := [eJ (v80), eJ (v74), eJ (v59), eJ (v44), eJ (v29), eR a0]) rfl (b_lsub (by rw [← e81]; exact ev_W_in (by omega) (by omega))) rfl ?_
  refine w_t (np := 111) (l2 := [some (eR a0), some (eI (a1)), some (eI (a2)), some (eI (a3)), some (eI (a4)), some (eI (a5)), some (eI (a6)), some (eI (a7)), some (eI (v7)), some (eI (v16))]) (s2 := [eI (a5), eJ (v80), eJ (v74), eJ (v59), eJ (v44), eJ (v29), eR a0]) rfl rfl rfl ?_
  refine w_t (np := 112) (l2 := [some (eR a0), some (eI (a1)), some (eI (a2)), some (eI (a3)), some (eI (a4)), some (eI (a5)), some (eI (a6)), some (eI (a7)), some (eI (v7)), some (eI (v16))]) (s2 := [eJ (a5), eJ (v80), eJ (v74), eJ (v59), eJ (v44), eJ (v29), eR a0]) rfl (b_i2l (ev_w_in (by omega) (by omega))) rfl ?_
  refine w_t (np := 113) (l2 := [some (eR a0), some (eI (a1)), some (eI (a2)), some (eI (a3)), some (eI (a4)), some (eI (a5)), some (eI (a6)), some (eI (a7)), some (eI (v7)), some (eI (v16))]) (s2 := [eR a0, eJ (a5), eJ (v80), eJ (v74), eJ (v59), eJ (v44), eJ (v29), eR a0]) rfl (s_an rfl (pos_g hI gA0 (by decide))) rfl ?_
  refine w_gf (np := 116) (v := eR v19) rfl rfl (hI.kd gA0 (by decide) (n := 69) rfl) (by rw [e20]; rfl) ?_
  refine w_t (np := 118) (l2 := [some (eR a0), some (eI (a1)), some (eI (a2)), some (eI (a3)), some (eI (a4)), some (eI (a5)), some (eI (a6)), some (eI (a7)), some (eI (v7)), some (eI (v16))]) (s2 := [eI (v7), eR v19, eJ (a5), eJ (v80), eJ (v74), eJ (v59), eJ (v44), eJ (v29), eR a0]) rfl rfl rfl ?_
  refine w_t (np := 119) (l2 := [some (eR a0), some (eI (a1)), some (eI (a2)), some (eI (a3)), some (eI (a4)), some (eI (a5)), some (eI (a6)), some (eI (a7)), some (eI (v7)), some (eI (v16))]) (s2 := [eI (1), eI (v7), eR v19, eJ (a5), eJ (v80), eJ (v74), eJ (v59), eJ (v44), eJ (v29), eR a0]) rfl rfl rfl ?_
  obtain ⟨v83, e84⟩ : ∃ zz : Int, zz = (v7) + (1) := ⟨_, rfl⟩
  have b85 : 1 ≤ v83 ∧ v83 ≤ 10677 := by omega
  refine w_t (np := 120) (l2 := [some (eR a0), some (eI (a1)), some (eI (a2)), some (eI (a3)), some (eI (a4)), some (eI (a5)), some (eI (a6)), some (eI (a7)), some (eI (v7)), some (eI (v16))]) (s2 := [eI (v83), eR v19, eJ (a5), eJ (v80), eJ (v74), eJ (v59), eJ (v44), eJ (v29), eR a0]) rfl (b_iadd (by rw [← e84]; exact ev_w_in (by omega) (by omega))) rfl ?_
  refine j_al (np := 121) rfl rfl hI b21 (by decide) (n := 10680) rfl rfl (lo := -2147483648) (hi := 2147483647) (fun _ => rfl) (by omega) (by omega) ?_
  intro v86 e87 b88
  refine w_t (np := 122) (l2 := [some (eR a0), some (eI (a1)), some (eI (a2)), some (eI (a3)), some (eI (a4)), some (eI (a5)), some (eI (a6)), some (eI (a7)), some (eI (v7)), some (eI (v16))]) (s2 := [eJ (v86), eJ (a5), eJ (v80), eJ (v74), eJ (v59), eJ (v44), eJ (v29), eR a0]) rfl (b_i2l (ev_w_in (by omega) (by omega))) rfl ?_
  obtain ⟨v89, e90⟩ : ∃ zz : Int, zz = (a5) - (v86) := ⟨_, rfl⟩
  have b91 : -4294967295 ≤ v89 ∧ v89 ≤ 4294967295 := by omega
  refine w_t (np := 123) (l2 := [some (eR a0), some (eI (a1)), some (eI (a2)), some (eI (a3)), some (eI (a4)), some (eI (a5)), some (eI (a6)), some (eI (a7)), some (eI (v7)), some (eI (v16))]) (s2 := [eJ (v89), eJ (v80), eJ (v74), eJ (v59), eJ (v44), eJ (v29), eR a0]) rfl (b_lsub (by rw [← e90]; exact ev_W_in (by omega) (by omega))) rfl ?_
  refine w_t (np := 125) (l2 := [some (eR a0), some (eI (a1)), some (eI (a2)), some (eI (a3)), some (eI (a4)), some (eI (a5)), some (eI (a6)), some (eI (a7)), some (eI (v7)), some (eI (v16))]) (s2 := [eI (a6), eJ (v89), eJ (v80), eJ (v74), eJ (v59), eJ (v44), eJ (v29), eR a0]) rfl rfl rfl ?_
  refine w_t (np := 126) (l2 := [some (eR a0), some (eI (a1)), some (eI (a2)), some (eI (a3)), some (eI (a4)), some (eI (a5)), some (eI (a6)), some (eI (a7)), some (eI (v7)), some (eI (v16))]) (s2 := [eJ (a6), eJ (v89), eJ (v80), eJ (v74), eJ (v59), eJ (v44), eJ (v29), eR a0]) rfl (b_i2l (ev_w_in (by omega) (by omega))) rfl ?_
  refine w_t (np := 127) (l2 := [some (eR a0), some (eI (a1)), some (eI (a2)), some (eI (a3)), some (eI (a4)), some (eI (a5)), some (eI (a6)), some (eI (a7)), some (eI (v7)), some (eI (v16))]) (s2 := [eR a0, eJ (a6), eJ (v89), eJ (v80), eJ (v74), eJ (v59), eJ (v44), eJ (v29), eR a0]) rfl (s_an rfl (pos_g hI gA0 (by decide))) rfl ?_
  refine w_gf (np := 130) (v := eR v19) rfl rfl (hI.kd gA0 (by decide) (n := 69) rfl) (by rw [e20]; rfl) ?_
  refine w_t (np := 132) (l2 := [some (eR a0), some (eI (a1)), some (eI (a2)), some (eI (a3)), some (eI (a4)), some (eI (a5)), some (eI (a6)), some (eI (a7)), some (eI (v7)), some (eI (v16))]) (s2 := [eI (v7), eR v19, eJ (a6), eJ (v89), eJ (v80), eJ (v74), eJ (v59), eJ (v44), eJ (v29), eR a0]) rfl rfl rfl ?_
  refine w_t (np := 133) (l2 := [some (eR a0), some (eI (a1)), some (eI (a2)), some (eI (a3)), some (eI (a4)), some (eI (a5)), some (eI (a6)), some (eI (a7)), some (eI (v7)), some (eI (v16))]) (s2 := [eI (2), eI (v7), eR v19, eJ (a6), eJ (v89), eJ (v80), eJ (v74), eJ (v59), eJ (v44), eJ (v29), eR a0]) rfl rfl rfl ?_
  obtain ⟨v92, e93⟩ : ∃ zz : Int, zz = (v7) + (2) := ⟨_, rfl⟩
  have b94 : 2 ≤ v92 ∧ v92 ≤ 10678 := by omega
  refine w_t (np := 134) (l2 := [some (eR a0), some (eI (a1)), some (eI (a2)), some (eI (a3)), some (eI (a4)), some (eI (a5)), some (eI (a6)), some (eI (a7)), some (eI (v7)), some (eI (v16))]) (s2 := [eI (v92), eR v19, eJ (a6), eJ (v89), eJ (v80), eJ (v74), eJ (v59), eJ (v44), eJ (v29), eR a0]) rfl (b_iadd (by rw [← e93]; exact ev_w_in (by omega) (by omega))) rfl ?_
  refine j_al (np := 135) rfl rfl hI b21 (by decide) (n := 10680) rfl rfl (lo := -2147483648) (hi := 2147483647) (fun _ => rfl) (by omega) (by omega) ?_
  intro v95 e96 b97
  refine w_t (np := 136) (l2 := [some (eR a0), some (eI (a1)), some (eI (a2)), some (eI (a3)), some (eI (a4)), some (eI (a5)), some (eI (a6)), some (eI (a7)), some (eI (v7)), some (eI (v16))]) (s2 := [eJ (v95), eJ (a6), eJ (v89), eJ (v80), eJ (v74), eJ (v59), eJ (v44), eJ (v29), eR a0]) rfl (b_i2l (ev_w_in (by omega) (by omega))) rfl ?_
  obtain ⟨v98, e99⟩ : ∃ zz : Int, zz = (a6) - (v95) := ⟨_, rfl⟩
  have b100 : -4294967295 ≤ v98 ∧ v98 ≤ 4294967295 := by omega
  refine w_t (np := 137) (l2 := [some (eR a0), some (eI (a1)), some (eI (a2)), some (eI (a3)), some (eI (a4)), some (eI (a5)), some (eI (a6)), some (eI (a7)), some (eI (v7)), some (eI (v16))]) (s2 := [eJ (v98), eJ (v89), eJ (v80), eJ (v74), eJ (v59), eJ (v44), eJ (v29), eR a0]) rfl (b_lsub (by rw [← e99]; exact ev_W_in (by omega) (by omega))) rfl ?_
  refine w_t (np := 139) (l2 := [some (eR a0), some (eI (a1)), some (eI (a2)), some (eI (a3)), some (eI (a4)), some (eI (a5)), some (eI (a6)), some (eI (a7)), some (eI (v7)), some (eI (v16))]) (s2 := [eI (a7), eJ (v98), eJ (v89), eJ (v80), eJ (v74), eJ (v59), eJ (v44), eJ (v29), eR a0]) rfl rfl rfl ?_
  refine w_t (np := 140) (l2 := [some (eR a0), some (eI (a1)), some (eI (a2)), some (eI (a3)), some (eI (a4)), some (eI (a5)), some (eI (a6)), some (eI (a7)), some (eI (v7)), some (eI (v16))]) (s2 := [eJ (a7), eJ (v98), eJ (v89), eJ (v80), eJ (v74), eJ (v59), eJ (v44), eJ (v29), eR a0]) rfl (b_i2l (ev_w_in (by omega) (by omega))) rfl ?_
  refine w_t (np := 141) (l2 := [some (eR a0), some (eI (a1)), some (eI (a2)), some (eI (a3)), some (eI (a4)), some (eI (a5)), some (eI (a6)), some (eI (a7)), some (eI (v7)), some (eI (v16))]) (s2 := [eR a0, eJ (a7), eJ (v98), eJ (v89), eJ (v80), eJ (v74), eJ (v59), eJ (v44), eJ (v29), eR a0]) rfl (s_an rfl (pos_g hI gA0 (by decide))) rfl ?_
  refine w_gf (np := 144) (v := eR v19) rfl rfl (hI.kd gA0 (by decide) (n := 69) rfl) (by rw [e20]; rfl) ?_
  refine w_t (np := 146) (l2 := [some (eR a0), some (eI (a1)), some (eI (a2)), some (eI (a3)), some (eI (a4)), some (eI (a5)), some (eI (a6)), some (eI (a7)), some (eI (v7)), some (eI (v16))]) (s2 := [eI (v7), eR v19, eJ (a7), eJ (v98), eJ (v89), eJ (v80), eJ (v74), eJ (v59), eJ (v44), eJ (v29), eR a0]) rfl rfl rfl ?_
  refine w_t (np := 147) (l2 := [some (eR a0), some (eI (a1)), some (eI (a2)), some (eI (a3)), some (eI (a4)), some (eI (a5)), some (eI (a6)), some (eI (a7)), some (eI (v7)), some (eI (v16))]) (s2 := [eI (3), eI (v7), eR v19, eJ (a7), eJ (v98), eJ (v89), eJ (v80), eJ (v74), eJ (v59), eJ (v44), eJ (v29), eR a0]) rfl rfl rfl ?_
  obtain ⟨v101, e102⟩ : ∃ zz : Int, zz = (v7) + (3) := ⟨_, rfl⟩
  have b103 : 3 ≤ v101 ∧ v101 ≤ 10679 := by omega
  refine w_t (np := 148) (l2 := [some (eR a0), some (eI (a1)), some (eI (a2)), some (eI (a3)), some (eI (a4)), some (eI (a5)), some (eI (a6)), some (eI (a7)), some (eI (v7)), some (eI (v16))]) (s2 := [eI (v101), eR v19, eJ (a7), eJ (v98), eJ (v89), eJ (v80), eJ (v74), eJ (v59), eJ (v44), eJ (v29), eR a0]) rfl (b_iadd (by rw [← e102]; exact ev_w_in (by omega) (by omega))) rfl ?_
  refine j_al (np := 149) rfl rfl hI b21 (by decide) (n := 10680) rfl rfl (lo := -2147483648) (hi := 2147483647) (fun _ => rfl) (by omega) (by omega) ?_
  intro v104 e105 b106
  refine w_t (np := 150) (l2 := [some (eR a0), some (eI (a1)), some (eI (a2)), some (eI (a3)), some (eI (a4)), some (eI (a5)), some (eI (a6)), some (eI (a7)), some (eI (v7)), some (eI (v16))]) (s2 := [eJ (v104), eJ (a7), eJ (v98), eJ (v89), eJ (v80), eJ (v74), eJ (v59), eJ (v44), eJ (v29), eR a0]) rfl (b_i2l (ev_w_in (by omega) (by omega))) rfl ?_
  obtain ⟨v107, e108⟩ : ∃ zz : Int, zz = (a7) - (v104) := ⟨_, rfl⟩
  have b109 : -4294967295 ≤ v107 ∧ v107 ≤ 4294967295 := by omega
  refine w_t (np := 151) (l2 := [some (eR a0), some (eI (a1)), some (eI (a2)), some (eI (a3)), some (eI (a4)), some (eI (a5)), some (eI (a6)), some (eI (a7)), some (eI (v7)), some (eI (v16))]) (s2 := [eJ (v107), eJ (v98), eJ (v89), eJ (v80), eJ (v74), eJ (v59), eJ (v44), eJ (v29), eR a0]) rfl (b_lsub (by rw [← e108]; exact ev_W_in (by omega) (by omega))) rfl ?_
  refine w_cw (np := 154) (as := [eJ (v29), eJ (v44), eJ (v59), eJ (v74), eJ (v80), eJ (v89), eJ (v98), eJ (v107)]) (l2 := [some (eR a0), some (eJ (v29)), none, some (eJ (v44)), none, some (eJ (v59)), none, some (eJ (v74)), none, some (eJ (v80)), none, some (eJ (v89)), none, some (eJ (v98)), none, some (eJ (v107)), none]) (rest := []) rfl rfl rfl (Nat.ble_eq.mp rfl) rfl rfl rfl (hI.kd gA0 (by decide) (n := 69) rfl) rfl ?_
  refine s_224 hI gA0 (by omega) (by omega) (by omega) (by omega) (by omega) (by omega) (by omega) (by omega) ?_
  intro m110 v113 I111 F112 b114
  have F115 : Fr l_265 0 0 g μ m110 := F0.t F112 rfl
  show ex_q (dt_fg L ρ) rc (d + 4, (265, 154, [some (eR a0), some (eI (a1)), some (eI (a2)), some (eI (a3)), some (eI (a4)), some (eI (a5)), some (eI (a6)), some (eI (a7)), some (eI (v7)), some (eI (v16))], [eI (v113)]), f :: F, m110)
  exact b_ri rfl rfl (K m110 (v113) I111 F115 (by omega))
