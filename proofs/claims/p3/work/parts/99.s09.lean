/-! methods, walked -/
def l_120 : List Nat := [8974, 8975]
theorem s_120 {L : Nat} {ρ : Nat → Int} {rc : eQ} {d : Nat} {f : eFr} {F : List eFr} {μ : eM} {g : Nat → Nat} {a0 : Nat} {a1 : Int} {a2 : Int} (hI : SI g μ) (gA0 : g a0 = 35) (bA1 : 0 ≤ a1 ∧ a1 ≤ 889) (bA2 : 0 ≤ a2 ∧ a2 ≤ 1) (K : ∀ (μ2 : eM), SI g μ2 → Fr l_120 0 0 g μ μ2 → ex_q (dt_fg L ρ) rc (d + 5, (f.1, f.2.1, f.2.2.1, f.2.2.2), F, μ2)) : ex_q (dt_fg L ρ) rc (d + 4, (120, 0, [some (eR a0), some (eI (a1)), some (eI (a2)), none], []), f :: F, μ) := by
  have F0 : Fr l_120 0 0 g μ μ := Fr.r
  refine w_t (np := 1) (l2 := [some (eR a0), some (eI (a1)), some (eI (a2)), none]) (s2 := [eR a0]) rfl (s_an rfl (pos_g hI gA0 (by decide))) rfl ?_
  refine w_t (np := 2) (l2 := [some (eR a0), some (eI (a1)), some (eI (a2)), none]) (s2 := [eI (a1), eR a0]) rfl rfl rfl ?_
  refine w_cw (np := 5) (as := [eI (a1)]) (l2 := [some (eR a0), some (eI (a1)), none, none]) (rest := []) rfl rfl rfl (Nat.ble_eq.mp rfl) rfl rfl rfl (hI.kd gA0 (by decide) (n := 15) rfl) rfl ?_
  refine s_117 (a1 := a1) hI gA0 (by omega) ?_
  intro v1 b2
  show ex_q (dt_fg L ρ) rc (d + 4, (120, 5, [some (eR a0), some (eI (a1)), some (eI (a2)), none], [eI (v1)]), f :: F, μ)
  refine w_t (np := 6) (l2 := [some (eR a0), some (eI (a1)), some (eI (a2)), some (eI (v1))]) (s2 := []) rfl rfl rfl ?_
  refine w_t (np := 7) (l2 := [some (eR a0), some (eI (a1)), some (eI (a2)), some (eI (v1))]) (s2 := [eI (v1)]) rfl rfl rfl ?_
  refine b_ige (t1 := 11) (t2 := 10) rfl rfl rfl (ev_w_in (by omega) (by omega)) (fun g3 => ?_) (fun g3 => ?_)
  · have b4 : 0 ≤ v1 ∧ v1 ≤ 889 := by omega
    refine w_t (np := 12) (l2 := [some (eR a0), some (eI (a1)), some (eI (a2)), some (eI (v1))]) (s2 := [eR a0]) rfl (s_an rfl (pos_g hI gA0 (by decide))) rfl ?_
    refine w_t (np := 13) (l2 := [some (eR a0), some (eI (a1)), some (eI (a2)), some (eI (v1))]) (s2 := [eI (1), eR a0]) rfl rfl rfl ?_
    refine j_pf (np := 16) (w := 1) rfl rfl hI gA0 (by decide) (n := 15) rfl rfl (hO_i (lo := -2147483648) (hi := 2147483647) rfl (by decide)) ?_
    intro m4 I5 W6
    have F7 : Fr l_120 0 0 g μ m4 := F0.w W6 gA0 rfl
    refine w_t (np := 17) (l2 := [some (eR a0), some (eI (a1)), some (eI (a2)), some (eI (v1))]) (s2 := [eR a0]) rfl (s_an rfl (pos_g I5 gA0 (by decide))) rfl ?_
    refine w_t (np := 18) (l2 := [some (eR a0), some (eI (a1)), some (eI (a2)), some (eI (v1))]) (s2 := [eI (a1), eR a0]) rfl rfl rfl ?_
    refine w_t (np := 19) (l2 := [some (eR a0), some (eI (a1)), some (eI (a2)), some (eI (v1))]) (s2 := [eI (v1), eI (a1), eR a0]) rfl rfl rfl ?_
    refine w_cu (np := 22) (as := [eI (a1), eI (v1)]) (l2 := [some (eI (a1)), some (eI (v1))]) (rest := [eR a0]) rfl rfl rfl (Nat.ble_eq.mp rfl) rfl rfl rfl rfl ?_
    refine w_t (np := 1) (l2 := [some (eI (a1)), some (eI (v1))]) (s2 := [eI (a1)]) rfl rfl rfl ?_
    refine w_t (np := 2) (l2 := [some (eI (a1)), some (eI (v1))]) (s2 := [eI (v1), eI (a1)]) rfl rfl rfl ?_
    refine b_cgt (t1 := 9) (t2 := 5) rfl rfl rfl (ev_w_in (by omega) (by omega)) (ev_w_in (by omega) (by omega)) (fun g8 => ?_) (fun g8 => ?_)
    · have b9 : 1 ≤ a1 ∧ a1 ≤ 889 := by omega
      have b10 : 0 ≤ v1 ∧ v1 ≤ 888 := by omega
      refine w_t (np := 10) (l2 := [some (eI (a1)), some (eI (v1))]) (s2 := [eI (v1)]) rfl rfl rfl ?_
      refine b_ri rfl rfl ?_
      show ex_q (dt_fg L ρ) rc (d + 4, (120, 22, [some (eR a0), some (eI (a1)), some (eI (a2)), some (eI (v1))], [eI (v1), eR a0]), f :: F, m4)
      refine j_pf (np := 25) (w := v1) rfl rfl I5 gA0 (by decide) (n := 15) rfl rfl (hO_i (lo := -2147483648) (hi := 2147483647) rfl (by omega)) ?_
      intro m9 I10 W11
      have F12 : Fr l_120 0 0 g μ m9 := F7.w W11 gA0 rfl
      refine w_t (np := 26) (l2 := [some (eR a0), some (eI (a1)), some (eI (a2)), some (eI (v1))]) (s2 := [eR a0]) rfl (s_an rfl (pos_g I10 gA0 (by decide))) rfl ?_
      refine w_t (np := 27) (l2 := [some (eR a0), some (eI (a1)), some (eI (a2)), some (eI (v1))]) (s2 := [eI (a1), eR a0]) rfl rfl rfl ?_
      refine w_t (np := 28) (l2 := [some (eR a0), some (eI (a1)), some (eI (a2)), some (eI (v1))]) (s2 := [eI (a2), eI (a1), eR a0]) rfl rfl rfl ?_
      refine w_cw (np := 31) (as := [eI (a1), eI (a2)]) (l2 := [some (eR a0), some (eI (a1)), some (eI (a2)), none, none, none, none, none, none]) (rest := []) rfl rfl rfl (Nat.ble_eq.mp rfl) rfl rfl rfl (I10.kd gA0 (by decide) (n := 15) rfl) rfl ?_
      refine s_121 (a1 := a1) (a2 := a2) I10 gA0 (by omega) (by omega) ?_
      intro m13 I14 F15
      have F16 : Fr l_120 0 0 g μ m13 := F12.t F15 rfl
      show ex_q (dt_fg L ρ) rc (d + 4, (120, 31, [some (eR a0), some (eI (a1)), some (eI (a2)), some (eI (v1))], []), f :: F, m13)
      refine w_t (np := 32) (l2 := [some (eR a0), some (eI (a1)), some (eI (a2)), some (eI (v1))]) (s2 := [eR a0]) rfl (s_an rfl (pos_g I14 gA0 (by decide))) rfl ?_
      refine w_t (np := 33) (l2 := [some (eR a0), some (eI (a1)), some (eI (a2)), some (eI (v1))]) (s2 := [eI (v1), eR a0]) rfl rfl rfl ?_
      refine w_t (np := 34) (l2 := [some (eR a0), some (eI (a1)), some (eI (a2)), some (eI (v1))]) (s2 := [eI (1), eI (v1), eR a0]) rfl rfl rfl ?_
      refine w_t (np := 35) (l2 := [some (eR a0), some (eI (a1)), some (eI (a2)), some (eI (v1))]) (s2 := [eI (a2), eI (1), eI (v1), eR a0]) rfl rfl rfl ?_
      obtain ⟨v17, e18⟩ : ∃ zz : Int, zz = (1) - (a2) := ⟨_, rfl⟩
      have b19 : 0 ≤ v17 ∧ v17 ≤ 1 := by omega
      refine w_t (np := 36) (l2 := [some (eR a0), some (eI (a1)), some (eI (a2)), some (eI (v1))]) (s2 := [eI (v17), eI (v1), eR a0]) rfl (b_isub (by rw [← e18]; exact ev_w_in (by omega) (by omega))) rfl ?_
      refine w_cw (np := 39) (as := [eI (v1), eI (v17)]) (l2 := [some (eR a0), some (eI (v1)), some (eI (v17)), none, none, none, none, none, none]) (rest := []) rfl rfl rfl (Nat.ble_eq.mp rfl) rfl rfl rfl (I14.kd gA0 (by decide) (n := 15) rfl) rfl ?_
      refine s_121 (a1 := v1) (a2 := v17) I14 gA0 (by omega) (by omega) ?_
      intro m20 I21 F22
      have F23 : Fr l_120 0 0 g μ m20 := F16.t F22 rfl
      show ex_q (dt_fg L ρ) rc (d + 4, (120, 39, [some (eR a0), some (eI (a1)), some (eI (a2)), some (eI (v1))], []), f :: F, m20)
      exact v_rv rfl rfl (K m20 I21 F23)
    · refine w_t (np := 6) (l2 := [some (eI (a1)), some (eI (v1))]) (s2 := [eI (a1)]) rfl rfl rfl ?_
      refine w_go (t1 := 10) rfl rfl ?_
      refine b_ri rfl rfl ?_
      show ex_q (dt_fg L ρ) rc (d + 4, (120, 22, [some (eR a0), some (eI (a1)), some (eI (a2)), some (eI (v1))], [eI (a1), eR a0]), f :: F, m4)
      refine j_pf (np := 25) (w := a1) rfl rfl I5 gA0 (by decide) (n := 15) rfl rfl (hO_i (lo := -2147483648) (hi := 2147483647) rfl (by omega)) ?_
      intro m9 I10 W11
      have F12 : Fr l_120 0 0 g μ m9 := F7.w W11 gA0 rfl
      refine w_t (np := 26) (l2 := [some (eR a0), some (eI (a1)), some (eI (a2)), some (eI (v1))]) (s2 := [eR a0]) rfl (s_an rfl (pos_g I10 gA0 (by decide))) rfl ?_
      refine w_t (np := 27) (l2 := [some (eR a0), some (eI (a1)), some (eI (a2)), some (eI (v1))]) (s2 := [eI (a1), eR a0]) rfl rfl rfl ?_
      refine w_t (np := 28) (l2 := [some (eR a0), some (eI (a1)), some (eI (a2)), some (eI (v1))]) (s2 := [eI (a2), eI (a1), eR a0]) rfl rfl rfl ?_
      refine w_cw (np := 31) (as := [eI (a1), eI (a2)]) (l2 := [some (eR a0), some (eI (a1)), some (eI (a2)), none, none, none, none, none, none]) (rest := []) rfl rfl rfl (Nat.ble_eq.mp rfl) rfl rfl rfl (I10.kd gA0 (by decide) (n := 15) rfl) rfl ?_
      refine s_121 (a1 := a1) (a2 := a2) I10 gA0 (by omega) (by omega) ?_
      intro m13 I14 F15
      have F16 : Fr l_120 0 0 g μ m13 := F12.t F15 rfl
      show ex_q (dt_fg L ρ) rc (d + 4, (120, 31, [some (eR a0), some (eI (a1)), some (eI (a2)), some (eI (v1))], []), f :: F, m13)
      refine w_t (np := 32) (l2 := [some (eR a0), some (eI (a1)), some (eI (a2)), some (eI (v1))]) (s2 := [eR a0]) rfl (s_an rfl (pos_g I14 gA0 (by decide))) rfl ?_
      refine w_t (np := 33) (l2 := [some (eR a0), some (eI (a1)), some (eI (a2)), some (eI (v1))]) (s2 := [eI (v1), eR a0]) rfl rfl rfl ?_
      refine w_t (np := 34) (l2 := [some (eR a0), some (eI (a1)), some (eI (a2)), some (eI (v1))]) (s2 := [eI (1), eI (v1), eR a0]) rfl rfl rfl ?_
      refine w_t (np := 35) (l2 := [some (eR a0), some (eI (a1)), some (eI (a2)), some (eI (v1))]) (s2 := [eI (a2), eI (1), eI (v1), eR a0]) rfl rfl rfl ?_
      obtain ⟨v17, e18⟩ : ∃ zz : Int, zz = (1) - (a2) := ⟨_, rfl⟩
      have b19 : 0 ≤ v17 ∧ v17 ≤ 1 := by omega
      refine w_t (np := 36) (l2 := [some (eR a0), some (eI (a1)), some (eI (a2)), some (eI (v1))]) (s2 := [eI (v17), eI (v1), eR a0]) rfl (b_isub (by rw [← e18]; exact ev_w_in (by omega) (by omega))) rfl ?_
      refine w_cw (np := 39) (as := [eI (v1), eI (v17)]) (l2 := [some (eR a0), some (eI (v1)), some (eI (v17)), none, none, none, none, none, none]) (rest := []) rfl rfl rfl (Nat.ble_eq.mp rfl) rfl rfl rfl (I14.kd gA0 (by decide) (n := 15) rfl) rfl ?_
      refine s_121 (a1 := v1) (a2 := v17) I14 gA0 (by omega) (by omega) ?_
      intro m20 I21 F22
      have F23 : Fr l_120 0 0 g μ m20 := F16.t F22 rfl
      show ex_q (dt_fg L ρ) rc (d + 4, (120, 39, [some (eR a0), some (eI (a1)), some (eI (a2)), some (eI (v1))], []), f :: F, m20)
      exact v_rv rfl rfl (K m20 I21 F23)
  · have b4 : -1 ≤ v1 ∧ v1 ≤ -1 := by omega
    exact v_rv rfl rfl (K μ hI F0)
theorem s_142 {L : Nat} {ρ : Nat → Int} {rc : eQ} {d : Nat} {f : eFr} {F : List eFr} {μ : eM} {g : Nat → Nat} {a0 : Nat} {a1 : Int} {a2 : Int} (hI : SI g μ) (gA0 : g a0 = 29) (bA1 : 0 ≤ a1 ∧ a1 ≤ 23) (bA2 : 0 ≤ a2 ∧ a2 ≤ 23) (K : ∀ (v : Int), (0 ≤ v ∧ v ≤ 1) → ex_q (dt_fg L ρ) rc (d + 3, (f.1, f.2.1, f.2.2.1, eI v :: f.2.2.2), F, μ)) : ex_q (dt_fg L ρ) rc (d + 2, (142, 0, [some (eR a0), some (eI (a1)), some (eI (a2)), none, none, none, none, none, none], []), f :: F, μ) := by
  refine w_t (np := 1) (l2 := [some (eR a0), some (eI (a1)), some (eI (a2)), none, none, none, none, none, none]) (s2 := [eI (1)]) rfl rfl rfl ?_
  refine w_t (np := 2) (l2 := [some (eR a0), some (eI (a1)), some (eI (a2)), none, none, none, none, none, none]) (s2 := [eI (2), eI (1)]) rfl rfl rfl ?_
  refine w_t (np := 3) (l2 := [some (eR a0), some (eI (a1)), some (eI (a2)), none, none, none, none, none, none]) (s2 := [eR a0, eI (2), eI (1)]) rfl (s_an rfl (pos_g hI gA0 (by decide))) rfl ?_
  refine j_gr (np := 6) rfl rfl hI gA0 (by decide) (n := 7) rfl rfl rfl ?_
  intro v1 e2 b3 z4
  have b3 : g v1 = 32 := Nat.eq_of_beq_eq_true b3
  refine w_t (np := 7) (l2 := [some (eR a0), some (eI (a1)), some (eI (a2)), none, none, none, none, none, none]) (s2 := [eI (a1), eR v1, eI (2), eI (1)]) rfl rfl rfl ?_
  refine j_al (np := 8) rfl rfl hI b3 (by decide) (n := 24) rfl rfl (lo := 0) (hi := 1) (fun _ => rfl) (by omega) (by omega) ?_
  intro v5 e6 b7
  obtain ⟨v8, e9⟩ : ∃ zz : Int, zz = (2) * (v5) := ⟨_, rfl⟩
  have b10 : 0 ≤ v8 ∧ v8 ≤ 2 := by omega
  refine w_t (np := 9) (l2 := [some (eR a0), some (eI (a1)), some (eI (a2)), none, none, none, none, none, none]) (s2 := [eI (v8), eI (1)]) rfl (b_imul (by rw [← e9]; exact ev_w_in (by omega) (by omega))) rfl ?_
  obtain ⟨v11, e12⟩ : ∃ zz : Int, zz = (1) - (v8) := ⟨_, rfl⟩
  have b13 : -1 ≤ v11 ∧ v11 ≤ 1 := by omega
  refine w_t (np := 10) (l2 := [some (eR a0), some (eI (a1)), some (eI (a2)), none, none, none, none, none, none]) (s2 := [eI (v11)]) rfl (b_isub (by rw [← e12]; exact ev_w_in (by omega) (by omega))) rfl ?_
  refine w_t (np := 11) (l2 := [some (eR a0), some (eI (a1)), some (eI (a2)), some (eI (v11)), none, none, none, none, none]) (s2 := []) rfl rfl rfl ?_
  refine w_t (np := 12) (l2 := [some (eR a0), some (eI (a1)), some (eI (a2)), some (eI (v11)), none, none, none, none, none]) (s2 := [eI (0)]) rfl rfl rfl ?_
  refine w_t (np := 14) (l2 := [some (eR a0), some (eI (a1)), some (eI (a2)), some (eI (v11)), some (eI (0)), none, none, none, none]) (s2 := []) rfl rfl rfl ?_
  have hL14 : ∀ (n14 : Nat) (i16 : Int) (o18 : Option eV) (o19 : Option eV) (o20 : Option eV), (0 ≤ i16 ∧ i16 ≤ 4) → n14 = (4 - i16).toNat → ex_q (dt_fg L ρ) rc (d + 2, (142, 14, [some (eR a0), some (eI (a1)), some (eI (a2)), some (eI (v11)), some (eI (i16)), o18, o19, o20, none], []), f :: F, μ) := by
    intro n14
    induction n14 using Nat.strongRecOn with
    | _ n14 ih15 =>
    intro i16 o18 o19 o20 b17 hn21
    refine w_t (np := 16) (l2 := [some (eR a0), some (eI (a1)), some (eI (a2)), some (eI (v11)), some (eI (i16)), o18, o19, o20, none]) (s2 := [eI (i16)]) rfl rfl rfl ?_
    refine w_t (np := 17) (l2 := [some (eR a0), some (eI (a1)), some (eI (a2)), some (eI (v11)), some (eI (i16)), o18, o19, o20, none]) (s2 := [eI (4), eI (i16)]) rfl rfl rfl ?_
    refine b_cge (t1 := 107) (t2 := 20) rfl rfl rfl (ev_w_in (by omega) (by omega)) rfl (fun g22 => ?_) (fun g22 => ?_)
    · have b23 : 4 ≤ i16 ∧ i16 ≤ 4 := by omega
      refine w_t (np := 108) (l2 := [some (eR a0), some (eI (a1)), some (eI (a2)), some (eI (v11)), some (eI (i16)), o18, o19, o20, none]) (s2 := [eI (0)]) rfl rfl rfl ?_
      exact b_rz rfl rfl (Or.inl rfl) (K (0) (by decide))
    · have b23 : 0 ≤ i16 ∧ i16 ≤ 3 := by omega
      refine w_t (np := 21) (l2 := [some (eR a0), some (eI (a1)), some (eI (a2)), some (eI (v11)), some (eI (i16)), o18, o19, o20, none]) (s2 := [eI (1)]) rfl rfl rfl ?_
      refine w_t (np := 23) (l2 := [some (eR a0), some (eI (a1)), some (eI (a2)), some (eI (v11)), some (eI (i16)), some (eI (1)), o19, o20, none]) (s2 := []) rfl rfl rfl ?_
      refine w_t (np := 24) (l2 := [some (eR a0), some (eI (a1)), some (eI (a2)), some (eI (v11)), some (eI (i16)), some (eI (1)), o19, o20, none]) (s2 := [eI (0)]) rfl rfl rfl ?_
      refine w_t (np := 26) (l2 := [some (eR a0), some (eI (a1)), some (eI (a2)), some (eI (v11)), some (eI (i16)), some (eI (1)), some (eI (0)), o20, none]) (s2 := []) rfl rfl rfl ?_
      have hL26 : ∀ (n23 : Nat) (i25 : Int) (i27 : Int) (o29 : Option eV), (0 ≤ i25 ∧ i25 ≤ 1) → (0 ≤ i27 ∧ i27 ≤ 4) → n23 = (4 - i27).toNat → ex_q (dt_fg L ρ) rc (d + 2, (142, 26, [some (eR a0), some (eI (a1)), some (eI (a2)), some (eI (v11)), some (eI (i16)), some (eI (i25)), some (eI (i27)), o29, none], []), f :: F, μ) := by
        intro n23
        induction n23 using Nat.strongRecOn with
        | _ n23 ih24 =>
        intro i25 i27 o29 b26 b28 hn30
        refine w_t (np := 28) (l2 := [some (eR a0), some (eI (a1)), some (eI (a2)), some (eI (v11)), some (eI (i16)), some (eI (i25)), some (eI (i27)), o29, none]) (s2 := [eI (i27)]) rfl rfl rfl ?_
        refine w_t (np := 29) (l2 := [some (eR a0), some (eI (a1)), some (eI (a2)), some (eI (v11)), some (eI (i16)), some (eI (i25)), some (eI (i27)), o29, none]) (s2 := [eI (4), eI (i27)]) rfl rfl rfl ?_
        refine b_cge (t1 := 94) (t2 := 32) rfl rfl rfl (ev_w_in (by omega) (by omega)) rfl (fun g31 => ?_) (fun g31 => ?_)
        · have b32 : 4 ≤ i27 ∧ i27 ≤ 4 := by omega
          refine w_t (np := 96) (l2 := [some (eR a0), some (eI (a1)), some (eI (a2)), some (eI (v11)), some (eI (i16)), some (eI (i25)), some (eI (i27)), o29, none]) (s2 := [eI (i25)]) rfl rfl rfl ?_
          refine b_ieq (t1 := 101) (t2 := 99) rfl rfl rfl (ev_w_in (by omega) (by omega)) (fun g32 => ?_) (fun g32 => ?_)
          · have b33 : 0 ≤ i25 ∧ i25 ≤ 0 := by omega
            obtain ⟨v33, e34⟩ : ∃ zz : Int, zz = (i16) + (1) := ⟨_, rfl⟩
            have b35 : 1 ≤ v33 ∧ v33 ≤ 4 := by omega
            refine w_t (np := 104) (l2 := [some (eR a0), some (eI (a1)), some (eI (a2)), some (eI (v11)), some (eI (v33)), some (eI (i25)), some (eI (i27)), o29, none]) (s2 := []) rfl (b_iinc rfl (by rw [← e34]; exact ev_w_in (by omega) (by omega)) rfl) rfl ?_
            refine w_go (t1 := 14) rfl rfl ?_
            exact ih15 (4 - (v33)).toNat (by omega) (v33) (some (eI (i25))) (some (eI (i27))) (o29) (by omega)     rfl
          · have b33 : 1 ≤ i25 ∧ i25 ≤ 1 := by omega
            refine w_t (np := 100) (l2 := [some (eR a0), some (eI (a1)), some (eI (a2)), some (eI (v11)), some (eI (i16)), some (eI (i25)), some (eI (i27)), o29, none]) (s2 := [eI (1)]) rfl rfl rfl ?_
            exact b_rz rfl rfl (Or.inr rfl) (K (1) (by decide))
        · have b32 : 0 ≤ i27 ∧ i27 ≤ 3 := by omega
          refine w_t (np := 34) (l2 := [some (eR a0), some (eI (a1)), some (eI (a2)), some (eI (v11)), some (eI (i16)), some (eI (i25)), some (eI (i27)), o29, none]) (s2 := [eI (i25)]) rfl rfl rfl ?_
          refine b_ieq (t1 := 94) (t2 := 37) rfl rfl rfl (ev_w_in (by omega) (by omega)) (fun g32 => ?_) (fun g32 => ?_)
          · have b33 : 0 ≤ i25 ∧ i25 ≤ 0 := by omega
            refine w_t (np := 96) (l2 := [some (eR a0), some (eI (a1)), some (eI (a2)), some (eI (v11)), some (eI (i16)), some (eI (i25)), some (eI (i27)), o29, none]) (s2 := [eI (i25)]) rfl rfl rfl ?_
            refine b_ieq (t1 := 101) (t2 := 99) rfl rfl rfl (ev_w_in (by omega) (by omega)) (fun g33 => ?_) (fun g33 => False.elim (by omega))
            obtain ⟨v34, e35⟩ : ∃ zz : Int, zz = (i16) + (1) := ⟨_, rfl⟩
            have b36 : 1 ≤ v34 ∧ v34 ≤ 4 := by omega
            refine w_t (np := 104) (l2 := [some (eR a0), some (eI (a1)), some (eI (a2)), some (eI (v11)), some (eI (v34)), some (eI (i25)), some (eI (i27)), o29, none]) (s2 := []) rfl (b_iinc rfl (by rw [← e35]; exact ev_w_in (by omega) (by omega)) rfl) rfl ?_
            refine w_go (t1 := 14) rfl rfl ?_
            exact ih15 (4 - (v34)).toNat (by omega) (v34) (some (eI (i25))) (some (eI (i27))) (o29) (by omega)     rfl
          · have b33 : 1 ≤ i25 ∧ i25 ≤ 1 := by omega
            refine w_t (np := 38) (l2 := [some (eR a0), some (eI (a1)), some (eI (a2)), some (eI (v11)), some (eI (i16)), some (eI (i25)), some (eI (i27)), o29, none]) (s2 := [eR a0]) rfl (s_an rfl (pos_g hI gA0 (by decide))) rfl ?_
            refine j_gr (np := 41) rfl rfl hI gA0 (by decide) (n := 7) rfl rfl rfl ?_
            intro v33 e34 b35 z36
            have b35 : g v33 = 33 := Nat.eq_of_beq_eq_true b35
            refine w_t (np := 42) (l2 := [some (eR a0), some (eI (a1)), some (eI (a2)), some (eI (v11)), some (eI (i16)), some (eI (i25)), some (eI (i27)), o29, none]) (s2 := [eI (4), eR v33]) rfl rfl rfl ?_
            refine w_t (np := 43) (l2 := [some (eR a0), some (eI (a1)), some (eI (a2)), some (eI (v11)), some (eI (i16)), some (eI (i25)), some (eI (i27)), o29, none]) (s2 := [eI (a2), eI (4), eR v33]) rfl rfl rfl ?_
            obtain ⟨v37, e38⟩ : ∃ zz : Int, zz = (4) * (a2) := ⟨_, rfl⟩
            have b39 : 0 ≤ v37 ∧ v37 ≤ 92 := by omega
            refine w_t (np := 44) (l2 := [some (eR a0), some (eI (a1)), some (eI (a2)), some (eI (v11)), some (eI (i16)), some (eI (i25)), some (eI (i27)), o29, none]) (s2 := [eI (v37), eR v33]) rfl (b_imul (by rw [← e38]; exact ev_w_in (by omega) (by omega))) rfl ?_
            refine w_t (np := 46) (l2 := [some (eR a0), some (eI (a1)), some (eI (a2)), some (eI (v11)), some (eI (i16)), some (eI (i25)), some (eI (i27)), o29, none]) (s2 := [eI (i27), eI (v37), eR v33]) rfl rfl rfl ?_
            obtain ⟨v40, e41⟩ : ∃ zz : Int, zz = (v37) + (i27) := ⟨_, rfl⟩
            have b42 : 0 ≤ v40 ∧ v40 ≤ 95 := by omega
            refine w_t (np := 47) (l2 := [some (eR a0), some (eI (a1)), some (eI (a2)), some (eI (v11)), some (eI (i16)), some (eI (i25)), some (eI (i27)), o29, none]) (s2 := [eI (v40), eR v33]) rfl (b_iadd (by rw [← e41]; exact ev_w_in (by omega) (by omega))) rfl ?_
            refine j_ll (np := 48) rfl rfl hI b35 (by decide) (n := 96) rfl rfl (lo := -9223372036854775808) (hi := 9223372036854775807) (fun _ => rfl) (by omega) (by omega) ?_
            intro v43 e44 b45
            refine w_t (np := 49) (l2 := [some (eR a0), some (eI (a1)), some (eI (a2)), some (eI (v11)), some (eI (i16)), some (eI (i25)), some (eI (i27)), o29, none]) (s2 := [eR a0, eJ (v43)]) rfl (s_an rfl (pos_g hI gA0 (by decide))) rfl ?_
            refine w_gf (np := 52) (v := eR v33) rfl rfl (hI.kd gA0 (by decide) (n := 7) rfl) (by rw [e34]; rfl) ?_
            refine w_t (np := 53) (l2 := [some (eR a0), some (eI (a1)), some (eI (a2)), some (eI (v11)), some (eI (i16)), some (eI (i25)), some (eI (i27)), o29, none]) (s2 := [eI (4), eR v33, eJ (v43)]) rfl rfl rfl ?_
            refine w_t (np := 54) (l2 := [some (eR a0), some (eI (a1)), some (eI (a2)), some (eI (v11)), some (eI (i16)), some (eI (i25)), some (eI (i27)), o29, none]) (s2 := [eI (a1), eI (4), eR v33, eJ (v43)]) rfl rfl rfl ?_
            obtain ⟨v46, e47⟩ : ∃ zz : Int, zz = (4) * (a1) := ⟨_, rfl⟩
            have b48 : 0 ≤ v46 ∧ v46 ≤ 92 := by omega
            refine w_t (np := 55) (l2 := [some (eR a0), some (eI (a1)), some (eI (a2)), some (eI (v11)), some (eI (i16)), some (eI (i25)), some (eI (i27)), o29, none]) (s2 := [eI (v46), eR v33, eJ (v43)]) rfl (b_imul (by rw [← e47]; exact ev_w_in (by omega) (by omega))) rfl ?_
            refine w_t (np := 57) (l2 := [some (eR a0), some (eI (a1)), some (eI (a2)), some (eI (v11)), some (eI (i16)), some (eI (i25)), some (eI (i27)), o29, none]) (s2 := [eI (i16), eI (v46), eR v33, eJ (v43)]) rfl rfl rfl ?_
            obtain ⟨v49, e50⟩ : ∃ zz : Int, zz = (v46) + (i16) := ⟨_, rfl⟩
            have b51 : 0 ≤ v49 ∧ v49 ≤ 95 := by omega
            refine w_t (np := 58) (l2 := [some (eR a0), some (eI (a1)), some (eI (a2)), some (eI (v11)), some (eI (i16)), some (eI (i25)), some (eI (i27)), o29, none]) (s2 := [eI (v49), eR v33, eJ (v43)]) rfl (b_iadd (by rw [← e50]; exact ev_w_in (by omega) (by omega))) rfl ?_
            refine j_ll (np := 59) rfl rfl hI b35 (by decide) (n := 96) rfl rfl (lo := -9223372036854775808) (hi := 9223372036854775807) (fun _ => rfl) (by omega) (by omega) ?_
            intro v52 e53 b54
            refine w_cu (np := 62) (as := [eJ (v43), eJ (v52)]) (l2 := [some (eJ (v43)), none, some (eJ (v52)), none]) (rest := []) rfl rfl rfl (Nat.ble_eq.mp rfl) rfl rfl rfl rfl ?_
            refine s_76 hI b45 b54 ?_
            intro v55 b56
            show ex_q (dt_fg L ρ) rc (d + 2, (142, 62, [some (eR a0), some (eI (a1)), some (eI (a2)), some (eI (v11)), some (eI (i16)), some (eI (i25)), some (eI (i27)), o29, none], [eJ (v55)]), f :: F, μ)
            refine w_t (np := 64) (l2 := [some (eR a0), some (eI (a1)), some (eI (a2)), some (eI (v11)), some (eI (i16)), some (eI (i25)), some (eI (i27)), some (eJ (v55)), none]) (s2 := []) rfl rfl rfl ?_
            refine w_t (np := 65) (l2 := [some (eR a0), some (eI (a1)), some (eI (a2)), some (eI (v11)), some (eI (i16)), some (eI (i25)), some (eI (i27)), some (eJ (v55)), none]) (s2 := [eI (v11)]) rfl rfl rfl ?_
            refine w_t (np := 66) (l2 := [some (eR a0), some (eI (a1)), some (eI (a2)), some (eI (v11)), some (eI (i16)), some (eI (i25)), some (eI (i27)), some (eJ (v55)), none]) (s2 := [eR a0, eI (v11)]) rfl (s_an rfl (pos_g hI gA0 (by decide))) rfl ?_
            refine w_t (np := 67) (l2 := [some (eR a0), some (eI (a1)), some (eI (a2)), some (eI (v11)), some (eI (i16)), some (eI (i25)), some (eI (i27)), some (eJ (v55)), none]) (s2 := [eI (a1), eR a0, eI (v11)]) rfl rfl rfl ?_
            refine w_t (np := 69) (l2 := [some (eR a0), some (eI (a1)), some (eI (a2)), some (eI (v11)), some (eI (i16)), some (eI (i25)), some (eI (i27)), some (eJ (v55)), none]) (s2 := [eI (i16), eI (a1), eR a0, eI (v11)]) rfl rfl rfl ?_
            refine w_cw (np := 72) (as := [eI (a1), eI (i16)]) (l2 := [some (eR a0), some (eI (a1)), some (eI (i16)), none]) (rest := [eI (v11)]) rfl rfl rfl (Nat.ble_eq.mp rfl) rfl rfl rfl (hI.kd gA0 (by decide) (n := 7) rfl) rfl ?_
            refine s_147 (a1 := a1) (a2 := i16) hI gA0 (by omega) (by omega) ?_
            intro v57 b58
            show ex_q (dt_fg L ρ) rc (d + 2, (142, 72, [some (eR a0), some (eI (a1)), some (eI (a2)), some (eI (v11)), some (eI (i16)), some (eI (i25)), some (eI (i27)), some (eJ (v55)), none], [eI (v57), eI (v11)]), f :: F, μ)
            refine w_t (np := 74) (l2 := [some (eR a0), some (eI (a1)), some (eI (a2)), some (eI (v11)), some (eI (i16)), some (eI (i25)), some (eI (i27)), some (eJ (v55)), none]) (s2 := [eJ (v55), eI (v57), eI (v11)]) rfl rfl rfl ?_
            refine w_cu (np := 77) (as := [eI (v57), eJ (v55)]) (l2 := [some (eI (v57)), some (eJ (v55)), none]) (rest := [eI (v11)]) rfl rfl rfl (Nat.ble_eq.mp rfl) rfl rfl rfl rfl ?_
            refine s_83 (a0 := v57) hI (by omega) b56 ?_
            intro v59 b60
            show ex_q (dt_fg L ρ) rc (d + 2, (142, 77, [some (eR a0), some (eI (a1)), some (eI (a2)), some (eI (v11)), some (eI (i16)), some (eI (i25)), some (eI (i27)), some (eJ (v55)), none], [eI (v59), eI (v11)]), f :: F, μ)
            obtain ⟨v61, e62⟩ : ∃ zz : Int, zz = (v11) * (v59) := ⟨_, rfl⟩
            have b63 : -1 ≤ v61 ∧ v61 ≤ 1 := by
              have hm := i_mulb (a := v11) (b := v59) (A := 1) (B := 1) (by omega) (by omega)
              rw [e62]
              omega
            refine w_t (np := 78) (l2 := [some (eR a0), some (eI (a1)), some (eI (a2)), some (eI (v11)), some (eI (i16)), some (eI (i25)), some (eI (i27)), some (eJ (v55)), none]) (s2 := [eI (v61)]) rfl (b_imul (by rw [← e62]; exact ev_w_in (by omega) (by omega))) rfl ?_
            refine b_igt (t1 := 85) (t2 := 81) rfl rfl rfl (ev_w_in (by omega) (by omega)) (fun g64 => ?_) (fun g64 => ?_)
            · have b65 : 1 ≤ v61 ∧ v61 ≤ 1 := by omega
              refine w_t (np := 86) (l2 := [some (eR a0), some (eI (a1)), some (eI (a2)), some (eI (v11)), some (eI (i16)), some (eI (i25)), some (eI (i27)), some (eJ (v55)), none]) (s2 := [eI (0)]) rfl rfl rfl ?_
              refine w_t (np := 88) (l2 := [some (eR a0), some (eI (a1)), some (eI (a2)), some (eI (v11)), some (eI (i16)), some (eI (0)), some (eI (i27)), some (eJ (v55)), none]) (s2 := []) rfl rfl rfl ?_
              obtain ⟨v65, e66⟩ : ∃ zz : Int, zz = (i27) + (1) := ⟨_, rfl⟩
              have b67 : 1 ≤ v65 ∧ v65 ≤ 4 := by omega
              refine w_t (np := 91) (l2 := [some (eR a0), some (eI (a1)), some (eI (a2)), some (eI (v11)), some (eI (i16)), some (eI (0)), some (eI (v65)), some (eJ (v55)), none]) (s2 := []) rfl (b_iinc rfl (by rw [← e66]; exact ev_w_in (by omega) (by omega)) rfl) rfl ?_
              refine w_go (t1 := 26) rfl rfl ?_
              exact ih24 (4 - (v65)).toNat (by omega) (0) (v65) (some (eJ (v55))) (by decide) (by omega)     rfl
            · have b65 : -1 ≤ v61 ∧ v61 ≤ 0 := by omega
              refine w_t (np := 82) (l2 := [some (eR a0), some (eI (a1)), some (eI (a2)), some (eI (v11)), some (eI (i16)), some (eI (i25)), some (eI (i27)), some (eJ (v55)), none]) (s2 := [eI (1)]) rfl rfl rfl ?_
              refine w_go (t1 := 86) rfl rfl ?_
              refine w_t (np := 88) (l2 := [some (eR a0), some (eI (a1)), some (eI (a2)), some (eI (v11)), some (eI (i16)), some (eI (1)), some (eI (i27)), some (eJ (v55)), none]) (s2 := []) rfl rfl rfl ?_
              obtain ⟨v65, e66⟩ : ∃ zz : Int, zz = (i27) + (1) := ⟨_, rfl⟩
              have b67 : 1 ≤ v65 ∧ v65 ≤ 4 := by omega
              refine w_t (np := 91) (l2 := [some (eR a0), some (eI (a1)), some (eI (a2)), some (eI (v11)), some (eI (i16)), some (eI (1)), some (eI (v65)), some (eJ (v55)), none]) (s2 := []) rfl (b_iinc rfl (by rw [← e66]; exact ev_w_in (by omega) (by omega)) rfl) rfl ?_
              refine w_go (t1 := 26) rfl rfl ?_
              exact ih24 (4 - (v65)).toNat (by omega) (1) (v65) (some (eJ (v55))) (by decide) (by omega)     rfl
      exact hL26 _ (1) (0) (o20) (by decide) (by decide)     rfl
  exact hL14 _ (0) (none) (none) (none) (by decide)     rfl
theorem s_143 {L : Nat} {ρ : Nat → Int} {rc : eQ} {d : Nat} {f : eFr} {F : List eFr} {μ : eM} {g : Nat → Nat} {a0 : Nat} {a1 : Int} {a2 : Int} (hI : SI g μ) (gA0 : g a0 = 29) (bA1 : 0 ≤ a1 ∧ a1 ≤ 23) (bA2 : 0 ≤ a2 ∧ a2 ≤ 23) (K : ∀ (v : Int), (0 ≤ v ∧ v ≤ 1) → ex_q (dt_fg L ρ) rc (d + 3, (f.1, f.2.1, f.2.2.1, eI v :: f.2.2.2), F, μ)) : ex_q (dt_fg L ρ) rc (d + 2, (143, 0, [some (eR a0), some (eI (a1)), some (eI (a2)), none, none, none, none], []), f :: F, μ) := by
  refine w_t (np := 1) (l2 := [some (eR a0), some (eI (a1)), some (eI (a2)), none, none, none, none]) (s2 := [eI (0)]) rfl rfl rfl ?_
  refine w_t (np := 2) (l2 := [some (eR a0), some (eI (a1)), some (eI (a2)), some (eI (0)), none, none, none]) (s2 := []) rfl rfl rfl ?_
  have hL2 : ∀ (n1 : Nat) (i3 : Int) (o5 : Option eV) (o6 : Option eV), (0 ≤ i3 ∧ i3 ≤ 4) → n1 = (4 - i3).toNat → ex_q (dt_fg L ρ) rc (d + 2, (143, 2, [some (eR a0), some (eI (a1)), some (eI (a2)), some (eI (i3)), o5, o6, none], []), f :: F, μ) := by
    intro n1
    induction n1 using Nat.strongRecOn with
    | _ n1 ih2 =>
    intro i3 o5 o6 b4 hn7
    refine w_t (np := 3) (l2 := [some (eR a0), some (eI (a1)), some (eI (a2)), some (eI (i3)), o5, o6, none]) (s2 := [eI (i3)]) rfl rfl rfl ?_
    refine w_t (np := 4) (l2 := [some (eR a0), some (eI (a1)), some (eI (a2)), some (eI (i3)), o5, o6, none]) (s2 := [eI (4), eI (i3)]) rfl rfl rfl ?_
    refine b_cge (t1 := 70) (t2 := 7) rfl rfl rfl (ev_w_in (by omega) (by omega)) rfl (fun g8 => ?_) (fun g8 => ?_)
    · have b9 : 4 ≤ i3 ∧ i3 ≤ 4 := by omega
      refine w_t (np := 71) (l2 := [some (eR a0), some (eI (a1)), some (eI (a2)), some (eI (i3)), o5, o6, none]) (s2 := [eI (0)]) rfl rfl rfl ?_
      exact b_rz rfl rfl (Or.inl rfl) (K (0) (by decide))
    · have b9 : 0 ≤ i3 ∧ i3 ≤ 3 := by omega
      refine w_t (np := 8) (l2 := [some (eR a0), some (eI (a1)), some (eI (a2)), some (eI (i3)), o5, o6, none]) (s2 := [eI (0)]) rfl rfl rfl ?_
      refine w_t (np := 10) (l2 := [some (eR a0), some (eI (a1)), some (eI (a2)), some (eI (i3)), some (eI (0)), o6, none]) (s2 := []) rfl rfl rfl ?_
      have hL10 : ∀ (n9 : Nat) (i11 : Int) (o13 : Option eV), (0 ≤ i11 ∧ i11 ≤ 4) → n9 = (4 - i11).toNat → ex_q (dt_fg L ρ) rc (d + 2, (143, 10, [some (eR a0), some (eI (a1)), some (eI (a2)), some (eI (i3)), some (eI (i11)), o13, none], []), f :: F, μ) := by
        intro n9
        induction n9 using Nat.strongRecOn with
        | _ n9 ih10 =>
        intro i11 o13 b12 hn14
        refine w_t (np := 12) (l2 := [some (eR a0), some (eI (a1)), some (eI (a2)), some (eI (i3)), some (eI (i11)), o13, none]) (s2 := [eI (i11)]) rfl rfl rfl ?_
        refine w_t (np := 13) (l2 := [some (eR a0), some (eI (a1)), some (eI (a2)), some (eI (i3)), some (eI (i11)), o13, none]) (s2 := [eI (4), eI (i11)]) rfl rfl rfl ?_
        refine b_cge (t1 := 64) (t2 := 16) rfl rfl rfl (ev_w_in (by omega) (by omega)) rfl (fun g15 => ?_) (fun g15 => ?_)
        · have b16 : 4 ≤ i11 ∧ i11 ≤ 4 := by omega
          obtain ⟨v16, e17⟩ : ∃ zz : Int, zz = (i3) + (1) := ⟨_, rfl⟩
          have b18 : 1 ≤ v16 ∧ v16 ≤ 4 := by omega
          refine w_t (np := 67) (l2 := [some (eR a0), some (eI (a1)), some (eI (a2)), some (eI (v16)), some (eI (i11)), o13, none]) (s2 := []) rfl (b_iinc rfl (by rw [← e17]; exact ev_w_in (by omega) (by omega)) rfl) rfl ?_
          refine w_go (t1 := 2) rfl rfl ?_
          exact ih2 (4 - (v16)).toNat (by omega) (v16) (some (eI (i11))) (o13) (by omega)     rfl
        · have b16 : 0 ≤ i11 ∧ i11 ≤ 3 := by omega
          refine w_t (np := 17) (l2 := [some (eR a0), some (eI (a1)), some (eI (a2)), some (eI (i3)), some (eI (i11)), o13, none]) (s2 := [eR a0]) rfl (s_an rfl (pos_g hI gA0 (by decide))) rfl ?_
          refine j_gr (np := 20) rfl rfl hI gA0 (by decide) (n := 7) rfl rfl rfl ?_
          intro v16 e17 b18 z19
          have b18 : g v16 = 33 := Nat.eq_of_beq_eq_true b18
          refine w_t (np := 21) (l2 := [some (eR a0), some (eI (a1)), some (eI (a2)), some (eI (i3)), some (eI (i11)), o13, none]) (s2 := [eI (4), eR v16]) rfl rfl rfl ?_
          refine w_t (np := 22) (l2 := [some (eR a0), some (eI (a1)), some (eI (a2)), some (eI (i3)), some (eI (i11)), o13, none]) (s2 := [eI (a2), eI (4), eR v16]) rfl rfl rfl ?_
          obtain ⟨v20, e21⟩ : ∃ zz : Int, zz = (4) * (a2) := ⟨_, rfl⟩
          have b22 : 0 ≤ v20 ∧ v20 ≤ 92 := by omega
          refine w_t (np := 23) (l2 := [some (eR a0), some (eI (a1)), some (eI (a2)), some (eI (i3)), some (eI (i11)), o13, none]) (s2 := [eI (v20), eR v16]) rfl (b_imul (by rw [← e21]; exact ev_w_in (by omega) (by omega))) rfl ?_
          refine w_t (np := 25) (l2 := [some (eR a0), some (eI (a1)), some (eI (a2)), some (eI (i3)), some (eI (i11)), o13, none]) (s2 := [eI (i11), eI (v20), eR v16]) rfl rfl rfl ?_
          obtain ⟨v23, e24⟩ : ∃ zz : Int, zz = (v20) + (i11) := ⟨_, rfl⟩
          have b25 : 0 ≤ v23 ∧ v23 ≤ 95 := by omega
          refine w_t (np := 26) (l2 := [some (eR a0), some (eI (a1)), some (eI (a2)), some (eI (i3)), some (eI (i11)), o13, none]) (s2 := [eI (v23), eR v16]) rfl (b_iadd (by rw [← e24]; exact ev_w_in (by omega) (by omega))) rfl ?_
          refine j_ll (np := 27) rfl rfl hI b18 (by decide) (n := 96) rfl rfl (lo := -9223372036854775808) (hi := 9223372036854775807) (fun _ => rfl) (by omega) (by omega) ?_
          intro v26 e27 b28
          refine w_t (np := 28) (l2 := [some (eR a0), some (eI (a1)), some (eI (a2)), some (eI (i3)), some (eI (i11)), o13, none]) (s2 := [eR a0, eJ (v26)]) rfl (s_an rfl (pos_g hI gA0 (by decide))) rfl ?_
          refine w_gf (np := 31) (v := eR v16) rfl rfl (hI.kd gA0 (by decide) (n := 7) rfl) (by rw [e17]; rfl) ?_
          refine w_t (np := 32) (l2 := [some (eR a0), some (eI (a1)), some (eI (a2)), some (eI (i3)), some (eI (i11)), o13, none]) (s2 := [eI (4), eR v16, eJ (v26)]) rfl rfl rfl ?_
          refine w_t (np := 33) (l2 := [some (eR a0), some (eI (a1)), some (eI (a2)), some (eI (i3)), some (eI (i11)), o13, none]) (s2 := [eI (a1), eI (4), eR v16, eJ (v26)]) rfl rfl rfl ?_
          obtain ⟨v29, e30⟩ : ∃ zz : Int, zz = (4) * (a1) := ⟨_, rfl⟩
          have b31 : 0 ≤ v29 ∧ v29 ≤ 92 := by omega
          refine w_t (np := 34) (l2 := [some (eR a0), some (eI (a1)), some (eI (a2)), some (eI (i3)), some (eI (i11)), o13, none]) (s2 := [eI (v29), eR v16, eJ (v26)]) rfl (b_imul (by rw [← e30]; exact ev_w_in (by omega) (by omega))) rfl ?_
          refine w_t (np := 35) (l2 := [some (eR a0), some (eI (a1)), some (eI (a2)), some (eI (i3)), some (eI (i11)), o13, none]) (s2 := [eI (i3), eI (v29), eR v16, eJ (v26)]) rfl rfl rfl ?_
          obtain ⟨v32, e33⟩ : ∃ zz : Int, zz = (v29) + (i3) := ⟨_, rfl⟩
          have b34 : 0 ≤ v32 ∧ v32 ≤ 95 := by omega
          refine w_t (np := 36) (l2 := [some (eR a0), some (eI (a1)), some (eI (a2)), some (eI (i3)), some (eI (i11)), o13, none]) (s2 := [eI (v32), eR v16, eJ (v26)]) rfl (b_iadd (by rw [← e33]; exact ev_w_in (by omega) (by omega))) rfl ?_
          refine j_ll (np := 37) rfl rfl hI b18 (by decide) (n := 96) rfl rfl (lo := -9223372036854775808) (hi := 9223372036854775807) (fun _ => rfl) (by omega) (by omega) ?_
          intro v35 e36 b37
          refine w_cu (np := 40) (as := [eJ (v26), eJ (v35)]) (l2 := [some (eJ (v26)), none, some (eJ (v35)), none]) (rest := []) rfl rfl rfl (Nat.ble_eq.mp rfl) rfl rfl rfl rfl ?_
          refine s_76 hI b28 b37 ?_
          intro v38 b39
          show ex_q (dt_fg L ρ) rc (d + 2, (143, 40, [some (eR a0), some (eI (a1)), some (eI (a2)), some (eI (i3)), some (eI (i11)), o13, none], [eJ (v38)]), f :: F, μ)
          refine w_t (np := 42) (l2 := [some (eR a0), some (eI (a1)), some (eI (a2)), some (eI (i3)), some (eI (i11)), some (eJ (v38)), none]) (s2 := []) rfl rfl rfl ?_
          refine w_t (np := 43) (l2 := [some (eR a0), some (eI (a1)), some (eI (a2)), some (eI (i3)), some (eI (i11)), some (eJ (v38)), none]) (s2 := [eR a0]) rfl (s_an rfl (pos_g hI gA0 (by decide))) rfl ?_
          refine w_t (np := 44) (l2 := [some (eR a0), some (eI (a1)), some (eI (a2)), some (eI (i3)), some (eI (i11)), some (eJ (v38)), none]) (s2 := [eI (a1), eR a0]) rfl rfl rfl ?_
          refine w_t (np := 45) (l2 := [some (eR a0), some (eI (a1)), some (eI (a2)), some (eI (i3)), some (eI (i11)), some (eJ (v38)), none]) (s2 := [eI (i3), eI (a1), eR a0]) rfl rfl rfl ?_
          refine w_cw (np := 48) (as := [eI (a1), eI (i3)]) (l2 := [some (eR a0), some (eI (a1)), some (eI (i3)), none]) (rest := []) rfl rfl rfl (Nat.ble_eq.mp rfl) rfl rfl rfl (hI.kd gA0 (by decide) (n := 7) rfl) rfl ?_
          refine s_147 (a1 := a1) (a2 := i3) hI gA0 (by omega) (by omega) ?_
          intro v40 b41
          show ex_q (dt_fg L ρ) rc (d + 2, (143, 48, [some (eR a0), some (eI (a1)), some (eI (a2)), some (eI (i3)), some (eI (i11)), some (eJ (v38)), none], [eI (v40)]), f :: F, μ)
          refine w_t (np := 50) (l2 := [some (eR a0), some (eI (a1)), some (eI (a2)), some (eI (i3)), some (eI (i11)), some (eJ (v38)), none]) (s2 := [eJ (v38), eI (v40)]) rfl rfl rfl ?_
          refine w_cu (np := 53) (as := [eI (v40), eJ (v38)]) (l2 := [some (eI (v40)), some (eJ (v38)), none, none, none]) (rest := []) rfl rfl rfl (Nat.ble_eq.mp rfl) rfl rfl rfl rfl ?_
          refine s_84 (a0 := v40) hI (by omega) b39 ?_
          intro v42 b43
          show ex_q (dt_fg L ρ) rc (d + 2, (143, 53, [some (eR a0), some (eI (a1)), some (eI (a2)), some (eI (i3)), some (eI (i11)), some (eJ (v38)), none], [eI (v42)]), f :: F, μ)
          refine b_ieq (t1 := 58) (t2 := 56) rfl rfl rfl (ev_w_in (by omega) (by omega)) (fun g44 => ?_) (fun g44 => ?_)
          · have b45 : 0 ≤ v42 ∧ v42 ≤ 0 := by omega
            obtain ⟨v45, e46⟩ : ∃ zz : Int, zz = (i11) + (1) := ⟨_, rfl⟩
            have b47 : 1 ≤ v45 ∧ v45 ≤ 4 := by omega
            refine w_t (np := 61) (l2 := [some (eR a0), some (eI (a1)), some (eI (a2)), some (eI (i3)), some (eI (v45)), some (eJ (v38)), none]) (s2 := []) rfl (b_iinc rfl (by rw [← e46]; exact ev_w_in (by omega) (by omega)) rfl) rfl ?_
            refine w_go (t1 := 10) rfl rfl ?_
            exact ih10 (4 - (v45)).toNat (by omega) (v45) (some (eJ (v38))) (by omega)     rfl
          · have b45 : 1 ≤ v42 ∧ v42 ≤ 1 := by omega
            refine w_t (np := 57) (l2 := [some (eR a0), some (eI (a1)), some (eI (a2)), some (eI (i3)), some (eI (i11)), some (eJ (v38)), none]) (s2 := [eI (1)]) rfl rfl rfl ?_
            exact b_rz rfl rfl (Or.inr rfl) (K (1) (by decide))
      exact hL10 _ (0) (o6) (by decide)     rfl
  exact hL2 _ (0) (none) (none) (by decide)     rfl
theorem s_144 {L : Nat} {ρ : Nat → Int} {rc : eQ} {d : Nat} {f : eFr} {F : List eFr} {μ : eM} {g : Nat → Nat} {a0 : Nat} {a1 : Int} {a2 : Int} (hI : SI g μ) (gA0 : g a0 = 29) (bA1 : 0 ≤ a1 ∧ a1 ≤ 23) (bA2 : 0 ≤ a2 ∧ a2 ≤ 23) (K : ∀ (v : Int), (0 ≤ v ∧ v ≤ 1) → ex_q (dt_fg L ρ) rc (d + 3, (f.1, f.2.1, f.2.2.1, eI v :: f.2.2.2), F, μ)) : ex_q (dt_fg L ρ) rc (d + 2, (144, 0, [some (eR a0), some (eI (a1)), some (eI (a2)), none, none], []), f :: F, μ) := by
  refine w_t (np := 1) (l2 := [some (eR a0), some (eI (a1)), some (eI (a2)), none, none]) (s2 := [eI (0)]) rfl rfl rfl ?_
  refine w_t (np := 2) (l2 := [some (eR a0), some (eI (a1)), some (eI (a2)), some (eI (0)), none]) (s2 := []) rfl rfl rfl ?_
  have hL2 : ∀ (n1 : Nat) (i3 : Int) (o5 : Option eV), (0 ≤ i3 ∧ i3 ≤ 4) → n1 = (4 - i3).toNat → ex_q (dt_fg L ρ) rc (d + 2, (144, 2, [some (eR a0), some (eI (a1)), some (eI (a2)), some (eI (i3)), o5], []), f :: F, μ) := by
    intro n1
    induction n1 using Nat.strongRecOn with
    | _ n1 ih2 =>
    intro i3 o5 b4 hn6
    refine w_t (np := 3) (l2 := [some (eR a0), some (eI (a1)), some (eI (a2)), some (eI (i3)), o5]) (s2 := [eI (i3)]) rfl rfl rfl ?_
    refine w_t (np := 4) (l2 := [some (eR a0), some (eI (a1)), some (eI (a2)), some (eI (i3)), o5]) (s2 := [eI (4), eI (i3)]) rfl rfl rfl ?_
    refine b_cge (t1 := 58) (t2 := 7) rfl rfl rfl (ev_w_in (by omega) (by omega)) rfl (fun g7 => ?_) (fun g7 => ?_)
    · have b8 : 4 ≤ i3 ∧ i3 ≤ 4 := by omega
      refine w_t (np := 59) (l2 := [some (eR a0), some (eI (a1)), some (eI (a2)), some (eI (i3)), o5]) (s2 := [eI (0)]) rfl rfl rfl ?_
      exact b_rz rfl rfl (Or.inl rfl) (K (0) (by decide))
    · have b8 : 0 ≤ i3 ∧ i3 ≤ 3 := by omega
      refine w_t (np := 8) (l2 := [some (eR a0), some (eI (a1)), some (eI (a2)), some (eI (i3)), o5]) (s2 := [eR a0]) rfl (s_an rfl (pos_g hI gA0 (by decide))) rfl ?_
      refine w_t (np := 9) (l2 := [some (eR a0), some (eI (a1)), some (eI (a2)), some (eI (i3)), o5]) (s2 := [eI (a1), eR a0]) rfl rfl rfl ?_
      refine w_t (np := 10) (l2 := [some (eR a0), some (eI (a1)), some (eI (a2)), some (eI (i3)), o5]) (s2 := [eI (i3), eI (a1), eR a0]) rfl rfl rfl ?_
      refine w_t (np := 11) (l2 := [some (eR a0), some (eI (a1)), some (eI (a2)), some (eI (i3)), o5]) (s2 := [eI (a2), eI (i3), eI (a1), eR a0]) rfl rfl rfl ?_
      refine w_cw (np := 14) (as := [eI (a1), eI (i3), eI (a2)]) (l2 := [some (eR a0), some (eI (a1)), some (eI (i3)), some (eI (a2)), none, none, none, none, none, none, none, none, none]) (rest := []) rfl rfl rfl (Nat.ble_eq.mp rfl) rfl rfl rfl (hI.kd gA0 (by decide) (n := 7) rfl) rfl ?_
      refine s_145 (a1 := a1) (a2 := i3) (a3 := a2) hI gA0 (by omega) (by omega) (by omega) ?_
      intro v8 b9
      show ex_q (dt_fg L ρ) rc (d + 2, (144, 14, [some (eR a0), some (eI (a1)), some (eI (a2)), some (eI (i3)), o5], [eI (v8)]), f :: F, μ)
      refine w_t (np := 16) (l2 := [some (eR a0), some (eI (a1)), some (eI (a2)), some (eI (i3)), some (eI (v8))]) (s2 := []) rfl rfl rfl ?_
      refine w_t (np := 18) (l2 := [some (eR a0), some (eI (a1)), some (eI (a2)), some (eI (i3)), some (eI (v8))]) (s2 := [eI (v8)]) rfl rfl rfl ?_
      refine b_ilt (t1 := 52) (t2 := 21) rfl rfl rfl (ev_w_in (by omega) (by omega)) (fun g10 => ?_) (fun g10 => ?_)
      · have b11 : -1 ≤ v8 ∧ v8 ≤ -1 := by omega
        obtain ⟨v11, e12⟩ : ∃ zz : Int, zz = (i3) + (1) := ⟨_, rfl⟩
        have b13 : 1 ≤ v11 ∧ v11 ≤ 4 := by omega
        refine w_t (np := 55) (l2 := [some (eR a0), some (eI (a1)), some (eI (a2)), some (eI (v11)), some (eI (v8))]) (s2 := []) rfl (b_iinc rfl (by rw [← e12]; exact ev_w_in (by omega) (by omega)) rfl) rfl ?_
        refine w_go (t1 := 2) rfl rfl ?_
        exact ih2 (4 - (v11)).toNat (by omega) (v11) (some (eI (v8))) (by omega)     rfl
      · have b11 : 0 ≤ v8 ∧ v8 ≤ 3 := by omega
        refine w_t (np := 22) (l2 := [some (eR a0), some (eI (a1)), some (eI (a2)), some (eI (i3)), some (eI (v8))]) (s2 := [eI (i3)]) rfl rfl rfl ?_
        refine w_cu (np := 25) (as := [eI (i3)]) (l2 := [some (eI (i3))]) (rest := []) rfl rfl rfl (Nat.ble_eq.mp rfl) rfl rfl rfl rfl ?_
        refine w_t (np := 1) (l2 := [some (eI (i3))]) (s2 := [eI (i3)]) rfl rfl rfl ?_
        refine w_t (np := 2) (l2 := [some (eI (i3))]) (s2 := [eI (2), eI (i3)]) rfl rfl rfl ?_
        refine b_cge (t1 := 9) (t2 := 5) rfl rfl rfl (ev_w_in (by omega) (by omega)) rfl (fun g11 => ?_) (fun g11 => ?_)
        · have b12 : 2 ≤ i3 ∧ i3 ≤ 3 := by omega
          refine w_t (np := 10) (l2 := [some (eI (i3))]) (s2 := [eI (1)]) rfl rfl rfl ?_
          refine b_ri rfl rfl ?_
          show ex_q (dt_fg L ρ) rc (d + 2, (144, 25, [some (eR a0), some (eI (a1)), some (eI (a2)), some (eI (i3)), some (eI (v8))], [eI (1)]), f :: F, μ)
          refine w_t (np := 27) (l2 := [some (eR a0), some (eI (a1)), some (eI (a2)), some (eI (i3)), some (eI (v8))]) (s2 := [eI (v8), eI (1)]) rfl rfl rfl ?_
          refine w_cu (np := 30) (as := [eI (v8)]) (l2 := [some (eI (v8))]) (rest := [eI (1)]) rfl rfl rfl (Nat.ble_eq.mp rfl) rfl rfl rfl rfl ?_
          refine w_t (np := 1) (l2 := [some (eI (v8))]) (s2 := [eI (v8)]) rfl rfl rfl ?_
          refine w_t (np := 2) (l2 := [some (eI (v8))]) (s2 := [eI (2), eI (v8)]) rfl rfl rfl ?_
          refine b_cge (t1 := 9) (t2 := 5) rfl rfl rfl (ev_w_in (by omega) (by omega)) rfl (fun g12 => ?_) (fun g12 => ?_)
          · have b13 : 2 ≤ v8 ∧ v8 ≤ 3 := by omega
            refine w_t (np := 10) (l2 := [some (eI (v8))]) (s2 := [eI (1)]) rfl rfl rfl ?_
            refine b_ri rfl rfl ?_
            show ex_q (dt_fg L ρ) rc (d + 2, (144, 30, [some (eR a0), some (eI (a1)), some (eI (a2)), some (eI (i3)), some (eI (v8))], [eI (1), eI (1)]), f :: F, μ)
            refine b_cne (t1 := 50) (t2 := 33) rfl rfl rfl rfl rfl (fun g13 => absurd g13 (by decide)) (fun g13 => ?_)
            refine w_t (np := 34) (l2 := [some (eR a0), some (eI (a1)), some (eI (a2)), some (eI (i3)), some (eI (v8))]) (s2 := [eR a0]) rfl (s_an rfl (pos_g hI gA0 (by decide))) rfl ?_
            refine w_t (np := 35) (l2 := [some (eR a0), some (eI (a1)), some (eI (a2)), some (eI (i3)), some (eI (v8))]) (s2 := [eI (a1), eR a0]) rfl rfl rfl ?_
            refine w_t (np := 36) (l2 := [some (eR a0), some (eI (a1)), some (eI (a2)), some (eI (i3)), some (eI (v8))]) (s2 := [eI (i3), eI (a1), eR a0]) rfl rfl rfl ?_
            refine w_cw (np := 39) (as := [eI (a1), eI (i3)]) (l2 := [some (eR a0), some (eI (a1)), some (eI (i3))]) (rest := []) rfl rfl rfl (Nat.ble_eq.mp rfl) rfl rfl rfl (hI.kd gA0 (by decide) (n := 7) rfl) rfl ?_
            refine s_150 (a1 := a1) (a2 := i3) hI gA0 (by omega) (by omega) ?_
            intro v14 b15
            show ex_q (dt_fg L ρ) rc (d + 2, (144, 39, [some (eR a0), some (eI (a1)), some (eI (a2)), some (eI (i3)), some (eI (v8))], [eJ (v14)]), f :: F, μ)
            refine w_t (np := 40) (l2 := [some (eR a0), some (eI (a1)), some (eI (a2)), some (eI (i3)), some (eI (v8))]) (s2 := [eR a0, eJ (v14)]) rfl (s_an rfl (pos_g hI gA0 (by decide))) rfl ?_
            refine w_t (np := 41) (l2 := [some (eR a0), some (eI (a1)), some (eI (a2)), some (eI (i3)), some (eI (v8))]) (s2 := [eI (a2), eR a0, eJ (v14)]) rfl rfl rfl ?_
            refine w_t (np := 43) (l2 := [some (eR a0), some (eI (a1)), some (eI (a2)), some (eI (i3)), some (eI (v8))]) (s2 := [eI (v8), eI (a2), eR a0, eJ (v14)]) rfl rfl rfl ?_
            refine w_cw (np := 46) (as := [eI (a2), eI (v8)]) (l2 := [some (eR a0), some (eI (a2)), some (eI (v8))]) (rest := [eJ (v14)]) rfl rfl rfl (Nat.ble_eq.mp rfl) rfl rfl rfl (hI.kd gA0 (by decide) (n := 7) rfl) rfl ?_
            refine s_150 (a1 := a2) (a2 := v8) hI gA0 (by omega) (by omega) ?_
            intro v16 b17
            show ex_q (dt_fg L ρ) rc (d + 2, (144, 46, [some (eR a0), some (eI (a1)), some (eI (a2)), some (eI (i3)), some (eI (v8))], [eJ (v16), eJ (v14)]), f :: F, μ)
            obtain ⟨v18, e19, b20⟩ := h_lcmp (v14) (v16)
            refine w_t (np := 47) (l2 := [some (eR a0), some (eI (a1)), some (eI (a2)), some (eI (i3)), some (eI (v8))]) (s2 := [eI (v18)]) rfl (e19 _ _) rfl ?_
            refine b_ieq (t1 := 52) (t2 := 50) rfl rfl rfl (ev_w_in (by omega) (by omega)) (fun g21 => ?_) (fun g21 => ?_)
            · have b22 : 0 ≤ v18 ∧ v18 ≤ 0 := by omega
              obtain ⟨v22, e23⟩ : ∃ zz : Int, zz = (i3) + (1) := ⟨_, rfl⟩
              have b24 : 3 ≤ v22 ∧ v22 ≤ 4 := by omega
              refine w_t (np := 55) (l2 := [some (eR a0), some (eI (a1)), some (eI (a2)), some (eI (v22)), some (eI (v8))]) (s2 := []) rfl (b_iinc rfl (by rw [← e23]; exact ev_w_in (by omega) (by omega)) rfl) rfl ?_
              refine w_go (t1 := 2) rfl rfl ?_
              exact ih2 (4 - (v22)).toNat (by omega) (v22) (some (eI (v8))) (by omega)     rfl
            · refine w_t (np := 51) (l2 := [some (eR a0), some (eI (a1)), some (eI (a2)), some (eI (i3)), some (eI (v8))]) (s2 := [eI (1)]) rfl rfl rfl ?_
              exact b_rz rfl rfl (Or.inr rfl) (K (1) (by decide))
          · have b13 : 0 ≤ v8 ∧ v8 ≤ 1 := by omega
            refine w_t (np := 6) (l2 := [some (eI (v8))]) (s2 := [eI (0)]) rfl rfl rfl ?_
            refine w_go (t1 := 10) rfl rfl ?_
            refine b_ri rfl rfl ?_
            show ex_q (dt_fg L ρ) rc (d + 2, (144, 30, [some (eR a0), some (eI (a1)), some (eI (a2)), some (eI (i3)), some (eI (v8))], [eI (0), eI (1)]), f :: F, μ)
            refine b_cne (t1 := 50) (t2 := 33) rfl rfl rfl rfl rfl (fun g13 => ?_) (fun g13 => absurd g13 (by decide))
            refine w_t (np := 51) (l2 := [some (eR a0), some (eI (a1)), some (eI (a2)), some (eI (i3)), some (eI (v8))]) (s2 := [eI (1)]) rfl rfl rfl ?_
            exact b_rz rfl rfl (Or.inr rfl) (K (1) (by decide))
        · have b12 : 0 ≤ i3 ∧ i3 ≤ 1 := by omega
          refine w_t (np := 6) (l2 := [some (eI (i3))]) (s2 := [eI (0)]) rfl rfl rfl ?_
          refine w_go (t1 := 10) rfl rfl ?_
          refine b_ri rfl rfl ?_
          show ex_q (dt_fg L ρ) rc (d + 2, (144, 25, [some (eR a0), some (eI (a1)), some (eI (a2)), some (eI (i3)), some (eI (v8))], [eI (0)]), f :: F, μ)
          refine w_t (np := 27) (l2 := [some (eR a0), some (eI (a1)), some (eI (a2)), some (eI (i3)), some (eI (v8))]) (s2 := [eI (v8), eI (0)]) rfl rfl rfl ?_
          refine w_cu (np := 30) (as := [eI (v8)]) (l2 := [some (eI (v8))]) (rest := [eI (0)]) rfl rfl rfl (Nat.ble_eq.mp rfl) rfl rfl rfl rfl ?_
          refine w_t (np := 1) (l2 := [some (eI (v8))]) (s2 := [eI (v8)]) rfl rfl rfl ?_
          refine w_t (np := 2) (l2 := [some (eI (v8))]) (s2 := [eI (2), eI (v8)]) rfl rfl rfl ?_
          refine b_cge (t1 := 9) (t2 := 5) rfl rfl rfl (ev_w_in (by omega) (by omega)) rfl (fun g12 => ?_) (fun g12 => ?_)
          · have b13 : 2 ≤ v8 ∧ v8 ≤ 3 := by omega
            refine w_t (np := 10) (l2 := [some (eI (v8))]) (s2 := [eI (1)]) rfl rfl rfl ?_
            refine b_ri rfl rfl ?_
            show ex_q (dt_fg L ρ) rc (d + 2, (144, 30, [some (eR a0), some (eI (a1)), some (eI (a2)), some (eI (i3)), some (eI (v8))], [eI (1), eI (0)]), f :: F, μ)
            refine b_cne (t1 := 50) (t2 := 33) rfl rfl rfl rfl rfl (fun g13 => ?_) (fun g13 => absurd g13 (by decide))
            refine w_t (np := 51) (l2 := [some (eR a0), some (eI (a1)), some (eI (a2)), some (eI (i3)), some (eI (v8))]) (s2 := [eI (1)]) rfl rfl rfl ?_
            exact b_rz rfl rfl (Or.inr rfl) (K (1) (by decide))
          · have b13 : 0 ≤ v8 ∧ v8 ≤ 1 := by omega
            refine w_t (np := 6) (l2 := [some (eI (v8))]) (s2 := [eI (0)]) rfl rfl rfl ?_
            refine w_go (t1 := 10) rfl rfl ?_
            refine b_ri rfl rfl ?_
            show ex_q (dt_fg L ρ) rc (d + 2, (144, 30, [some (eR a0), some (eI (a1)), some (eI (a2)), some (eI (i3)), some (eI (v8))], [eI (0), eI (0)]), f :: F, μ)
            refine b_cne (t1 := 50) (t2 := 33) rfl rfl rfl rfl rfl (fun g13 => absurd g13 (by decide)) (fun g13 => ?_)
            refine w_t (np := 34) (l2 := [some (eR a0), some (eI (a1)), some (eI (a2)), some (eI (i3)), some (eI (v8))]) (s2 := [eR a0]) rfl (s_an rfl (pos_g hI gA0 (by decide))) rfl ?_
            refine w_t (np := 35) (l2 := [some (eR a0), some (eI (a1)), some (eI (a2)), some (eI (i3)), some (eI (v8))]) (s2 := [eI (a1), eR a0]) rfl rfl rfl ?_
            refine w_t (np := 36) (l2 := [some (eR a0), some (eI (a1)), some (eI (a2)), some (eI (i3)), some (eI (v8))]) (s2 := [eI (i3), eI (a1), eR a0]) rfl rfl rfl ?_
            refine w_cw (np := 39) (as := [eI (a1), eI (i3)]) (l2 := [some (eR a0), some (eI (a1)), some (eI (i3))]) (rest := []) rfl rfl rfl (Nat.ble_eq.mp rfl) rfl rfl rfl (hI.kd gA0 (by decide) (n := 7) rfl) rfl ?_
            refine s_150 (a1 := a1) (a2 := i3) hI gA0 (by omega) (by omega) ?_
            intro v14 b15
            show ex_q (dt_fg L ρ) rc (d + 2, (144, 39, [some (eR a0), some (eI (a1)), some (eI (a2)), some (eI (i3)), some (eI (v8))], [eJ (v14)]), f :: F, μ)
            refine w_t (np := 40) (l2 := [some (eR a0), some (eI (a1)), some (eI (a2)), some (eI (i3)), some (eI (v8))]) (s2 := [eR a0, eJ (v14)]) rfl (s_an rfl (pos_g hI gA0 (by decide))) rfl ?_
            refine w_t (np := 41) (l2 := [some (eR a0), some (eI (a1)), some (eI (a2)), some (eI (i3)), some (eI (v8))]) (s2 := [eI (a2), eR a0, eJ (v14)]) rfl rfl rfl ?_
            refine w_t (np := 43) (l2 := [some (eR a0), some (eI (a1)), some (eI (a2)), some (eI (i3)), some (eI (v8))]) (s2 := [eI (v8), eI (a2), eR a0, eJ (v14)]) rfl rfl rfl ?_
            refine w_cw (np := 46) (as := [eI (a2), eI (v8)]) (l2 := [some (eR a0), some (eI (a2)), some (eI (v8))]) (rest := [eJ (v14)]) rfl rfl rfl (Nat.ble_eq.mp rfl) rfl rfl rfl (hI.kd gA0 (by decide) (n := 7) rfl) rfl ?_
            refine s_150 (a1 := a2) (a2 := v8) hI gA0 (by omega) (by omega) ?_
            intro v16 b17
            show ex_q (dt_fg L ρ) rc (d + 2, (144, 46, [some (eR a0), some (eI (a1)), some (eI (a2)), some (eI (i3)), some (eI (v8))], [eJ (v16), eJ (v14)]), f :: F, μ)
            obtain ⟨v18, e19, b20⟩ := h_lcmp (v14) (v16)
            refine w_t (np := 47) (l2 := [some (eR a0), some (eI (a1)), some (eI (a2)), some (eI (i3)), some (eI (v8))]) (s2 := [eI (v18)]) rfl (e19 _ _) rfl ?_
            refine b_ieq (t1 := 52) (t2 := 50) rfl rfl rfl (ev_w_in (by omega) (by omega)) (fun g21 => ?_) (fun g21 => ?_)
            · have b22 : 0 ≤ v18 ∧ v18 ≤ 0 := by omega
              obtain ⟨v22, e23⟩ : ∃ zz : Int, zz = (i3) + (1) := ⟨_, rfl⟩
              have b24 : 1 ≤ v22 ∧ v22 ≤ 2 := by omega
              refine w_t (np := 55) (l2 := [some (eR a0), some (eI (a1)), some (eI (a2)), some (eI (v22)), some (eI (v8))]) (s2 := []) rfl (b_iinc rfl (by rw [← e23]; exact ev_w_in (by omega) (by omega)) rfl) rfl ?_
              refine w_go (t1 := 2) rfl rfl ?_
              exact ih2 (4 - (v22)).toNat (by omega) (v22) (some (eI (v8))) (by omega)     rfl
            · refine w_t (np := 51) (l2 := [some (eR a0), some (eI (a1)), some (eI (a2)), some (eI (i3)), some (eI (v8))]) (s2 := [eI (1)]) rfl rfl rfl ?_
              exact b_rz rfl rfl (Or.inr rfl) (K (1) (by decide))
  exact hL2 _ (0) (none) (by decide)     rfl
def l_160 : List Nat := [270]
theorem s_160 {L : Nat} {ρ : Nat → Int} {rc : eQ} {d : Nat} {f : eFr} {F : List eFr} {μ : eM} {g : Nat → Nat} {a0 : Nat} {a1 : Int} {a2 : Int} {a3 : Int} (hI : SI g μ) (gA0 : g a0 = 1) (bA1 : -2147483648 ≤ a1 ∧ a1 ≤ 2147483647) (bA2 : -2147483648 ≤ a2 ∧ a2 ≤ 2147483647) (bA3 : -2147483648 ≤ a3 ∧ a3 ≤ 2147483647) (K : ∀ (μ2 : eM) (v : Int), SI g μ2 → Fr l_160 0 0 g μ μ2 → (-2147483648 ≤ v ∧ v ≤ 2147483647) → ex_q (dt_fg L ρ) rc (d + 3, (f.1, f.2.1, f.2.2.1, eI v :: f.2.2.2), F, μ2)) : ex_q (dt_fg L ρ) rc (d + 2, (160, 0, [some (eR a0), some (eI (a1)), some (eI (a2)), some (eI (a3))], []), f :: F, μ) := by
  have F0 : Fr l_160 0 0 g μ μ := Fr.r
  refine w_t (np := 1) (l2 := [some (eR a0), some (eI (a1)), some (eI (a2)), some (eI (a3))]) (s2 := [eI (a2)]) rfl rfl rfl ?_
  refine b_ilt (t1 := 18) (t2 := 4) rfl rfl rfl (ev_w_in (by omega) (by omega)) (fun g1 => ?_) (fun g1 => ?_)
  · have b2 : -2147483648 ≤ a2 ∧ a2 ≤ -1 := by omega
    refine w_t (np := 19) (l2 := [some (eR a0), some (eI (a1)), some (eI (a2)), some (eI (a3))]) (s2 := [eR a0]) rfl (s_an rfl (pos_g hI gA0 (by decide))) rfl ?_
    refine w_t (np := 20) (l2 := [some (eR a0), some (eI (a1)), some (eI (a2)), some (eI (a3))]) (s2 := [eI (1), eR a0]) rfl rfl rfl ?_
    refine w_cw (np := 23) (as := [eI (1)]) (l2 := [some (eR a0), some (eI (1))]) (rest := []) rfl rfl rfl (Nat.ble_eq.mp rfl) rfl rfl rfl (hI.kd gA0 (by decide) (n := 14) rfl) rfl ?_
    refine w_t (np := 1) (l2 := [some (eR a0), some (eI (1))]) (s2 := [eR a0]) rfl (s_an rfl (pos_g hI gA0 (by decide))) rfl ?_
    refine w_t (np := 2) (l2 := [some (eR a0), some (eI (1))]) (s2 := [eI (1), eR a0]) rfl rfl rfl ?_
    refine j_pf (np := 5) (w := 1) rfl rfl hI gA0 (by decide) (n := 14) rfl rfl (hO_i (lo := -2147483648) (hi := 2147483647) rfl (by decide)) ?_
    intro m2 I3 W4
    have F5 : Fr l_160 0 0 g μ m2 := F0.w W4 gA0 rfl
    refine w_t (np := 6) (l2 := [some (eR a0), some (eI (1))]) (s2 := [eI (-1)]) rfl rfl rfl ?_
    refine b_ri rfl rfl ?_
    show ex_q (dt_fg L ρ) rc (d + 2, (160, 23, [some (eR a0), some (eI (a1)), some (eI (a2)), some (eI (a3))], [eI (-1)]), f :: F, m2)
    exact b_ri rfl rfl (K m2 (-1) I3 F5 (by decide))
  · have b2 : 0 ≤ a2 ∧ a2 ≤ 2147483647 := by omega
    refine w_t (np := 5) (l2 := [some (eR a0), some (eI (a1)), some (eI (a2)), some (eI (a3))]) (s2 := [eI (a2)]) rfl rfl rfl ?_
    refine w_t (np := 6) (l2 := [some (eR a0), some (eI (a1)), some (eI (a2)), some (eI (a3))]) (s2 := [eI (2), eI (a2)]) rfl rfl rfl ?_
    refine b_cgt (t1 := 18) (t2 := 9) rfl rfl rfl (ev_w_in (by omega) (by omega)) rfl (fun g2 => ?_) (fun g2 => ?_)
    · have b3 : 3 ≤ a2 ∧ a2 ≤ 2147483647 := by omega
      refine w_t (np := 19) (l2 := [some (eR a0), some (eI (a1)), some (eI (a2)), some (eI (a3))]) (s2 := [eR a0]) rfl (s_an rfl (pos_g hI gA0 (by decide))) rfl ?_
      refine w_t (np := 20) (l2 := [some (eR a0), some (eI (a1)), some (eI (a2)), some (eI (a3))]) (s2 := [eI (1), eR a0]) rfl rfl rfl ?_
      refine w_cw (np := 23) (as := [eI (1)]) (l2 := [some (eR a0), some (eI (1))]) (rest := []) rfl rfl rfl (Nat.ble_eq.mp rfl) rfl rfl rfl (hI.kd gA0 (by decide) (n := 14) rfl) rfl ?_
      refine w_t (np := 1) (l2 := [some (eR a0), some (eI (1))]) (s2 := [eR a0]) rfl (s_an rfl (pos_g hI gA0 (by decide))) rfl ?_
      refine w_t (np := 2) (l2 := [some (eR a0), some (eI (1))]) (s2 := [eI (1), eR a0]) rfl rfl rfl ?_
      refine j_pf (np := 5) (w := 1) rfl rfl hI gA0 (by decide) (n := 14) rfl rfl (hO_i (lo := -2147483648) (hi := 2147483647) rfl (by decide)) ?_
      intro m3 I4 W5
      have F6 : Fr l_160 0 0 g μ m3 := F0.w W5 gA0 rfl
      refine w_t (np := 6) (l2 := [some (eR a0), some (eI (1))]) (s2 := [eI (-1)]) rfl rfl rfl ?_
      refine b_ri rfl rfl ?_
      show ex_q (dt_fg L ρ) rc (d + 2, (160, 23, [some (eR a0), some (eI (a1)), some (eI (a2)), some (eI (a3))], [eI (-1)]), f :: F, m3)
      exact b_ri rfl rfl (K m3 (-1) I4 F6 (by decide))
    · have b3 : 0 ≤ a2 ∧ a2 ≤ 2 := by omega
      refine w_t (np := 10) (l2 := [some (eR a0), some (eI (a1)), some (eI (a2)), some (eI (a3))]) (s2 := [eI (a3)]) rfl rfl rfl ?_
      refine b_ilt (t1 := 18) (t2 := 13) rfl rfl rfl (ev_w_in (by omega) (by omega)) (fun g3 => ?_) (fun g3 => ?_)
      · have b4 : -2147483648 ≤ a3 ∧ a3 ≤ -1 := by omega
        refine w_t (np := 19) (l2 := [some (eR a0), some (eI (a1)), some (eI (a2)), some (eI (a3))]) (s2 := [eR a0]) rfl (s_an rfl (pos_g hI gA0 (by decide))) rfl ?_
        refine w_t (np := 20) (l2 := [some (eR a0), some (eI (a1)), some (eI (a2)), some (eI (a3))]) (s2 := [eI (1), eR a0]) rfl rfl rfl ?_
        refine w_cw (np := 23) (as := [eI (1)]) (l2 := [some (eR a0), some (eI (1))]) (rest := []) rfl rfl rfl (Nat.ble_eq.mp rfl) rfl rfl rfl (hI.kd gA0 (by decide) (n := 14) rfl) rfl ?_
        refine w_t (np := 1) (l2 := [some (eR a0), some (eI (1))]) (s2 := [eR a0]) rfl (s_an rfl (pos_g hI gA0 (by decide))) rfl ?_
        refine w_t (np := 2) (l2 := [some (eR a0), some (eI (1))]) (s2 := [eI (1), eR a0]) rfl rfl rfl ?_
        refine j_pf (np := 5) (w := 1) rfl rfl hI gA0 (by decide) (n := 14) rfl rfl (hO_i (lo := -2147483648) (hi := 2147483647) rfl (by decide)) ?_
        intro m4 I5 W6
        have F7 : Fr l_160 0 0 g μ m4 := F0.w W6 gA0 rfl
        refine w_t (np := 6) (l2 := [some (eR a0), some (eI (1))]) (s2 := [eI (-1)]) rfl rfl rfl ?_
        refine b_ri rfl rfl ?_
        show ex_q (dt_fg L ρ) rc (d + 2, (160, 23, [some (eR a0), some (eI (a1)), some (eI (a2)), some (eI (a3))], [eI (-1)]), f :: F, m4)
        exact b_ri rfl rfl (K m4 (-1) I5 F7 (by decide))
      · have b4 : 0 ≤ a3 ∧ a3 ≤ 2147483647 := by omega
        refine w_t (np := 14) (l2 := [some (eR a0), some (eI (a1)), some (eI (a2)), some (eI (a3))]) (s2 := [eI (a3)]) rfl rfl rfl ?_
        refine w_t (np := 15) (l2 := [some (eR a0), some (eI (a1)), some (eI (a2)), some (eI (a3))]) (s2 := [eI (3), eI (a3)]) rfl rfl rfl ?_
        refine b_cle (t1 := 24) (t2 := 18) rfl rfl rfl (ev_w_in (by omega) (by omega)) rfl (fun g4 => ?_) (fun g4 => ?_)
        · have b5 : 0 ≤ a3 ∧ a3 ≤ 3 := by omega
          refine w_t (np := 25) (l2 := [some (eR a0), some (eI (a1)), some (eI (a2)), some (eI (a3))]) (s2 := [eR a0]) rfl (s_an rfl (pos_g hI gA0 (by decide))) rfl ?_
          refine j_gr (np := 28) rfl rfl hI gA0 (by decide) (n := 14) rfl rfl rfl ?_
          intro v5 e6 b7 z8
          rcases hor2 b7 with b7 | b7
          · refine w_t (np := 29) (l2 := [some (eR a0), some (eI (a1)), some (eI (a2)), some (eI (a3))]) (s2 := [eI (a1), eR v5]) rfl rfl rfl ?_
            refine w_cw (np := 32) (as := [eI (a1)]) (l2 := [some (eR v5), some (eI (a1))]) (rest := []) rfl rfl rfl (Nat.ble_eq.mp rfl) rfl rfl rfl (hI.kd b7 (by decide) (n := 8) rfl) rfl ?_
            refine w_t (np := 1) (l2 := [some (eR v5), some (eI (a1))]) (s2 := [eI (a1)]) rfl rfl rfl ?_
            refine b_ilt (t1 := 12) (t2 := 4) rfl rfl rfl (ev_w_in (by omega) (by omega)) (fun g9 => ?_) (fun g9 => ?_)
            · have b10 : -2147483648 ≤ a1 ∧ a1 ≤ -1 := by omega
              refine w_t (np := 13) (l2 := [some (eR v5), some (eI (a1))]) (s2 := [eI (1)]) rfl rfl rfl ?_
              refine w_go (t1 := 17) rfl rfl ?_
              refine b_rz rfl rfl (Or.inr rfl) ?_
              show ex_q (dt_fg L ρ) rc (d + 2, (160, 32, [some (eR a0), some (eI (a1)), some (eI (a2)), some (eI (a3))], [eI (1)]), f :: F, μ)
              refine b_ieq (t1 := 41) (t2 := 35) rfl rfl rfl rfl (fun g10 => absurd g10 (by decide)) (fun g10 => ?_)
              refine w_t (np := 36) (l2 := [some (eR a0), some (eI (a1)), some (eI (a2)), some (eI (a3))]) (s2 := [eR a0]) rfl (s_an rfl (pos_g hI gA0 (by decide))) rfl ?_
              refine w_t (np := 37) (l2 := [some (eR a0), some (eI (a1)), some (eI (a2)), some (eI (a3))]) (s2 := [eI (2), eR a0]) rfl rfl rfl ?_
              refine w_cw (np := 40) (as := [eI (2)]) (l2 := [some (eR a0), some (eI (2))]) (rest := []) rfl rfl rfl (Nat.ble_eq.mp rfl) rfl rfl rfl (hI.kd gA0 (by decide) (n := 14) rfl) rfl ?_
              refine w_t (np := 1) (l2 := [some (eR a0), some (eI (2))]) (s2 := [eR a0]) rfl (s_an rfl (pos_g hI gA0 (by decide))) rfl ?_
              refine w_t (np := 2) (l2 := [some (eR a0), some (eI (2))]) (s2 := [eI (2), eR a0]) rfl rfl rfl ?_
              refine j_pf (np := 5) (w := 2) rfl rfl hI gA0 (by decide) (n := 14) rfl rfl (hO_i (lo := -2147483648) (hi := 2147483647) rfl (by decide)) ?_
              intro m11 I12 W13
              have F14 : Fr l_160 0 0 g μ m11 := F0.w W13 gA0 rfl
              refine w_t (np := 6) (l2 := [some (eR a0), some (eI (2))]) (s2 := [eI (-1)]) rfl rfl rfl ?_
              refine b_ri rfl rfl ?_
              show ex_q (dt_fg L ρ) rc (d + 2, (160, 40, [some (eR a0), some (eI (a1)), some (eI (a2)), some (eI (a3))], [eI (-1)]), f :: F, m11)
              exact b_ri rfl rfl (K m11 (-1) I12 F14 (by decide))
            · have b10 : 0 ≤ a1 ∧ a1 ≤ 2147483647 := by omega
              refine w_t (np := 5) (l2 := [some (eR v5), some (eI (a1))]) (s2 := [eI (a1)]) rfl rfl rfl ?_
              refine w_t (np := 6) (l2 := [some (eR v5), some (eI (a1))]) (s2 := [eR v5, eI (a1)]) rfl (s_an rfl (pos_g hI b7 (by decide))) rfl ?_
              refine j_gi (np := 9) rfl rfl rfl hI b7 (by decide) (n := 8) rfl rfl (lo := 0) (hi := 50) rfl ?_
              intro v10 e11 b12
              refine b_clt (t1 := 16) (t2 := 12) rfl rfl rfl (ev_w_in (by omega) (by omega)) (ev_w_in (by omega) (by omega)) (fun g13 => ?_) (fun g13 => ?_)
              · have b14 : 0 ≤ a1 ∧ a1 ≤ 49 := by omega
                have b15 : 1 ≤ v10 ∧ v10 ≤ 50 := by omega
                refine w_t (np := 17) (l2 := [some (eR v5), some (eI (a1))]) (s2 := [eI (0)]) rfl rfl rfl ?_
                refine b_rz rfl rfl (Or.inl rfl) ?_
                show ex_q (dt_fg L ρ) rc (d + 2, (160, 32, [some (eR a0), some (eI (a1)), some (eI (a2)), some (eI (a3))], [eI (0)]), f :: F, μ)
                refine b_ieq (t1 := 41) (t2 := 35) rfl rfl rfl rfl (fun g14 => ?_) (fun g14 => absurd g14 (by decide))
                refine w_t (np := 42) (l2 := [some (eR a0), some (eI (a1)), some (eI (a2)), some (eI (a3))]) (s2 := [eR a0]) rfl (s_an rfl (pos_g hI gA0 (by decide))) rfl ?_
                refine w_t (np := 43) (l2 := [some (eR a0), some (eI (a1)), some (eI (a2)), some (eI (a3))]) (s2 := [eR a0, eR a0]) rfl (s_an rfl (pos_g hI gA0 (by decide))) rfl ?_
                refine w_gf (np := 46) (v := eR v5) rfl rfl (hI.kd gA0 (by decide) (n := 14) rfl) (by rw [e6]; rfl) ?_
                refine w_t (np := 47) (l2 := [some (eR a0), some (eI (a1)), some (eI (a2)), some (eI (a3))]) (s2 := [eI (a1), eR v5, eR a0]) rfl rfl rfl ?_
                refine w_t (np := 48) (l2 := [some (eR a0), some (eI (a1)), some (eI (a2)), some (eI (a3))]) (s2 := [eI (a2), eI (a1), eR v5, eR a0]) rfl rfl rfl ?_
                refine w_cw (np := 51) (as := [eI (a1), eI (a2)]) (l2 := [some (eR v5), some (eI (a1)), some (eI (a2))]) (rest := [eR a0]) rfl rfl rfl (Nat.ble_eq.mp rfl) rfl rfl rfl (hI.kd b7 (by decide) (n := 8) rfl) rfl ?_
                refine s_22 (a1 := a1) (a2 := a2) hI b7 (by omega) (by omega) ?_
                intro v15 b16
                show ex_q (dt_fg L ρ) rc (d + 2, (160, 51, [some (eR a0), some (eI (a1)), some (eI (a2)), some (eI (a3))], [eJ (v15), eR a0]), f :: F, μ)
                refine w_t (np := 52) (l2 := [some (eR a0), some (eI (a1)), some (eI (a2)), some (eI (a3))]) (s2 := [eI (a3), eJ (v15), eR a0]) rfl rfl rfl ?_
                refine w_cu (np := 55) (as := [eJ (v15), eI (a3)]) (l2 := [some (eJ (v15)), none, some (eI (a3))]) (rest := [eR a0]) rfl rfl rfl (Nat.ble_eq.mp rfl) rfl rfl rfl rfl ?_
                refine s_73 (a2 := a3) hI b16 (by omega) ?_
                intro v17 b18
                show ex_q (dt_fg L ρ) rc (d + 2, (160, 55, [some (eR a0), some (eI (a1)), some (eI (a2)), some (eI (a3))], [eI (v17), eR a0]), f :: F, μ)
                refine w_cw (np := 58) (as := [eI (v17)]) (l2 := [some (eR a0), some (eI (v17))]) (rest := []) rfl rfl rfl (Nat.ble_eq.mp rfl) rfl rfl rfl (hI.kd gA0 (by decide) (n := 14) rfl) rfl ?_
                refine w_t (np := 1) (l2 := [some (eR a0), some (eI (v17))]) (s2 := [eR a0]) rfl (s_an rfl (pos_g hI gA0 (by decide))) rfl ?_
                refine w_t (np := 2) (l2 := [some (eR a0), some (eI (v17))]) (s2 := [eI (0), eR a0]) rfl rfl rfl ?_
                refine j_pf (np := 5) (w := 0) rfl rfl hI gA0 (by decide) (n := 14) rfl rfl (hO_i (lo := -2147483648) (hi := 2147483647) rfl (by decide)) ?_
                intro m19 I20 W21
                have F22 : Fr l_160 0 0 g μ m19 := F0.w W21 gA0 rfl
                refine w_t (np := 6) (l2 := [some (eR a0), some (eI (v17))]) (s2 := [eI (v17)]) rfl rfl rfl ?_
                refine b_ri rfl rfl ?_
                show ex_q (dt_fg L ρ) rc (d + 2, (160, 58, [some (eR a0), some (eI (a1)), some (eI (a2)), some (eI (a3))], [eI (v17)]), f :: F, m19)
                exact b_ri rfl rfl (K m19 (v17) I20 F22 (by omega))
              · refine w_t (np := 13) (l2 := [some (eR v5), some (eI (a1))]) (s2 := [eI (1)]) rfl rfl rfl ?_
                refine w_go (t1 := 17) rfl rfl ?_
                refine b_rz rfl rfl (Or.inr rfl) ?_
                show ex_q (dt_fg L ρ) rc (d + 2, (160, 32, [some (eR a0), some (eI (a1)), some (eI (a2)), some (eI (a3))], [eI (1)]), f :: F, μ)
                refine b_ieq (t1 := 41) (t2 := 35) rfl rfl rfl rfl (fun g14 => absurd g14 (by decide)) (fun g14 => ?_)
                refine w_t (np := 36) (l2 := [some (eR a0), some (eI (a1)), some (eI (a2)), some (eI (a3))]) (s2 := [eR a0]) rfl (s_an rfl (pos_g hI gA0 (by decide))) rfl ?_
                refine w_t (np := 37) (l2 := [some (eR a0), some (eI (a1)), some (eI (a2)), some (eI (a3))]) (s2 := [eI (2), eR a0]) rfl rfl rfl ?_
                refine w_cw (np := 40) (as := [eI (2)]) (l2 := [some (eR a0), some (eI (2))]) (rest := []) rfl rfl rfl (Nat.ble_eq.mp rfl) rfl rfl rfl (hI.kd gA0 (by decide) (n := 14) rfl) rfl ?_
                refine w_t (np := 1) (l2 := [some (eR a0), some (eI (2))]) (s2 := [eR a0]) rfl (s_an rfl (pos_g hI gA0 (by decide))) rfl ?_
                refine w_t (np := 2) (l2 := [some (eR a0), some (eI (2))]) (s2 := [eI (2), eR a0]) rfl rfl rfl ?_
                refine j_pf (np := 5) (w := 2) rfl rfl hI gA0 (by decide) (n := 14) rfl rfl (hO_i (lo := -2147483648) (hi := 2147483647) rfl (by decide)) ?_
                intro m15 I16 W17
                have F18 : Fr l_160 0 0 g μ m15 := F0.w W17 gA0 rfl
                refine w_t (np := 6) (l2 := [some (eR a0), some (eI (2))]) (s2 := [eI (-1)]) rfl rfl rfl ?_
                refine b_ri rfl rfl ?_
                show ex_q (dt_fg L ρ) rc (d + 2, (160, 40, [some (eR a0), some (eI (a1)), some (eI (a2)), some (eI (a3))], [eI (-1)]), f :: F, m15)
                exact b_ri rfl rfl (K m15 (-1) I16 F18 (by decide))
          · refine w_t (np := 29) (l2 := [some (eR a0), some (eI (a1)), some (eI (a2)), some (eI (a3))]) (s2 := [eI (a1), eR v5]) rfl rfl rfl ?_
            refine w_cw (np := 32) (as := [eI (a1)]) (l2 := [some (eR v5), some (eI (a1))]) (rest := []) rfl rfl rfl (Nat.ble_eq.mp rfl) rfl rfl rfl (hI.kd b7 (by decide) (n := 8) rfl) rfl ?_
            refine w_t (np := 1) (l2 := [some (eR v5), some (eI (a1))]) (s2 := [eI (a1)]) rfl rfl rfl ?_
            refine b_ilt (t1 := 12) (t2 := 4) rfl rfl rfl (ev_w_in (by omega) (by omega)) (fun g9 => ?_) (fun g9 => ?_)
            · have b10 : -2147483648 ≤ a1 ∧ a1 ≤ -1 := by omega
              refine w_t (np := 13) (l2 := [some (eR v5), some (eI (a1))]) (s2 := [eI (1)]) rfl rfl rfl ?_
              refine w_go (t1 := 17) rfl rfl ?_
              refine b_rz rfl rfl (Or.inr rfl) ?_
              show ex_q (dt_fg L ρ) rc (d + 2, (160, 32, [some (eR a0), some (eI (a1)), some (eI (a2)), some (eI (a3))], [eI (1)]), f :: F, μ)
              refine b_ieq (t1 := 41) (t2 := 35) rfl rfl rfl rfl (fun g10 => absurd g10 (by decide)) (fun g10 => ?_)
              refine w_t (np := 36) (l2 := [some (eR a0), some (eI (a1)), some (eI (a2)), some (eI (a3))]) (s2 := [eR a0]) rfl (s_an rfl (pos_g hI gA0 (by decide))) rfl ?_
              refine w_t (np := 37) (l2 := [some (eR a0), some (eI (a1)), some (eI (a2)), some (eI (a3))]) (s2 := [eI (2), eR a0]) rfl rfl rfl ?_
              refine w_cw (np := 40) (as := [eI (2)]) (l2 := [some (eR a0), some (eI (2))]) (rest := []) rfl rfl rfl (Nat.ble_eq.mp rfl) rfl rfl rfl (hI.kd gA0 (by decide) (n := 14) rfl) rfl ?_
              refine w_t (np := 1) (l2 := [some (eR a0), some (eI (2))]) (s2 := [eR a0]) rfl (s_an rfl (pos_g hI gA0 (by decide))) rfl ?_
              refine w_t (np := 2) (l2 := [some (eR a0), some (eI (2))]) (s2 := [eI (2), eR a0]) rfl rfl rfl ?_
              refine j_pf (np := 5) (w := 2) rfl rfl hI gA0 (by decide) (n := 14) rfl rfl (hO_i (lo := -2147483648) (hi := 2147483647) rfl (by decide)) ?_
              intro m11 I12 W13
              have F14 : Fr l_160 0 0 g μ m11 := F0.w W13 gA0 rfl
              refine w_t (np := 6) (l2 := [some (eR a0), some (eI (2))]) (s2 := [eI (-1)]) rfl rfl rfl ?_
              refine b_ri rfl rfl ?_
              show ex_q (dt_fg L ρ) rc (d + 2, (160, 40, [some (eR a0), some (eI (a1)), some (eI (a2)), some (eI (a3))], [eI (-1)]), f :: F, m11)
              exact b_ri rfl rfl (K m11 (-1) I12 F14 (by decide))
            · have b10 : 0 ≤ a1 ∧ a1 ≤ 2147483647 := by omega
              refine w_t (np := 5) (l2 := [some (eR v5), some (eI (a1))]) (s2 := [eI (a1)]) rfl rfl rfl ?_
              refine w_t (np := 6) (l2 := [some (eR v5), some (eI (a1))]) (s2 := [eR v5, eI (a1)]) rfl (s_an rfl (pos_g hI b7 (by decide))) rfl ?_
              refine j_gi (np := 9) rfl rfl rfl hI b7 (by decide) (n := 8) rfl rfl (lo := 0) (hi := 890) rfl ?_
              intro v10 e11 b12
              refine b_clt (t1 := 16) (t2 := 12) rfl rfl rfl (ev_w_in (by omega) (by omega)) (ev_w_in (by omega) (by omega)) (fun g13 => ?_) (fun g13 => ?_)
              · have b14 : 0 ≤ a1 ∧ a1 ≤ 889 := by omega
                have b15 : 1 ≤ v10 ∧ v10 ≤ 890 := by omega
                refine w_t (np := 17) (l2 := [some (eR v5), some (eI (a1))]) (s2 := [eI (0)]) rfl rfl rfl ?_
                refine b_rz rfl rfl (Or.inl rfl) ?_
                show ex_q (dt_fg L ρ) rc (d + 2, (160, 32, [some (eR a0), some (eI (a1)), some (eI (a2)), some (eI (a3))], [eI (0)]), f :: F, μ)
                refine b_ieq (t1 := 41) (t2 := 35) rfl rfl rfl rfl (fun g14 => ?_) (fun g14 => absurd g14 (by decide))
                refine w_t (np := 42) (l2 := [some (eR a0), some (eI (a1)), some (eI (a2)), some (eI (a3))]) (s2 := [eR a0]) rfl (s_an rfl (pos_g hI gA0 (by decide))) rfl ?_
                refine w_t (np := 43) (l2 := [some (eR a0), some (eI (a1)), some (eI (a2)), some (eI (a3))]) (s2 := [eR a0, eR a0]) rfl (s_an rfl (pos_g hI gA0 (by decide))) rfl ?_
                refine w_gf (np := 46) (v := eR v5) rfl rfl (hI.kd gA0 (by decide) (n := 14) rfl) (by rw [e6]; rfl) ?_
                refine w_t (np := 47) (l2 := [some (eR a0), some (eI (a1)), some (eI (a2)), some (eI (a3))]) (s2 := [eI (a1), eR v5, eR a0]) rfl rfl rfl ?_
                refine w_t (np := 48) (l2 := [some (eR a0), some (eI (a1)), some (eI (a2)), some (eI (a3))]) (s2 := [eI (a2), eI (a1), eR v5, eR a0]) rfl rfl rfl ?_
                refine w_cw (np := 51) (as := [eI (a1), eI (a2)]) (l2 := [some (eR v5), some (eI (a1)), some (eI (a2))]) (rest := [eR a0]) rfl rfl rfl (Nat.ble_eq.mp rfl) rfl rfl rfl (hI.kd b7 (by decide) (n := 8) rfl) rfl ?_
                refine s_22_2 (a1 := a1) (a2 := a2) hI b7 (by omega) (by omega) ?_
                intro v15 b16
                show ex_q (dt_fg L ρ) rc (d + 2, (160, 51, [some (eR a0), some (eI (a1)), some (eI (a2)), some (eI (a3))], [eJ (v15), eR a0]), f :: F, μ)
                refine w_t (np := 52) (l2 := [some (eR a0), some (eI (a1)), some (eI (a2)), some (eI (a3))]) (s2 := [eI (a3), eJ (v15), eR a0]) rfl rfl rfl ?_
                refine w_cu (np := 55) (as := [eJ (v15), eI (a3)]) (l2 := [some (eJ (v15)), none, some (eI (a3))]) (rest := [eR a0]) rfl rfl rfl (Nat.ble_eq.mp rfl) rfl rfl rfl rfl ?_
                refine s_73 (a2 := a3) hI b16 (by omega) ?_
                intro v17 b18
                show ex_q (dt_fg L ρ) rc (d + 2, (160, 55, [some (eR a0), some (eI (a1)), some (eI (a2)), some (eI (a3))], [eI (v17), eR a0]), f :: F, μ)
                refine w_cw (np := 58) (as := [eI (v17)]) (l2 := [some (eR a0), some (eI (v17))]) (rest := []) rfl rfl rfl (Nat.ble_eq.mp rfl) rfl rfl rfl (hI.kd gA0 (by decide) (n := 14) rfl) rfl ?_
                refine w_t (np := 1) (l2 := [some (eR a0), some (eI (v17))]) (s2 := [eR a0]) rfl (s_an rfl (pos_g hI gA0 (by decide))) rfl ?_
                refine w_t (np := 2) (l2 := [some (eR a0), some (eI (v17))]) (s2 := [eI (0), eR a0]) rfl rfl rfl ?_
                refine j_pf (np := 5) (w := 0) rfl rfl hI gA0 (by decide) (n := 14) rfl rfl (hO_i (lo := -2147483648) (hi := 2147483647) rfl (by decide)) ?_
                intro m19 I20 W21
                have F22 : Fr l_160 0 0 g μ m19 := F0.w W21 gA0 rfl
                refine w_t (np := 6) (l2 := [some (eR a0), some (eI (v17))]) (s2 := [eI (v17)]) rfl rfl rfl ?_
                refine b_ri rfl rfl ?_
                show ex_q (dt_fg L ρ) rc (d + 2, (160, 58, [some (eR a0), some (eI (a1)), some (eI (a2)), some (eI (a3))], [eI (v17)]), f :: F, m19)
                exact b_ri rfl rfl (K m19 (v17) I20 F22 (by omega))
              · refine w_t (np := 13) (l2 := [some (eR v5), some (eI (a1))]) (s2 := [eI (1)]) rfl rfl rfl ?_
                refine w_go (t1 := 17) rfl rfl ?_
                refine b_rz rfl rfl (Or.inr rfl) ?_
                show ex_q (dt_fg L ρ) rc (d + 2, (160, 32, [some (eR a0), some (eI (a1)), some (eI (a2)), some (eI (a3))], [eI (1)]), f :: F, μ)
                refine b_ieq (t1 := 41) (t2 := 35) rfl rfl rfl rfl (fun g14 => absurd g14 (by decide)) (fun g14 => ?_)
                refine w_t (np := 36) (l2 := [some (eR a0), some (eI (a1)), some (eI (a2)), some (eI (a3))]) (s2 := [eR a0]) rfl (s_an rfl (pos_g hI gA0 (by decide))) rfl ?_
                refine w_t (np := 37) (l2 := [some (eR a0), some (eI (a1)), some (eI (a2)), some (eI (a3))]) (s2 := [eI (2), eR a0]) rfl rfl rfl ?_
                refine w_cw (np := 40) (as := [eI (2)]) (l2 := [some (eR a0), some (eI (2))]) (rest := []) rfl rfl rfl (Nat.ble_eq.mp rfl) rfl rfl rfl (hI.kd gA0 (by decide) (n := 14) rfl) rfl ?_
                refine w_t (np := 1) (l2 := [some (eR a0), some (eI (2))]) (s2 := [eR a0]) rfl (s_an rfl (pos_g hI gA0 (by decide))) rfl ?_
                refine w_t (np := 2) (l2 := [some (eR a0), some (eI (2))]) (s2 := [eI (2), eR a0]) rfl rfl rfl ?_
                refine j_pf (np := 5) (w := 2) rfl rfl hI gA0 (by decide) (n := 14) rfl rfl (hO_i (lo := -2147483648) (hi := 2147483647) rfl (by decide)) ?_
                intro m15 I16 W17
                have F18 : Fr l_160 0 0 g μ m15 := F0.w W17 gA0 rfl
                refine w_t (np := 6) (l2 := [some (eR a0), some (eI (2))]) (s2 := [eI (-1)]) rfl rfl rfl ?_
                refine b_ri rfl rfl ?_
                show ex_q (dt_fg L ρ) rc (d + 2, (160, 40, [some (eR a0), some (eI (a1)), some (eI (a2)), some (eI (a3))], [eI (-1)]), f :: F, m15)
                exact b_ri rfl rfl (K m15 (-1) I16 F18 (by decide))
        · have b5 : 4 ≤ a3 ∧ a3 ≤ 2147483647 := by omega
          refine w_t (np := 19) (l2 := [some (eR a0), some (eI (a1)), some (eI (a2)), some (eI (a3))]) (s2 := [eR a0]) rfl (s_an rfl (pos_g hI gA0 (by decide))) rfl ?_
          refine w_t (np := 20) (l2 := [some (eR a0), some (eI (a1)), some (eI (a2)), some (eI (a3))]) (s2 := [eI (1), eR a0]) rfl rfl rfl ?_
          refine w_cw (np := 23) (as := [eI (1)]) (l2 := [some (eR a0), some (eI (1))]) (rest := []) rfl rfl rfl (Nat.ble_eq.mp rfl) rfl rfl rfl (hI.kd gA0 (by decide) (n := 14) rfl) rfl ?_
          refine w_t (np := 1) (l2 := [some (eR a0), some (eI (1))]) (s2 := [eR a0]) rfl (s_an rfl (pos_g hI gA0 (by decide))) rfl ?_
          refine w_t (np := 2) (l2 := [some (eR a0), some (eI (1))]) (s2 := [eI (1), eR a0]) rfl rfl rfl ?_
          refine j_pf (np := 5) (w := 1) rfl rfl hI gA0 (by decide) (n := 14) rfl rfl (hO_i (lo := -2147483648) (hi := 2147483647) rfl (by decide)) ?_
          intro m5 I6 W7
          have F8 : Fr l_160 0 0 g μ m5 := F0.w W7 gA0 rfl
          refine w_t (np := 6) (l2 := [some (eR a0), some (eI (1))]) (s2 := [eI (-1)]) rfl rfl rfl ?_
          refine b_ri rfl rfl ?_
          show ex_q (dt_fg L ρ) rc (d + 2, (160, 23, [some (eR a0), some (eI (a1)), some (eI (a2)), some (eI (a3))], [eI (-1)]), f :: F, m5)
          exact b_ri rfl rfl (K m5 (-1) I6 F8 (by decide))
def l_161 : List Nat := [270]
theorem s_161 {L : Nat} {ρ : Nat → Int} {rc : eQ} {d : Nat} {f : eFr} {F : List eFr} {μ : eM} {g : Nat → Nat} {a0 : Nat} {a1 : Int} (hI : SI g μ) (gA0 : g a0 = 1) (bA1 : -2147483648 ≤ a1 ∧ a1 ≤ 2147483647) (K : ∀ (μ2 : eM) (v : Int), SI g μ2 → Fr l_161 0 0 g μ μ2 → (-2147483648 ≤ v ∧ v ≤ 2147483647) → ex_q (dt_fg L ρ) rc (d + 3, (f.1, f.2.1, f.2.2.1, eI v :: f.2.2.2), F, μ2)) : ex_q (dt_fg L ρ) rc (d + 2, (161, 0, [some (eR a0), some (eI (a1))], []), f :: F, μ) := by
  have F0 : Fr l_161 0 0 g μ μ := Fr.r
  refine w_t (np := 1) (l2 := [some (eR a0), some (eI (a1))]) (s2 := [eI (a1)]) rfl rfl rfl ?_
  refine b_ige (t1 := 10) (t2 := 4) rfl rfl rfl (ev_w_in (by omega) (by omega)) (fun g1 => ?_) (fun g1 => ?_)
  · have b2 : 0 ≤ a1 ∧ a1 ≤ 2147483647 := by omega
    refine w_t (np := 11) (l2 := [some (eR a0), some (eI (a1))]) (s2 := [eR a0]) rfl (s_an rfl (pos_g hI gA0 (by decide))) rfl ?_
    refine w_t (np := 12) (l2 := [some (eR a0), some (eI (a1))]) (s2 := [eR a0, eR a0]) rfl (s_an rfl (pos_g hI gA0 (by decide))) rfl ?_
    refine j_gr (np := 15) rfl rfl hI gA0 (by decide) (n := 14) rfl rfl rfl ?_
    intro v2 e3 b4 z5
    rcases hor2 b4 with b4 | b4
    · refine w_t (np := 16) (l2 := [some (eR a0), some (eI (a1))]) (s2 := [eI (a1), eR v2, eR a0]) rfl rfl rfl ?_
      refine w_t (np := 17) (l2 := [some (eR a0), some (eI (a1))]) (s2 := [eR a0, eI (a1), eR v2, eR a0]) rfl (s_an rfl (pos_g hI gA0 (by decide))) rfl ?_
      refine w_gf (np := 20) (v := eR v2) rfl rfl (hI.kd gA0 (by decide) (n := 14) rfl) (by rw [e3]; rfl) ?_
      refine j_gi (np := 23) rfl rfl rfl hI b4 (by decide) (n := 8) rfl rfl (lo := 0) (hi := 5) rfl ?_
      intro v6 e7 b8
      refine w_cw (np := 26) (as := [eI (a1), eI (v6)]) (l2 := [some (eR v2), some (eI (a1)), some (eI (v6)), none, none, none, none, none, none]) (rest := [eR a0]) rfl rfl rfl (Nat.ble_eq.mp rfl) rfl rfl rfl (hI.kd b4 (by decide) (n := 8) rfl) rfl ?_
      refine s_34 (a1 := a1) (a2 := v6) hI b4 (by omega) (by omega) ?_
      intro v9 b10
      show ex_q (dt_fg L ρ) rc (d + 2, (161, 26, [some (eR a0), some (eI (a1))], [eI (v9), eR a0]), f :: F, μ)
      refine w_cw (np := 29) (as := [eI (v9)]) (l2 := [some (eR a0), some (eI (v9))]) (rest := []) rfl rfl rfl (Nat.ble_eq.mp rfl) rfl rfl rfl (hI.kd gA0 (by decide) (n := 14) rfl) rfl ?_
      refine w_t (np := 1) (l2 := [some (eR a0), some (eI (v9))]) (s2 := [eI (v9)]) rfl rfl rfl ?_
      refine b_ige (t1 := 12) (t2 := 4) rfl rfl rfl (ev_w_in (by omega) (by omega)) (fun g11 => ?_) (fun g11 => ?_)
      · have b12 : 0 ≤ v9 ∧ v9 ≤ 2147483647 := by omega
        refine w_t (np := 13) (l2 := [some (eR a0), some (eI (v9))]) (s2 := [eR a0]) rfl (s_an rfl (pos_g hI gA0 (by decide))) rfl ?_
        refine w_t (np := 14) (l2 := [some (eR a0), some (eI (v9))]) (s2 := [eI (v9), eR a0]) rfl rfl rfl ?_
        refine w_cw (np := 17) (as := [eI (v9)]) (l2 := [some (eR a0), some (eI (v9))]) (rest := []) rfl rfl rfl (Nat.ble_eq.mp rfl) rfl rfl rfl (hI.kd gA0 (by decide) (n := 14) rfl) rfl ?_
        refine w_t (np := 1) (l2 := [some (eR a0), some (eI (v9))]) (s2 := [eR a0]) rfl (s_an rfl (pos_g hI gA0 (by decide))) rfl ?_
        refine w_t (np := 2) (l2 := [some (eR a0), some (eI (v9))]) (s2 := [eI (0), eR a0]) rfl rfl rfl ?_
        refine j_pf (np := 5) (w := 0) rfl rfl hI gA0 (by decide) (n := 14) rfl rfl (hO_i (lo := -2147483648) (hi := 2147483647) rfl (by decide)) ?_
        intro m12 I13 W14
        have F15 : Fr l_161 0 0 g μ m12 := F0.w W14 gA0 rfl
        refine w_t (np := 6) (l2 := [some (eR a0), some (eI (v9))]) (s2 := [eI (v9)]) rfl rfl rfl ?_
        refine b_ri rfl rfl ?_
        show ex_q (dt_fg L ρ) rc (d + 1, (207, 17, [some (eR a0), some (eI (v9))], [eI (v9)]), (161, 29, [some (eR a0), some (eI (a1))], []) :: f :: F, m12)
        refine b_ri rfl rfl ?_
        show ex_q (dt_fg L ρ) rc (d + 2, (161, 29, [some (eR a0), some (eI (a1))], [eI (v9)]), f :: F, m12)
        exact b_ri rfl rfl (K m12 (v9) I13 F15 (by omega))
      · have b12 : -2147483648 ≤ v9 ∧ v9 ≤ -1 := by omega
        refine w_t (np := 5) (l2 := [some (eR a0), some (eI (v9))]) (s2 := [eR a0]) rfl (s_an rfl (pos_g hI gA0 (by decide))) rfl ?_
        refine w_t (np := 6) (l2 := [some (eR a0), some (eI (v9))]) (s2 := [eI (5), eR a0]) rfl rfl rfl ?_
        refine w_cw (np := 9) (as := [eI (5)]) (l2 := [some (eR a0), some (eI (5))]) (rest := []) rfl rfl rfl (Nat.ble_eq.mp rfl) rfl rfl rfl (hI.kd gA0 (by decide) (n := 14) rfl) rfl ?_
        refine w_t (np := 1) (l2 := [some (eR a0), some (eI (5))]) (s2 := [eR a0]) rfl (s_an rfl (pos_g hI gA0 (by decide))) rfl ?_
        refine w_t (np := 2) (l2 := [some (eR a0), some (eI (5))]) (s2 := [eI (5), eR a0]) rfl rfl rfl ?_
        refine j_pf (np := 5) (w := 5) rfl rfl hI gA0 (by decide) (n := 14) rfl rfl (hO_i (lo := -2147483648) (hi := 2147483647) rfl (by decide)) ?_
        intro m12 I13 W14
        have F15 : Fr l_161 0 0 g μ m12 := F0.w W14 gA0 rfl
        refine w_t (np := 6) (l2 := [some (eR a0), some (eI (5))]) (s2 := [eI (-1)]) rfl rfl rfl ?_
        refine b_ri rfl rfl ?_
        show ex_q (dt_fg L ρ) rc (d + 1, (207, 9, [some (eR a0), some (eI (v9))], [eI (-1)]), (161, 29, [some (eR a0), some (eI (a1))], []) :: f :: F, m12)
        refine w_go (t1 := 17) rfl rfl ?_
        refine b_ri rfl rfl ?_
        show ex_q (dt_fg L ρ) rc (d + 2, (161, 29, [some (eR a0), some (eI (a1))], [eI (-1)]), f :: F, m12)
        exact b_ri rfl rfl (K m12 (-1) I13 F15 (by decide))
    · refine w_t (np := 16) (l2 := [some (eR a0), some (eI (a1))]) (s2 := [eI (a1), eR v2, eR a0]) rfl rfl rfl ?_
      refine w_t (np := 17) (l2 := [some (eR a0), some (eI (a1))]) (s2 := [eR a0, eI (a1), eR v2, eR a0]) rfl (s_an rfl (pos_g hI gA0 (by decide))) rfl ?_
      refine w_gf (np := 20) (v := eR v2) rfl rfl (hI.kd gA0 (by decide) (n := 14) rfl) (by rw [e3]; rfl) ?_
      refine j_gi (np := 23) rfl rfl rfl hI b4 (by decide) (n := 8) rfl rfl (lo := 0) (hi := 5) rfl ?_
      intro v6 e7 b8
      refine w_cw (np := 26) (as := [eI (a1), eI (v6)]) (l2 := [some (eR v2), some (eI (a1)), some (eI (v6)), none, none, none, none, none, none]) (rest := [eR a0]) rfl rfl rfl (Nat.ble_eq.mp rfl) rfl rfl rfl (hI.kd b4 (by decide) (n := 8) rfl) rfl ?_
      refine s_34_2 (a1 := a1) (a2 := v6) hI b4 (by omega) (by omega) ?_
      intro v9 b10
      show ex_q (dt_fg L ρ) rc (d + 2, (161, 26, [some (eR a0), some (eI (a1))], [eI (v9), eR a0]), f :: F, μ)
      refine w_cw (np := 29) (as := [eI (v9)]) (l2 := [some (eR a0), some (eI (v9))]) (rest := []) rfl rfl rfl (Nat.ble_eq.mp rfl) rfl rfl rfl (hI.kd gA0 (by decide) (n := 14) rfl) rfl ?_
      refine w_t (np := 1) (l2 := [some (eR a0), some (eI (v9))]) (s2 := [eI (v9)]) rfl rfl rfl ?_
      refine b_ige (t1 := 12) (t2 := 4) rfl rfl rfl (ev_w_in (by omega) (by omega)) (fun g11 => ?_) (fun g11 => ?_)
      · have b12 : 0 ≤ v9 ∧ v9 ≤ 2147483647 := by omega
        refine w_t (np := 13) (l2 := [some (eR a0), some (eI (v9))]) (s2 := [eR a0]) rfl (s_an rfl (pos_g hI gA0 (by decide))) rfl ?_
        refine w_t (np := 14) (l2 := [some (eR a0), some (eI (v9))]) (s2 := [eI (v9), eR a0]) rfl rfl rfl ?_
        refine w_cw (np := 17) (as := [eI (v9)]) (l2 := [some (eR a0), some (eI (v9))]) (rest := []) rfl rfl rfl (Nat.ble_eq.mp rfl) rfl rfl rfl (hI.kd gA0 (by decide) (n := 14) rfl) rfl ?_
        refine w_t (np := 1) (l2 := [some (eR a0), some (eI (v9))]) (s2 := [eR a0]) rfl (s_an rfl (pos_g hI gA0 (by decide))) rfl ?_
        refine w_t (np := 2) (l2 := [some (eR a0), some (eI (v9))]) (s2 := [eI (0), eR a0]) rfl rfl rfl ?_
        refine j_pf (np := 5) (w := 0) rfl rfl hI gA0 (by decide) (n := 14) rfl rfl (hO_i (lo := -2147483648) (hi := 2147483647) rfl (by decide)) ?_
        intro m12 I13 W14
        have F15 : Fr l_161 0 0 g μ m12 := F0.w W14 gA0 rfl
        refine w_t (np := 6) (l2 := [some (eR a0), some (eI (v9))]) (s2 := [eI (v9)]) rfl rfl rfl ?_
        refine b_ri rfl rfl ?_
        show ex_q (dt_fg L ρ) rc (d + 1, (207, 17, [some (eR a0), some (eI (v9))], [eI (v9)]), (161, 29, [some (eR a0), some (eI (a1))], []) :: f :: F, m12)
        refine b_ri rfl rfl ?_
        show ex_q (dt_fg L ρ) rc (d + 2, (161, 29, [some (eR a0), some (eI (a1))], [eI (v9)]), f :: F, m12)
        exact b_ri rfl rfl (K m12 (v9) I13 F15 (by omega))
      · have b12 : -2147483648 ≤ v9 ∧ v9 ≤ -1 := by omega
        refine w_t (np := 5) (l2 := [some (eR a0), some (eI (v9))]) (s2 := [eR a0]) rfl (s_an rfl (pos_g hI gA0 (by decide))) rfl ?_
        refine w_t (np := 6) (l2 := [some (eR a0), some (eI (v9))]) (s2 := [eI (5), eR a0]) rfl rfl rfl ?_
        refine w_cw (np := 9) (as := [eI (5)]) (l2 := [some (eR a0), some (eI (5))]) (rest := []) rfl rfl rfl (Nat.ble_eq.mp rfl) rfl rfl rfl (hI.kd gA0 (by decide) (n := 14) rfl) rfl ?_
        refine w_t (np := 1) (l2 := [some (eR a0), some (eI (5))]) (s2 := [eR a0]) rfl (s_an rfl (pos_g hI gA0 (by decide))) rfl ?_
        refine w_t (np := 2) (l2 := [some (eR a0), some (eI (5))]) (s2 := [eI (5), eR a0]) rfl rfl rfl ?_
        refine j_pf (np := 5) (w := 5) rfl rfl hI gA0 (by decide) (n := 14) rfl rfl (hO_i (lo := -2147483648) (hi := 2147483647) rfl (by decide)) ?_
        intro m12 I13 W14
        have F15 : Fr l_161 0 0 g μ m12 := F0.w W14 gA0 rfl
        refine w_t (np := 6) (l2 := [some (eR a0), some (eI (5))]) (s2 := [eI (-1)]) rfl rfl rfl ?_
        refine b_ri rfl rfl ?_
        show ex_q (dt_fg L ρ) rc (d + 1, (207, 9, [some (eR a0), some (eI (v9))], [eI (-1)]), (161, 29, [some (eR a0), some (eI (a1))], []) :: f :: F, m12)
        refine w_go (t1 := 17) rfl rfl ?_
        refine b_ri rfl rfl ?_
        show ex_q (dt_fg L ρ) rc (d + 2, (161, 29, [some (eR a0), some (eI (a1))], [eI (-1)]), f :: F, m12)
        exact b_ri rfl rfl (K m12 (-1) I13 F15 (by decide))
  · have b2 : -2147483648 ≤ a1 ∧ a1 ≤ -1 := by omega
    refine w_t (np := 5) (l2 := [some (eR a0), some (eI (a1))]) (s2 := [eR a0]) rfl (s_an rfl (pos_g hI gA0 (by decide))) rfl ?_
    refine w_t (np := 6) (l2 := [some (eR a0), some (eI (a1))]) (s2 := [eI (1), eR a0]) rfl rfl rfl ?_
    refine w_cw (np := 9) (as := [eI (1)]) (l2 := [some (eR a0), some (eI (1))]) (rest := []) rfl rfl rfl (Nat.ble_eq.mp rfl) rfl rfl rfl (hI.kd gA0 (by decide) (n := 14) rfl) rfl ?_
    refine w_t (np := 1) (l2 := [some (eR a0), some (eI (1))]) (s2 := [eR a0]) rfl (s_an rfl (pos_g hI gA0 (by decide))) rfl ?_
    refine w_t (np := 2) (l2 := [some (eR a0), some (eI (1))]) (s2 := [eI (1), eR a0]) rfl rfl rfl ?_
    refine j_pf (np := 5) (w := 1) rfl rfl hI gA0 (by decide) (n := 14) rfl rfl (hO_i (lo := -2147483648) (hi := 2147483647) rfl (by decide)) ?_
    intro m2 I3 W4
    have F5 : Fr l_161 0 0 g μ m2 := F0.w W4 gA0 rfl
    refine w_t (np := 6) (l2 := [some (eR a0), some (eI (1))]) (s2 := [eI (-1)]) rfl rfl rfl ?_
    refine b_ri rfl rfl ?_
    show ex_q (dt_fg L ρ) rc (d + 2, (161, 9, [some (eR a0), some (eI (a1))], [eI (-1)]), f :: F, m2)
    exact b_ri rfl rfl (K m2 (-1) I3 F5 (by decide))
def l_163 : List Nat := [270]
theorem s_163 {L : Nat} {ρ : Nat → Int} {rc : eQ} {d : Nat} {f : eFr} {F : List eFr} {μ : eM} {g : Nat → Nat} {a0 : Nat} {a1 : Int} {a2 : Int} (hI : SI g μ) (gA0 : g a0 = 1) (bA1 : -2147483648 ≤ a1 ∧ a1 ≤ 2147483647) (bA2 : -2147483648 ≤ a2 ∧ a2 ≤ 2147483647) (K : ∀ (μ2 : eM) (v : Int), SI g μ2 → Fr l_163 0 0 g μ μ2 → (-2147483648 ≤ v ∧ v ≤ 2147483647) → ex_q (dt_fg L ρ) rc (d + 4, (f.1, f.2.1, f.2.2.1, eI v :: f.2.2.2), F, μ2)) : ex_q (dt_fg L ρ) rc (d + 3, (163, 0, [some (eR a0), some (eI (a1)), some (eI (a2))], []), f :: F, μ) := by
  have F0 : Fr l_163 0 0 g μ μ := Fr.r
  refine w_t (np := 1) (l2 := [some (eR a0), some (eI (a1)), some (eI (a2))]) (s2 := [eI (a2)]) rfl rfl rfl ?_
  refine b_ilt (t1 := 15) (t2 := 4) rfl rfl rfl (ev_w_in (by omega) (by omega)) (fun g1 => ?_) (fun g1 => ?_)
  · have b2 : -2147483648 ≤ a2 ∧ a2 ≤ -1 := by omega
    refine w_t (np := 16) (l2 := [some (eR a0), some (eI (a1)), some (eI (a2))]) (s2 := [eR a0]) rfl (s_an rfl (pos_g hI gA0 (by decide))) rfl ?_
    refine w_t (np := 17) (l2 := [some (eR a0), some (eI (a1)), some (eI (a2))]) (s2 := [eI (1), eR a0]) rfl rfl rfl ?_
    refine w_cw (np := 20) (as := [eI (1)]) (l2 := [some (eR a0), some (eI (1))]) (rest := []) rfl rfl rfl (Nat.ble_eq.mp rfl) rfl rfl rfl (hI.kd gA0 (by decide) (n := 14) rfl) rfl ?_
    refine w_t (np := 1) (l2 := [some (eR a0), some (eI (1))]) (s2 := [eR a0]) rfl (s_an rfl (pos_g hI gA0 (by decide))) rfl ?_
    refine w_t (np := 2) (l2 := [some (eR a0), some (eI (1))]) (s2 := [eI (1), eR a0]) rfl rfl rfl ?_
    refine j_pf (np := 5) (w := 1) rfl rfl hI gA0 (by decide) (n := 14) rfl rfl (hO_i (lo := -2147483648) (hi := 2147483647) rfl (by decide)) ?_
    intro m2 I3 W4
    have F5 : Fr l_163 0 0 g μ m2 := F0.w W4 gA0 rfl
    refine w_t (np := 6) (l2 := [some (eR a0), some (eI (1))]) (s2 := [eI (-1)]) rfl rfl rfl ?_
    refine b_ri rfl rfl ?_
    show ex_q (dt_fg L ρ) rc (d + 3, (163, 20, [some (eR a0), some (eI (a1)), some (eI (a2))], [eI (-1)]), f :: F, m2)
    exact b_ri rfl rfl (K m2 (-1) I3 F5 (by decide))
  · have b2 : 0 ≤ a2 ∧ a2 ≤ 2147483647 := by omega
    refine w_t (np := 5) (l2 := [some (eR a0), some (eI (a1)), some (eI (a2))]) (s2 := [eI (a2)]) rfl rfl rfl ?_
    refine w_t (np := 6) (l2 := [some (eR a0), some (eI (a1)), some (eI (a2))]) (s2 := [eR a0, eI (a2)]) rfl (s_an rfl (pos_g hI gA0 (by decide))) rfl ?_
    refine j_gr (np := 9) rfl rfl hI gA0 (by decide) (n := 14) rfl rfl rfl ?_
    intro v2 e3 b4 z5
    rcases hor2 b4 with b4 | b4
    · refine j_gi (np := 12) rfl rfl rfl hI b4 (by decide) (n := 8) rfl rfl (lo := 0) (hi := 5) rfl ?_
      intro v6 e7 b8
      refine b_cle (t1 := 21) (t2 := 15) rfl rfl rfl (ev_w_in (by omega) (by omega)) (ev_w_in (by omega) (by omega)) (fun g9 => ?_) (fun g9 => ?_)
      · have b10 : 0 ≤ a2 ∧ a2 ≤ 5 := by omega
        refine w_t (np := 22) (l2 := [some (eR a0), some (eI (a1)), some (eI (a2))]) (s2 := [eR a0]) rfl (s_an rfl (pos_g hI gA0 (by decide))) rfl ?_
        refine w_gf (np := 25) (v := eR v2) rfl rfl (hI.kd gA0 (by decide) (n := 14) rfl) (by rw [e3]; rfl) ?_
        refine w_t (np := 26) (l2 := [some (eR a0), some (eI (a1)), some (eI (a2))]) (s2 := [eI (a1), eR v2]) rfl rfl rfl ?_
        refine w_cw (np := 29) (as := [eI (a1)]) (l2 := [some (eR v2), some (eI (a1))]) (rest := []) rfl rfl rfl (Nat.ble_eq.mp rfl) rfl rfl rfl (hI.kd b4 (by decide) (n := 8) rfl) rfl ?_
        refine w_t (np := 1) (l2 := [some (eR v2), some (eI (a1))]) (s2 := [eI (a1)]) rfl rfl rfl ?_
        refine b_ilt (t1 := 12) (t2 := 4) rfl rfl rfl (ev_w_in (by omega) (by omega)) (fun g10 => ?_) (fun g10 => ?_)
        · have b11 : -2147483648 ≤ a1 ∧ a1 ≤ -1 := by omega
          refine w_t (np := 13) (l2 := [some (eR v2), some (eI (a1))]) (s2 := [eI (1)]) rfl rfl rfl ?_
          refine w_go (t1 := 17) rfl rfl ?_
          refine b_rz rfl rfl (Or.inr rfl) ?_
          show ex_q (dt_fg L ρ) rc (d + 3, (163, 29, [some (eR a0), some (eI (a1)), some (eI (a2))], [eI (1)]), f :: F, μ)
          refine b_ieq (t1 := 38) (t2 := 32) rfl rfl rfl rfl (fun g11 => absurd g11 (by decide)) (fun g11 => ?_)
          refine w_t (np := 33) (l2 := [some (eR a0), some (eI (a1)), some (eI (a2))]) (s2 := [eR a0]) rfl (s_an rfl (pos_g hI gA0 (by decide))) rfl ?_
          refine w_t (np := 34) (l2 := [some (eR a0), some (eI (a1)), some (eI (a2))]) (s2 := [eI (2), eR a0]) rfl rfl rfl ?_
          refine w_cw (np := 37) (as := [eI (2)]) (l2 := [some (eR a0), some (eI (2))]) (rest := []) rfl rfl rfl (Nat.ble_eq.mp rfl) rfl rfl rfl (hI.kd gA0 (by decide) (n := 14) rfl) rfl ?_
          refine w_t (np := 1) (l2 := [some (eR a0), some (eI (2))]) (s2 := [eR a0]) rfl (s_an rfl (pos_g hI gA0 (by decide))) rfl ?_
          refine w_t (np := 2) (l2 := [some (eR a0), some (eI (2))]) (s2 := [eI (2), eR a0]) rfl rfl rfl ?_
          refine j_pf (np := 5) (w := 2) rfl rfl hI gA0 (by decide) (n := 14) rfl rfl (hO_i (lo := -2147483648) (hi := 2147483647) rfl (by decide)) ?_
          intro m12 I13 W14
          have F15 : Fr l_163 0 0 g μ m12 := F0.w W14 gA0 rfl
          refine w_t (np := 6) (l2 := [some (eR a0), some (eI (2))]) (s2 := [eI (-1)]) rfl rfl rfl ?_
          refine b_ri rfl rfl ?_
          show ex_q (dt_fg L ρ) rc (d + 3, (163, 37, [some (eR a0), some (eI (a1)), some (eI (a2))], [eI (-1)]), f :: F, m12)
          exact b_ri rfl rfl (K m12 (-1) I13 F15 (by decide))
        · have b11 : 0 ≤ a1 ∧ a1 ≤ 2147483647 := by omega
          refine w_t (np := 5) (l2 := [some (eR v2), some (eI (a1))]) (s2 := [eI (a1)]) rfl rfl rfl ?_
          refine w_t (np := 6) (l2 := [some (eR v2), some (eI (a1))]) (s2 := [eR v2, eI (a1)]) rfl (s_an rfl (pos_g hI b4 (by decide))) rfl ?_
          refine j_gi (np := 9) rfl rfl rfl hI b4 (by decide) (n := 8) rfl rfl (lo := 0) (hi := 50) rfl ?_
          intro v11 e12 b13
          refine b_clt (t1 := 16) (t2 := 12) rfl rfl rfl (ev_w_in (by omega) (by omega)) (ev_w_in (by omega) (by omega)) (fun g14 => ?_) (fun g14 => ?_)
          · have b15 : 0 ≤ a1 ∧ a1 ≤ 49 := by omega
            have b16 : 1 ≤ v11 ∧ v11 ≤ 50 := by omega
            refine w_t (np := 17) (l2 := [some (eR v2), some (eI (a1))]) (s2 := [eI (0)]) rfl rfl rfl ?_
            refine b_rz rfl rfl (Or.inl rfl) ?_
            show ex_q (dt_fg L ρ) rc (d + 3, (163, 29, [some (eR a0), some (eI (a1)), some (eI (a2))], [eI (0)]), f :: F, μ)
            refine b_ieq (t1 := 38) (t2 := 32) rfl rfl rfl rfl (fun g15 => ?_) (fun g15 => absurd g15 (by decide))
            refine w_t (np := 39) (l2 := [some (eR a0), some (eI (a1)), some (eI (a2))]) (s2 := [eR a0]) rfl (s_an rfl (pos_g hI gA0 (by decide))) rfl ?_
            refine w_t (np := 40) (l2 := [some (eR a0), some (eI (a1)), some (eI (a2))]) (s2 := [eR a0, eR a0]) rfl (s_an rfl (pos_g hI gA0 (by decide))) rfl ?_
            refine w_gf (np := 43) (v := eR v2) rfl rfl (hI.kd gA0 (by decide) (n := 14) rfl) (by rw [e3]; rfl) ?_
            refine w_t (np := 44) (l2 := [some (eR a0), some (eI (a1)), some (eI (a2))]) (s2 := [eI (a1), eR v2, eR a0]) rfl rfl rfl ?_
            refine w_t (np := 45) (l2 := [some (eR a0), some (eI (a1)), some (eI (a2))]) (s2 := [eI (a2), eI (a1), eR v2, eR a0]) rfl rfl rfl ?_
            refine w_cw (np := 48) (as := [eI (a1), eI (a2)]) (l2 := [some (eR v2), some (eI (a1)), some (eI (a2))]) (rest := [eR a0]) rfl rfl rfl (Nat.ble_eq.mp rfl) rfl rfl rfl (hI.kd b4 (by decide) (n := 8) rfl) rfl ?_
            refine s_38 (a1 := a1) (a2 := a2) hI b4 (by omega) (by omega) ?_
            intro v16 b17
            show ex_q (dt_fg L ρ) rc (d + 3, (163, 48, [some (eR a0), some (eI (a1)), some (eI (a2))], [eI (v16), eR a0]), f :: F, μ)
            refine w_cw (np := 51) (as := [eI (v16)]) (l2 := [some (eR a0), some (eI (v16))]) (rest := []) rfl rfl rfl (Nat.ble_eq.mp rfl) rfl rfl rfl (hI.kd gA0 (by decide) (n := 14) rfl) rfl ?_
            refine w_t (np := 1) (l2 := [some (eR a0), some (eI (v16))]) (s2 := [eR a0]) rfl (s_an rfl (pos_g hI gA0 (by decide))) rfl ?_
            refine w_t (np := 2) (l2 := [some (eR a0), some (eI (v16))]) (s2 := [eI (0), eR a0]) rfl rfl rfl ?_
            refine j_pf (np := 5) (w := 0) rfl rfl hI gA0 (by decide) (n := 14) rfl rfl (hO_i (lo := -2147483648) (hi := 2147483647) rfl (by decide)) ?_
            intro m18 I19 W20
            have F21 : Fr l_163 0 0 g μ m18 := F0.w W20 gA0 rfl
            refine w_t (np := 6) (l2 := [some (eR a0), some (eI (v16))]) (s2 := [eI (v16)]) rfl rfl rfl ?_
            refine b_ri rfl rfl ?_
            show ex_q (dt_fg L ρ) rc (d + 3, (163, 51, [some (eR a0), some (eI (a1)), some (eI (a2))], [eI (v16)]), f :: F, m18)
            exact b_ri rfl rfl (K m18 (v16) I19 F21 (by omega))
          · refine w_t (np := 13) (l2 := [some (eR v2), some (eI (a1))]) (s2 := [eI (1)]) rfl rfl rfl ?_
            refine w_go (t1 := 17) rfl rfl ?_
            refine b_rz rfl rfl (Or.inr rfl) ?_
            show ex_q (dt_fg L ρ) rc (d + 3, (163, 29, [some (eR a0), some (eI (a1)), some (eI (a2))], [eI (1)]), f :: F, μ)
            refine b_ieq (t1 := 38) (t2 := 32) rfl rfl rfl rfl (fun g15 => absurd g15 (by decide)) (fun g15 => ?_)
            refine w_t (np := 33) (l2 := [some (eR a0), some (eI (a1)), some (eI (a2))]) (s2 := [eR a0]) rfl (s_an rfl (pos_g hI gA0 (by decide))) rfl ?_
            refine w_t (np := 34) (l2 := [some (eR a0), some (eI (a1)), some (eI (a2))]) (s2 := [eI (2), eR a0]) rfl rfl rfl ?_
            refine w_cw (np := 37) (as := [eI (2)]) (l2 := [some (eR a0), some (eI (2))]) (rest := []) rfl rfl rfl (Nat.ble_eq.mp rfl) rfl rfl rfl (hI.kd gA0 (by decide) (n := 14) rfl) rfl ?_
            refine w_t (np := 1) (l2 := [some (eR a0), some (eI (2))]) (s2 := [eR a0]) rfl (s_an rfl (pos_g hI gA0 (by decide))) rfl ?_
            refine w_t (np := 2) (l2 := [some (eR a0), some (eI (2))]) (s2 := [eI (2), eR a0]) rfl rfl rfl ?_
            refine j_pf (np := 5) (w := 2) rfl rfl hI gA0 (by decide) (n := 14) rfl rfl (hO_i (lo := -2147483648) (hi := 2147483647) rfl (by decide)) ?_
            intro m16 I17 W18
            have F19 : Fr l_163 0 0 g μ m16 := F0.w W18 gA0 rfl
            refine w_t (np := 6) (l2 := [some (eR a0), some (eI (2))]) (s2 := [eI (-1)]) rfl rfl rfl ?_
            refine b_ri rfl rfl ?_
            show ex_q (dt_fg L ρ) rc (d + 3, (163, 37, [some (eR a0), some (eI (a1)), some (eI (a2))], [eI (-1)]), f :: F, m16)
            exact b_ri rfl rfl (K m16 (-1) I17 F19 (by decide))
      · have b10 : 1 ≤ a2 ∧ a2 ≤ 2147483647 := by omega
        refine w_t (np := 16) (l2 := [some (eR a0), some (eI (a1)), some (eI (a2))]) (s2 := [eR a0]) rfl (s_an rfl (pos_g hI gA0 (by decide))) rfl ?_
        refine w_t (np := 17) (l2 := [some (eR a0), some (eI (a1)), some (eI (a2))]) (s2 := [eI (1), eR a0]) rfl rfl rfl ?_
        refine w_cw (np := 20) (as := [eI (1)]) (l2 := [some (eR a0), some (eI (1))]) (rest := []) rfl rfl rfl (Nat.ble_eq.mp rfl) rfl rfl rfl (hI.kd gA0 (by decide) (n := 14) rfl) rfl ?_
        refine w_t (np := 1) (l2 := [some (eR a0), some (eI (1))]) (s2 := [eR a0]) rfl (s_an rfl (pos_g hI gA0 (by decide))) rfl ?_
        refine w_t (np := 2) (l2 := [some (eR a0), some (eI (1))]) (s2 := [eI (1), eR a0]) rfl rfl rfl ?_
        refine j_pf (np := 5) (w := 1) rfl rfl hI gA0 (by decide) (n := 14) rfl rfl (hO_i (lo := -2147483648) (hi := 2147483647) rfl (by decide)) ?_
        intro m10 I11 W12
        have F13 : Fr l_163 0 0 g μ m10 := F0.w W12 gA0 rfl
        refine w_t (np := 6) (l2 := [some (eR a0), some (eI (1))]) (s2 := [eI (-1)]) rfl rfl rfl ?_
        refine b_ri rfl rfl ?_
        show ex_q (dt_fg L ρ) rc (d + 3, (163, 20, [some (eR a0), some (eI (a1)), some (eI (a2))], [eI (-1)]), f :: F, m10)
        exact b_ri rfl rfl (K m10 (-1) I11 F13 (by decide))
    · refine j_gi (np := 12) rfl rfl rfl hI b4 (by decide) (n := 8) rfl rfl (lo := 0) (hi := 5) rfl ?_
      intro v6 e7 b8
      refine b_cle (t1 := 21) (t2 := 15) rfl rfl rfl (ev_w_in (by omega) (by omega)) (ev_w_in (by omega) (by omega)) (fun g9 => ?_) (fun g9 => ?_)
      · have b10 : 0 ≤ a2 ∧ a2 ≤ 5 := by omega
        refine w_t (np := 22) (l2 := [some (eR a0), some (eI (a1)), some (eI (a2))]) (s2 := [eR a0]) rfl (s_an rfl (pos_g hI gA0 (by decide))) rfl ?_
        refine w_gf (np := 25) (v := eR v2) rfl rfl (hI.kd gA0 (by decide) (n := 14) rfl) (by rw [e3]; rfl) ?_
        refine w_t (np := 26) (l2 := [some (eR a0), some (eI (a1)), some (eI (a2))]) (s2 := [eI (a1), eR v2]) rfl rfl rfl ?_
        refine w_cw (np := 29) (as := [eI (a1)]) (l2 := [some (eR v2), some (eI (a1))]) (rest := []) rfl rfl rfl (Nat.ble_eq.mp rfl) rfl rfl rfl (hI.kd b4 (by decide) (n := 8) rfl) rfl ?_
        refine w_t (np := 1) (l2 := [some (eR v2), some (eI (a1))]) (s2 := [eI (a1)]) rfl rfl rfl ?_
        refine b_ilt (t1 := 12) (t2 := 4) rfl rfl rfl (ev_w_in (by omega) (by omega)) (fun g10 => ?_) (fun g10 => ?_)
        · have b11 : -2147483648 ≤ a1 ∧ a1 ≤ -1 := by omega
          refine w_t (np := 13) (l2 := [some (eR v2), some (eI (a1))]) (s2 := [eI (1)]) rfl rfl rfl ?_
          refine w_go (t1 := 17) rfl rfl ?_
          refine b_rz rfl rfl (Or.inr rfl) ?_
          show ex_q (dt_fg L ρ) rc (d + 3, (163, 29, [some (eR a0), some (eI (a1)), some (eI (a2))], [eI (1)]), f :: F, μ)
          refine b_ieq (t1 := 38) (t2 := 32) rfl rfl rfl rfl (fun g11 => absurd g11 (by decide)) (fun g11 => ?_)
          refine w_t (np := 33) (l2 := [some (eR a0), some (eI (a1)), some (eI (a2))]) (s2 := [eR a0]) rfl (s_an rfl (pos_g hI gA0 (by decide))) rfl ?_
          refine w_t (np := 34) (l2 := [some (eR a0), some (eI (a1)), some (eI (a2))]) (s2 := [eI (2), eR a0]) rfl rfl rfl ?_
          refine w_cw (np := 37) (as := [eI (2)]) (l2 := [some (eR a0), some (eI (2))]) (rest := []) rfl rfl rfl (Nat.ble_eq.mp rfl) rfl rfl rfl (hI.kd gA0 (by decide) (n := 14) rfl) rfl ?_
          refine w_t (np := 1) (l2 := [some (eR a0), some (eI (2))]) (s2 := [eR a0]) rfl (s_an rfl (pos_g hI gA0 (by decide))) rfl ?_
          refine w_t (np := 2) (l2 := [some (eR a0), some (eI (2))]) (s2 := [eI (2), eR a0]) rfl rfl rfl ?_
          refine j_pf (np := 5) (w := 2) rfl rfl hI gA0 (by decide) (n := 14) rfl rfl (hO_i (lo := -2147483648) (hi := 2147483647) rfl (by decide)) ?_
          intro m12 I13 W14
          have F15 : Fr l_163 0 0 g μ m12 := F0.w W14 gA0 rfl
          refine w_t (np := 6) (l2 := [some (eR a0), some (eI (2))]) (s2 := [eI (-1)]) rfl rfl rfl ?_
          refine b_ri rfl rfl ?_
          show ex_q (dt_fg L ρ) rc (d + 3, (163, 37, [some (eR a0), some (eI (a1)), some (eI (a2))], [eI (-1)]), f :: F, m12)
          exact b_ri rfl rfl (K m12 (-1) I13 F15 (by decide))
        · have b11 : 0 ≤ a1 ∧ a1 ≤ 2147483647 := by omega
          refine w_t (np := 5) (l2 := [some (eR v2), some (eI (a1))]) (s2 := [eI (a1)]) rfl rfl rfl ?_
          refine w_t (np := 6) (l2 := [some (eR v2), some (eI (a1))]) (s2 := [eR v2, eI (a1)]) rfl (s_an rfl (pos_g hI b4 (by decide))) rfl ?_
          refine j_gi (np := 9) rfl rfl rfl hI b4 (by decide) (n := 8) rfl rfl (lo := 0) (hi := 890) rfl ?_
          intro v11 e12 b13
          refine b_clt (t1 := 16) (t2 := 12) rfl rfl rfl (ev_w_in (by omega) (by omega)) (ev_w_in (by omega) (by omega)) (fun g14 => ?_) (fun g14 => ?_)
          · have b15 : 0 ≤ a1 ∧ a1 ≤ 889 := by omega
            have b16 : 1 ≤ v11 ∧ v11 ≤ 890 := by omega
            refine w_t (np := 17) (l2 := [some (eR v2), some (eI (a1))]) (s2 := [eI (0)]) rfl rfl rfl ?_
            refine b_rz rfl rfl (Or.inl rfl) ?_
            show ex_q (dt_fg L ρ) rc (d + 3, (163, 29, [some (eR a0), some (eI (a1)), some (eI (a2))], [eI (0)]), f :: F, μ)
            refine b_ieq (t1 := 38) (t2 := 32) rfl rfl rfl rfl (fun g15 => ?_) (fun g15 => absurd g15 (by decide))
            refine w_t (np := 39) (l2 := [some (eR a0), some (eI (a1)), some (eI (a2))]) (s2 := [eR a0]) rfl (s_an rfl (pos_g hI gA0 (by decide))) rfl ?_
            refine w_t (np := 40) (l2 := [some (eR a0), some (eI (a1)), some (eI (a2))]) (s2 := [eR a0, eR a0]) rfl (s_an rfl (pos_g hI gA0 (by decide))) rfl ?_
            refine w_gf (np := 43) (v := eR v2) rfl rfl (hI.kd gA0 (by decide) (n := 14) rfl) (by rw [e3]; rfl) ?_
            refine w_t (np := 44) (l2 := [some (eR a0), some (eI (a1)), some (eI (a2))]) (s2 := [eI (a1), eR v2, eR a0]) rfl rfl rfl ?_
            refine w_t (np := 45) (l2 := [some (eR a0), some (eI (a1)), some (eI (a2))]) (s2 := [eI (a2), eI (a1), eR v2, eR a0]) rfl rfl rfl ?_
            refine w_cw (np := 48) (as := [eI (a1), eI (a2)]) (l2 := [some (eR v2), some (eI (a1)), some (eI (a2))]) (rest := [eR a0]) rfl rfl rfl (Nat.ble_eq.mp rfl) rfl rfl rfl (hI.kd b4 (by decide) (n := 8) rfl) rfl ?_
            refine s_38_2 (a1 := a1) (a2 := a2) hI b4 (by omega) (by omega) ?_
            intro v16 b17
            show ex_q (dt_fg L ρ) rc (d + 3, (163, 48, [some (eR a0), some (eI (a1)), some (eI (a2))], [eI (v16), eR a0]), f :: F, μ)
            refine w_cw (np := 51) (as := [eI (v16)]) (l2 := [some (eR a0), some (eI (v16))]) (rest := []) rfl rfl rfl (Nat.ble_eq.mp rfl) rfl rfl rfl (hI.kd gA0 (by decide) (n := 14) rfl) rfl ?_
            refine w_t (np := 1) (l2 := [some (eR a0), some (eI (v16))]) (s2 := [eR a0]) rfl (s_an rfl (pos_g hI gA0 (by decide))) rfl ?_
            refine w_t (np := 2) (l2 := [some (eR a0), some (eI (v16))]) (s2 := [eI (0), eR a0]) rfl rfl rfl ?_
            refine j_pf (np := 5) (w := 0) rfl rfl hI gA0 (by decide) (n := 14) rfl rfl (hO_i (lo := -2147483648) (hi := 2147483647) rfl (by decide)) ?_
            intro m18 I19 W20
            have F21 : Fr l_163 0 0 g μ m18 := F0.w W20 gA0 rfl
            refine w_t (np := 6) (l2 := [some (eR a0), some (eI (v16))]) (s2 := [eI (v16)]) rfl rfl rfl ?_
            refine b_ri rfl rfl ?_
            show ex_q (dt_fg L ρ) rc (d + 3, (163, 51, [some (eR a0), some (eI (a1)), some (eI (a2))], [eI (v16)]), f :: F, m18)
            exact b_ri rfl rfl (K m18 (v16) I19 F21 (by omega))
          · refine w_t (np := 13) (l2 := [some (eR v2), some (eI (a1))]) (s2 := [eI (1)]) rfl rfl rfl ?_
            refine w_go (t1 := 17) rfl rfl ?_
            refine b_rz rfl rfl (Or.inr rfl) ?_
            show ex_q (dt_fg L ρ) rc (d + 3, (163, 29, [some (eR a0), some (eI (a1)), some (eI (a2))], [eI (1)]), f :: F, μ)
            refine b_ieq (t1 := 38) (t2 := 32) rfl rfl rfl rfl (fun g15 => absurd g15 (by decide)) (fun g15 => ?_)
            refine w_t (np := 33) (l2 := [some (eR a0), some (eI (a1)), some (eI (a2))]) (s2 := [eR a0]) rfl (s_an rfl (pos_g hI gA0 (by decide))) rfl ?_
            refine w_t (np := 34) (l2 := [some (eR a0), some (eI (a1)), some (eI (a2))]) (s2 := [eI (2), eR a0]) rfl rfl rfl ?_
            refine w_cw (np := 37) (as := [eI (2)]) (l2 := [some (eR a0), some (eI (2))]) (rest := []) rfl rfl rfl (Nat.ble_eq.mp rfl) rfl rfl rfl (hI.kd gA0 (by decide) (n := 14) rfl) rfl ?_
            refine w_t (np := 1) (l2 := [some (eR a0), some (eI (2))]) (s2 := [eR a0]) rfl (s_an rfl (pos_g hI gA0 (by decide))) rfl ?_
            refine w_t (np := 2) (l2 := [some (eR a0), some (eI (2))]) (s2 := [eI (2), eR a0]) rfl rfl rfl ?_
            refine j_pf (np := 5) (w := 2) rfl rfl hI gA0 (by decide) (n := 14) rfl rfl (hO_i (lo := -2147483648) (hi := 2147483647) rfl (by decide)) ?_
            intro m16 I17 W18
            have F19 : Fr l_163 0 0 g μ m16 := F0.w W18 gA0 rfl
            refine w_t (np := 6) (l2 := [some (eR a0), some (eI (2))]) (s2 := [eI (-1)]) rfl rfl rfl ?_
            refine b_ri rfl rfl ?_
            show ex_q (dt_fg L ρ) rc (d + 3, (163, 37, [some (eR a0), some (eI (a1)), some (eI (a2))], [eI (-1)]), f :: F, m16)
            exact b_ri rfl rfl (K m16 (-1) I17 F19 (by decide))
      · have b10 : 1 ≤ a2 ∧ a2 ≤ 2147483647 := by omega
        refine w_t (np := 16) (l2 := [some (eR a0), some (eI (a1)), some (eI (a2))]) (s2 := [eR a0]) rfl (s_an rfl (pos_g hI gA0 (by decide))) rfl ?_
        refine w_t (np := 17) (l2 := [some (eR a0), some (eI (a1)), some (eI (a2))]) (s2 := [eI (1), eR a0]) rfl rfl rfl ?_
        refine w_cw (np := 20) (as := [eI (1)]) (l2 := [some (eR a0), some (eI (1))]) (rest := []) rfl rfl rfl (Nat.ble_eq.mp rfl) rfl rfl rfl (hI.kd gA0 (by decide) (n := 14) rfl) rfl ?_
        refine w_t (np := 1) (l2 := [some (eR a0), some (eI (1))]) (s2 := [eR a0]) rfl (s_an rfl (pos_g hI gA0 (by decide))) rfl ?_
        refine w_t (np := 2) (l2 := [some (eR a0), some (eI (1))]) (s2 := [eI (1), eR a0]) rfl rfl rfl ?_
        refine j_pf (np := 5) (w := 1) rfl rfl hI gA0 (by decide) (n := 14) rfl rfl (hO_i (lo := -2147483648) (hi := 2147483647) rfl (by decide)) ?_
        intro m10 I11 W12
        have F13 : Fr l_163 0 0 g μ m10 := F0.w W12 gA0 rfl
        refine w_t (np := 6) (l2 := [some (eR a0), some (eI (1))]) (s2 := [eI (-1)]) rfl rfl rfl ?_
        refine b_ri rfl rfl ?_
        show ex_q (dt_fg L ρ) rc (d + 3, (163, 20, [some (eR a0), some (eI (a1)), some (eI (a2))], [eI (-1)]), f :: F, m10)
        exact b_ri rfl rfl (K m10 (-1) I11 F13 (by decide))
def l_166 : List Nat := [270]
theorem s_166 {L : Nat} {ρ : Nat → Int} {rc : eQ} {d : Nat} {f : eFr} {F : List eFr} {μ : eM} {g : Nat → Nat} {a0 : Nat} {a1 : Int} {a2 : Int} {a3 : Int} {a4 : Int} (hI : SI g μ) (gA0 : g a0 = 1) (bA1 : -2147483648 ≤ a1 ∧ a1 ≤ 2147483647) (bA2 : -2147483648 ≤ a2 ∧ a2 ≤ 2147483647) (bA3 : -2147483648 ≤ a3 ∧ a3 ≤ 2147483647) (bA4 : -2147483648 ≤ a4 ∧ a4 ≤ 2147483647) (K : ∀ (μ2 : eM) (v : Int), SI g μ2 → Fr l_166 0 0 g μ μ2 → (-2147483648 ≤ v ∧ v ≤ 2147483647) → ex_q (dt_fg L ρ) rc (d + 3, (f.1, f.2.1, f.2.2.1, eI v :: f.2.2.2), F, μ2)) : ex_q (dt_fg L ρ) rc (d + 2, (166, 0, [some (eR a0), some (eI (a1)), some (eI (a2)), some (eI (a3)), some (eI (a4)), none, none, none, none, none, none], []), f :: F, μ) := by
  have F0 : Fr l_166 0 0 g μ μ := Fr.r
  refine w_t (np := 1) (l2 := [some (eR a0), some (eI (a1)), some (eI (a2)), some (eI (a3)), some (eI (a4)), none, none, none, none, none, none]) (s2 := [eR a0]) rfl (s_an rfl (pos_g hI gA0 (by decide))) rfl ?_
  refine j_gr (np := 4) rfl rfl hI gA0 (by decide) (n := 14) rfl rfl rfl ?_
  intro v1 e2 b3 z4
  rcases hor2 b3 with b3 | b3
  · refine w_t (np := 5) (l2 := [some (eR a0), some (eI (a1)), some (eI (a2)), some (eI (a3)), some (eI (a4)), none, none, none, none, none, none]) (s2 := [eI (a1), eR v1]) rfl rfl rfl ?_
    refine w_cw (np := 8) (as := [eI (a1)]) (l2 := [some (eR v1), some (eI (a1))]) (rest := []) rfl rfl rfl (Nat.ble_eq.mp rfl) rfl rfl rfl (hI.kd b3 (by decide) (n := 8) rfl) rfl ?_
    refine w_t (np := 1) (l2 := [some (eR v1), some (eI (a1))]) (s2 := [eI (a1)]) rfl rfl rfl ?_
    refine b_ilt (t1 := 12) (t2 := 4) rfl rfl rfl (ev_w_in (by omega) (by omega)) (fun g5 => ?_) (fun g5 => ?_)
    · have b6 : -2147483648 ≤ a1 ∧ a1 ≤ -1 := by omega
      refine w_t (np := 13) (l2 := [some (eR v1), some (eI (a1))]) (s2 := [eI (1)]) rfl rfl rfl ?_
      refine w_go (t1 := 17) rfl rfl ?_
      refine b_rz rfl rfl (Or.inr rfl) ?_
      show ex_q (dt_fg L ρ) rc (d + 2, (166, 8, [some (eR a0), some (eI (a1)), some (eI (a2)), some (eI (a3)), some (eI (a4)), none, none, none, none, none, none], [eI (1)]), f :: F, μ)
      refine b_ine (t1 := 45) (t2 := 11) rfl rfl rfl rfl (fun g6 => ?_) (fun g6 => absurd g6 (by decide))
      refine w_t (np := 46) (l2 := [some (eR a0), some (eI (a1)), some (eI (a2)), some (eI (a3)), some (eI (a4)), none, none, none, none, none, none]) (s2 := [eR a0]) rfl (s_an rfl (pos_g hI gA0 (by decide))) rfl ?_
      refine w_t (np := 47) (l2 := [some (eR a0), some (eI (a1)), some (eI (a2)), some (eI (a3)), some (eI (a4)), none, none, none, none, none, none]) (s2 := [eI (2), eR a0]) rfl rfl rfl ?_
      refine w_cw (np := 50) (as := [eI (2)]) (l2 := [some (eR a0), some (eI (2))]) (rest := []) rfl rfl rfl (Nat.ble_eq.mp rfl) rfl rfl rfl (hI.kd gA0 (by decide) (n := 14) rfl) rfl ?_
      refine w_t (np := 1) (l2 := [some (eR a0), some (eI (2))]) (s2 := [eR a0]) rfl (s_an rfl (pos_g hI gA0 (by decide))) rfl ?_
      refine w_t (np := 2) (l2 := [some (eR a0), some (eI (2))]) (s2 := [eI (2), eR a0]) rfl rfl rfl ?_
      refine j_pf (np := 5) (w := 2) rfl rfl hI gA0 (by decide) (n := 14) rfl rfl (hO_i (lo := -2147483648) (hi := 2147483647) rfl (by decide)) ?_
      intro m7 I8 W9
      have F10 : Fr l_166 0 0 g μ m7 := F0.w W9 gA0 rfl
      refine w_t (np := 6) (l2 := [some (eR a0), some (eI (2))]) (s2 := [eI (-1)]) rfl rfl rfl ?_
      refine b_ri rfl rfl ?_
      show ex_q (dt_fg L ρ) rc (d + 2, (166, 50, [some (eR a0), some (eI (a1)), some (eI (a2)), some (eI (a3)), some (eI (a4)), none, none, none, none, none, none], [eI (-1)]), f :: F, m7)
      exact b_ri rfl rfl (K m7 (-1) I8 F10 (by decide))
    · have b6 : 0 ≤ a1 ∧ a1 ≤ 2147483647 := by omega
      refine w_t (np := 5) (l2 := [some (eR v1), some (eI (a1))]) (s2 := [eI (a1)]) rfl rfl rfl ?_
      refine w_t (np := 6) (l2 := [some (eR v1), some (eI (a1))]) (s2 := [eR v1, eI (a1)]) rfl (s_an rfl (pos_g hI b3 (by decide))) rfl ?_
      refine j_gi (np := 9) rfl rfl rfl hI b3 (by decide) (n := 8) rfl rfl (lo := 0) (hi := 50) rfl ?_
      intro v6 e7 b8
      refine b_clt (t1 := 16) (t2 := 12) rfl rfl rfl (ev_w_in (by omega) (by omega)) (ev_w_in (by omega) (by omega)) (fun g9 => ?_) (fun g9 => ?_)
      · have b10 : 0 ≤ a1 ∧ a1 ≤ 49 := by omega
        have b11 : 1 ≤ v6 ∧ v6 ≤ 50 := by omega
        refine w_t (np := 17) (l2 := [some (eR v1), some (eI (a1))]) (s2 := [eI (0)]) rfl rfl rfl ?_
        refine b_rz rfl rfl (Or.inl rfl) ?_
        show ex_q (dt_fg L ρ) rc (d + 2, (166, 8, [some (eR a0), some (eI (a1)), some (eI (a2)), some (eI (a3)), some (eI (a4)), none, none, none, none, none, none], [eI (0)]), f :: F, μ)
        refine b_ine (t1 := 45) (t2 := 11) rfl rfl rfl rfl (fun g10 => absurd g10 (by decide)) (fun g10 => ?_)
        refine w_t (np := 12) (l2 := [some (eR a0), some (eI (a1)), some (eI (a2)), some (eI (a3)), some (eI (a4)), none, none, none, none, none, none]) (s2 := [eR a0]) rfl (s_an rfl (pos_g hI gA0 (by decide))) rfl ?_
        refine w_gf (np := 15) (v := eR v1) rfl rfl (hI.kd gA0 (by decide) (n := 14) rfl) (by rw [e2]; rfl) ?_
        refine w_t (np := 16) (l2 := [some (eR a0), some (eI (a1)), some (eI (a2)), some (eI (a3)), some (eI (a4)), none, none, none, none, none, none]) (s2 := [eI (a2), eR v1]) rfl rfl rfl ?_
        refine w_cw (np := 19) (as := [eI (a2)]) (l2 := [some (eR v1), some (eI (a2))]) (rest := []) rfl rfl rfl (Nat.ble_eq.mp rfl) rfl rfl rfl (hI.kd b3 (by decide) (n := 8) rfl) rfl ?_
        refine w_t (np := 1) (l2 := [some (eR v1), some (eI (a2))]) (s2 := [eI (a2)]) rfl rfl rfl ?_
        refine b_ilt (t1 := 12) (t2 := 4) rfl rfl rfl (ev_w_in (by omega) (by omega)) (fun g11 => ?_) (fun g11 => ?_)
        · have b12 : -2147483648 ≤ a2 ∧ a2 ≤ -1 := by omega
          refine w_t (np := 13) (l2 := [some (eR v1), some (eI (a2))]) (s2 := [eI (1)]) rfl rfl rfl ?_
          refine w_go (t1 := 17) rfl rfl ?_
          refine b_rz rfl rfl (Or.inr rfl) ?_
          show ex_q (dt_fg L ρ) rc (d + 2, (166, 19, [some (eR a0), some (eI (a1)), some (eI (a2)), some (eI (a3)), some (eI (a4)), none, none, none, none, none, none], [eI (1)]), f :: F, μ)
          refine b_ine (t1 := 45) (t2 := 22) rfl rfl rfl rfl (fun g12 => ?_) (fun g12 => absurd g12 (by decide))
          refine w_t (np := 46) (l2 := [some (eR a0), some (eI (a1)), some (eI (a2)), some (eI (a3)), some (eI (a4)), none, none, none, none, none, none]) (s2 := [eR a0]) rfl (s_an rfl (pos_g hI gA0 (by decide))) rfl ?_
          refine w_t (np := 47) (l2 := [some (eR a0), some (eI (a1)), some (eI (a2)), some (eI (a3)), some (eI (a4)), none, none, none, none, none, none]) (s2 := [eI (2), eR a0]) rfl rfl rfl ?_
          refine w_cw (np := 50) (as := [eI (2)]) (l2 := [some (eR a0), some (eI (2))]) (rest := []) rfl rfl rfl (Nat.ble_eq.mp rfl) rfl rfl rfl (hI.kd gA0 (by decide) (n := 14) rfl) rfl ?_
          refine w_t (np := 1) (l2 := [some (eR a0), some (eI (2))]) (s2 := [eR a0]) rfl (s_an rfl (pos_g hI gA0 (by decide))) rfl ?_
          refine w_t (np := 2) (l2 := [some (eR a0), some (eI (2))]) (s2 := [eI (2), eR a0]) rfl rfl rfl ?_
          refine j_pf (np := 5) (w := 2) rfl rfl hI gA0 (by decide) (n := 14) rfl rfl (hO_i (lo := -2147483648) (hi := 2147483647) rfl (by decide)) ?_
          intro m13 I14 W15
          have F16 : Fr l_166 0 0 g μ m13 := F0.w W15 gA0 rfl
          refine w_t (np := 6) (l2 := [some (eR a0), some (eI (2))]) (s2 := [eI (-1)]) rfl rfl rfl ?_
          refine b_ri rfl rfl ?_
          show ex_q (dt_fg L ρ) rc (d + 2, (166, 50, [some (eR a0), some (eI (a1)), some (eI (a2)), some (eI (a3)), some (eI (a4)), none, none, none, none, none, none], [eI (-1)]), f :: F, m13)
          exact b_ri rfl rfl (K m13 (-1) I14 F16 (by decide))
        · have b12 : 0 ≤ a2 ∧ a2 ≤ 2147483647 := by omega
          refine w_t (np := 5) (l2 := [some (eR v1), some (eI (a2))]) (s2 := [eI (a2)]) rfl rfl rfl ?_
          refine w_t (np := 6) (l2 := [some (eR v1), some (eI (a2))]) (s2 := [eR v1, eI (a2)]) rfl (s_an rfl (pos_g hI b3 (by decide))) rfl ?_
          refine w_gf (np := 9) (v := eI (v6)) rfl rfl (hI.kd b3 (by decide) (n := 8) rfl) (by rw [e7]; rfl) ?_
          refine b_clt (t1 := 16) (t2 := 12) rfl rfl rfl (ev_w_in (by omega) (by omega)) (ev_w_in (by omega) (by omega)) (fun g12 => ?_) (fun g12 => ?_)
          · have b13 : 0 ≤ a2 ∧ a2 ≤ 49 := by omega
            refine w_t (np := 17) (l2 := [some (eR v1), some (eI (a2))]) (s2 := [eI (0)]) rfl rfl rfl ?_
            refine b_rz rfl rfl (Or.inl rfl) ?_
            show ex_q (dt_fg L ρ) rc (d + 2, (166, 19, [some (eR a0), some (eI (a1)), some (eI (a2)), some (eI (a3)), some (eI (a4)), none, none, none, none, none, none], [eI (0)]), f :: F, μ)
            refine b_ine (t1 := 45) (t2 := 22) rfl rfl rfl rfl (fun g13 => absurd g13 (by decide)) (fun g13 => ?_)
            refine w_t (np := 23) (l2 := [some (eR a0), some (eI (a1)), some (eI (a2)), some (eI (a3)), some (eI (a4)), none, none, none, none, none, none]) (s2 := [eR a0]) rfl (s_an rfl (pos_g hI gA0 (by decide))) rfl ?_
            refine w_gf (np := 26) (v := eR v1) rfl rfl (hI.kd gA0 (by decide) (n := 14) rfl) (by rw [e2]; rfl) ?_
            refine w_t (np := 27) (l2 := [some (eR a0), some (eI (a1)), some (eI (a2)), some (eI (a3)), some (eI (a4)), none, none, none, none, none, none]) (s2 := [eI (a3), eR v1]) rfl rfl rfl ?_
            refine w_cw (np := 30) (as := [eI (a3)]) (l2 := [some (eR v1), some (eI (a3))]) (rest := []) rfl rfl rfl (Nat.ble_eq.mp rfl) rfl rfl rfl (hI.kd b3 (by decide) (n := 8) rfl) rfl ?_
            refine w_t (np := 1) (l2 := [some (eR v1), some (eI (a3))]) (s2 := [eI (a3)]) rfl rfl rfl ?_
            refine b_ilt (t1 := 12) (t2 := 4) rfl rfl rfl (ev_w_in (by omega) (by omega)) (fun g14 => ?_) (fun g14 => ?_)
            · have b15 : -2147483648 ≤ a3 ∧ a3 ≤ -1 := by omega
              refine w_t (np := 13) (l2 := [some (eR v1), some (eI (a3))]) (s2 := [eI (1)]) rfl rfl rfl ?_
              refine w_go (t1 := 17) rfl rfl ?_
              refine b_rz rfl rfl (Or.inr rfl) ?_
              show ex_q (dt_fg L ρ) rc (d + 2, (166, 30, [some (eR a0), some (eI (a1)), some (eI (a2)), some (eI (a3)), some (eI (a4)), none, none, none, none, none, none], [eI (1)]), f :: F, μ)
              refine b_ine (t1 := 45) (t2 := 33) rfl rfl rfl rfl (fun g15 => ?_) (fun g15 => absurd g15 (by decide))
              refine w_t (np := 46) (l2 := [some (eR a0), some (eI (a1)), some (eI (a2)), some (eI (a3)), some (eI (a4)), none, none, none, none, none, none]) (s2 := [eR a0]) rfl (s_an rfl (pos_g hI gA0 (by decide))) rfl ?_
              refine w_t (np := 47) (l2 := [some (eR a0), some (eI (a1)), some (eI (a2)), some (eI (a3)), some (eI (a4)), none, none, none, none, none, none]) (s2 := [eI (2), eR a0]) rfl rfl rfl ?_
              refine w_cw (np := 50) (as := [eI (2)]) (l2 := [some (eR a0), some (eI (2))]) (rest := []) rfl rfl rfl (Nat.ble_eq.mp rfl) rfl rfl rfl (hI.kd gA0 (by decide) (n := 14) rfl) rfl ?_
              refine w_t (np := 1) (l2 := [some (eR a0), some (eI (2))]) (s2 := [eR a0]) rfl (s_an rfl (pos_g hI gA0 (by decide))) rfl ?_
              refine w_t (np := 2) (l2 := [some (eR a0), some (eI (2))]) (s2 := [eI (2), eR a0]) rfl rfl rfl ?_
              refine j_pf (np := 5) (w := 2) rfl rfl hI gA0 (by decide) (n := 14) rfl rfl (hO_i (lo := -2147483648) (hi := 2147483647) rfl (by decide)) ?_
              intro m16 I17 W18
              have F19 : Fr l_166 0 0 g μ m16 := F0.w W18 gA0 rfl
              refine w_t (np := 6) (l2 := [some (eR a0), some (eI (2))]) (s2 := [eI (-1)]) rfl rfl rfl ?_
              refine b_ri rfl rfl ?_
              show ex_q (dt_fg L ρ) rc (d + 2, (166, 50, [some (eR a0), some (eI (a1)), some (eI (a2)), some (eI (a3)), some (eI (a4)), none, none, none, none, none, none], [eI (-1)]), f :: F, m16)
              exact b_ri rfl rfl (K m16 (-1) I17 F19 (by decide))
            · have b15 : 0 ≤ a3 ∧ a3 ≤ 2147483647 := by omega
              refine w_t (np := 5) (l2 := [some (eR v1), some (eI (a3))]) (s2 := [eI (a3)]) rfl rfl rfl ?_
              refine w_t (np := 6) (l2 := [some (eR v1), some (eI (a3))]) (s2 := [eR v1, eI (a3)]) rfl (s_an rfl (pos_g hI b3 (by decide))) rfl ?_
              refine w_gf (np := 9) (v := eI (v6)) rfl rfl (hI.kd b3 (by decide) (n := 8) rfl) (by rw [e7]; rfl) ?_
              refine b_clt (t1 := 16) (t2 := 12) rfl rfl rfl (ev_w_in (by omega) (by omega)) (ev_w_in (by omega) (by omega)) (fun g15 => ?_) (fun g15 => ?_)
              · have b16 : 0 ≤ a3 ∧ a3 ≤ 49 := by omega
                refine w_t (np := 17) (l2 := [some (eR v1), some (eI (a3))]) (s2 := [eI (0)]) rfl rfl rfl ?_
                refine b_rz rfl rfl (Or.inl rfl) ?_
                show ex_q (dt_fg L ρ) rc (d + 2, (166, 30, [some (eR a0), some (eI (a1)), some (eI (a2)), some (eI (a3)), some (eI (a4)), none, none, none, none, none, none], [eI (0)]), f :: F, μ)
                refine b_ine (t1 := 45) (t2 := 33) rfl rfl rfl rfl (fun g16 => absurd g16 (by decide)) (fun g16 => ?_)
                refine w_t (np := 34) (l2 := [some (eR a0), some (eI (a1)), some (eI (a2)), some (eI (a3)), some (eI (a4)), none, none, none, none, none, none]) (s2 := [eR a0]) rfl (s_an rfl (pos_g hI gA0 (by decide))) rfl ?_
                refine w_gf (np := 37) (v := eR v1) rfl rfl (hI.kd gA0 (by decide) (n := 14) rfl) (by rw [e2]; rfl) ?_
                refine w_t (np := 39) (l2 := [some (eR a0), some (eI (a1)), some (eI (a2)), some (eI (a3)), some (eI (a4)), none, none, none, none, none, none]) (s2 := [eI (a4), eR v1]) rfl rfl rfl ?_
                refine w_cw (np := 42) (as := [eI (a4)]) (l2 := [some (eR v1), some (eI (a4))]) (rest := []) rfl rfl rfl (Nat.ble_eq.mp rfl) rfl rfl rfl (hI.kd b3 (by decide) (n := 8) rfl) rfl ?_
                refine w_t (np := 1) (l2 := [some (eR v1), some (eI (a4))]) (s2 := [eI (a4)]) rfl rfl rfl ?_
                refine b_ilt (t1 := 12) (t2 := 4) rfl rfl rfl (ev_w_in (by omega) (by omega)) (fun g17 => ?_) (fun g17 => ?_)
                · have b18 : -2147483648 ≤ a4 ∧ a4 ≤ -1 := by omega
                  refine w_t (np := 13) (l2 := [some (eR v1), some (eI (a4))]) (s2 := [eI (1)]) rfl rfl rfl ?_
                  refine w_go (t1 := 17) rfl rfl ?_
                  refine b_rz rfl rfl (Or.inr rfl) ?_
                  show ex_q (dt_fg L ρ) rc (d + 2, (166, 42, [some (eR a0), some (eI (a1)), some (eI (a2)), some (eI (a3)), some (eI (a4)), none, none, none, none, none, none], [eI (1)]), f :: F, μ)
                  refine b_ieq (t1 := 51) (t2 := 45) rfl rfl rfl rfl (fun g18 => absurd g18 (by decide)) (fun g18 => ?_)
                  refine w_t (np := 46) (l2 := [some (eR a0), some (eI (a1)), some (eI (a2)), some (eI (a3)), some (eI (a4)), none, none, none, none, none, none]) (s2 := [eR a0]) rfl (s_an rfl (pos_g hI gA0 (by decide))) rfl ?_
                  refine w_t (np := 47) (l2 := [some (eR a0), some (eI (a1)), some (eI (a2)), some (eI (a3)), some (eI (a4)), none, none, none, none, none, none]) (s2 := [eI (2), eR a0]) rfl rfl rfl ?_
                  refine w_cw (np := 50) (as := [eI (2)]) (l2 := [some (eR a0), some (eI (2))]) (rest := []) rfl rfl rfl (Nat.ble_eq.mp rfl) rfl rfl rfl (hI.kd gA0 (by decide) (n := 14) rfl) rfl ?_
                  refine w_t (np := 1) (l2 := [some (eR a0), some (eI (2))]) (s2 := [eR a0]) rfl (s_an rfl (pos_g hI gA0 (by decide))) rfl ?_
                  refine w_t (np := 2) (l2 := [some (eR a0), some (eI (2))]) (s2 := [eI (2), eR a0]) rfl rfl rfl ?_
                  refine j_pf (np := 5) (w := 2) rfl rfl hI gA0 (by decide) (n := 14) rfl rfl (hO_i (lo := -2147483648) (hi := 2147483647) rfl (by decide)) ?_
                  intro m19 I20 W21
                  have F22 : Fr l_166 0 0 g μ m19 := F0.w W21 gA0 rfl
                  refine w_t (np := 6) (l2 := [some (eR a0), some (eI (2))]) (s2 := [eI (-1)]) rfl rfl rfl ?_
                  refine b_ri rfl rfl ?_
                  show ex_q (dt_fg L ρ) rc (d + 2, (166, 50, [some (eR a0), some (eI (a1)), some (eI (a2)), some (eI (a3)), some (eI (a4)), none, none, none, none, none, none], [eI (-1)]), f :: F, m19)
                  exact b_ri rfl rfl (K m19 (-1) I20 F22 (by decide))
                · have b18 : 0 ≤ a4 ∧ a4 ≤ 2147483647 := by omega
                  refine w_t (np := 5) (l2 := [some (eR v1), some (eI (a4))]) (s2 := [eI (a4)]) rfl rfl rfl ?_
                  refine w_t (np := 6) (l2 := [some (eR v1), some (eI (a4))]) (s2 := [eR v1, eI (a4)]) rfl (s_an rfl (pos_g hI b3 (by decide))) rfl ?_
                  refine w_gf (np := 9) (v := eI (v6)) rfl rfl (hI.kd b3 (by decide) (n := 8) rfl) (by rw [e7]; rfl) ?_
                  refine b_clt (t1 := 16) (t2 := 12) rfl rfl rfl (ev_w_in (by omega) (by omega)) (ev_w_in (by omega) (by omega)) (fun g18 => ?_) (fun g18 => ?_)
                  · have b19 : 0 ≤ a4 ∧ a4 ≤ 49 := by omega
                    refine w_t (np := 17) (l2 := [some (eR v1), some (eI (a4))]) (s2 := [eI (0)]) rfl rfl rfl ?_
                    refine b_rz rfl rfl (Or.inl rfl) ?_
                    show ex_q (dt_fg L ρ) rc (d + 2, (166, 42, [some (eR a0), some (eI (a1)), some (eI (a2)), some (eI (a3)), some (eI (a4)), none, none, none, none, none, none], [eI (0)]), f :: F, μ)
                    refine b_ieq (t1 := 51) (t2 := 45) rfl rfl rfl rfl (fun g19 => ?_) (fun g19 => absurd g19 (by decide))
                    refine w_t (np := 52) (l2 := [some (eR a0), some (eI (a1)), some (eI (a2)), some (eI (a3)), some (eI (a4)), none, none, none, none, none, none]) (s2 := [eR a0]) rfl (s_an rfl (pos_g hI gA0 (by decide))) rfl ?_
                    refine w_gf (np := 55) (v := eR v1) rfl rfl (hI.kd gA0 (by decide) (n := 14) rfl) (by rw [e2]; rfl) ?_
                    refine w_t (np := 56) (l2 := [some (eR a0), some (eI (a1)), some (eI (a2)), some (eI (a3)), some (eI (a4)), none, none, none, none, none, none]) (s2 := [eI (a1), eR v1]) rfl rfl rfl ?_
                    refine w_t (np := 57) (l2 := [some (eR a0), some (eI (a1)), some (eI (a2)), some (eI (a3)), some (eI (a4)), none, none, none, none, none, none]) (s2 := [eI (0), eI (a1), eR v1]) rfl rfl rfl ?_
                    refine w_cw (np := 60) (as := [eI (a1), eI (0)]) (l2 := [some (eR v1), some (eI (a1)), some (eI (0))]) (rest := []) rfl rfl rfl (Nat.ble_eq.mp rfl) rfl rfl rfl (hI.kd b3 (by decide) (n := 8) rfl) rfl ?_
                    refine s_22 (a1 := a1) (a2 := 0) hI b3 (by omega) (by decide) ?_
                    intro v20 b21
                    show ex_q (dt_fg L ρ) rc (d + 2, (166, 60, [some (eR a0), some (eI (a1)), some (eI (a2)), some (eI (a3)), some (eI (a4)), none, none, none, none, none, none], [eJ (v20)]), f :: F, μ)
                    refine w_t (np := 61) (l2 := [some (eR a0), some (eI (a1)), some (eI (a2)), some (eI (a3)), some (eI (a4)), none, none, none, none, none, none]) (s2 := [eR a0, eJ (v20)]) rfl (s_an rfl (pos_g hI gA0 (by decide))) rfl ?_
                    refine w_gf (np := 64) (v := eR v1) rfl rfl (hI.kd gA0 (by decide) (n := 14) rfl) (by rw [e2]; rfl) ?_
                    refine w_t (np := 65) (l2 := [some (eR a0), some (eI (a1)), some (eI (a2)), some (eI (a3)), some (eI (a4)), none, none, none, none, none, none]) (s2 := [eI (a2), eR v1, eJ (v20)]) rfl rfl rfl ?_
                    refine w_t (np := 66) (l2 := [some (eR a0), some (eI (a1)), some (eI (a2)), some (eI (a3)), some (eI (a4)), none, none, none, none, none, none]) (s2 := [eI (0), eI (a2), eR v1, eJ (v20)]) rfl rfl rfl ?_
                    refine w_cw (np := 69) (as := [eI (a2), eI (0)]) (l2 := [some (eR v1), some (eI (a2)), some (eI (0))]) (rest := [eJ (v20)]) rfl rfl rfl (Nat.ble_eq.mp rfl) rfl rfl rfl (hI.kd b3 (by decide) (n := 8) rfl) rfl ?_
                    refine s_22 (a1 := a2) (a2 := 0) hI b3 (by omega) (by decide) ?_
                    intro v22 b23
                    show ex_q (dt_fg L ρ) rc (d + 2, (166, 69, [some (eR a0), some (eI (a1)), some (eI (a2)), some (eI (a3)), some (eI (a4)), none, none, none, none, none, none], [eJ (v22), eJ (v20)]), f :: F, μ)
                    refine w_cu (np := 72) (as := [eJ (v20), eJ (v22)]) (l2 := [some (eJ (v20)), none, some (eJ (v22)), none]) (rest := []) rfl rfl rfl (Nat.ble_eq.mp rfl) rfl rfl rfl rfl ?_
                    refine s_76 hI b21 b23 ?_
                    intro v24 b25
                    show ex_q (dt_fg L ρ) rc (d + 2, (166, 72, [some (eR a0), some (eI (a1)), some (eI (a2)), some (eI (a3)), some (eI (a4)), none, none, none, none, none, none], [eJ (v24)]), f :: F, μ)
                    refine w_t (np := 74) (l2 := [some (eR a0), some (eI (a1)), some (eI (a2)), some (eI (a3)), some (eI (a4)), some (eJ (v24)), none, none, none, none, none]) (s2 := []) rfl rfl rfl ?_
                    refine w_t (np := 75) (l2 := [some (eR a0), some (eI (a1)), some (eI (a2)), some (eI (a3)), some (eI (a4)), some (eJ (v24)), none, none, none, none, none]) (s2 := [eR a0]) rfl (s_an rfl (pos_g hI gA0 (by decide))) rfl ?_
                    refine w_gf (np := 78) (v := eR v1) rfl rfl (hI.kd gA0 (by decide) (n := 14) rfl) (by rw [e2]; rfl) ?_
                    refine w_t (np := 79) (l2 := [some (eR a0), some (eI (a1)), some (eI (a2)), some (eI (a3)), some (eI (a4)), some (eJ (v24)), none, none, none, none, none]) (s2 := [eI (a3), eR v1]) rfl rfl rfl ?_
                    refine w_t (np := 80) (l2 := [some (eR a0), some (eI (a1)), some (eI (a2)), some (eI (a3)), some (eI (a4)), some (eJ (v24)), none, none, none, none, none]) (s2 := [eI (0), eI (a3), eR v1]) rfl rfl rfl ?_
                    refine w_cw (np := 83) (as := [eI (a3), eI (0)]) (l2 := [some (eR v1), some (eI (a3)), some (eI (0))]) (rest := []) rfl rfl rfl (Nat.ble_eq.mp rfl) rfl rfl rfl (hI.kd b3 (by decide) (n := 8) rfl) rfl ?_
                    refine s_22 (a1 := a3) (a2 := 0) hI b3 (by omega) (by decide) ?_
                    intro v26 b27
                    show ex_q (dt_fg L ρ) rc (d + 2, (166, 83, [some (eR a0), some (eI (a1)), some (eI (a2)), some (eI (a3)), some (eI (a4)), some (eJ (v24)), none, none, none, none, none], [eJ (v26)]), f :: F, μ)
                    refine w_t (np := 84) (l2 := [some (eR a0), some (eI (a1)), some (eI (a2)), some (eI (a3)), some (eI (a4)), some (eJ (v24)), none, none, none, none, none]) (s2 := [eR a0, eJ (v26)]) rfl (s_an rfl (pos_g hI gA0 (by decide))) rfl ?_
                    refine w_gf (np := 87) (v := eR v1) rfl rfl (hI.kd gA0 (by decide) (n := 14) rfl) (by rw [e2]; rfl) ?_
                    refine w_t (np := 89) (l2 := [some (eR a0), some (eI (a1)), some (eI (a2)), some (eI (a3)), some (eI (a4)), some (eJ (v24)), none, none, none, none, none]) (s2 := [eI (a4), eR v1, eJ (v26)]) rfl rfl rfl ?_
                    refine w_t (np := 90) (l2 := [some (eR a0), some (eI (a1)), some (eI (a2)), some (eI (a3)), some (eI (a4)), some (eJ (v24)), none, none, none, none, none]) (s2 := [eI (0), eI (a4), eR v1, eJ (v26)]) rfl rfl rfl ?_
                    refine w_cw (np := 93) (as := [eI (a4), eI (0)]) (l2 := [some (eR v1), some (eI (a4)), some (eI (0))]) (rest := [eJ (v26)]) rfl rfl rfl (Nat.ble_eq.mp rfl) rfl rfl rfl (hI.kd b3 (by decide) (n := 8) rfl) rfl ?_
                    refine s_22 (a1 := a4) (a2 := 0) hI b3 (by omega) (by decide) ?_
                    intro v28 b29
                    show ex_q (dt_fg L ρ) rc (d + 2, (166, 93, [some (eR a0), some (eI (a1)), some (eI (a2)), some (eI (a3)), some (eI (a4)), some (eJ (v24)), none, none, none, none, none], [eJ (v28), eJ (v26)]), f :: F, μ)
                    refine w_cu (np := 96) (as := [eJ (v26), eJ (v28)]) (l2 := [some (eJ (v26)), none, some (eJ (v28)), none]) (rest := []) rfl rfl rfl (Nat.ble_eq.mp rfl) rfl rfl rfl rfl ?_
                    refine s_76 hI b27 b29 ?_
                    intro v30 b31
                    show ex_q (dt_fg L ρ) rc (d + 2, (166, 96, [some (eR a0), some (eI (a1)), some (eI (a2)), some (eI (a3)), some (eI (a4)), some (eJ (v24)), none, none, none, none, none], [eJ (v30)]), f :: F, μ)
                    refine w_t (np := 98) (l2 := [some (eR a0), some (eI (a1)), some (eI (a2)), some (eI (a3)), some (eI (a4)), some (eJ (v24)), none, some (eJ (v30)), none, none, none]) (s2 := []) rfl rfl rfl ?_
                    refine w_t (np := 100) (l2 := [some (eR a0), some (eI (a1)), some (eI (a2)), some (eI (a3)), some (eI (a4)), some (eJ (v24)), none, some (eJ (v30)), none, none, none]) (s2 := [eJ (v30)]) rfl rfl rfl ?_
                    refine w_cu (np := 103) (as := [eJ (v30)]) (l2 := [some (eJ (v30)), none, none, none, none, none]) (rest := []) rfl rfl rfl (Nat.ble_eq.mp rfl) rfl rfl rfl rfl ?_
                    refine s_86 hI b31 ?_
                    intro v32 b33
                    show ex_q (dt_fg L ρ) rc (d + 2, (166, 103, [some (eR a0), some (eI (a1)), some (eI (a2)), some (eI (a3)), some (eI (a4)), some (eJ (v24)), none, some (eJ (v30)), none, none, none], [eI (v32)]), f :: F, μ)
                    refine w_t (np := 105) (l2 := [some (eR a0), some (eI (a1)), some (eI (a2)), some (eI (a3)), some (eI (a4)), some (eJ (v24)), none, some (eJ (v30)), none, none, none]) (s2 := [eJ (v24), eI (v32)]) rfl rfl rfl ?_
                    refine w_cu (np := 108) (as := [eJ (v24)]) (l2 := [some (eJ (v24)), none, none, none, none, none]) (rest := [eI (v32)]) rfl rfl rfl (Nat.ble_eq.mp rfl) rfl rfl rfl rfl ?_
                    refine s_86 hI b25 ?_
                    intro v34 b35
                    show ex_q (dt_fg L ρ) rc (d + 2, (166, 108, [some (eR a0), some (eI (a1)), some (eI (a2)), some (eI (a3)), some (eI (a4)), some (eJ (v24)), none, some (eJ (v30)), none, none, none], [eI (v34), eI (v32)]), f :: F, μ)
                    obtain ⟨v36, e37, b38⟩ : ∃ zz : Int, ev_w ((v32) - (v34)) = zz ∧ (-2147483648 ≤ zz ∧ zz ≤ 2147483647) := ⟨_, rfl, hw_bd _⟩
                    refine w_t (np := 109) (l2 := [some (eR a0), some (eI (a1)), some (eI (a2)), some (eI (a3)), some (eI (a4)), some (eJ (v24)), none, some (eJ (v30)), none, none, none]) (s2 := [eI (v36)]) rfl (b_isub e37) rfl ?_
                    refine w_t (np := 111) (l2 := [some (eR a0), some (eI (a1)), some (eI (a2)), some (eI (a3)), some (eI (a4)), some (eJ (v24)), none, some (eJ (v30)), none, some (eI (v36)), none]) (s2 := []) rfl rfl rfl ?_
                    refine w_t (np := 113) (l2 := [some (eR a0), some (eI (a1)), some (eI (a2)), some (eI (a3)), some (eI (a4)), some (eJ (v24)), none, some (eJ (v30)), none, some (eI (v36)), none]) (s2 := [eJ (v30)]) rfl rfl rfl ?_
                    refine w_cu (np := 116) (as := [eJ (v30)]) (l2 := [some (eJ (v30)), none, none, none, none, none]) (rest := []) rfl rfl rfl (Nat.ble_eq.mp rfl) rfl rfl rfl rfl ?_
                    refine s_87 hI b31 ?_
                    intro v39 b40
                    show ex_q (dt_fg L ρ) rc (d + 2, (166, 116, [some (eR a0), some (eI (a1)), some (eI (a2)), some (eI (a3)), some (eI (a4)), some (eJ (v24)), none, some (eJ (v30)), none, some (eI (v36)), none], [eI (v39)]), f :: F, μ)
                    refine w_t (np := 118) (l2 := [some (eR a0), some (eI (a1)), some (eI (a2)), some (eI (a3)), some (eI (a4)), some (eJ (v24)), none, some (eJ (v30)), none, some (eI (v36)), none]) (s2 := [eJ (v24), eI (v39)]) rfl rfl rfl ?_
                    refine w_cu (np := 121) (as := [eJ (v24)]) (l2 := [some (eJ (v24)), none, none, none, none, none]) (rest := [eI (v39)]) rfl rfl rfl (Nat.ble_eq.mp rfl) rfl rfl rfl rfl ?_
                    refine s_87 hI b25 ?_
                    intro v41 b42
                    show ex_q (dt_fg L ρ) rc (d + 2, (166, 121, [some (eR a0), some (eI (a1)), some (eI (a2)), some (eI (a3)), some (eI (a4)), some (eJ (v24)), none, some (eJ (v30)), none, some (eI (v36)), none], [eI (v41), eI (v39)]), f :: F, μ)
                    obtain ⟨v43, e44, b45⟩ : ∃ zz : Int, ev_w ((v39) - (v41)) = zz ∧ (-2147483648 ≤ zz ∧ zz ≤ 2147483647) := ⟨_, rfl, hw_bd _⟩
                    refine w_t (np := 122) (l2 := [some (eR a0), some (eI (a1)), some (eI (a2)), some (eI (a3)), some (eI (a4)), some (eJ (v24)), none, some (eJ (v30)), none, some (eI (v36)), none]) (s2 := [eI (v43)]) rfl (b_isub e44) rfl ?_
                    refine w_t (np := 124) (l2 := [some (eR a0), some (eI (a1)), some (eI (a2)), some (eI (a3)), some (eI (a4)), some (eJ (v24)), none, some (eJ (v30)), none, some (eI (v36)), some (eI (v43))]) (s2 := []) rfl rfl rfl ?_
                    refine w_t (np := 125) (l2 := [some (eR a0), some (eI (a1)), some (eI (a2)), some (eI (a3)), some (eI (a4)), some (eJ (v24)), none, some (eJ (v30)), none, some (eI (v36)), some (eI (v43))]) (s2 := [eR a0]) rfl (s_an rfl (pos_g hI gA0 (by decide))) rfl ?_
                    refine w_t (np := 127) (l2 := [some (eR a0), some (eI (a1)), some (eI (a2)), some (eI (a3)), some (eI (a4)), some (eJ (v24)), none, some (eJ (v30)), none, some (eI (v36)), some (eI (v43))]) (s2 := [eI (v36), eR a0]) rfl rfl rfl ?_
                    refine w_t (np := 129) (l2 := [some (eR a0), some (eI (a1)), some (eI (a2)), some (eI (a3)), some (eI (a4)), some (eJ (v24)), none, some (eJ (v30)), none, some (eI (v36)), some (eI (v43))]) (s2 := [eI (v43), eI (v36), eR a0]) rfl rfl rfl ?_
                    refine w_cu (np := 132) (as := [eI (v36), eI (v43)]) (l2 := [some (eI (v36)), some (eI (v43)), none, none, none, none, none]) (rest := [eR a0]) rfl rfl rfl (Nat.ble_eq.mp rfl) rfl rfl rfl rfl ?_
                    refine s_85 (a0 := v36) (a1 := v43) hI (by omega) (by omega) ?_
                    intro v46 b47
                    show ex_q (dt_fg L ρ) rc (d + 2, (166, 132, [some (eR a0), some (eI (a1)), some (eI (a2)), some (eI (a3)), some (eI (a4)), some (eJ (v24)), none, some (eJ (v30)), none, some (eI (v36)), some (eI (v43))], [eI (v46), eR a0]), f :: F, μ)
                    refine b_ile (t1 := 139) (t2 := 135) rfl rfl rfl (ev_w_in (by omega) (by omega)) (fun g48 => ?_) (fun g48 => ?_)
                    · have b49 : -1 ≤ v46 ∧ v46 ≤ 0 := by omega
                      refine w_t (np := 140) (l2 := [some (eR a0), some (eI (a1)), some (eI (a2)), some (eI (a3)), some (eI (a4)), some (eJ (v24)), none, some (eJ (v30)), none, some (eI (v36)), some (eI (v43))]) (s2 := [eI (0), eR a0]) rfl rfl rfl ?_
                      refine w_cw (np := 143) (as := [eI (0)]) (l2 := [some (eR a0), some (eI (0))]) (rest := []) rfl rfl rfl (Nat.ble_eq.mp rfl) rfl rfl rfl (hI.kd gA0 (by decide) (n := 14) rfl) rfl ?_
                      refine w_t (np := 1) (l2 := [some (eR a0), some (eI (0))]) (s2 := [eR a0]) rfl (s_an rfl (pos_g hI gA0 (by decide))) rfl ?_
                      refine w_t (np := 2) (l2 := [some (eR a0), some (eI (0))]) (s2 := [eI (0), eR a0]) rfl rfl rfl ?_
                      refine j_pf (np := 5) (w := 0) rfl rfl hI gA0 (by decide) (n := 14) rfl rfl (hO_i (lo := -2147483648) (hi := 2147483647) rfl (by decide)) ?_
                      intro m49 I50 W51
                      have F52 : Fr l_166 0 0 g μ m49 := F0.w W51 gA0 rfl
                      refine w_t (np := 6) (l2 := [some (eR a0), some (eI (0))]) (s2 := [eI (0)]) rfl rfl rfl ?_
                      refine b_ri rfl rfl ?_
                      show ex_q (dt_fg L ρ) rc (d + 2, (166, 143, [some (eR a0), some (eI (a1)), some (eI (a2)), some (eI (a3)), some (eI (a4)), some (eJ (v24)), none, some (eJ (v30)), none, some (eI (v36)), some (eI (v43))], [eI (0)]), f :: F, m49)
                      exact b_ri rfl rfl (K m49 (0) I50 F52 (by decide))
                    · have b49 : 1 ≤ v46 ∧ v46 ≤ 1 := by omega
                      refine w_t (np := 136) (l2 := [some (eR a0), some (eI (a1)), some (eI (a2)), some (eI (a3)), some (eI (a4)), some (eJ (v24)), none, some (eJ (v30)), none, some (eI (v36)), some (eI (v43))]) (s2 := [eI (1), eR a0]) rfl rfl rfl ?_
                      refine w_go (t1 := 140) rfl rfl ?_
                      refine w_cw (np := 143) (as := [eI (1)]) (l2 := [some (eR a0), some (eI (1))]) (rest := []) rfl rfl rfl (Nat.ble_eq.mp rfl) rfl rfl rfl (hI.kd gA0 (by decide) (n := 14) rfl) rfl ?_
                      refine w_t (np := 1) (l2 := [some (eR a0), some (eI (1))]) (s2 := [eR a0]) rfl (s_an rfl (pos_g hI gA0 (by decide))) rfl ?_
                      refine w_t (np := 2) (l2 := [some (eR a0), some (eI (1))]) (s2 := [eI (0), eR a0]) rfl rfl rfl ?_
                      refine j_pf (np := 5) (w := 0) rfl rfl hI gA0 (by decide) (n := 14) rfl rfl (hO_i (lo := -2147483648) (hi := 2147483647) rfl (by decide)) ?_
                      intro m49 I50 W51
                      have F52 : Fr l_166 0 0 g μ m49 := F0.w W51 gA0 rfl
                      refine w_t (np := 6) (l2 := [some (eR a0), some (eI (1))]) (s2 := [eI (1)]) rfl rfl rfl ?_
                      refine b_ri rfl rfl ?_
                      show ex_q (dt_fg L ρ) rc (d + 2, (166, 143, [some (eR a0), some (eI (a1)), some (eI (a2)), some (eI (a3)), some (eI (a4)), some (eJ (v24)), none, some (eJ (v30)), none, some (eI (v36)), some (eI (v43))], [eI (1)]), f :: F, m49)
                      exact b_ri rfl rfl (K m49 (1) I50 F52 (by decide))
                  · have b19 : 1 ≤ a4 ∧ a4 ≤ 2147483647 := by omega
                    refine w_t (np := 13) (l2 := [some (eR v1), some (eI (a4))]) (s2 := [eI (1)]) rfl rfl rfl ?_
                    refine w_go (t1 := 17) rfl rfl ?_
                    refine b_rz rfl rfl (Or.inr rfl) ?_
                    show ex_q (dt_fg L ρ) rc (d + 2, (166, 42, [some (eR a0), some (eI (a1)), some (eI (a2)), some (eI (a3)), some (eI (a4)), none, none, none, none, none, none], [eI (1)]), f :: F, μ)
                    refine b_ieq (t1 := 51) (t2 := 45) rfl rfl rfl rfl (fun g19 => absurd g19 (by decide)) (fun g19 => ?_)
                    refine w_t (np := 46) (l2 := [some (eR a0), some (eI (a1)), some (eI (a2)), some (eI (a3)), some (eI (a4)), none, none, none, none, none, none]) (s2 := [eR a0]) rfl (s_an rfl (pos_g hI gA0 (by decide))) rfl ?_
                    refine w_t (np := 47) (l2 := [some (eR a0), some (eI (a1)), some (eI (a2)), some (eI (a3)), some (eI (a4)), none, none, none, none, none, none]) (s2 := [eI (2), eR a0]) rfl rfl rfl ?_
                    refine w_cw (np := 50) (as := [eI (2)]) (l2 := [some (eR a0), some (eI (2))]) (rest := []) rfl rfl rfl (Nat.ble_eq.mp rfl) rfl rfl rfl (hI.kd gA0 (by decide) (n := 14) rfl) rfl ?_
                    refine w_t (np := 1) (l2 := [some (eR a0), some (eI (2))]) (s2 := [eR a0]) rfl (s_an rfl (pos_g hI gA0 (by decide))) rfl ?_
                    refine w_t (np := 2) (l2 := [some (eR a0), some (eI (2))]) (s2 := [eI (2), eR a0]) rfl rfl rfl ?_
                    refine j_pf (np := 5) (w := 2) rfl rfl hI gA0 (by decide) (n := 14) rfl rfl (hO_i (lo := -2147483648) (hi := 2147483647) rfl (by decide)) ?_
                    intro m20 I21 W22
                    have F23 : Fr l_166 0 0 g μ m20 := F0.w W22 gA0 rfl
                    refine w_t (np := 6) (l2 := [some (eR a0), some (eI (2))]) (s2 := [eI (-1)]) rfl rfl rfl ?_
                    refine b_ri rfl rfl ?_
                    show ex_q (dt_fg L ρ) rc (d + 2, (166, 50, [some (eR a0), some (eI (a1)), some (eI (a2)), some (eI (a3)), some (eI (a4)), none, none, none, none, none, none], [eI (-1)]), f :: F, m20)
                    exact b_ri rfl rfl (K m20 (-1) I21 F23 (by decide))
              · have b16 : 1 ≤ a3 ∧ a3 ≤ 2147483647 := by omega
                refine w_t (np := 13) (l2 := [some (eR v1), some (eI (a3))]) (s2 := [eI (1)]) rfl rfl rfl ?_
                refine w_go (t1 := 17) rfl rfl ?_
                refine b_rz rfl rfl (Or.inr rfl) ?_
                show ex_q (dt_fg L ρ) rc (d + 2, (166, 30, [some (eR a0), some (eI (a1)), some (eI (a2)), some (eI (a3)), some (eI (a4)), none, none, none, none, none, none], [eI (1)]), f :: F, μ)
                refine b_ine (t1 := 45) (t2 := 33) rfl rfl rfl rfl (fun g16 => ?_) (fun g16 => absurd g16 (by decide))
                refine w_t (np := 46) (l2 := [some (eR a0), some (eI (a1)), some (eI (a2)), some (eI (a3)), some (eI (a4)), none, none, none, none, none, none]) (s2 := [eR a0]) rfl (s_an rfl (pos_g hI gA0 (by decide))) rfl ?_
                refine w_t (np := 47) (l2 := [some (eR a0), some (eI (a1)), some (eI (a2)), some (eI (a3)), some (eI (a4)), none, none, none, none, none, none]) (s2 := [eI (2), eR a0]) rfl rfl rfl ?_
                refine w_cw (np := 50) (as := [eI (2)]) (l2 := [some (eR a0), some (eI (2))]) (rest := []) rfl rfl rfl (Nat.ble_eq.mp rfl) rfl rfl rfl (hI.kd gA0 (by decide) (n := 14) rfl) rfl ?_
                refine w_t (np := 1) (l2 := [some (eR a0), some (eI (2))]) (s2 := [eR a0]) rfl (s_an rfl (pos_g hI gA0 (by decide))) rfl ?_
                refine w_t (np := 2) (l2 := [some (eR a0), some (eI (2))]) (s2 := [eI (2), eR a0]) rfl rfl rfl ?_
                refine j_pf (np := 5) (w := 2) rfl rfl hI gA0 (by decide) (n := 14) rfl rfl (hO_i (lo := -2147483648) (hi := 2147483647) rfl (by decide)) ?_
                intro m17 I18 W19
                have F20 : Fr l_166 0 0 g μ m17 := F0.w W19 gA0 rfl
                refine w_t (np := 6) (l2 := [some (eR a0), some (eI (2))]) (s2 := [eI (-1)]) rfl rfl rfl ?_
                refine b_ri rfl rfl ?_
                show ex_q (dt_fg L ρ) rc (d + 2, (166, 50, [some (eR a0), some (eI (a1)), some (eI (a2)), some (eI (a3)), some (eI (a4)), none, none, none, none, none, none], [eI (-1)]), f :: F, m17)
                exact b_ri rfl rfl (K m17 (-1) I18 F20 (by decide))
          · have b13 : 1 ≤ a2 ∧ a2 ≤ 2147483647 := by omega
            refine w_t (np := 13) (l2 := [some (eR v1), some (eI (a2))]) (s2 := [eI (1)]) rfl rfl rfl ?_
            refine w_go (t1 := 17) rfl rfl ?_
            refine b_rz rfl rfl (Or.inr rfl) ?_
            show ex_q (dt_fg L ρ) rc (d + 2, (166, 19, [some (eR a0), some (eI (a1)), some (eI (a2)), some (eI (a3)), some (eI (a4)), none, none, none, none, none, none], [eI (1)]), f :: F, μ)
            refine b_ine (t1 := 45) (t2 := 22) rfl rfl rfl rfl (fun g13 => ?_) (fun g13 => absurd g13 (by decide))
            refine w_t (np := 46) (l2 := [some (eR a0), some (eI (a1)), some (eI (a2)), some (eI (a3)), some (eI (a4)), none, none, none, none, none, none]) (s2 := [eR a0]) rfl (s_an rfl (pos_g hI gA0 (by decide))) rfl ?_
            refine w_t (np := 47) (l2 := [some (eR a0), some (eI (a1)), some (eI (a2)), some (eI (a3)), some (eI (a4)), none, none, none, none, none, none]) (s2 := [eI (2), eR a0]) rfl rfl rfl ?_
            refine w_cw (np := 50) (as := [eI (2)]) (l2 := [some (eR a0), some (eI (2))]) (rest := []) rfl rfl rfl (Nat.ble_eq.mp rfl) rfl rfl rfl (hI.kd gA0 (by decide) (n := 14) rfl) rfl ?_
            refine w_t (np := 1) (l2 := [some (eR a0), some (eI (2))]) (s2 := [eR a0]) rfl (s_an rfl (pos_g hI gA0 (by decide))) rfl ?_
            refine w_t (np := 2) (l2 := [some (eR a0), some (eI (2))]) (s2 := [eI (2), eR a0]) rfl rfl rfl ?_
            refine j_pf (np := 5) (w := 2) rfl rfl hI gA0 (by decide) (n := 14) rfl rfl (hO_i (lo := -2147483648) (hi := 2147483647) rfl (by decide)) ?_
            intro m14 I15 W16
            have F17 : Fr l_166 0 0 g μ m14 := F0.w W16 gA0 rfl
            refine w_t (np := 6) (l2 := [some (eR a0), some (eI (2))]) (s2 := [eI (-1)]) rfl rfl rfl ?_
            refine b_ri rfl rfl ?_
            show ex_q (dt_fg L ρ) rc (d + 2, (166, 50, [some (eR a0), some (eI (a1)), some (eI (a2)), some (eI (a3)), some (eI (a4)), none, none, none, none, none, none], [eI (-1)]), f :: F, m14)
            exact b_ri rfl rfl (K m14 (-1) I15 F17 (by decide))
      · refine w_t (np := 13) (l2 := [some (eR v1), some (eI (a1))]) (s2 := [eI (1)]) rfl rfl rfl ?_
        refine w_go (t1 := 17) rfl rfl ?_
        refine b_rz rfl rfl (Or.inr rfl) ?_
        show ex_q (dt_fg L ρ) rc (d + 2, (166, 8, [some (eR a0), some (eI (a1)), some (eI (a2)), some (eI (a3)), some (eI (a4)), none, none, none, none, none, none], [eI (1)]), f :: F, μ)
        refine b_ine (t1 := 45) (t2 := 11) rfl rfl rfl rfl (fun g10 => ?_) (fun g10 => absurd g10 (by decide))
        refine w_t (np := 46) (l2 := [some (eR a0), some (eI (a1)), some (eI (a2)), some (eI (a3)), some (eI (a4)), none, none, none, none, none, none]) (s2 := [eR a0]) rfl (s_an rfl (pos_g hI gA0 (by decide))) rfl ?_
        refine w_t (np := 47) (l2 := [some (eR a0), some (eI (a1)), some (eI (a2)), some (eI (a3)), some (eI (a4)), none, none, none, none, none, none]) (s2 := [eI (2), eR a0]) rfl rfl rfl ?_
        refine w_cw (np := 50) (as := [eI (2)]) (l2 := [some (eR a0), some (eI (2))]) (rest := []) rfl rfl rfl (Nat.ble_eq.mp rfl) rfl rfl rfl (hI.kd gA0 (by decide) (n := 14) rfl) rfl ?_
        refine w_t (np := 1) (l2 := [some (eR a0), some (eI (2))]) (s2 := [eR a0]) rfl (s_an rfl (pos_g hI gA0 (by decide))) rfl ?_
        refine w_t (np := 2) (l2 := [some (eR a0), some (eI (2))]) (s2 := [eI (2), eR a0]) rfl rfl rfl ?_
        refine j_pf (np := 5) (w := 2) rfl rfl hI gA0 (by decide) (n := 14) rfl rfl (hO_i (lo := -2147483648) (hi := 2147483647) rfl (by decide)) ?_
        intro m11 I12 W13
        have F14 : Fr l_166 0 0 g μ m11 := F0.w W13 gA0 rfl
        refine w_t (np := 6) (l2 := [some (eR a0), some (eI (2))]) (s2 := [eI (-1)]) rfl rfl rfl ?_
        refine b_ri rfl rfl ?_
        show ex_q (dt_fg L ρ) rc (d + 2, (166, 50, [some (eR a0), some (eI (a1)), some (eI (a2)), some (eI (a3)), some (eI (a4)), none, none, none, none, none, none], [eI (-1)]), f :: F, m11)
        exact b_ri rfl rfl (K m11 (-1) I12 F14 (by decide))
  · refine w_t (np := 5) (l2 := [some (eR a0), some (eI (a1)), some (eI (a2)), some (eI (a3)), some (eI (a4)), none, none, none, none, none, none]) (s2 := [eI (a1), eR v1]) rfl rfl rfl ?_
    refine w_cw (np := 8) (as := [eI (a1)]) (l2 := [some (eR v1), some (eI (a1))]) (rest := []) rfl rfl rfl (Nat.ble_eq.mp rfl) rfl rfl rfl (hI.kd b3 (by decide) (n := 8) rfl) rfl ?_
    refine w_t (np := 1) (l2 := [some (eR v1), some (eI (a1))]) (s2 := [eI (a1)]) rfl rfl rfl ?_
    refine b_ilt (t1 := 12) (t2 := 4) rfl rfl rfl (ev_w_in (by omega) (by omega)) (fun g5 => ?_) (fun g5 => ?_)
    · have b6 : -2147483648 ≤ a1 ∧ a1 ≤ -1 := by omega
      refine w_t (np := 13) (l2 := [some (eR v1), some (eI (a1))]) (s2 := [eI (1)]) rfl rfl rfl ?_
      refine w_go (t1 := 17) rfl rfl ?_
      refine b_rz rfl rfl (Or.inr rfl) ?_
      show ex_q (dt_fg L ρ) rc (d + 2, (166, 8, [some (eR a0), some (eI (a1)), some (eI (a2)), some (eI (a3)), some (eI (a4)), none, none, none, none, none, none], [eI (1)]), f :: F, μ)
      refine b_ine (t1 := 45) (t2 := 11) rfl rfl rfl rfl (fun g6 => ?_) (fun g6 => absurd g6 (by decide))
      refine w_t (np := 46) (l2 := [some (eR a0), some (eI (a1)), some (eI (a2)), some (eI (a3)), some (eI (a4)), none, none, none, none, none, none]) (s2 := [eR a0]) rfl (s_an rfl (pos_g hI gA0 (by decide))) rfl ?_
      refine w_t (np := 47) (l2 := [some (eR a0), some (eI (a1)), some (eI (a2)), some (eI (a3)), some (eI (a4)), none, none, none, none, none, none]) (s2 := [eI (2), eR a0]) rfl rfl rfl ?_
      refine w_cw (np := 50) (as := [eI (2)]) (l2 := [some (eR a0), some (eI (2))]) (rest := []) rfl rfl rfl (Nat.ble_eq.mp rfl) rfl rfl rfl (hI.kd gA0 (by decide) (n := 14) rfl) rfl ?_
      refine w_t (np := 1) (l2 := [some (eR a0), some (eI (2))]) (s2 := [eR a0]) rfl (s_an rfl (pos_g hI gA0 (by decide))) rfl ?_
      refine w_t (np := 2) (l2 := [some (eR a0), some (eI (2))]) (s2 := [eI (2), eR a0]) rfl rfl rfl ?_
      refine j_pf (np := 5) (w := 2) rfl rfl hI gA0 (by decide) (n := 14) rfl rfl (hO_i (lo := -2147483648) (hi := 2147483647) rfl (by decide)) ?_
      intro m7 I8 W9
      have F10 : Fr l_166 0 0 g μ m7 := F0.w W9 gA0 rfl
      refine w_t (np := 6) (l2 := [some (eR a0), some (eI (2))]) (s2 := [eI (-1)]) rfl rfl rfl ?_
      refine b_ri rfl rfl ?_
      show ex_q (dt_fg L ρ) rc (d + 2, (166, 50, [some (eR a0), some (eI (a1)), some (eI (a2)), some (eI (a3)), some (eI (a4)), none, none, none, none, none, none], [eI (-1)]), f :: F, m7)
      exact b_ri rfl rfl (K m7 (-1) I8 F10 (by decide))
    · have b6 : 0 ≤ a1 ∧ a1 ≤ 2147483647 := by omega
      refine w_t (np := 5) (l2 := [some (eR v1), some (eI (a1))]) (s2 := [eI (a1)]) rfl rfl rfl ?_
      refine w_t (np := 6) (l2 := [some (eR v1), some (eI (a1))]) (s2 := [eR v1, eI (a1)]) rfl (s_an rfl (pos_g hI b3 (by decide))) rfl ?_
      refine j_gi (np := 9) rfl rfl rfl hI b3 (by decide) (n := 8) rfl rfl (lo := 0) (hi := 890) rfl ?_
      intro v6 e7 b8
      refine b_clt (t1 := 16) (t2 := 12) rfl rfl rfl (ev_w_in (by omega) (by omega)) (ev_w_in (by omega) (by omega)) (fun g9 => ?_) (fun g9 => ?_)
      · have b10 : 0 ≤ a1 ∧ a1 ≤ 889 := by omega
        have b11 : 1 ≤ v6 ∧ v6 ≤ 890 := by omega
        refine w_t (np := 17) (l2 := [some (eR v1), some (eI (a1))]) (s2 := [eI (0)]) rfl rfl rfl ?_
        refine b_rz rfl rfl (Or.inl rfl) ?_
        show ex_q (dt_fg L ρ) rc (d + 2, (166, 8, [some (eR a0), some (eI (a1)), some (eI (a2)), some (eI (a3)), some (eI (a4)), none, none, none, none, none, none], [eI (0)]), f :: F, μ)
        refine b_ine (t1 := 45) (t2 := 11) rfl rfl rfl rfl (fun g10 => absurd g10 (by decide)) (fun g10 => ?_)
        refine w_t (np := 12) (l2 := [some (eR a0), some (eI (a1)), some (eI (a2)), some (eI (a3)), some (eI (a4)), none, none, none, none, none, none]) (s2 := [eR a0]) rfl (s_an rfl (pos_g hI gA0 (by decide))) rfl ?_
        refine w_gf (np := 15) (v := eR v1) rfl rfl (hI.kd gA0 (by decide) (n := 14) rfl) (by rw [e2]; rfl) ?_
        refine w_t (np := 16) (l2 := [some (eR a0), some (eI (a1)), some (eI (a2)), some (eI (a3)), some (eI (a4)), none, none, none, none, none, none]) (s2 := [eI (a2), eR v1]) rfl rfl rfl ?_
        refine w_cw (np := 19) (as := [eI (a2)]) (l2 := [some (eR v1), some (eI (a2))]) (rest := []) rfl rfl rfl (Nat.ble_eq.mp rfl) rfl rfl rfl (hI.kd b3 (by decide) (n := 8) rfl) rfl ?_
        refine w_t (np := 1) (l2 := [some (eR v1), some (eI (a2))]) (s2 := [eI (a2)]) rfl rfl rfl ?_
        refine b_ilt (t1 := 12) (t2 := 4) rfl rfl rfl (ev_w_in (by omega) (by omega)) (fun g11 => ?_) (fun g11 => ?_)
        · have b12 : -2147483648 ≤ a2 ∧ a2 ≤ -1 := by omega
          refine w_t (np := 13) (l2 := [some (eR v1), some (eI (a2))]) (s2 := [eI (1)]) rfl rfl rfl ?_
          refine w_go (t1 := 17) rfl rfl ?_
          refine b_rz rfl rfl (Or.inr rfl) ?_
          show ex_q (dt_fg L ρ) rc (d + 2, (166, 19, [some (eR a0), some (eI (a1)), some (eI (a2)), some (eI (a3)), some (eI (a4)), none, none, none, none, none, none], [eI (1)]), f :: F, μ)
          refine b_ine (t1 := 45) (t2 := 22) rfl rfl rfl rfl (fun g12 => ?_) (fun g12 => absurd g12 (by decide))
          refine w_t (np := 46) (l2 := [some (eR a0), some (eI (a1)), some (eI (a2)), some (eI (a3)), some (eI (a4)), none, none, none, none, none, none]) (s2 := [eR a0]) rfl (s_an rfl (pos_g hI gA0 (by decide))) rfl ?_
          refine w_t (np := 47) (l2 := [some (eR a0), some (eI (a1)), some (eI (a2)), some (eI (a3)), some (eI (a4)), none, none, none, none, none, none]) (s2 := [eI (2), eR a0]) rfl rfl rfl ?_
          refine w_cw (np := 50) (as := [eI (2)]) (l2 := [some (eR a0), some (eI (2))]) (rest := []) rfl rfl rfl (Nat.ble_eq.mp rfl) rfl rfl rfl (hI.kd gA0 (by decide) (n := 14) rfl) rfl ?_
          refine w_t (np := 1) (l2 := [some (eR a0), some (eI (2))]) (s2 := [eR a0]) rfl (s_an rfl (pos_g hI gA0 (by decide))) rfl ?_
          refine w_t (np := 2) (l2 := [some (eR a0), some (eI (2))]) (s2 := [eI (2), eR a0]) rfl rfl rfl ?_
          refine j_pf (np := 5) (w := 2) rfl rfl hI gA0 (by decide) (n := 14) rfl rfl (hO_i (lo := -2147483648) (hi := 2147483647) rfl (by decide)) ?_
          intro m13 I14 W15
          have F16 : Fr l_166 0 0 g μ m13 := F0.w W15 gA0 rfl
          refine w_t (np := 6) (l2 := [some (eR a0), some (eI (2))]) (s2 := [eI (-1)]) rfl rfl rfl ?_
          refine b_ri rfl rfl ?_
          show ex_q (dt_fg L ρ) rc (d + 2, (166, 50, [some (eR a0), some (eI (a1)), some (eI (a2)), some (eI (a3)), some (eI (a4)), none, none, none, none, none, none], [eI (-1)]), f :: F, m13)
          exact b_ri rfl rfl (K m13 (-1) I14 F16 (by decide))
        · have b12 : 0 ≤ a2 ∧ a2 ≤ 2147483647 := by omega
          refine w_t (np := 5) (l2 := [some (eR v1), some (eI (a2))]) (s2 := [eI (a2)]) rfl rfl rfl ?_
          refine w_t (np := 6) (l2 := [some (eR v1), some (eI (a2))]) (s2 := [eR v1, eI (a2)]) rfl (s_an rfl (pos_g hI b3 (by decide))) rfl ?_
          refine w_gf (np := 9) (v := eI (v6)) rfl rfl (hI.kd b3 (by decide) (n := 8) rfl) (by rw [e7]; rfl) ?_
          refine b_clt (t1 := 16) (t2 := 12) rfl rfl rfl (ev_w_in (by omega) (by omega)) (ev_w_in (by omega) (by omega)) (fun g12 => ?_) (fun g12 => ?_)
          · have b13 : 0 ≤ a2 ∧ a2 ≤ 889 := by omega
            refine w_t (np := 17) (l2 := [some (eR v1), some (eI (a2))]) (s2 := [eI (0)]) rfl rfl rfl ?_
            refine b_rz rfl rfl (Or.inl rfl) ?_
            show ex_q (dt_fg L ρ) rc (d + 2, (166, 19, [some (eR a0), some (eI (a1)), some (eI (a2)), some (eI (a3)), some (eI (a4)), none, none, none, none, none, none], [eI (0)]), f :: F, μ)
            refine b_ine (t1 := 45) (t2 := 22) rfl rfl rfl rfl (fun g13 => absurd g13 (by decide)) (fun g13 => ?_)
            refine w_t (np := 23) (l2 := [some (eR a0), some (eI (a1)), some (eI (a2)), some (eI (a3)), some (eI (a4)), none, none, none, none, none, none]) (s2 := [eR a0]) rfl (s_an rfl (pos_g hI gA0 (by decide))) rfl ?_
            refine w_gf (np := 26) (v := eR v1) rfl rfl (hI.kd gA0 (by decide) (n := 14) rfl) (by rw [e2]; rfl) ?_
            refine w_t (np := 27) (l2 := [some (eR a0), some (eI (a1)), some (eI (a2)), some (eI (a3)), some (eI (a4)), none, none, none, none, none, none]) (s2 := [eI (a3), eR v1]) rfl rfl rfl ?_
            refine w_cw (np := 30) (as := [eI (a3)]) (l2 := [some (eR v1), some (eI (a3))]) (rest := []) rfl rfl rfl (Nat.ble_eq.mp rfl) rfl rfl rfl (hI.kd b3 (by decide) (n := 8) rfl) rfl ?_
            refine w_t (np := 1) (l2 := [some (eR v1), some (eI (a3))]) (s2 := [eI (a3)]) rfl rfl rfl ?_
            refine b_ilt (t1 := 12) (t2 := 4) rfl rfl rfl (ev_w_in (by omega) (by omega)) (fun g14 => ?_) (fun g14 => ?_)
            · have b15 : -2147483648 ≤ a3 ∧ a3 ≤ -1 := by omega
              refine w_t (np := 13) (l2 := [some (eR v1), some (eI (a3))]) (s2 := [eI (1)]) rfl rfl rfl ?_
              refine w_go (t1 := 17) rfl rfl ?_
              refine b_rz rfl rfl (Or.inr rfl) ?_
              show ex_q (dt_fg L ρ) rc (d + 2, (166, 30, [some (eR a0), some (eI (a1)), some (eI (a2)), some (eI (a3)), some (eI (a4)), none, none, none, none, none, none], [eI (1)]), f :: F, μ)
              refine b_ine (t1 := 45) (t2 := 33) rfl rfl rfl rfl (fun g15 => ?_) (fun g15 => absurd g15 (by decide))
              refine w_t (np := 46) (l2 := [some (eR a0), some (eI (a1)), some (eI (a2)), some (eI (a3)), some (eI (a4)), none, none, none, none, none, none]) (s2 := [eR a0]) rfl (s_an rfl (pos_g hI gA0 (by decide))) rfl ?_
              refine w_t (np := 47) (l2 := [some (eR a0), some (eI (a1)), some (eI (a2)), some (eI (a3)), some (eI (a4)), none, none, none, none, none, none]) (s2 := [eI (2), eR a0]) rfl rfl rfl ?_
              refine w_cw (np := 50) (as := [eI (2)]) (l2 := [some (eR a0), some (eI (2))]) (rest := []) rfl rfl rfl (Nat.ble_eq.mp rfl) rfl rfl rfl (hI.kd gA0 (by decide) (n := 14) rfl) rfl ?_
              refine w_t (np := 1) (l2 := [some (eR a0), some (eI (2))]) (s2 := [eR a0]) rfl (s_an rfl (pos_g hI gA0 (by decide))) rfl ?_
              refine w_t (np := 2) (l2 := [some (eR a0), some (eI (2))]) (s2 := [eI (2), eR a0]) rfl rfl rfl ?_
              refine j_pf (np := 5) (w := 2) rfl rfl hI gA0 (by decide) (n := 14) rfl rfl (hO_i (lo := -2147483648) (hi := 2147483647) rfl (by decide)) ?_
              intro m16 I17 W18
              have F19 : Fr l_166 0 0 g μ m16 := F0.w W18 gA0 rfl
              refine w_t (np := 6) (l2 := [some (eR a0), some (eI (2))]) (s2 := [eI (-1)]) rfl rfl rfl ?_
              refine b_ri rfl rfl ?_
              show ex_q (dt_fg L ρ) rc (d + 2, (166, 50, [some (eR a0), some (eI (a1)), some (eI (a2)), some (eI (a3)), some (eI (a4)), none, none, none, none, none, none], [eI (-1)]), f :: F, m16)
              exact b_ri rfl rfl (K m16 (-1) I17 F19 (by decide))
            · have b15 : 0 ≤ a3 ∧ a3 ≤ 2147483647 := by omega
              refine w_t (np := 5) (l2 := [some (eR v1), some (eI (a3))]) (s2 := [eI (a3)]) rfl rfl rfl ?_
              refine w_t (np := 6) (l2 := [some (eR v1), some (eI (a3))]) (s2 := [eR v1, eI (a3)]) rfl (s_an rfl (pos_g hI b3 (by decide))) rfl ?_
              refine w_gf (np := 9) (v := eI (v6)) rfl rfl (hI.kd b3 (by decide) (n := 8) rfl) (by rw [e7]; rfl) ?_
              refine b_clt (t1 := 16) (t2 := 12) rfl rfl rfl (ev_w_in (by omega) (by omega)) (ev_w_in (by omega) (by omega)) (fun g15 => ?_) (fun g15 => ?_)
              · have b16 : 0 ≤ a3 ∧ a3 ≤ 889 := by omega
                refine w_t (np := 17) (l2 := [some (eR v1), some (eI (a3))]) (s2 := [eI (0)]) rfl rfl rfl ?_
                refine b_rz rfl rfl (Or.inl rfl) ?_
                show ex_q (dt_fg L ρ) rc (d + 2, (166, 30, [some (eR a0), some (eI (a1)), some (eI (a2)), some (eI (a3)), some (eI (a4)), none, none, none, none, none, none], [eI (0)]), f :: F, μ)
                refine b_ine (t1 := 45) (t2 := 33) rfl rfl rfl rfl (fun g16 => absurd g16 (by decide)) (fun g16 => ?_)
                refine w_t (np := 34) (l2 := [some (eR a0), some (eI (a1)), some (eI (a2)), some (eI (a3)), some (eI (a4)), none, none, none, none, none, none]) (s2 := [eR a0]) rfl (s_an rfl (pos_g hI gA0 (by decide))) rfl ?_
                refine w_gf (np := 37) (v := eR v1) rfl rfl (hI.kd gA0 (by decide) (n := 14) rfl) (by rw [e2]; rfl) ?_
                refine w_t (np := 39) (l2 := [some (eR a0), some (eI (a1)), some (eI (a2)), some (eI (a3)), some (eI (a4)), none, none, none, none, none, none]) (s2 := [eI (a4), eR v1]) rfl rfl rfl ?_
                refine w_cw (np := 42) (as := [eI (a4)]) (l2 := [some (eR v1), some (eI (a4))]) (rest := []) rfl rfl rfl (Nat.ble_eq.mp rfl) rfl rfl rfl (hI.kd b3 (by decide) (n := 8) rfl) rfl ?_
                refine w_t (np := 1) (l2 := [some (eR v1), some (eI (a4))]) (s2 := [eI (a4)]) rfl rfl rfl ?_
                refine b_ilt (t1 := 12) (t2 := 4) rfl rfl rfl (ev_w_in (by omega) (by omega)) (fun g17 => ?_) (fun g17 => ?_)
                · have b18 : -2147483648 ≤ a4 ∧ a4 ≤ -1 := by omega
                  refine w_t (np := 13) (l2 := [some (eR v1), some (eI (a4))]) (s2 := [eI (1)]) rfl rfl rfl ?_
                  refine w_go (t1 := 17) rfl rfl ?_
                  refine b_rz rfl rfl (Or.inr rfl) ?_
                  show ex_q (dt_fg L ρ) rc (d + 2, (166, 42, [some (eR a0), some (eI (a1)), some (eI (a2)), some (eI (a3)), some (eI (a4)), none, none, none, none, none, none], [eI (1)]), f :: F, μ)
                  refine b_ieq (t1 := 51) (t2 := 45) rfl rfl rfl rfl (fun g18 => absurd g18 (by decide)) (fun g18 => ?_)
                  refine w_t (np := 46) (l2 := [some (eR a0), some (eI (a1)), some (eI (a2)), some (eI (a3)), some (eI (a4)), none, none, none, none, none, none]) (s2 := [eR a0]) rfl (s_an rfl (pos_g hI gA0 (by decide))) rfl ?_
                  refine w_t (np := 47) (l2 := [some (eR a0), some (eI (a1)), some (eI (a2)), some (eI (a3)), some (eI (a4)), none, none, none, none, none, none]) (s2 := [eI (2), eR a0]) rfl rfl rfl ?_
                  refine w_cw (np := 50) (as := [eI (2)]) (l2 := [some (eR a0), some (eI (2))]) (rest := []) rfl rfl rfl (Nat.ble_eq.mp rfl) rfl rfl rfl (hI.kd gA0 (by decide) (n := 14) rfl) rfl ?_
                  refine w_t (np := 1) (l2 := [some (eR a0), some (eI (2))]) (s2 := [eR a0]) rfl (s_an rfl (pos_g hI gA0 (by decide))) rfl ?_
                  refine w_t (np := 2) (l2 := [some (eR a0), some (eI (2))]) (s2 := [eI (2), eR a0]) rfl rfl rfl ?_
                  refine j_pf (np := 5) (w := 2) rfl rfl hI gA0 (by decide) (n := 14) rfl rfl (hO_i (lo := -2147483648) (hi := 2147483647) rfl (by decide)) ?_
                  intro m19 I20 W21
                  have F22 : Fr l_166 0 0 g μ m19 := F0.w W21 gA0 rfl
                  refine w_t (np := 6) (l2 := [some (eR a0), some (eI (2))]) (s2 := [eI (-1)]) rfl rfl rfl ?_
                  refine b_ri rfl rfl ?_
                  show ex_q (dt_fg L ρ) rc (d + 2, (166, 50, [some (eR a0), some (eI (a1)), some (eI (a2)), some (eI (a3)), some (eI (a4)), none, none, none, none, none, none], [eI (-1)]), f :: F, m19)
                  exact b_ri rfl rfl (K m19 (-1) I20 F22 (by decide))
                · have b18 : 0 ≤ a4 ∧ a4 ≤ 2147483647 := by omega
                  refine w_t (np := 5) (l2 := [some (eR v1), some (eI (a4))]) (s2 := [eI (a4)]) rfl rfl rfl ?_
                  refine w_t (np := 6) (l2 := [some (eR v1), some (eI (a4))]) (s2 := [eR v1, eI (a4)]) rfl (s_an rfl (pos_g hI b3 (by decide))) rfl ?_
                  refine w_gf (np := 9) (v := eI (v6)) rfl rfl (hI.kd b3 (by decide) (n := 8) rfl) (by rw [e7]; rfl) ?_
                  refine b_clt (t1 := 16) (t2 := 12) rfl rfl rfl (ev_w_in (by omega) (by omega)) (ev_w_in (by omega) (by omega)) (fun g18 => ?_) (fun g18 => ?_)
                  · have b19 : 0 ≤ a4 ∧ a4 ≤ 889 := by omega
                    refine w_t (np := 17) (l2 := [some (eR v1), some (eI (a4))]) (s2 := [eI (0)]) rfl rfl rfl ?_
                    refine b_rz rfl rfl (Or.inl rfl) ?_
                    show ex_q (dt_fg L ρ) rc (d + 2, (166, 42, [some (eR a0), some (eI (a1)), some (eI (a2)), some (eI (a3)), some (eI (a4)), none, none, none, none, none, none], [eI (0)]), f :: F, μ)
                    refine b_ieq (t1 := 51) (t2 := 45) rfl rfl rfl rfl (fun g19 => ?_) (fun g19 => absurd g19 (by decide))
                    refine w_t (np := 52) (l2 := [some (eR a0), some (eI (a1)), some (eI (a2)), some (eI (a3)), some (eI (a4)), none, none, none, none, none, none]) (s2 := [eR a0]) rfl (s_an rfl (pos_g hI gA0 (by decide))) rfl ?_
                    refine w_gf (np := 55) (v := eR v1) rfl rfl (hI.kd gA0 (by decide) (n := 14) rfl) (by rw [e2]; rfl) ?_
                    refine w_t (np := 56) (l2 := [some (eR a0), some (eI (a1)), some (eI (a2)), some (eI (a3)), some (eI (a4)), none, none, none, none, none, none]) (s2 := [eI (a1), eR v1]) rfl rfl rfl ?_
                    refine w_t (np := 57) (l2 := [some (eR a0), some (eI (a1)), some (eI (a2)), some (eI (a3)), some (eI (a4)), none, none, none, none, none, none]) (s2 := [eI (0), eI (a1), eR v1]) rfl rfl rfl ?_
                    refine w_cw (np := 60) (as := [eI (a1), eI (0)]) (l2 := [some (eR v1), some (eI (a1)), some (eI (0))]) (rest := []) rfl rfl rfl (Nat.ble_eq.mp rfl) rfl rfl rfl (hI.kd b3 (by decide) (n := 8) rfl) rfl ?_
                    refine s_22_2 (a1 := a1) (a2 := 0) hI b3 (by omega) (by decide) ?_
                    intro v20 b21
                    show ex_q (dt_fg L ρ) rc (d + 2, (166, 60, [some (eR a0), some (eI (a1)), some (eI (a2)), some (eI (a3)), some (eI (a4)), none, none, none, none, none, none], [eJ (v20)]), f :: F, μ)
                    refine w_t (np := 61) (l2 := [some (eR a0), some (eI (a1)), some (eI (a2)), some (eI (a3)), some (eI (a4)), none, none, none, none, none, none]) (s2 := [eR a0, eJ (v20)]) rfl (s_an rfl (pos_g hI gA0 (by decide))) rfl ?_
                    refine w_gf (np := 64) (v := eR v1) rfl rfl (hI.kd gA0 (by decide) (n := 14) rfl) (by rw [e2]; rfl) ?_
                    refine w_t (np := 65) (l2 := [some (eR a0), some (eI (a1)), some (eI (a2)), some (eI (a3)), some (eI (a4)), none, none, none, none, none, none]) (s2 := [eI (a2), eR v1, eJ (v20)]) rfl rfl rfl ?_
                    refine w_t (np := 66) (l2 := [some (eR a0), some (eI (a1)), some (eI (a2)), some (eI (a3)), some (eI (a4)), none, none, none, none, none, none]) (s2 := [eI (0), eI (a2), eR v1, eJ (v20)]) rfl rfl rfl ?_
                    refine w_cw (np := 69) (as := [eI (a2), eI (0)]) (l2 := [some (eR v1), some (eI (a2)), some (eI (0))]) (rest := [eJ (v20)]) rfl rfl rfl (Nat.ble_eq.mp rfl) rfl rfl rfl (hI.kd b3 (by decide) (n := 8) rfl) rfl ?_
                    refine s_22_2 (a1 := a2) (a2 := 0) hI b3 (by omega) (by decide) ?_
                    intro v22 b23
                    show ex_q (dt_fg L ρ) rc (d + 2, (166, 69, [some (eR a0), some (eI (a1)), some (eI (a2)), some (eI (a3)), some (eI (a4)), none, none, none, none, none, none], [eJ (v22), eJ (v20)]), f :: F, μ)
                    refine w_cu (np := 72) (as := [eJ (v20), eJ (v22)]) (l2 := [some (eJ (v20)), none, some (eJ (v22)), none]) (rest := []) rfl rfl rfl (Nat.ble_eq.mp rfl) rfl rfl rfl rfl ?_
                    refine s_76 hI b21 b23 ?_
                    intro v24 b25
                    show ex_q (dt_fg L ρ) rc (d + 2, (166, 72, [some (eR a0), some (eI (a1)), some (eI (a2)), some (eI (a3)), some (eI (a4)), none, none, none, none, none, none], [eJ (v24)]), f :: F, μ)
                    refine w_t (np := 74) (l2 := [some (eR a0), some (eI (a1)), some (eI (a2)), some (eI (a3)), some (eI (a4)), some (eJ (v24)), none, none, none, none, none]) (s2 := []) rfl rfl rfl ?_
                    refine w_t (np := 75) (l2 := [some (eR a0), some (eI (a1)), some (eI (a2)), some (eI (a3)), some (eI (a4)), some (eJ (v24)), none, none, none, none, none]) (s2 := [eR a0]) rfl (s_an rfl (pos_g hI gA0 (by decide))) rfl ?_
                    refine w_gf (np := 78) (v := eR v1) rfl rfl (hI.kd gA0 (by decide) (n := 14) rfl) (by rw [e2]; rfl) ?_
                    refine w_t (np := 79) (l2 := [some (eR a0), some (eI (a1)), some (eI (a2)), some (eI (a3)), some (eI (a4)), some (eJ (v24)), none, none, none, none, none]) (s2 := [eI (a3), eR v1]) rfl rfl rfl ?_
                    refine w_t (np := 80) (l2 := [some (eR a0), some (eI (a1)), some (eI (a2)), some (eI (a3)), some (eI (a4)), some (eJ (v24)), none, none, none, none, none]) (s2 := [eI (0), eI (a3), eR v1]) rfl rfl rfl ?_
                    refine w_cw (np := 83) (as := [eI (a3), eI (0)]) (l2 := [some (eR v1), some (eI (a3)), some (eI (0))]) (rest := []) rfl rfl rfl (Nat.ble_eq.mp rfl) rfl rfl rfl (hI.kd b3 (by decide) (n := 8) rfl) rfl ?_
                    refine s_22_2 (a1 := a3) (a2 := 0) hI b3 (by omega) (by decide) ?_
                    intro v26 b27
                    show ex_q (dt_fg L ρ) rc (d + 2, (166, 83, [some (eR a0), some (eI (a1)), some (eI (a2)), some (eI (a3)), some (eI (a4)), some (eJ (v24)), none, none, none, none, none], [eJ (v26)]), f :: F, μ)
                    refine w_t (np := 84) (l2 := [some (eR a0), some (eI (a1)), some (eI (a2)), some (eI (a3)), some (eI (a4)), some (eJ (v24)), none, none, none, none, none]) (s2 := [eR a0, eJ (v26)]) rfl (s_an rfl (pos_g hI gA0 (by decide))) rfl ?_
                    refine w_gf (np := 87) (v := eR v1) rfl rfl (hI.kd gA0 (by decide) (n := 14) rfl) (by rw [e2]; rfl) ?_
                    refine w_t (np := 89) (l2 := [some (eR a0), some (eI (a1)), some (eI (a2)), some (eI (a3)), some (eI (a4)), some (eJ (v24)), none, none, none, none, none]) (s2 := [eI (a4), eR v1, eJ (v26)]) rfl rfl rfl ?_
                    refine w_t (np := 90) (l2 := [some (eR a0), some (eI (a1)), some (eI (a2)), some (eI (a3)), some (eI (a4)), some (eJ (v24)), none, none, none, none, none]) (s2 := [eI (0), eI (a4), eR v1, eJ (v26)]) rfl rfl rfl ?_
                    refine w_cw (np := 93) (as := [eI (a4), eI (0)]) (l2 := [some (eR v1), some (eI (a4)), some (eI (0))]) (rest := [eJ (v26)]) rfl rfl rfl (Nat.ble_eq.mp rfl) rfl rfl rfl (hI.kd b3 (by decide) (n := 8) rfl) rfl ?_
                    refine s_22_2 (a1 := a4) (a2 := 0) hI b3 (by omega) (by decide) ?_
                    intro v28 b29
                    show ex_q (dt_fg L ρ) rc (d + 2, (166, 93, [some (eR a0), some (eI (a1)), some (eI (a2)), some (eI (a3)), some (eI (a4)), some (eJ (v24)), none, none, none, none, none], [eJ (v28), eJ (v26)]), f :: F, μ)
                    refine w_cu (np := 96) (as := [eJ (v26), eJ (v28)]) (l2 := [some (eJ (v26)), none, some (eJ (v28)), none]) (rest := []) rfl rfl rfl (Nat.ble_eq.mp rfl) rfl rfl rfl rfl ?_
                    refine s_76 hI b27 b29 ?_
                    intro v30 b31
                    show ex_q (dt_fg L ρ) rc (d + 2, (166, 96, [some (eR a0), some (eI (a1)), some (eI (a2)), some (eI (a3)), some (eI (a4)), some (eJ (v24)), none, none, none, none, none], [eJ (v30)]), f :: F, μ)
                    refine w_t (np := 98) (l2 := [some (eR a0), some (eI (a1)), some (eI (a2)), some (eI (a3)), some (eI (a4)), some (eJ (v24)), none, some (eJ (v30)), none, none, none]) (s2 := []) rfl rfl rfl ?_
                    refine w_t (np := 100) (l2 := [some (eR a0), some (eI (a1)), some (eI (a2)), some (eI (a3)), some (eI (a4)), some (eJ (v24)), none, some (eJ (v30)), none, none, none]) (s2 := [eJ (v30)]) rfl rfl rfl ?_
                    refine w_cu (np := 103) (as := [eJ (v30)]) (l2 := [some (eJ (v30)), none, none, none, none, none]) (rest := []) rfl rfl rfl (Nat.ble_eq.mp rfl) rfl rfl rfl rfl ?_
                    refine s_86 hI b31 ?_
                    intro v32 b33
                    show ex_q (dt_fg L ρ) rc (d + 2, (166, 103, [some (eR a0), some (eI (a1)), some (eI (a2)), some (eI (a3)), some (eI (a4)), some (eJ (v24)), none, some (eJ (v30)), none, none, none], [eI (v32)]), f :: F, μ)
                    refine w_t (np := 105) (l2 := [some (eR a0), some (eI (a1)), some (eI (a2)), some (eI (a3)), some (eI (a4)), some (eJ (v24)), none, some (eJ (v30)), none, none, none]) (s2 := [eJ (v24), eI (v32)]) rfl rfl rfl ?_
                    refine w_cu (np := 108) (as := [eJ (v24)]) (l2 := [some (eJ (v24)), none, none, none, none, none]) (rest := [eI (v32)]) rfl rfl rfl (Nat.ble_eq.mp rfl) rfl rfl rfl rfl ?_
                    refine s_86 hI b25 ?_
                    intro v34 b35
                    show ex_q (dt_fg L ρ) rc (d + 2, (166, 108, [some (eR a0), some (eI (a1)), some (eI (a2)), some (eI (a3)), some (eI (a4)), some (eJ (v24)), none, some (eJ (v30)), none, none, none], [eI (v34), eI (v32)]), f :: F, μ)
                    obtain ⟨v36, e37, b38⟩ : ∃ zz : Int, ev_w ((v32) - (v34)) = zz ∧ (-2147483648 ≤ zz ∧ zz ≤ 2147483647) := ⟨_, rfl, hw_bd _⟩
                    refine w_t (np := 109) (l2 := [some (eR a0), some (eI (a1)), some (eI (a2)), some (eI (a3)), some (eI (a4)), some (eJ (v24)), none, some (eJ (v30)), none, none, none]) (s2 := [eI (v36)]) rfl (b_isub e37) rfl ?_
                    refine w_t (np := 111) (l2 := [some (eR a0), some (eI (a1)), some (eI (a2)), some (eI (a3)), some (eI (a4)), some (eJ (v24)), none, some (eJ (v30)), none, some (eI (v36)), none]) (s2 := []) rfl rfl rfl ?_
                    refine w_t (np := 113) (l2 := [some (eR a0), some (eI (a1)), some (eI (a2)), some (eI (a3)), some (eI (a4)), some (eJ (v24)), none, some (eJ (v30)), none, some (eI (v36)), none]) (s2 := [eJ (v30)]) rfl rfl rfl ?_
                    refine w_cu (np := 116) (as := [eJ (v30)]) (l2 := [some (eJ (v30)), none, none, none, none, none]) (rest := []) rfl rfl rfl (Nat.ble_eq.mp rfl) rfl rfl rfl rfl ?_
                    refine s_87 hI b31 ?_
                    intro v39 b40
                    show ex_q (dt_fg L ρ) rc (d + 2, (166, 116, [some (eR a0), some (eI (a1)), some (eI (a2)), some (eI (a3)), some (eI (a4)), some (eJ (v24)), none, some (eJ (v30)), none, some (eI (v36)), none], [eI (v39)]), f :: F, μ)
                    refine w_t (np := 118) (l2 := [some (eR a0), some (eI (a1)), some (eI (a2)), some (eI (a3)), some (eI (a4)), some (eJ (v24)), none, some (eJ (v30)), none, some (eI (v36)), none]) (s2 := [eJ (v24), eI (v39)]) rfl rfl rfl ?_
                    refine w_cu (np := 121) (as := [eJ (v24)]) (l2 := [some (eJ (v24)), none, none, none, none, none]) (rest := [eI (v39)]) rfl rfl rfl (Nat.ble_eq.mp rfl) rfl rfl rfl rfl ?_
                    refine s_87 hI b25 ?_
                    intro v41 b42
                    show ex_q (dt_fg L ρ) rc (d + 2, (166, 121, [some (eR a0), some (eI (a1)), some (eI (a2)), some (eI (a3)), some (eI (a4)), some (eJ (v24)), none, some (eJ (v30)), none, some (eI (v36)), none], [eI (v41), eI (v39)]), f :: F, μ)
                    obtain ⟨v43, e44, b45⟩ : ∃ zz : Int, ev_w ((v39) - (v41)) = zz ∧ (-2147483648 ≤ zz ∧ zz ≤ 2147483647) := ⟨_, rfl, hw_bd _⟩
                    refine w_t (np := 122) (l2 := [some (eR a0), some (eI (a1)), some (eI (a2)), some (eI (a3)), some (eI (a4)), some (eJ (v24)), none, some (eJ (v30)), none, some (eI (v36)), none]) (s2 := [eI (v43)]) rfl (b_isub e44) rfl ?_
                    refine w_t (np := 124) (l2 := [some (eR a0), some (eI (a1)), some (eI (a2)), some (eI (a3)), some (eI (a4)), some (eJ (v24)), none, some (eJ (v30)), none, some (eI (v36)), some (eI (v43))]) (s2 := []) rfl rfl rfl ?_
                    refine w_t (np := 125) (l2 := [some (eR a0), some (eI (a1)), some (eI (a2)), some (eI (a3)), some (eI (a4)), some (eJ (v24)), none, some (eJ (v30)), none, some (eI (v36)), some (eI (v43))]) (s2 := [eR a0]) rfl (s_an rfl (pos_g hI gA0 (by decide))) rfl ?_
                    refine w_t (np := 127) (l2 := [some (eR a0), some (eI (a1)), some (eI (a2)), some (eI (a3)), some (eI (a4)), some (eJ (v24)), none, some (eJ (v30)), none, some (eI (v36)), some (eI (v43))]) (s2 := [eI (v36), eR a0]) rfl rfl rfl ?_
                    refine w_t (np := 129) (l2 := [some (eR a0), some (eI (a1)), some (eI (a2)), some (eI (a3)), some (eI (a4)), some (eJ (v24)), none, some (eJ (v30)), none, some (eI (v36)), some (eI (v43))]) (s2 := [eI (v43), eI (v36), eR a0]) rfl rfl rfl ?_
                    refine w_cu (np := 132) (as := [eI (v36), eI (v43)]) (l2 := [some (eI (v36)), some (eI (v43)), none, none, none, none, none]) (rest := [eR a0]) rfl rfl rfl (Nat.ble_eq.mp rfl) rfl rfl rfl rfl ?_
                    refine s_85 (a0 := v36) (a1 := v43) hI (by omega) (by omega) ?_
                    intro v46 b47
                    show ex_q (dt_fg L ρ) rc (d + 2, (166, 132, [some (eR a0), some (eI (a1)), some (eI (a2)), some (eI (a3)), some (eI (a4)), some (eJ (v24)), none, some (eJ (v30)), none, some (eI (v36)), some (eI (v43))], [eI (v46), eR a0]), f :: F, μ)
                    refine b_ile (t1 := 139) (t2 := 135) rfl rfl rfl (ev_w_in (by omega) (by omega)) (fun g48 => ?_) (fun g48 => ?_)
                    · have b49 : -1 ≤ v46 ∧ v46 ≤ 0 := by omega
                      refine w_t (np := 140) (l2 := [some (eR a0), some (eI (a1)), some (eI (a2)), some (eI (a3)), some (eI (a4)), some (eJ (v24)), none, some (eJ (v30)), none, some (eI (v36)), some (eI (v43))]) (s2 := [eI (0), eR a0]) rfl rfl rfl ?_
                      refine w_cw (np := 143) (as := [eI (0)]) (l2 := [some (eR a0), some (eI (0))]) (rest := []) rfl rfl rfl (Nat.ble_eq.mp rfl) rfl rfl rfl (hI.kd gA0 (by decide) (n := 14) rfl) rfl ?_
                      refine w_t (np := 1) (l2 := [some (eR a0), some (eI (0))]) (s2 := [eR a0]) rfl (s_an rfl (pos_g hI gA0 (by decide))) rfl ?_
                      refine w_t (np := 2) (l2 := [some (eR a0), some (eI (0))]) (s2 := [eI (0), eR a0]) rfl rfl rfl ?_
                      refine j_pf (np := 5) (w := 0) rfl rfl hI gA0 (by decide) (n := 14) rfl rfl (hO_i (lo := -2147483648) (hi := 2147483647) rfl (by decide)) ?_
                      intro m49 I50 W51
                      have F52 : Fr l_166 0 0 g μ m49 := F0.w W51 gA0 rfl
                      refine w_t (np := 6) (l2 := [some (eR a0), some (eI (0))]) (s2 := [eI (0)]) rfl rfl rfl ?_
                      refine b_ri rfl rfl ?_
                      show ex_q (dt_fg L ρ) rc (d + 2, (166, 143, [some (eR a0), some (eI (a1)), some (eI (a2)), some (eI (a3)), some (eI (a4)), some (eJ (v24)), none, some (eJ (v30)), none, some (eI (v36)), some (eI (v43))], [eI (0)]), f :: F, m49)
                      exact b_ri rfl rfl (K m49 (0) I50 F52 (by decide))
                    · have b49 : 1 ≤ v46 ∧ v46 ≤ 1 := by omega
                      refine w_t (np := 136) (l2 := [some (eR a0), some (eI (a1)), some (eI (a2)), some (eI (a3)), some (eI (a4)), some (eJ (v24)), none, some (eJ (v30)), none, some (eI (v36)), some (eI (v43))]) (s2 := [eI (1), eR a0]) rfl rfl rfl ?_
                      refine w_go (t1 := 140) rfl rfl ?_
                      refine w_cw (np := 143) (as := [eI (1)]) (l2 := [some (eR a0), some (eI (1))]) (rest := []) rfl rfl rfl (Nat.ble_eq.mp rfl) rfl rfl rfl (hI.kd gA0 (by decide) (n := 14) rfl) rfl ?_
                      refine w_t (np := 1) (l2 := [some (eR a0), some (eI (1))]) (s2 := [eR a0]) rfl (s_an rfl (pos_g hI gA0 (by decide))) rfl ?_
                      refine w_t (np := 2) (l2 := [some (eR a0), some (eI (1))]) (s2 := [eI (0), eR a0]) rfl rfl rfl ?_
                      refine j_pf (np := 5) (w := 0) rfl rfl hI gA0 (by decide) (n := 14) rfl rfl (hO_i (lo := -2147483648) (hi := 2147483647) rfl (by decide)) ?_
                      intro m49 I50 W51
                      have F52 : Fr l_166 0 0 g μ m49 := F0.w W51 gA0 rfl
                      refine w_t (np := 6) (l2 := [some (eR a0), some (eI (1))]) (s2 := [eI (1)]) rfl rfl rfl ?_
                      refine b_ri rfl rfl ?_
                      show ex_q (dt_fg L ρ) rc (d + 2, (166, 143, [some (eR a0), some (eI (a1)), some (eI (a2)), some (eI (a3)), some (eI (a4)), some (eJ (v24)), none, some (eJ (v30)), none, some (eI (v36)), some (eI (v43))], [eI (1)]), f :: F, m49)
                      exact b_ri rfl rfl (K m49 (1) I50 F52 (by decide))
                  · have b19 : 1 ≤ a4 ∧ a4 ≤ 2147483647 := by omega
                    refine w_t (np := 13) (l2 := [some (eR v1), some (eI (a4))]) (s2 := [eI (1)]) rfl rfl rfl ?_
                    refine w_go (t1 := 17) rfl rfl ?_
                    refine b_rz rfl rfl (Or.inr rfl) ?_
                    show ex_q (dt_fg L ρ) rc (d + 2, (166, 42, [some (eR a0), some (eI (a1)), some (eI (a2)), some (eI (a3)), some (eI (a4)), none, none, none, none, none, none], [eI (1)]), f :: F, μ)
                    refine b_ieq (t1 := 51) (t2 := 45) rfl rfl rfl rfl (fun g19 => absurd g19 (by decide)) (fun g19 => ?_)
                    refine w_t (np := 46) (l2 := [some (eR a0), some (eI (a1)), some (eI (a2)), some (eI (a3)), some (eI (a4)), none, none, none, none, none, none]) (s2 := [eR a0]) rfl (s_an rfl (pos_g hI gA0 (by decide))) rfl ?_
                    refine w_t (np := 47) (l2 := [some (eR a0), some (eI (a1)), some (eI (a2)), some (eI (a3)), some (eI (a4)), none, none, none, none, none, none]) (s2 := [eI (2), eR a0]) rfl rfl rfl ?_
                    refine w_cw (np := 50) (as := [eI (2)]) (l2 := [some (eR a0), some (eI (2))]) (rest := []) rfl rfl rfl (Nat.ble_eq.mp rfl) rfl rfl rfl (hI.kd gA0 (by decide) (n := 14) rfl) rfl ?_
                    refine w_t (np := 1) (l2 := [some (eR a0), some (eI (2))]) (s2 := [eR a0]) rfl (s_an rfl (pos_g hI gA0 (by decide))) rfl ?_
                    refine w_t (np := 2) (l2 := [some (eR a0), some (eI (2))]) (s2 := [eI (2), eR a0]) rfl rfl rfl ?_
                    refine j_pf (np := 5) (w := 2) rfl rfl hI gA0 (by decide) (n := 14) rfl rfl (hO_i (lo := -2147483648) (hi := 2147483647) rfl (by decide)) ?_
                    intro m20 I21 W22
                    have F23 : Fr l_166 0 0 g μ m20 := F0.w W22 gA0 rfl
                    refine w_t (np := 6) (l2 := [some (eR a0), some (eI (2))]) (s2 := [eI (-1)]) rfl rfl rfl ?_
                    refine b_ri rfl rfl ?_
                    show ex_q (dt_fg L ρ) rc (d + 2, (166, 50, [some (eR a0), some (eI (a1)), some (eI (a2)), some (eI (a3)), some (eI (a4)), none, none, none, none, none, none], [eI (-1)]), f :: F, m20)
                    exact b_ri rfl rfl (K m20 (-1) I21 F23 (by decide))
              · have b16 : 1 ≤ a3 ∧ a3 ≤ 2147483647 := by omega
                refine w_t (np := 13) (l2 := [some (eR v1), some (eI (a3))]) (s2 := [eI (1)]) rfl rfl rfl ?_
                refine w_go (t1 := 17) rfl rfl ?_
                refine b_rz rfl rfl (Or.inr rfl) ?_
                show ex_q (dt_fg L ρ) rc (d + 2, (166, 30, [some (eR a0), some (eI (a1)), some (eI (a2)), some (eI (a3)), some (eI (a4)), none, none, none, none, none, none], [eI (1)]), f :: F, μ)
                refine b_ine (t1 := 45) (t2 := 33) rfl rfl rfl rfl (fun g16 => ?_) (fun g16 => absurd g16 (by decide))
                refine w_t (np := 46) (l2 := [some (eR a0), some (eI (a1)), some (eI (a2)), some (eI (a3)), some (eI (a4)), none, none, none, none, none, none]) (s2 := [eR a0]) rfl (s_an rfl (pos_g hI gA0 (by decide))) rfl ?_
                refine w_t (np := 47) (l2 := [some (eR a0), some (eI (a1)), some (eI (a2)), some (eI (a3)), some (eI (a4)), none, none, none, none, none, none]) (s2 := [eI (2), eR a0]) rfl rfl rfl ?_
                refine w_cw (np := 50) (as := [eI (2)]) (l2 := [some (eR a0), some (eI (2))]) (rest := []) rfl rfl rfl (Nat.ble_eq.mp rfl) rfl rfl rfl (hI.kd gA0 (by decide) (n := 14) rfl) rfl ?_
                refine w_t (np := 1) (l2 := [some (eR a0), some (eI (2))]) (s2 := [eR a0]) rfl (s_an rfl (pos_g hI gA0 (by decide))) rfl ?_
                refine w_t (np := 2) (l2 := [some (eR a0), some (eI (2))]) (s2 := [eI (2), eR a0]) rfl rfl rfl ?_
                refine j_pf (np := 5) (w := 2) rfl rfl hI gA0 (by decide) (n := 14) rfl rfl (hO_i (lo := -2147483648) (hi := 2147483647) rfl (by decide)) ?_
                intro m17 I18 W19
                have F20 : Fr l_166 0 0 g μ m17 := F0.w W19 gA0 rfl
                refine w_t (np := 6) (l2 := [some (eR a0), some (eI (2))]) (s2 := [eI (-1)]) rfl rfl rfl ?_
                refine b_ri rfl rfl ?_
                show ex_q (dt_fg L ρ) rc (d + 2, (166, 50, [some (eR a0), some (eI (a1)), some (eI (a2)), some (eI (a3)), some (eI (a4)), none, none, none, none, none, none], [eI (-1)]), f :: F, m17)
                exact b_ri rfl rfl (K m17 (-1) I18 F20 (by decide))
          · have b13 : 1 ≤ a2 ∧ a2 ≤ 2147483647 := by omega
            refine w_t (np := 13) (l2 := [some (eR v1), some (eI (a2))]) (s2 := [eI (1)]) rfl rfl rfl ?_
            refine w_go (t1 := 17) rfl rfl ?_
            refine b_rz rfl rfl (Or.inr rfl) ?_
            show ex_q (dt_fg L ρ) rc (d + 2, (166, 19, [some (eR a0), some (eI (a1)), some (eI (a2)), some (eI (a3)), some (eI (a4)), none, none, none, none, none, none], [eI (1)]), f :: F, μ)
            refine b_ine (t1 := 45) (t2 := 22) rfl rfl rfl rfl (fun g13 => ?_) (fun g13 => absurd g13 (by decide))
            refine w_t (np := 46) (l2 := [some (eR a0), some (eI (a1)), some (eI (a2)), some (eI (a3)), some (eI (a4)), none, none, none, none, none, none]) (s2 := [eR a0]) rfl (s_an rfl (pos_g hI gA0 (by decide))) rfl ?_
            refine w_t (np := 47) (l2 := [some (eR a0), some (eI (a1)), some (eI (a2)), some (eI (a3)), some (eI (a4)), none, none, none, none, none, none]) (s2 := [eI (2), eR a0]) rfl rfl rfl ?_
            refine w_cw (np := 50) (as := [eI (2)]) (l2 := [some (eR a0), some (eI (2))]) (rest := []) rfl rfl rfl (Nat.ble_eq.mp rfl) rfl rfl rfl (hI.kd gA0 (by decide) (n := 14) rfl) rfl ?_
            refine w_t (np := 1) (l2 := [some (eR a0), some (eI (2))]) (s2 := [eR a0]) rfl (s_an rfl (pos_g hI gA0 (by decide))) rfl ?_
            refine w_t (np := 2) (l2 := [some (eR a0), some (eI (2))]) (s2 := [eI (2), eR a0]) rfl rfl rfl ?_
            refine j_pf (np := 5) (w := 2) rfl rfl hI gA0 (by decide) (n := 14) rfl rfl (hO_i (lo := -2147483648) (hi := 2147483647) rfl (by decide)) ?_
            intro m14 I15 W16
            have F17 : Fr l_166 0 0 g μ m14 := F0.w W16 gA0 rfl
            refine w_t (np := 6) (l2 := [some (eR a0), some (eI (2))]) (s2 := [eI (-1)]) rfl rfl rfl ?_
            refine b_ri rfl rfl ?_
            show ex_q (dt_fg L ρ) rc (d + 2, (166, 50, [some (eR a0), some (eI (a1)), some (eI (a2)), some (eI (a3)), some (eI (a4)), none, none, none, none, none, none], [eI (-1)]), f :: F, m14)
            exact b_ri rfl rfl (K m14 (-1) I15 F17 (by decide))
      · refine w_t (np := 13) (l2 := [some (eR v1), some (eI (a1))]) (s2 := [eI (1)]) rfl rfl rfl ?_
        refine w_go (t1 := 17) rfl rfl ?_
        refine b_rz rfl rfl (Or.inr rfl) ?_
        show ex_q (dt_fg L ρ) rc (d + 2, (166, 8, [some (eR a0), some (eI (a1)), some (eI (a2)), some (eI (a3)), some (eI (a4)), none, none, none, none, none, none], [eI (1)]), f :: F, μ)
        refine b_ine (t1 := 45) (t2 := 11) rfl rfl rfl rfl (fun g10 => ?_) (fun g10 => absurd g10 (by decide))
        refine w_t (np := 46) (l2 := [some (eR a0), some (eI (a1)), some (eI (a2)), some (eI (a3)), some (eI (a4)), none, none, none, none, none, none]) (s2 := [eR a0]) rfl (s_an rfl (pos_g hI gA0 (by decide))) rfl ?_
        refine w_t (np := 47) (l2 := [some (eR a0), some (eI (a1)), some (eI (a2)), some (eI (a3)), some (eI (a4)), none, none, none, none, none, none]) (s2 := [eI (2), eR a0]) rfl rfl rfl ?_
        refine w_cw (np := 50) (as := [eI (2)]) (l2 := [some (eR a0), some (eI (2))]) (rest := []) rfl rfl rfl (Nat.ble_eq.mp rfl) rfl rfl rfl (hI.kd gA0 (by decide) (n := 14) rfl) rfl ?_
        refine w_t (np := 1) (l2 := [some (eR a0), some (eI (2))]) (s2 := [eR a0]) rfl (s_an rfl (pos_g hI gA0 (by decide))) rfl ?_
        refine w_t (np := 2) (l2 := [some (eR a0), some (eI (2))]) (s2 := [eI (2), eR a0]) rfl rfl rfl ?_
        refine j_pf (np := 5) (w := 2) rfl rfl hI gA0 (by decide) (n := 14) rfl rfl (hO_i (lo := -2147483648) (hi := 2147483647) rfl (by decide)) ?_
        intro m11 I12 W13
        have F14 : Fr l_166 0 0 g μ m11 := F0.w W13 gA0 rfl
        refine w_t (np := 6) (l2 := [some (eR a0), some (eI (2))]) (s2 := [eI (-1)]) rfl rfl rfl ?_
        refine b_ri rfl rfl ?_
        show ex_q (dt_fg L ρ) rc (d + 2, (166, 50, [some (eR a0), some (eI (a1)), some (eI (a2)), some (eI (a3)), some (eI (a4)), none, none, none, none, none, none], [eI (-1)]), f :: F, m11)
        exact b_ri rfl rfl (K m11 (-1) I12 F14 (by decide))
