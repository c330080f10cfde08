def l_68v : List Nat := [6149, 6152]
theorem s_68v {L : Nat} {ρ : Nat → Int} {rc : eQ} {d : Nat} {f : eFr} {F : List eFr} {μ : eM} {g : Nat → Nat} {a0 : Nat} {a1 : Int} {va : Int} {to : Int} (hI : SI g μ) (gA0 : g a0 = 24) (bA1 : 0 ≤ a1 ∧ a1 ≤ 900) (h_va : μ.1 a0 7 = va) (h_to : μ.1 a0 4 = to) (K : ∀ (μ2 : eM) (v : Int) (va2 : Int) (to2 : Int), SI g μ2 → Fr l_68v 0 0 g μ μ2 → (0 ≤ v ∧ v ≤ 900) → μ2.1 a0 7 = va2 → μ2.1 a0 4 = to2 → (0 ≤ va2) → (to2 = 2 ∨ to2 = 4) → ex_q (dt_fg L ρ) rc (d + 2, (f.1, f.2.1, f.2.2.1, eI v :: f.2.2.2), F, μ2)) : ex_q (dt_fg L ρ) rc (d + 1, (68, 0, [some (eR a0), some (eI (a1)), none], []), f :: F, μ) := by
  have F0 : Fr l_68v 0 0 g μ μ := Fr.r
  have b_va : -2147483648 ≤ va ∧ va ≤ 2147483647 := by
    rw [← h_va]
    exact hI.int gA0 (by decide) (n := 11) rfl (by decide) rfl
  have b_to : -2147483648 ≤ to ∧ to ≤ 2147483647 := by
    rw [← h_to]
    exact hI.int gA0 (by decide) (n := 11) rfl (by decide) rfl
  refine w_t (np := 1) (l2 := [some (eR a0), some (eI (a1)), none]) (s2 := [eI (a1)]) rfl rfl rfl ?_
  refine w_t (np := 2) (l2 := [some (eR a0), some (eI (a1)), some (eI (a1))]) (s2 := []) rfl rfl rfl ?_
  refine w_t (np := 3) (l2 := [some (eR a0), some (eI (a1)), some (eI (a1))]) (s2 := [eR a0]) rfl (s_an rfl (pos_g hI gA0 (by decide))) rfl ?_
  refine w_t (np := 4) (l2 := [some (eR a0), some (eI (a1)), some (eI (a1))]) (s2 := [eI (0), eR a0]) rfl rfl rfl ?_
  refine j_pf (np := 7) (w := 0) rfl rfl hI gA0 (by decide) (n := 11) rfl rfl (hO_i (lo := -2147483648) (hi := 2147483647) rfl (by decide)) ?_
  intro m1 I2 W3
  have F4 : Fr l_68v 0 0 g μ m1 := F0.w W3 gA0 rfl
  have hL7 : ∀ (n5 : Nat) (m9 : eM) (i7 : Int) (x12 : Int), SI g m9 → Fr l_68v 0 0 g μ m9 → (0 ≤ i7 ∧ i7 ≤ 900) → m9.1 a0 4 = to → m9.1 a0 7 = x12 → (0 ≤ x12 ∧ x12 ≤ 9999) → n5 = (900 - i7).toNat → ex_q (dt_fg L ρ) rc (d + 1, (68, 7, [some (eR a0), some (eI (a1)), some (eI (i7))], []), f :: F, m9) := by
    intro n5
    induction n5 using Nat.strongRecOn with
    | _ n5 ih6 =>
    intro m9 i7 x12 I10 F11 b8 k15 h13 b14 hn16
    refine w_t (np := 8) (l2 := [some (eR a0), some (eI (a1)), some (eI (i7))]) (s2 := [eI (i7)]) rfl rfl rfl ?_
    refine w_t (np := 9) (l2 := [some (eR a0), some (eI (a1)), some (eI (i7))]) (s2 := [eR a0, eI (i7)]) rfl (s_an rfl (pos_g I10 gA0 (by decide))) rfl ?_
    refine j_gi (np := 12) rfl rfl rfl I10 gA0 (by decide) (n := 11) rfl rfl (lo := 0) (hi := 900) rfl ?_
    intro v17 e18 b19
    refine b_cge (t1 := 58) (t2 := 15) rfl rfl rfl (ev_w_in (by omega) (by omega)) (ev_w_in (by omega) (by omega)) (fun g20 => ?_) (fun g20 => ?_)
    · refine w_t (np := 59) (l2 := [some (eR a0), some (eI (a1)), some (eI (i7))]) (s2 := [eR a0]) rfl (s_an rfl (pos_g I10 gA0 (by decide))) rfl ?_
      refine w_t (np := 60) (l2 := [some (eR a0), some (eI (a1)), some (eI (i7))]) (s2 := [eI (i7), eR a0]) rfl rfl rfl ?_
      refine w_t (np := 61) (l2 := [some (eR a0), some (eI (a1)), some (eI (i7))]) (s2 := [eI (a1), eI (i7), eR a0]) rfl rfl rfl ?_
      obtain ⟨v21, e22⟩ : ∃ zz : Int, zz = (i7) - (a1) := ⟨_, rfl⟩
      have b23 : -900 ≤ v21 ∧ v21 ≤ 900 := by omega
      refine w_t (np := 62) (l2 := [some (eR a0), some (eI (a1)), some (eI (i7))]) (s2 := [eI (v21), eR a0]) rfl (b_isub (by rw [← e22]; exact ev_w_in (by omega) (by omega))) rfl ?_
      refine w_t (np := 63) (l2 := [some (eR a0), some (eI (a1)), some (eI (i7))]) (s2 := [eI (3), eI (v21), eR a0]) rfl rfl rfl ?_
      refine b_cle (t1 := 70) (t2 := 66) rfl rfl rfl (ev_w_in (by omega) (by omega)) rfl (fun g24 => ?_) (fun g24 => ?_)
      · have b25 : -900 ≤ v21 ∧ v21 ≤ 3 := by omega
        refine w_t (np := 71) (l2 := [some (eR a0), some (eI (a1)), some (eI (i7))]) (s2 := [eI (2), eR a0]) rfl rfl rfl ?_
        refine j_pf (np := 74) (w := 2) rfl rfl I10 gA0 (by decide) (n := 11) rfl rfl (hO_i (lo := -2147483648) (hi := 2147483647) rfl (by decide)) ?_
        intro m25 I26 W27
        have F28 : Fr l_68v 0 0 g μ m25 := F11.w W27 gA0 rfl
        refine w_t (np := 75) (l2 := [some (eR a0), some (eI (a1)), some (eI (i7))]) (s2 := [eI (i7)]) rfl rfl rfl ?_
        exact b_ri rfl rfl (K m25 (i7) (x12) (2) I26 F28 (by omega) (W27.slot h13 (by decide)) W27.at (by omega) (by omega))
      · have b25 : 4 ≤ v21 ∧ v21 ≤ 900 := by omega
        refine w_t (np := 67) (l2 := [some (eR a0), some (eI (a1)), some (eI (i7))]) (s2 := [eI (4), eR a0]) rfl rfl rfl ?_
        refine w_go (t1 := 71) rfl rfl ?_
        refine j_pf (np := 74) (w := 4) rfl rfl I10 gA0 (by decide) (n := 11) rfl rfl (hO_i (lo := -2147483648) (hi := 2147483647) rfl (by decide)) ?_
        intro m25 I26 W27
        have F28 : Fr l_68v 0 0 g μ m25 := F11.w W27 gA0 rfl
        refine w_t (np := 75) (l2 := [some (eR a0), some (eI (a1)), some (eI (i7))]) (s2 := [eI (i7)]) rfl rfl rfl ?_
        exact b_ri rfl rfl (K m25 (i7) (x12) (4) I26 F28 (by omega) (W27.slot h13 (by decide)) W27.at (by omega) (by omega))
    · have b21 : 0 ≤ i7 ∧ i7 ≤ 899 := by omega
      have b22 : 1 ≤ v17 ∧ v17 ≤ 900 := by omega
      refine w_t (np := 16) (l2 := [some (eR a0), some (eI (a1)), some (eI (i7))]) (s2 := [eR a0]) rfl (s_an rfl (pos_g I10 gA0 (by decide))) rfl ?_
      refine w_t (np := 17) (l2 := [some (eR a0), some (eI (a1)), some (eI (i7))]) (s2 := [eI (i7), eR a0]) rfl rfl rfl ?_
      refine w_cw (np := 20) (as := [eI (i7)]) (l2 := [some (eR a0), some (eI (i7))]) (rest := []) rfl rfl rfl (Nat.ble_eq.mp rfl) rfl rfl rfl (I10.kd gA0 (by decide) (n := 11) rfl) rfl ?_
      refine s_64f (a1 := i7) I10 gA0 (by omega) e18 ?_
      intro v21 b22 h23 h24
      show ex_q (dt_fg L ρ) rc (d + 1, (68, 20, [some (eR a0), some (eI (a1)), some (eI (i7))], [eI (v21)]), f :: F, m9)
      refine w_cu (np := 23) (as := [eI (v21)]) (l2 := [some (eI (v21))]) (rest := []) rfl rfl rfl (Nat.ble_eq.mp rfl) rfl rfl rfl rfl ?_
      refine w_t (np := 1) (l2 := [some (eI (v21))]) (s2 := [eI (v21)]) rfl rfl rfl ?_
      refine w_t (np := 3) (l2 := [some (eI (v21))]) (s2 := [eI (48), eI (v21)]) rfl rfl rfl ?_
      refine b_clt (t1 := 16) (t2 := 6) rfl rfl rfl (ev_w_in (by omega) (by omega)) rfl (fun g25 => ?_) (fun g25 => ?_)
      · have b26 : -1 ≤ v21 ∧ v21 ≤ 47 := by omega
        refine w_t (np := 17) (l2 := [some (eI (v21))]) (s2 := [eI (0)]) rfl rfl rfl ?_
        refine b_rz rfl rfl (Or.inl rfl) ?_
        show ex_q (dt_fg L ρ) rc (d + 1, (68, 23, [some (eR a0), some (eI (a1)), some (eI (i7))], [eI (0)]), f :: F, m9)
        refine b_ieq (t1 := 58) (t2 := 26) rfl rfl rfl rfl (fun g26 => ?_) (fun g26 => absurd g26 (by decide))
        refine w_t (np := 59) (l2 := [some (eR a0), some (eI (a1)), some (eI (i7))]) (s2 := [eR a0]) rfl (s_an rfl (pos_g I10 gA0 (by decide))) rfl ?_
        refine w_t (np := 60) (l2 := [some (eR a0), some (eI (a1)), some (eI (i7))]) (s2 := [eI (i7), eR a0]) rfl rfl rfl ?_
        refine w_t (np := 61) (l2 := [some (eR a0), some (eI (a1)), some (eI (i7))]) (s2 := [eI (a1), eI (i7), eR a0]) rfl rfl rfl ?_
        obtain ⟨v27, e28⟩ : ∃ zz : Int, zz = (i7) - (a1) := ⟨_, rfl⟩
        have b29 : -900 ≤ v27 ∧ v27 ≤ 899 := by omega
        refine w_t (np := 62) (l2 := [some (eR a0), some (eI (a1)), some (eI (i7))]) (s2 := [eI (v27), eR a0]) rfl (b_isub (by rw [← e28]; exact ev_w_in (by omega) (by omega))) rfl ?_
        refine w_t (np := 63) (l2 := [some (eR a0), some (eI (a1)), some (eI (i7))]) (s2 := [eI (3), eI (v27), eR a0]) rfl rfl rfl ?_
        refine b_cle (t1 := 70) (t2 := 66) rfl rfl rfl (ev_w_in (by omega) (by omega)) rfl (fun g30 => ?_) (fun g30 => ?_)
        · have b31 : -900 ≤ v27 ∧ v27 ≤ 3 := by omega
          refine w_t (np := 71) (l2 := [some (eR a0), some (eI (a1)), some (eI (i7))]) (s2 := [eI (2), eR a0]) rfl rfl rfl ?_
          refine j_pf (np := 74) (w := 2) rfl rfl I10 gA0 (by decide) (n := 11) rfl rfl (hO_i (lo := -2147483648) (hi := 2147483647) rfl (by decide)) ?_
          intro m31 I32 W33
          have F34 : Fr l_68v 0 0 g μ m31 := F11.w W33 gA0 rfl
          refine w_t (np := 75) (l2 := [some (eR a0), some (eI (a1)), some (eI (i7))]) (s2 := [eI (i7)]) rfl rfl rfl ?_
          exact b_ri rfl rfl (K m31 (i7) (x12) (2) I32 F34 (by omega) (W33.slot h13 (by decide)) W33.at (by omega) (by omega))
        · have b31 : 4 ≤ v27 ∧ v27 ≤ 899 := by omega
          refine w_t (np := 67) (l2 := [some (eR a0), some (eI (a1)), some (eI (i7))]) (s2 := [eI (4), eR a0]) rfl rfl rfl ?_
          refine w_go (t1 := 71) rfl rfl ?_
          refine j_pf (np := 74) (w := 4) rfl rfl I10 gA0 (by decide) (n := 11) rfl rfl (hO_i (lo := -2147483648) (hi := 2147483647) rfl (by decide)) ?_
          intro m31 I32 W33
          have F34 : Fr l_68v 0 0 g μ m31 := F11.w W33 gA0 rfl
          refine w_t (np := 75) (l2 := [some (eR a0), some (eI (a1)), some (eI (i7))]) (s2 := [eI (i7)]) rfl rfl rfl ?_
          exact b_ri rfl rfl (K m31 (i7) (x12) (4) I32 F34 (by omega) (W33.slot h13 (by decide)) W33.at (by omega) (by omega))
      · have b26 : 48 ≤ v21 ∧ v21 ≤ 255 := by omega
        refine w_t (np := 7) (l2 := [some (eI (v21))]) (s2 := [eI (v21)]) rfl rfl rfl ?_
        refine w_t (np := 9) (l2 := [some (eI (v21))]) (s2 := [eI (57), eI (v21)]) rfl rfl rfl ?_
        refine b_cgt (t1 := 16) (t2 := 12) rfl rfl rfl (ev_w_in (by omega) (by omega)) rfl (fun g26 => ?_) (fun g26 => ?_)
        · have b27 : 58 ≤ v21 ∧ v21 ≤ 255 := by omega
          refine w_t (np := 17) (l2 := [some (eI (v21))]) (s2 := [eI (0)]) rfl rfl rfl ?_
          refine b_rz rfl rfl (Or.inl rfl) ?_
          show ex_q (dt_fg L ρ) rc (d + 1, (68, 23, [some (eR a0), some (eI (a1)), some (eI (i7))], [eI (0)]), f :: F, m9)
          refine b_ieq (t1 := 58) (t2 := 26) rfl rfl rfl rfl (fun g27 => ?_) (fun g27 => absurd g27 (by decide))
          refine w_t (np := 59) (l2 := [some (eR a0), some (eI (a1)), some (eI (i7))]) (s2 := [eR a0]) rfl (s_an rfl (pos_g I10 gA0 (by decide))) rfl ?_
          refine w_t (np := 60) (l2 := [some (eR a0), some (eI (a1)), some (eI (i7))]) (s2 := [eI (i7), eR a0]) rfl rfl rfl ?_
          refine w_t (np := 61) (l2 := [some (eR a0), some (eI (a1)), some (eI (i7))]) (s2 := [eI (a1), eI (i7), eR a0]) rfl rfl rfl ?_
          obtain ⟨v28, e29⟩ : ∃ zz : Int, zz = (i7) - (a1) := ⟨_, rfl⟩
          have b30 : -900 ≤ v28 ∧ v28 ≤ 899 := by omega
          refine w_t (np := 62) (l2 := [some (eR a0), some (eI (a1)), some (eI (i7))]) (s2 := [eI (v28), eR a0]) rfl (b_isub (by rw [← e29]; exact ev_w_in (by omega) (by omega))) rfl ?_
          refine w_t (np := 63) (l2 := [some (eR a0), some (eI (a1)), some (eI (i7))]) (s2 := [eI (3), eI (v28), eR a0]) rfl rfl rfl ?_
          refine b_cle (t1 := 70) (t2 := 66) rfl rfl rfl (ev_w_in (by omega) (by omega)) rfl (fun g31 => ?_) (fun g31 => ?_)
          · have b32 : -900 ≤ v28 ∧ v28 ≤ 3 := by omega
            refine w_t (np := 71) (l2 := [some (eR a0), some (eI (a1)), some (eI (i7))]) (s2 := [eI (2), eR a0]) rfl rfl rfl ?_
            refine j_pf (np := 74) (w := 2) rfl rfl I10 gA0 (by decide) (n := 11) rfl rfl (hO_i (lo := -2147483648) (hi := 2147483647) rfl (by decide)) ?_
            intro m32 I33 W34
            have F35 : Fr l_68v 0 0 g μ m32 := F11.w W34 gA0 rfl
            refine w_t (np := 75) (l2 := [some (eR a0), some (eI (a1)), some (eI (i7))]) (s2 := [eI (i7)]) rfl rfl rfl ?_
            exact b_ri rfl rfl (K m32 (i7) (x12) (2) I33 F35 (by omega) (W34.slot h13 (by decide)) W34.at (by omega) (by omega))
          · have b32 : 4 ≤ v28 ∧ v28 ≤ 899 := by omega
            refine w_t (np := 67) (l2 := [some (eR a0), some (eI (a1)), some (eI (i7))]) (s2 := [eI (4), eR a0]) rfl rfl rfl ?_
            refine w_go (t1 := 71) rfl rfl ?_
            refine j_pf (np := 74) (w := 4) rfl rfl I10 gA0 (by decide) (n := 11) rfl rfl (hO_i (lo := -2147483648) (hi := 2147483647) rfl (by decide)) ?_
            intro m32 I33 W34
            have F35 : Fr l_68v 0 0 g μ m32 := F11.w W34 gA0 rfl
            refine w_t (np := 75) (l2 := [some (eR a0), some (eI (a1)), some (eI (i7))]) (s2 := [eI (i7)]) rfl rfl rfl ?_
            exact b_ri rfl rfl (K m32 (i7) (x12) (4) I33 F35 (by omega) (W34.slot h13 (by decide)) W34.at (by omega) (by omega))
        · have b27 : 48 ≤ v21 ∧ v21 ≤ 57 := by omega
          refine w_t (np := 13) (l2 := [some (eI (v21))]) (s2 := [eI (1)]) rfl rfl rfl ?_
          refine w_go (t1 := 17) rfl rfl ?_
          refine b_rz rfl rfl (Or.inr rfl) ?_
          show ex_q (dt_fg L ρ) rc (d + 1, (68, 23, [some (eR a0), some (eI (a1)), some (eI (i7))], [eI (1)]), f :: F, m9)
          refine b_ieq (t1 := 58) (t2 := 26) rfl rfl rfl rfl (fun g27 => absurd g27 (by decide)) (fun g27 => ?_)
          refine w_t (np := 27) (l2 := [some (eR a0), some (eI (a1)), some (eI (i7))]) (s2 := [eR a0]) rfl (s_an rfl (pos_g I10 gA0 (by decide))) rfl ?_
          refine w_t (np := 29) (l2 := [some (eR a0), some (eI (a1)), some (eI (i7))]) (s2 := [eI (10), eR a0]) rfl rfl rfl ?_
          refine w_t (np := 30) (l2 := [some (eR a0), some (eI (a1)), some (eI (i7))]) (s2 := [eR a0, eI (10), eR a0]) rfl (s_an rfl (pos_g I10 gA0 (by decide))) rfl ?_
          refine w_gf (np := 33) (v := eI (x12)) rfl rfl (I10.kd gA0 (by decide) (n := 11) rfl) (by rw [h13]; rfl) ?_
          obtain ⟨v28, e29⟩ : ∃ zz : Int, zz = (10) * (x12) := ⟨_, rfl⟩
          have b30 : 0 ≤ v28 ∧ v28 ≤ 99990 := by omega
          refine w_t (np := 34) (l2 := [some (eR a0), some (eI (a1)), some (eI (i7))]) (s2 := [eI (v28), eR a0]) rfl (b_imul (by rw [← e29]; exact ev_w_in (by omega) (by omega))) rfl ?_
          refine w_t (np := 35) (l2 := [some (eR a0), some (eI (a1)), some (eI (i7))]) (s2 := [eR a0, eI (v28), eR a0]) rfl (s_an rfl (pos_g I10 gA0 (by decide))) rfl ?_
          refine w_t (np := 36) (l2 := [some (eR a0), some (eI (a1)), some (eI (i7))]) (s2 := [eI (i7), eR a0, eI (v28), eR a0]) rfl rfl rfl ?_
          refine w_cw (np := 39) (as := [eI (i7)]) (l2 := [some (eR a0), some (eI (i7))]) (rest := [eI (v28), eR a0]) rfl rfl rfl (Nat.ble_eq.mp rfl) rfl rfl rfl (I10.kd gA0 (by decide) (n := 11) rfl) rfl ?_
          refine s_64f (a1 := i7) I10 gA0 (by omega) e18 ?_
          intro v31 b32 h33 h34
          show ex_q (dt_fg L ρ) rc (d + 1, (68, 39, [some (eR a0), some (eI (a1)), some (eI (i7))], [eI (v31), eI (v28), eR a0]), f :: F, m9)
          have h35 : v31 = v21 := h34.trans h24.symm
          obtain ⟨v36, e37⟩ : ∃ zz : Int, zz = (v28) + (v31) := ⟨_, rfl⟩
          have b38 : -1 ≤ v36 ∧ v36 ≤ 100245 := by omega
          refine w_t (np := 40) (l2 := [some (eR a0), some (eI (a1)), some (eI (i7))]) (s2 := [eI (v36), eR a0]) rfl (b_iadd (by rw [← e37]; exact ev_w_in (by omega) (by omega))) rfl ?_
          refine w_t (np := 42) (l2 := [some (eR a0), some (eI (a1)), some (eI (i7))]) (s2 := [eI (48), eI (v36), eR a0]) rfl rfl rfl ?_
          obtain ⟨v39, e40⟩ : ∃ zz : Int, zz = (v36) - (48) := ⟨_, rfl⟩
          have b41 : -49 ≤ v39 ∧ v39 ≤ 100197 := by omega
          refine w_t (np := 43) (l2 := [some (eR a0), some (eI (a1)), some (eI (i7))]) (s2 := [eI (v39), eR a0]) rfl (b_isub (by rw [← e40]; exact ev_w_in (by omega) (by omega))) rfl ?_
          refine w_t (np := 46) (l2 := [some (eR a0), some (eI (a1)), some (eI (i7))]) (s2 := [eI (9999), eI (v39), eR a0]) rfl rfl rfl ?_
          refine w_cu (np := 49) (as := [eI (v39), eI (9999)]) (l2 := [some (eI (v39)), some (eI (9999))]) (rest := [eR a0]) rfl rfl rfl (Nat.ble_eq.mp rfl) rfl rfl rfl rfl ?_
          refine w_t (np := 1) (l2 := [some (eI (v39)), some (eI (9999))]) (s2 := [eI (v39)]) rfl rfl rfl ?_
          refine w_t (np := 2) (l2 := [some (eI (v39)), some (eI (9999))]) (s2 := [eI (9999), eI (v39)]) rfl rfl rfl ?_
          refine b_cgt (t1 := 9) (t2 := 5) rfl rfl rfl (ev_w_in (by omega) (by omega)) rfl (fun g42 => ?_) (fun g42 => ?_)
          · have b43 : 10000 ≤ v39 ∧ v39 ≤ 100197 := by omega
            refine w_t (np := 10) (l2 := [some (eI (v39)), some (eI (9999))]) (s2 := [eI (9999)]) rfl rfl rfl ?_
            refine b_ri rfl rfl ?_
            show ex_q (dt_fg L ρ) rc (d + 1, (68, 49, [some (eR a0), some (eI (a1)), some (eI (i7))], [eI (9999), eR a0]), f :: F, m9)
            refine j_pf (np := 52) (w := 9999) rfl rfl I10 gA0 (by decide) (n := 11) rfl rfl (hO_i (lo := -2147483648) (hi := 2147483647) rfl (by decide)) ?_
            intro m43 I44 W45
            have F46 : Fr l_68v 0 0 g μ m43 := F11.w W45 gA0 rfl
            obtain ⟨v47, e48⟩ : ∃ zz : Int, zz = (i7) + (1) := ⟨_, rfl⟩
            have b49 : 1 ≤ v47 ∧ v47 ≤ 900 := by omega
            refine w_t (np := 55) (l2 := [some (eR a0), some (eI (a1)), some (eI (v47))]) (s2 := []) rfl (b_iinc rfl (by rw [← e48]; exact ev_w_in (by omega) (by omega)) rfl) rfl ?_
            refine w_go (t1 := 7) rfl rfl ?_
            exact ih6 (900 - (v47)).toNat (by omega) m43 (v47) (9999) I44 F46 (by omega) (W45.slot k15 (by decide)) W45.at (by decide)   rfl
          · have b43 : -49 ≤ v39 ∧ v39 ≤ 9999 := by omega
            refine w_t (np := 6) (l2 := [some (eI (v39)), some (eI (9999))]) (s2 := [eI (v39)]) rfl rfl rfl ?_
            refine w_go (t1 := 10) rfl rfl ?_
            refine b_ri rfl rfl ?_
            show ex_q (dt_fg L ρ) rc (d + 1, (68, 49, [some (eR a0), some (eI (a1)), some (eI (i7))], [eI (v39), eR a0]), f :: F, m9)
            refine j_pf (np := 52) (w := v39) rfl rfl I10 gA0 (by decide) (n := 11) rfl rfl (hO_i (lo := -2147483648) (hi := 2147483647) rfl (by omega)) ?_
            intro m43 I44 W45
            have F46 : Fr l_68v 0 0 g μ m43 := F11.w W45 gA0 rfl
            obtain ⟨v47, e48⟩ : ∃ zz : Int, zz = (i7) + (1) := ⟨_, rfl⟩
            have b49 : 1 ≤ v47 ∧ v47 ≤ 900 := by omega
            refine w_t (np := 55) (l2 := [some (eR a0), some (eI (a1)), some (eI (v47))]) (s2 := []) rfl (b_iinc rfl (by rw [← e48]; exact ev_w_in (by omega) (by omega)) rfl) rfl ?_
            refine w_go (t1 := 7) rfl rfl ?_
            exact ih6 (900 - (v47)).toNat (by omega) m43 (v47) (v39) I44 F46 (by omega) (W45.slot k15 (by decide)) W45.at (by omega)   rfl
  exact hL7 _ m1 (a1) (0) I2 F4 (by omega) (W3.slot h_to (by decide)) W3.at (by decide)   rfl
def l_67v : List Nat := [6149, 6150, 6151, 6152]
theorem s_67v {L : Nat} {ρ : Nat → Int} {rc : eQ} {d : Nat} {f : eFr} {F : List eFr} {μ : eM} {g : Nat → Nat} {a0 : Nat} {va : Int} {to : Int} (hI : SI g μ) (gA0 : g a0 = 24) (h_va : μ.1 a0 7 = va) (h_to : μ.1 a0 4 = to) (K : ∀ (μ2 : eM) (va2 : Int) (to2 : Int), SI g μ2 → Fr l_67v 0 0 g μ μ2 → μ2.1 a0 7 = va2 → μ2.1 a0 4 = to2 → (to2 ≠ 2 ∨ 0 ≤ va2) → ex_q (dt_fg L ρ) rc (d + 3, (f.1, f.2.1, f.2.2.1, f.2.2.2), F, μ2)) : ex_q (dt_fg L ρ) rc (d + 2, (67, 0, [some (eR a0), none, none], []), f :: F, μ) := by
  have F0 : Fr l_67v 0 0 g μ μ := Fr.r
  have b_va : -2147483648 ≤ va ∧ va ≤ 2147483647 := by
    rw [← h_va]
    exact hI.int gA0 (by decide) (n := 11) rfl (by decide) rfl
  have b_to : -2147483648 ≤ to ∧ to ≤ 2147483647 := by
    rw [← h_to]
    exact hI.int gA0 (by decide) (n := 11) rfl (by decide) rfl
  refine w_t (np := 1) (l2 := [some (eR a0), none, none]) (s2 := [eR a0]) rfl (s_an rfl (pos_g hI gA0 (by decide))) rfl ?_
  refine j_gi (np := 4) rfl rfl rfl hI gA0 (by decide) (n := 11) rfl rfl (lo := 0) (hi := 900) rfl ?_
  intro v1 e2 b3
  refine w_t (np := 5) (l2 := [some (eR a0), some (eI (v1)), none]) (s2 := []) rfl rfl rfl ?_
  have hL5 : ∀ (n4 : Nat) (m8 : eM) (i6 : Int), SI g m8 → Fr l_67v 0 0 g μ m8 → (0 ≤ i6 ∧ i6 ≤ 900) → m8.1 a0 7 = va → m8.1 a0 4 = to → m8.1 a0 6 = v1 → n4 = (900 - i6).toNat → ex_q (dt_fg L ρ) rc (d + 2, (67, 5, [some (eR a0), some (eI (i6)), none], []), f :: F, m8) := by
    intro n4
    induction n4 using Nat.strongRecOn with
    | _ n4 ih5 =>
    intro m8 i6 I9 F10 b7 k11 k12 k13 hn14
    refine w_t (np := 6) (l2 := [some (eR a0), some (eI (i6)), none]) (s2 := [eI (i6)]) rfl rfl rfl ?_
    refine w_t (np := 7) (l2 := [some (eR a0), some (eI (i6)), none]) (s2 := [eR a0, eI (i6)]) rfl (s_an rfl (pos_g I9 gA0 (by decide))) rfl ?_
    refine j_gi (np := 10) rfl rfl rfl I9 gA0 (by decide) (n := 11) rfl rfl (lo := 0) (hi := 900) rfl ?_
    intro v15 e16 b17
    refine b_cge (t1 := 39) (t2 := 13) rfl rfl rfl (ev_w_in (by omega) (by omega)) (ev_w_in (by omega) (by omega)) (fun g18 => ?_) (fun g18 => ?_)
    · refine w_t (np := 40) (l2 := [some (eR a0), some (eI (i6)), none]) (s2 := [eR a0]) rfl (s_an rfl (pos_g I9 gA0 (by decide))) rfl ?_
      refine w_t (np := 41) (l2 := [some (eR a0), some (eI (i6)), none]) (s2 := [eI (i6), eR a0]) rfl rfl rfl ?_
      refine j_pf (np := 44) (w := i6) rfl rfl I9 gA0 (by decide) (n := 11) rfl rfl (hO_i (lo := 0) (hi := 900) rfl (by omega)) ?_
      intro m19 I20 W21
      have F22 : Fr l_67v 0 0 g μ m19 := F10.w W21 gA0 rfl
      refine w_t (np := 45) (l2 := [some (eR a0), some (eI (i6)), none]) (s2 := [eR a0]) rfl (s_an rfl (pos_g I20 gA0 (by decide))) rfl ?_
      refine w_t (np := 46) (l2 := [some (eR a0), some (eI (i6)), none]) (s2 := [eI (i6), eR a0]) rfl rfl rfl ?_
      refine w_cw (np := 49) (as := [eI (i6)]) (l2 := [some (eR a0), some (eI (i6))]) (rest := []) rfl rfl rfl (Nat.ble_eq.mp rfl) rfl rfl rfl (I20.kd gA0 (by decide) (n := 11) rfl) rfl ?_
      refine s_64f (a1 := i6) I20 gA0 (by omega) (W21.slot e16 (by decide)) ?_
      intro v23 b24 h25 h26
      show ex_q (dt_fg L ρ) rc (d + 2, (67, 49, [some (eR a0), some (eI (i6)), none], [eI (v23)]), f :: F, m19)
      refine w_t (np := 50) (l2 := [some (eR a0), some (eI (i6)), some (eI (v23))]) (s2 := []) rfl rfl rfl ?_
      refine w_t (np := 51) (l2 := [some (eR a0), some (eI (i6)), some (eI (v23))]) (s2 := [eI (v23)]) rfl rfl rfl ?_
      refine b_ige (t1 := 62) (t2 := 54) rfl rfl rfl (ev_w_in (by omega) (by omega)) (fun g27 => ?_) (fun g27 => ?_)
      · have b28 : 0 ≤ v23 ∧ v23 ≤ 255 := by omega
        refine w_t (np := 63) (l2 := [some (eR a0), some (eI (i6)), some (eI (v23))]) (s2 := [eI (v23)]) rfl rfl rfl ?_
        refine w_cu (np := 66) (as := [eI (v23)]) (l2 := [some (eI (v23))]) (rest := []) rfl rfl rfl (Nat.ble_eq.mp rfl) rfl rfl rfl rfl ?_
        refine w_t (np := 1) (l2 := [some (eI (v23))]) (s2 := [eI (v23)]) rfl rfl rfl ?_
        refine w_t (np := 3) (l2 := [some (eI (v23))]) (s2 := [eI (97), eI (v23)]) rfl rfl rfl ?_
        refine b_clt (t1 := 16) (t2 := 6) rfl rfl rfl (ev_w_in (by omega) (by omega)) rfl (fun g28 => ?_) (fun g28 => ?_)
        · have b29 : 0 ≤ v23 ∧ v23 ≤ 96 := by omega
          refine w_t (np := 17) (l2 := [some (eI (v23))]) (s2 := [eI (0)]) rfl rfl rfl ?_
          refine b_rz rfl rfl (Or.inl rfl) ?_
          show ex_q (dt_fg L ρ) rc (d + 2, (67, 66, [some (eR a0), some (eI (i6)), some (eI (v23))], [eI (0)]), f :: F, m19)
          refine b_ieq (t1 := 99) (t2 := 69) rfl rfl rfl rfl (fun g29 => ?_) (fun g29 => absurd g29 (by decide))
          refine w_t (np := 100) (l2 := [some (eR a0), some (eI (i6)), some (eI (v23))]) (s2 := [eI (v23)]) rfl rfl rfl ?_
          refine w_cu (np := 103) (as := [eI (v23)]) (l2 := [some (eI (v23))]) (rest := []) rfl rfl rfl (Nat.ble_eq.mp rfl) rfl rfl rfl rfl ?_
          refine w_t (np := 1) (l2 := [some (eI (v23))]) (s2 := [eI (v23)]) rfl rfl rfl ?_
          refine w_t (np := 3) (l2 := [some (eI (v23))]) (s2 := [eI (48), eI (v23)]) rfl rfl rfl ?_
          refine b_clt (t1 := 16) (t2 := 6) rfl rfl rfl (ev_w_in (by omega) (by omega)) rfl (fun g30 => ?_) (fun g30 => ?_)
          · have b31 : 0 ≤ v23 ∧ v23 ≤ 47 := by omega
            refine w_t (np := 17) (l2 := [some (eI (v23))]) (s2 := [eI (0)]) rfl rfl rfl ?_
            refine b_rz rfl rfl (Or.inl rfl) ?_
            show ex_q (dt_fg L ρ) rc (d + 2, (67, 103, [some (eR a0), some (eI (i6)), some (eI (v23))], [eI (0)]), f :: F, m19)
            refine b_ieq (t1 := 115) (t2 := 106) rfl rfl rfl rfl (fun g31 => ?_) (fun g31 => absurd g31 (by decide))
            refine w_t (np := 116) (l2 := [some (eR a0), some (eI (i6)), some (eI (v23))]) (s2 := [eR a0]) rfl (s_an rfl (pos_g I20 gA0 (by decide))) rfl ?_
            refine w_t (np := 117) (l2 := [some (eR a0), some (eI (i6)), some (eI (v23))]) (s2 := [eI (v23), eR a0]) rfl rfl rfl ?_
            refine w_t (np := 119) (l2 := [some (eR a0), some (eI (i6)), some (eI (v23))]) (s2 := [eI (45), eI (v23), eR a0]) rfl rfl rfl ?_
            refine b_ceq (t1 := 128) (t2 := 122) rfl rfl rfl (ev_w_in (by omega) (by omega)) rfl (fun g32 => ?_) (fun g32 => ?_)
            · have b33 : 45 ≤ v23 ∧ v23 ≤ 45 := by omega
              refine w_t (np := 129) (l2 := [some (eR a0), some (eI (i6)), some (eI (v23))]) (s2 := [eI (3), eR a0]) rfl rfl rfl ?_
              refine w_go (t1 := 133) rfl rfl ?_
              refine j_pf (np := 136) (w := 3) rfl rfl I20 gA0 (by decide) (n := 11) rfl rfl (hO_i (lo := -2147483648) (hi := 2147483647) rfl (by decide)) ?_
              intro m33 I34 W35
              have F36 : Fr l_67v 0 0 g μ m33 := F22.w W35 gA0 rfl
              obtain ⟨v37, e38⟩ : ∃ zz : Int, zz = (i6) + (1) := ⟨_, rfl⟩
              have b39 : 1 ≤ v37 ∧ v37 ≤ 901 := by omega
              refine w_t (np := 139) (l2 := [some (eR a0), some (eI (v37)), some (eI (v23))]) (s2 := []) rfl (b_iinc rfl (by rw [← e38]; exact ev_w_in (by omega) (by omega)) rfl) rfl ?_
              refine w_t (np := 140) (l2 := [some (eR a0), some (eI (v37)), some (eI (v23))]) (s2 := [eR a0]) rfl (s_an rfl (pos_g I34 gA0 (by decide))) rfl ?_
              refine w_t (np := 141) (l2 := [some (eR a0), some (eI (v37)), some (eI (v23))]) (s2 := [eI (v37), eR a0]) rfl rfl rfl ?_
              refine j_pf (np := 144) (w := v37) rfl rfl I34 gA0 (by decide) (n := 11) rfl rfl (hO_i (lo := 0) (hi := 900) rfl (by omega)) ?_
              intro m40 I41 W42
              have F43 : Fr l_67v 0 0 g μ m40 := F36.w W42 gA0 rfl
              exact v_rv rfl rfl (K m40 (va) (3) I41 F43 (W42.slot (W35.slot (W21.slot k11 (by decide)) (by decide)) (by decide)) (W42.slot W35.at (by decide)) (by omega))
            · refine w_t (np := 123) (l2 := [some (eR a0), some (eI (i6)), some (eI (v23))]) (s2 := [eI (v23), eR a0]) rfl rfl rfl ?_
              refine w_t (np := 125) (l2 := [some (eR a0), some (eI (i6)), some (eI (v23))]) (s2 := [eI (59), eI (v23), eR a0]) rfl rfl rfl ?_
              refine b_cne (t1 := 132) (t2 := 128) rfl rfl rfl (ev_w_in (by omega) (by omega)) rfl (fun g33 => ?_) (fun g33 => False.elim (by omega))
              refine w_t (np := 133) (l2 := [some (eR a0), some (eI (i6)), some (eI (v23))]) (s2 := [eI (4), eR a0]) rfl rfl rfl ?_
              refine j_pf (np := 136) (w := 4) rfl rfl I20 gA0 (by decide) (n := 11) rfl rfl (hO_i (lo := -2147483648) (hi := 2147483647) rfl (by decide)) ?_
              intro m34 I35 W36
              have F37 : Fr l_67v 0 0 g μ m34 := F22.w W36 gA0 rfl
              obtain ⟨v38, e39⟩ : ∃ zz : Int, zz = (i6) + (1) := ⟨_, rfl⟩
              have b40 : 1 ≤ v38 ∧ v38 ≤ 901 := by omega
              refine w_t (np := 139) (l2 := [some (eR a0), some (eI (v38)), some (eI (v23))]) (s2 := []) rfl (b_iinc rfl (by rw [← e39]; exact ev_w_in (by omega) (by omega)) rfl) rfl ?_
              refine w_t (np := 140) (l2 := [some (eR a0), some (eI (v38)), some (eI (v23))]) (s2 := [eR a0]) rfl (s_an rfl (pos_g I35 gA0 (by decide))) rfl ?_
              refine w_t (np := 141) (l2 := [some (eR a0), some (eI (v38)), some (eI (v23))]) (s2 := [eI (v38), eR a0]) rfl rfl rfl ?_
              refine j_pf (np := 144) (w := v38) rfl rfl I35 gA0 (by decide) (n := 11) rfl rfl (hO_i (lo := 0) (hi := 900) rfl (by omega)) ?_
              intro m41 I42 W43
              have F44 : Fr l_67v 0 0 g μ m41 := F37.w W43 gA0 rfl
              exact v_rv rfl rfl (K m41 (va) (4) I42 F44 (W43.slot (W36.slot (W21.slot k11 (by decide)) (by decide)) (by decide)) (W43.slot W36.at (by decide)) (by omega))
          · have b31 : 48 ≤ v23 ∧ v23 ≤ 96 := by omega
            refine w_t (np := 7) (l2 := [some (eI (v23))]) (s2 := [eI (v23)]) rfl rfl rfl ?_
            refine w_t (np := 9) (l2 := [some (eI (v23))]) (s2 := [eI (57), eI (v23)]) rfl rfl rfl ?_
            refine b_cgt (t1 := 16) (t2 := 12) rfl rfl rfl (ev_w_in (by omega) (by omega)) rfl (fun g31 => ?_) (fun g31 => ?_)
            · have b32 : 58 ≤ v23 ∧ v23 ≤ 96 := by omega
              refine w_t (np := 17) (l2 := [some (eI (v23))]) (s2 := [eI (0)]) rfl rfl rfl ?_
              refine b_rz rfl rfl (Or.inl rfl) ?_
              show ex_q (dt_fg L ρ) rc (d + 2, (67, 103, [some (eR a0), some (eI (i6)), some (eI (v23))], [eI (0)]), f :: F, m19)
              refine b_ieq (t1 := 115) (t2 := 106) rfl rfl rfl rfl (fun g32 => ?_) (fun g32 => absurd g32 (by decide))
              refine w_t (np := 116) (l2 := [some (eR a0), some (eI (i6)), some (eI (v23))]) (s2 := [eR a0]) rfl (s_an rfl (pos_g I20 gA0 (by decide))) rfl ?_
              refine w_t (np := 117) (l2 := [some (eR a0), some (eI (i6)), some (eI (v23))]) (s2 := [eI (v23), eR a0]) rfl rfl rfl ?_
              refine w_t (np := 119) (l2 := [some (eR a0), some (eI (i6)), some (eI (v23))]) (s2 := [eI (45), eI (v23), eR a0]) rfl rfl rfl ?_
              refine b_ceq (t1 := 128) (t2 := 122) rfl rfl rfl (ev_w_in (by omega) (by omega)) rfl (fun g33 => False.elim (by omega)) (fun g33 => ?_)
              refine w_t (np := 123) (l2 := [some (eR a0), some (eI (i6)), some (eI (v23))]) (s2 := [eI (v23), eR a0]) rfl rfl rfl ?_
              refine w_t (np := 125) (l2 := [some (eR a0), some (eI (i6)), some (eI (v23))]) (s2 := [eI (59), eI (v23), eR a0]) rfl rfl rfl ?_
              refine b_cne (t1 := 132) (t2 := 128) rfl rfl rfl (ev_w_in (by omega) (by omega)) rfl (fun g34 => ?_) (fun g34 => ?_)
              · refine w_t (np := 133) (l2 := [some (eR a0), some (eI (i6)), some (eI (v23))]) (s2 := [eI (4), eR a0]) rfl rfl rfl ?_
                refine j_pf (np := 136) (w := 4) rfl rfl I20 gA0 (by decide) (n := 11) rfl rfl (hO_i (lo := -2147483648) (hi := 2147483647) rfl (by decide)) ?_
                intro m35 I36 W37
                have F38 : Fr l_67v 0 0 g μ m35 := F22.w W37 gA0 rfl
                obtain ⟨v39, e40⟩ : ∃ zz : Int, zz = (i6) + (1) := ⟨_, rfl⟩
                have b41 : 1 ≤ v39 ∧ v39 ≤ 901 := by omega
                refine w_t (np := 139) (l2 := [some (eR a0), some (eI (v39)), some (eI (v23))]) (s2 := []) rfl (b_iinc rfl (by rw [← e40]; exact ev_w_in (by omega) (by omega)) rfl) rfl ?_
                refine w_t (np := 140) (l2 := [some (eR a0), some (eI (v39)), some (eI (v23))]) (s2 := [eR a0]) rfl (s_an rfl (pos_g I36 gA0 (by decide))) rfl ?_
                refine w_t (np := 141) (l2 := [some (eR a0), some (eI (v39)), some (eI (v23))]) (s2 := [eI (v39), eR a0]) rfl rfl rfl ?_
                refine j_pf (np := 144) (w := v39) rfl rfl I36 gA0 (by decide) (n := 11) rfl rfl (hO_i (lo := 0) (hi := 900) rfl (by omega)) ?_
                intro m42 I43 W44
                have F45 : Fr l_67v 0 0 g μ m42 := F38.w W44 gA0 rfl
                exact v_rv rfl rfl (K m42 (va) (4) I43 F45 (W44.slot (W37.slot (W21.slot k11 (by decide)) (by decide)) (by decide)) (W44.slot W37.at (by decide)) (by omega))
              · have b35 : 59 ≤ v23 ∧ v23 ≤ 59 := by omega
                refine w_t (np := 129) (l2 := [some (eR a0), some (eI (i6)), some (eI (v23))]) (s2 := [eI (3), eR a0]) rfl rfl rfl ?_
                refine w_go (t1 := 133) rfl rfl ?_
                refine j_pf (np := 136) (w := 3) rfl rfl I20 gA0 (by decide) (n := 11) rfl rfl (hO_i (lo := -2147483648) (hi := 2147483647) rfl (by decide)) ?_
                intro m35 I36 W37
                have F38 : Fr l_67v 0 0 g μ m35 := F22.w W37 gA0 rfl
                obtain ⟨v39, e40⟩ : ∃ zz : Int, zz = (i6) + (1) := ⟨_, rfl⟩
                have b41 : 1 ≤ v39 ∧ v39 ≤ 901 := by omega
                refine w_t (np := 139) (l2 := [some (eR a0), some (eI (v39)), some (eI (v23))]) (s2 := []) rfl (b_iinc rfl (by rw [← e40]; exact ev_w_in (by omega) (by omega)) rfl) rfl ?_
                refine w_t (np := 140) (l2 := [some (eR a0), some (eI (v39)), some (eI (v23))]) (s2 := [eR a0]) rfl (s_an rfl (pos_g I36 gA0 (by decide))) rfl ?_
                refine w_t (np := 141) (l2 := [some (eR a0), some (eI (v39)), some (eI (v23))]) (s2 := [eI (v39), eR a0]) rfl rfl rfl ?_
                refine j_pf (np := 144) (w := v39) rfl rfl I36 gA0 (by decide) (n := 11) rfl rfl (hO_i (lo := 0) (hi := 900) rfl (by omega)) ?_
                intro m42 I43 W44
                have F45 : Fr l_67v 0 0 g μ m42 := F38.w W44 gA0 rfl
                exact v_rv rfl rfl (K m42 (va) (3) I43 F45 (W44.slot (W37.slot (W21.slot k11 (by decide)) (by decide)) (by decide)) (W44.slot W37.at (by decide)) (by omega))
            · have b32 : 48 ≤ v23 ∧ v23 ≤ 57 := by omega
              refine w_t (np := 13) (l2 := [some (eI (v23))]) (s2 := [eI (1)]) rfl rfl rfl ?_
              refine w_go (t1 := 17) rfl rfl ?_
              refine b_rz rfl rfl (Or.inr rfl) ?_
              show ex_q (dt_fg L ρ) rc (d + 2, (67, 103, [some (eR a0), some (eI (i6)), some (eI (v23))], [eI (1)]), f :: F, m19)
              refine b_ieq (t1 := 115) (t2 := 106) rfl rfl rfl rfl (fun g32 => absurd g32 (by decide)) (fun g32 => ?_)
              refine w_t (np := 107) (l2 := [some (eR a0), some (eI (i6)), some (eI (v23))]) (s2 := [eR a0]) rfl (s_an rfl (pos_g I20 gA0 (by decide))) rfl ?_
              refine w_t (np := 108) (l2 := [some (eR a0), some (eI (i6)), some (eI (v23))]) (s2 := [eI (i6), eR a0]) rfl rfl rfl ?_
              refine w_cw (np := 111) (as := [eI (i6)]) (l2 := [some (eR a0), some (eI (i6)), none]) (rest := []) rfl rfl rfl (Nat.ble_eq.mp rfl) rfl rfl rfl (I20.kd gA0 (by decide) (n := 11) rfl) rfl ?_
              refine s_68v (a1 := i6) I20 gA0 (by omega) (W21.slot k11 (by decide)) (W21.slot k12 (by decide)) ?_
              intro m33 v36 v38 v40 I34 F35 b37 e39 e41 h42 h43
              have F44 : Fr l_67v 0 0 g μ m33 := F22.t F35 rfl
              have b45 : -2147483648 ≤ v38 ∧ v38 ≤ 2147483647 := by
                rw [← e39]
                exact I34.int gA0 (by decide) (n := 11) rfl (by decide) rfl
              have b46 : -2147483648 ≤ v40 ∧ v40 ≤ 2147483647 := by
                rw [← e41]
                exact I34.int gA0 (by decide) (n := 11) rfl (by decide) rfl
              show ex_q (dt_fg L ρ) rc (d + 2, (67, 111, [some (eR a0), some (eI (i6)), some (eI (v23))], [eI (v36)]), f :: F, m33)
              refine w_t (np := 112) (l2 := [some (eR a0), some (eI (v36)), some (eI (v23))]) (s2 := []) rfl rfl rfl ?_
              refine w_go (t1 := 139) rfl rfl ?_
              refine w_t (np := 140) (l2 := [some (eR a0), some (eI (v36)), some (eI (v23))]) (s2 := [eR a0]) rfl (s_an rfl (pos_g I34 gA0 (by decide))) rfl ?_
              refine w_t (np := 141) (l2 := [some (eR a0), some (eI (v36)), some (eI (v23))]) (s2 := [eI (v36), eR a0]) rfl rfl rfl ?_
              refine j_pf (np := 144) (w := v36) rfl rfl I34 gA0 (by decide) (n := 11) rfl rfl (hO_i (lo := 0) (hi := 900) rfl (by omega)) ?_
              intro m47 I48 W49
              have F50 : Fr l_67v 0 0 g μ m47 := F44.w W49 gA0 rfl
              exact v_rv rfl rfl (K m47 (v38) (v40) I48 F50 (W49.slot e39 (by decide)) (W49.slot e41 (by decide)) (by omega))
        · have b29 : 97 ≤ v23 ∧ v23 ≤ 255 := by omega
          refine w_t (np := 7) (l2 := [some (eI (v23))]) (s2 := [eI (v23)]) rfl rfl rfl ?_
          refine w_t (np := 9) (l2 := [some (eI (v23))]) (s2 := [eI (122), eI (v23)]) rfl rfl rfl ?_
          refine b_cgt (t1 := 16) (t2 := 12) rfl rfl rfl (ev_w_in (by omega) (by omega)) rfl (fun g29 => ?_) (fun g29 => ?_)
          · have b30 : 123 ≤ v23 ∧ v23 ≤ 255 := by omega
            refine w_t (np := 17) (l2 := [some (eI (v23))]) (s2 := [eI (0)]) rfl rfl rfl ?_
            refine b_rz rfl rfl (Or.inl rfl) ?_
            show ex_q (dt_fg L ρ) rc (d + 2, (67, 66, [some (eR a0), some (eI (i6)), some (eI (v23))], [eI (0)]), f :: F, m19)
            refine b_ieq (t1 := 99) (t2 := 69) rfl rfl rfl rfl (fun g30 => ?_) (fun g30 => absurd g30 (by decide))
            refine w_t (np := 100) (l2 := [some (eR a0), some (eI (i6)), some (eI (v23))]) (s2 := [eI (v23)]) rfl rfl rfl ?_
            refine w_cu (np := 103) (as := [eI (v23)]) (l2 := [some (eI (v23))]) (rest := []) rfl rfl rfl (Nat.ble_eq.mp rfl) rfl rfl rfl rfl ?_
            refine w_t (np := 1) (l2 := [some (eI (v23))]) (s2 := [eI (v23)]) rfl rfl rfl ?_
            refine w_t (np := 3) (l2 := [some (eI (v23))]) (s2 := [eI (48), eI (v23)]) rfl rfl rfl ?_
            refine b_clt (t1 := 16) (t2 := 6) rfl rfl rfl (ev_w_in (by omega) (by omega)) rfl (fun g31 => False.elim (by omega)) (fun g31 => ?_)
            refine w_t (np := 7) (l2 := [some (eI (v23))]) (s2 := [eI (v23)]) rfl rfl rfl ?_
            refine w_t (np := 9) (l2 := [some (eI (v23))]) (s2 := [eI (57), eI (v23)]) rfl rfl rfl ?_
            refine b_cgt (t1 := 16) (t2 := 12) rfl rfl rfl (ev_w_in (by omega) (by omega)) rfl (fun g32 => ?_) (fun g32 => False.elim (by omega))
            refine w_t (np := 17) (l2 := [some (eI (v23))]) (s2 := [eI (0)]) rfl rfl rfl ?_
            refine b_rz rfl rfl (Or.inl rfl) ?_
            show ex_q (dt_fg L ρ) rc (d + 2, (67, 103, [some (eR a0), some (eI (i6)), some (eI (v23))], [eI (0)]), f :: F, m19)
            refine b_ieq (t1 := 115) (t2 := 106) rfl rfl rfl rfl (fun g33 => ?_) (fun g33 => absurd g33 (by decide))
            refine w_t (np := 116) (l2 := [some (eR a0), some (eI (i6)), some (eI (v23))]) (s2 := [eR a0]) rfl (s_an rfl (pos_g I20 gA0 (by decide))) rfl ?_
            refine w_t (np := 117) (l2 := [some (eR a0), some (eI (i6)), some (eI (v23))]) (s2 := [eI (v23), eR a0]) rfl rfl rfl ?_
            refine w_t (np := 119) (l2 := [some (eR a0), some (eI (i6)), some (eI (v23))]) (s2 := [eI (45), eI (v23), eR a0]) rfl rfl rfl ?_
            refine b_ceq (t1 := 128) (t2 := 122) rfl rfl rfl (ev_w_in (by omega) (by omega)) rfl (fun g34 => False.elim (by omega)) (fun g34 => ?_)
            refine w_t (np := 123) (l2 := [some (eR a0), some (eI (i6)), some (eI (v23))]) (s2 := [eI (v23), eR a0]) rfl rfl rfl ?_
            refine w_t (np := 125) (l2 := [some (eR a0), some (eI (i6)), some (eI (v23))]) (s2 := [eI (59), eI (v23), eR a0]) rfl rfl rfl ?_
            refine b_cne (t1 := 132) (t2 := 128) rfl rfl rfl (ev_w_in (by omega) (by omega)) rfl (fun g35 => ?_) (fun g35 => False.elim (by omega))
            refine w_t (np := 133) (l2 := [some (eR a0), some (eI (i6)), some (eI (v23))]) (s2 := [eI (4), eR a0]) rfl rfl rfl ?_
            refine j_pf (np := 136) (w := 4) rfl rfl I20 gA0 (by decide) (n := 11) rfl rfl (hO_i (lo := -2147483648) (hi := 2147483647) rfl (by decide)) ?_
            intro m36 I37 W38
            have F39 : Fr l_67v 0 0 g μ m36 := F22.w W38 gA0 rfl
            obtain ⟨v40, e41⟩ : ∃ zz : Int, zz = (i6) + (1) := ⟨_, rfl⟩
            have b42 : 1 ≤ v40 ∧ v40 ≤ 901 := by omega
            refine w_t (np := 139) (l2 := [some (eR a0), some (eI (v40)), some (eI (v23))]) (s2 := []) rfl (b_iinc rfl (by rw [← e41]; exact ev_w_in (by omega) (by omega)) rfl) rfl ?_
            refine w_t (np := 140) (l2 := [some (eR a0), some (eI (v40)), some (eI (v23))]) (s2 := [eR a0]) rfl (s_an rfl (pos_g I37 gA0 (by decide))) rfl ?_
            refine w_t (np := 141) (l2 := [some (eR a0), some (eI (v40)), some (eI (v23))]) (s2 := [eI (v40), eR a0]) rfl rfl rfl ?_
            refine j_pf (np := 144) (w := v40) rfl rfl I37 gA0 (by decide) (n := 11) rfl rfl (hO_i (lo := 0) (hi := 900) rfl (by omega)) ?_
            intro m43 I44 W45
            have F46 : Fr l_67v 0 0 g μ m43 := F39.w W45 gA0 rfl
            exact v_rv rfl rfl (K m43 (va) (4) I44 F46 (W45.slot (W38.slot (W21.slot k11 (by decide)) (by decide)) (by decide)) (W45.slot W38.at (by decide)) (by omega))
          · have b30 : 97 ≤ v23 ∧ v23 ≤ 122 := by omega
            refine w_t (np := 13) (l2 := [some (eI (v23))]) (s2 := [eI (1)]) rfl rfl rfl ?_
            refine w_go (t1 := 17) rfl rfl ?_
            refine b_rz rfl rfl (Or.inr rfl) ?_
            show ex_q (dt_fg L ρ) rc (d + 2, (67, 66, [some (eR a0), some (eI (i6)), some (eI (v23))], [eI (1)]), f :: F, m19)
            refine b_ieq (t1 := 99) (t2 := 69) rfl rfl rfl rfl (fun g30 => absurd g30 (by decide)) (fun g30 => ?_)
            refine w_t (np := 70) (l2 := [some (eR a0), some (eI (i6)), some (eI (v23))]) (s2 := [eR a0]) rfl (s_an rfl (pos_g I20 gA0 (by decide))) rfl ?_
            refine w_t (np := 71) (l2 := [some (eR a0), some (eI (i6)), some (eI (v23))]) (s2 := [eI (1), eR a0]) rfl rfl rfl ?_
            refine j_pf (np := 74) (w := 1) rfl rfl I20 gA0 (by decide) (n := 11) rfl rfl (hO_i (lo := -2147483648) (hi := 2147483647) rfl (by decide)) ?_
            intro m31 I32 W33
            have F34 : Fr l_67v 0 0 g μ m31 := F22.w W33 gA0 rfl
            have hL74 : ∀ (n35 : Nat) (m39 : eM) (i37 : Int), SI g m39 → Fr l_67v 0 0 g μ m39 → (0 ≤ i37 ∧ i37 ≤ 900) → m39.1 a0 7 = va → m39.1 a0 6 = v1 → m39.1 a0 3 = v15 → m39.1 a0 5 = i6 → m39.1 a0 4 = 1 → n35 = (900 - i37).toNat → ex_q (dt_fg L ρ) rc (d + 2, (67, 74, [some (eR a0), some (eI (i37)), some (eI (v23))], []), f :: F, m39) := by
              intro n35
              induction n35 using Nat.strongRecOn with
              | _ n35 ih36 =>
              intro m39 i37 I40 F41 b38 k42 k43 k44 k45 k46 hn47
              refine w_t (np := 75) (l2 := [some (eR a0), some (eI (i37)), some (eI (v23))]) (s2 := [eI (i37)]) rfl rfl rfl ?_
              refine w_t (np := 76) (l2 := [some (eR a0), some (eI (i37)), some (eI (v23))]) (s2 := [eR a0, eI (i37)]) rfl (s_an rfl (pos_g I40 gA0 (by decide))) rfl ?_
              refine w_gf (np := 79) (v := eI (v15)) rfl rfl (I40.kd gA0 (by decide) (n := 11) rfl) (by rw [k44]; rfl) ?_
              refine b_cge (t1 := 139) (t2 := 82) rfl rfl rfl (ev_w_in (by omega) (by omega)) (ev_w_in (by omega) (by omega)) (fun g48 => ?_) (fun g48 => ?_)
              · refine w_t (np := 140) (l2 := [some (eR a0), some (eI (i37)), some (eI (v23))]) (s2 := [eR a0]) rfl (s_an rfl (pos_g I40 gA0 (by decide))) rfl ?_
                refine w_t (np := 141) (l2 := [some (eR a0), some (eI (i37)), some (eI (v23))]) (s2 := [eI (i37), eR a0]) rfl rfl rfl ?_
                refine j_pf (np := 144) (w := i37) rfl rfl I40 gA0 (by decide) (n := 11) rfl rfl (hO_i (lo := 0) (hi := 900) rfl (by omega)) ?_
                intro m49 I50 W51
                have F52 : Fr l_67v 0 0 g μ m49 := F41.w W51 gA0 rfl
                exact v_rv rfl rfl (K m49 (va) (1) I50 F52 (W51.slot k42 (by decide)) (W51.slot k46 (by decide)) (by omega))
              · have b49 : 0 ≤ i37 ∧ i37 ≤ 899 := by omega
                have b50 : 1 ≤ v15 ∧ v15 ≤ 900 := by omega
                refine w_t (np := 83) (l2 := [some (eR a0), some (eI (i37)), some (eI (v23))]) (s2 := [eR a0]) rfl (s_an rfl (pos_g I40 gA0 (by decide))) rfl ?_
                refine w_t (np := 84) (l2 := [some (eR a0), some (eI (i37)), some (eI (v23))]) (s2 := [eI (i37), eR a0]) rfl rfl rfl ?_
                refine w_cw (np := 87) (as := [eI (i37)]) (l2 := [some (eR a0), some (eI (i37))]) (rest := []) rfl rfl rfl (Nat.ble_eq.mp rfl) rfl rfl rfl (I40.kd gA0 (by decide) (n := 11) rfl) rfl ?_
                refine s_64f (a1 := i37) I40 gA0 (by omega) k44 ?_
                intro v49 b50 h51 h52
                show ex_q (dt_fg L ρ) rc (d + 2, (67, 87, [some (eR a0), some (eI (i37)), some (eI (v23))], [eI (v49)]), f :: F, m39)
                refine w_cu (np := 90) (as := [eI (v49)]) (l2 := [some (eI (v49))]) (rest := []) rfl rfl rfl (Nat.ble_eq.mp rfl) rfl rfl rfl rfl ?_
                refine w_t (np := 1) (l2 := [some (eI (v49))]) (s2 := [eI (v49)]) rfl rfl rfl ?_
                refine w_t (np := 3) (l2 := [some (eI (v49))]) (s2 := [eI (97), eI (v49)]) rfl rfl rfl ?_
                refine b_clt (t1 := 16) (t2 := 6) rfl rfl rfl (ev_w_in (by omega) (by omega)) rfl (fun g53 => ?_) (fun g53 => ?_)
                · have b54 : -1 ≤ v49 ∧ v49 ≤ 96 := by omega
                  refine w_t (np := 17) (l2 := [some (eI (v49))]) (s2 := [eI (0)]) rfl rfl rfl ?_
                  refine b_rz rfl rfl (Or.inl rfl) ?_
                  show ex_q (dt_fg L ρ) rc (d + 2, (67, 90, [some (eR a0), some (eI (i37)), some (eI (v23))], [eI (0)]), f :: F, m39)
                  refine b_ieq (t1 := 139) (t2 := 93) rfl rfl rfl rfl (fun g54 => ?_) (fun g54 => absurd g54 (by decide))
                  refine w_t (np := 140) (l2 := [some (eR a0), some (eI (i37)), some (eI (v23))]) (s2 := [eR a0]) rfl (s_an rfl (pos_g I40 gA0 (by decide))) rfl ?_
                  refine w_t (np := 141) (l2 := [some (eR a0), some (eI (i37)), some (eI (v23))]) (s2 := [eI (i37), eR a0]) rfl rfl rfl ?_
                  refine j_pf (np := 144) (w := i37) rfl rfl I40 gA0 (by decide) (n := 11) rfl rfl (hO_i (lo := 0) (hi := 900) rfl (by omega)) ?_
                  intro m55 I56 W57
                  have F58 : Fr l_67v 0 0 g μ m55 := F41.w W57 gA0 rfl
                  exact v_rv rfl rfl (K m55 (va) (1) I56 F58 (W57.slot k42 (by decide)) (W57.slot k46 (by decide)) (by omega))
                · have b54 : 97 ≤ v49 ∧ v49 ≤ 255 := by omega
                  refine w_t (np := 7) (l2 := [some (eI (v49))]) (s2 := [eI (v49)]) rfl rfl rfl ?_
                  refine w_t (np := 9) (l2 := [some (eI (v49))]) (s2 := [eI (122), eI (v49)]) rfl rfl rfl ?_
                  refine b_cgt (t1 := 16) (t2 := 12) rfl rfl rfl (ev_w_in (by omega) (by omega)) rfl (fun g54 => ?_) (fun g54 => ?_)
                  · have b55 : 123 ≤ v49 ∧ v49 ≤ 255 := by omega
                    refine w_t (np := 17) (l2 := [some (eI (v49))]) (s2 := [eI (0)]) rfl rfl rfl ?_
                    refine b_rz rfl rfl (Or.inl rfl) ?_
                    show ex_q (dt_fg L ρ) rc (d + 2, (67, 90, [some (eR a0), some (eI (i37)), some (eI (v23))], [eI (0)]), f :: F, m39)
                    refine b_ieq (t1 := 139) (t2 := 93) rfl rfl rfl rfl (fun g55 => ?_) (fun g55 => absurd g55 (by decide))
                    refine w_t (np := 140) (l2 := [some (eR a0), some (eI (i37)), some (eI (v23))]) (s2 := [eR a0]) rfl (s_an rfl (pos_g I40 gA0 (by decide))) rfl ?_
                    refine w_t (np := 141) (l2 := [some (eR a0), some (eI (i37)), some (eI (v23))]) (s2 := [eI (i37), eR a0]) rfl rfl rfl ?_
                    refine j_pf (np := 144) (w := i37) rfl rfl I40 gA0 (by decide) (n := 11) rfl rfl (hO_i (lo := 0) (hi := 900) rfl (by omega)) ?_
                    intro m56 I57 W58
                    have F59 : Fr l_67v 0 0 g μ m56 := F41.w W58 gA0 rfl
                    exact v_rv rfl rfl (K m56 (va) (1) I57 F59 (W58.slot k42 (by decide)) (W58.slot k46 (by decide)) (by omega))
                  · have b55 : 97 ≤ v49 ∧ v49 ≤ 122 := by omega
                    refine w_t (np := 13) (l2 := [some (eI (v49))]) (s2 := [eI (1)]) rfl rfl rfl ?_
                    refine w_go (t1 := 17) rfl rfl ?_
                    refine b_rz rfl rfl (Or.inr rfl) ?_
                    show ex_q (dt_fg L ρ) rc (d + 2, (67, 90, [some (eR a0), some (eI (i37)), some (eI (v23))], [eI (1)]), f :: F, m39)
                    refine b_ieq (t1 := 139) (t2 := 93) rfl rfl rfl rfl (fun g55 => absurd g55 (by decide)) (fun g55 => ?_)
                    obtain ⟨v56, e57⟩ : ∃ zz : Int, zz = (i37) + (1) := ⟨_, rfl⟩
                    have b58 : 1 ≤ v56 ∧ v56 ≤ 900 := by omega
                    refine w_t (np := 96) (l2 := [some (eR a0), some (eI (v56)), some (eI (v23))]) (s2 := []) rfl (b_iinc rfl (by rw [← e57]; exact ev_w_in (by omega) (by omega)) rfl) rfl ?_
                    refine w_go (t1 := 74) rfl rfl ?_
                    exact ih36 (900 - (v56)).toNat (by omega) m39 (v56) I40 F41 (by omega) k42 k43 k44 k45 k46    rfl
            exact hL74 _ m31 (i6) I32 F34 (by omega) (W33.slot (W21.slot k11 (by decide)) (by decide)) (W33.slot (W21.slot k13 (by decide)) (by decide)) (W33.slot (W21.slot e16 (by decide)) (by decide)) (W33.slot W21.at (by decide)) W33.at    rfl
      · have b28 : -1 ≤ v23 ∧ v23 ≤ -1 := by omega
        refine w_t (np := 55) (l2 := [some (eR a0), some (eI (i6)), some (eI (v23))]) (s2 := [eR a0]) rfl (s_an rfl (pos_g I20 gA0 (by decide))) rfl ?_
        refine w_t (np := 56) (l2 := [some (eR a0), some (eI (i6)), some (eI (v23))]) (s2 := [eI (0), eR a0]) rfl rfl rfl ?_
        refine j_pf (np := 59) (w := 0) rfl rfl I20 gA0 (by decide) (n := 11) rfl rfl (hO_i (lo := -2147483648) (hi := 2147483647) rfl (by decide)) ?_
        intro m28 I29 W30
        have F31 : Fr l_67v 0 0 g μ m28 := F22.w W30 gA0 rfl
        refine w_go (t1 := 139) rfl rfl ?_
        refine w_t (np := 140) (l2 := [some (eR a0), some (eI (i6)), some (eI (v23))]) (s2 := [eR a0]) rfl (s_an rfl (pos_g I29 gA0 (by decide))) rfl ?_
        refine w_t (np := 141) (l2 := [some (eR a0), some (eI (i6)), some (eI (v23))]) (s2 := [eI (i6), eR a0]) rfl rfl rfl ?_
        refine j_pf (np := 144) (w := i6) rfl rfl I29 gA0 (by decide) (n := 11) rfl rfl (hO_i (lo := 0) (hi := 900) rfl (by omega)) ?_
        intro m32 I33 W34
        have F35 : Fr l_67v 0 0 g μ m32 := F31.w W34 gA0 rfl
        exact v_rv rfl rfl (K m32 (va) (0) I33 F35 (W34.slot (W30.slot (W21.slot k11 (by decide)) (by decide)) (by decide)) (W34.slot W30.at (by decide)) (by omega))
    · have b19 : 0 ≤ i6 ∧ i6 ≤ 899 := by omega
      have b20 : 1 ≤ v15 ∧ v15 ≤ 900 := by omega
      refine w_t (np := 14) (l2 := [some (eR a0), some (eI (i6)), none]) (s2 := [eR a0]) rfl (s_an rfl (pos_g I9 gA0 (by decide))) rfl ?_
      refine w_t (np := 15) (l2 := [some (eR a0), some (eI (i6)), none]) (s2 := [eI (i6), eR a0]) rfl rfl rfl ?_
      refine w_cw (np := 18) (as := [eI (i6)]) (l2 := [some (eR a0), some (eI (i6))]) (rest := []) rfl rfl rfl (Nat.ble_eq.mp rfl) rfl rfl rfl (I9.kd gA0 (by decide) (n := 11) rfl) rfl ?_
      refine s_64f (a1 := i6) I9 gA0 (by omega) e16 ?_
      intro v19 b20 h21 h22
      show ex_q (dt_fg L ρ) rc (d + 2, (67, 18, [some (eR a0), some (eI (i6)), none], [eI (v19)]), f :: F, m8)
      refine w_t (np := 20) (l2 := [some (eR a0), some (eI (i6)), none]) (s2 := [eI (10), eI (v19)]) rfl rfl rfl ?_
      refine b_ceq (t1 := 33) (t2 := 23) rfl rfl rfl (ev_w_in (by omega) (by omega)) rfl (fun g23 => ?_) (fun g23 => ?_)
      · have b24 : 10 ≤ v19 ∧ v19 ≤ 10 := by omega
        obtain ⟨v24, e25⟩ : ∃ zz : Int, zz = (i6) + (1) := ⟨_, rfl⟩
        have b26 : 1 ≤ v24 ∧ v24 ≤ 900 := by omega
        refine w_t (np := 36) (l2 := [some (eR a0), some (eI (v24)), none]) (s2 := []) rfl (b_iinc rfl (by rw [← e25]; exact ev_w_in (by omega) (by omega)) rfl) rfl ?_
        refine w_go (t1 := 5) rfl rfl ?_
        exact ih5 (900 - (v24)).toNat (by omega) m8 (v24) I9 F10 (by omega) k11 k12 k13    rfl
      · refine w_t (np := 24) (l2 := [some (eR a0), some (eI (i6)), none]) (s2 := [eR a0]) rfl (s_an rfl (pos_g I9 gA0 (by decide))) rfl ?_
        refine w_t (np := 25) (l2 := [some (eR a0), some (eI (i6)), none]) (s2 := [eI (i6), eR a0]) rfl rfl rfl ?_
        refine w_cw (np := 28) (as := [eI (i6)]) (l2 := [some (eR a0), some (eI (i6))]) (rest := []) rfl rfl rfl (Nat.ble_eq.mp rfl) rfl rfl rfl (I9.kd gA0 (by decide) (n := 11) rfl) rfl ?_
        refine s_64f (a1 := i6) I9 gA0 (by omega) e16 ?_
        intro v24 b25 h26 h27
        show ex_q (dt_fg L ρ) rc (d + 2, (67, 28, [some (eR a0), some (eI (i6)), none], [eI (v24)]), f :: F, m8)
        have h28 : v24 = v19 := h27.trans h22.symm
        refine w_t (np := 30) (l2 := [some (eR a0), some (eI (i6)), none]) (s2 := [eI (32), eI (v24)]) rfl rfl rfl ?_
        refine b_cne (t1 := 39) (t2 := 33) rfl rfl rfl (ev_w_in (by omega) (by omega)) rfl (fun g29 => ?_) (fun g29 => ?_)
        · refine w_t (np := 40) (l2 := [some (eR a0), some (eI (i6)), none]) (s2 := [eR a0]) rfl (s_an rfl (pos_g I9 gA0 (by decide))) rfl ?_
          refine w_t (np := 41) (l2 := [some (eR a0), some (eI (i6)), none]) (s2 := [eI (i6), eR a0]) rfl rfl rfl ?_
          refine j_pf (np := 44) (w := i6) rfl rfl I9 gA0 (by decide) (n := 11) rfl rfl (hO_i (lo := 0) (hi := 900) rfl (by omega)) ?_
          intro m30 I31 W32
          have F33 : Fr l_67v 0 0 g μ m30 := F10.w W32 gA0 rfl
          refine w_t (np := 45) (l2 := [some (eR a0), some (eI (i6)), none]) (s2 := [eR a0]) rfl (s_an rfl (pos_g I31 gA0 (by decide))) rfl ?_
          refine w_t (np := 46) (l2 := [some (eR a0), some (eI (i6)), none]) (s2 := [eI (i6), eR a0]) rfl rfl rfl ?_
          refine w_cw (np := 49) (as := [eI (i6)]) (l2 := [some (eR a0), some (eI (i6))]) (rest := []) rfl rfl rfl (Nat.ble_eq.mp rfl) rfl rfl rfl (I31.kd gA0 (by decide) (n := 11) rfl) rfl ?_
          refine s_64f (a1 := i6) I31 gA0 (by omega) (W32.slot e16 (by decide)) ?_
          intro v34 b35 h36 h37
          show ex_q (dt_fg L ρ) rc (d + 2, (67, 49, [some (eR a0), some (eI (i6)), none], [eI (v34)]), f :: F, m30)
          refine w_t (np := 50) (l2 := [some (eR a0), some (eI (i6)), some (eI (v34))]) (s2 := []) rfl rfl rfl ?_
          refine w_t (np := 51) (l2 := [some (eR a0), some (eI (i6)), some (eI (v34))]) (s2 := [eI (v34)]) rfl rfl rfl ?_
          refine b_ige (t1 := 62) (t2 := 54) rfl rfl rfl (ev_w_in (by omega) (by omega)) (fun g38 => ?_) (fun g38 => ?_)
          · have b39 : 0 ≤ v34 ∧ v34 ≤ 255 := by omega
            refine w_t (np := 63) (l2 := [some (eR a0), some (eI (i6)), some (eI (v34))]) (s2 := [eI (v34)]) rfl rfl rfl ?_
            refine w_cu (np := 66) (as := [eI (v34)]) (l2 := [some (eI (v34))]) (rest := []) rfl rfl rfl (Nat.ble_eq.mp rfl) rfl rfl rfl rfl ?_
            refine w_t (np := 1) (l2 := [some (eI (v34))]) (s2 := [eI (v34)]) rfl rfl rfl ?_
            refine w_t (np := 3) (l2 := [some (eI (v34))]) (s2 := [eI (97), eI (v34)]) rfl rfl rfl ?_
            refine b_clt (t1 := 16) (t2 := 6) rfl rfl rfl (ev_w_in (by omega) (by omega)) rfl (fun g39 => ?_) (fun g39 => ?_)
            · have b40 : 0 ≤ v34 ∧ v34 ≤ 96 := by omega
              refine w_t (np := 17) (l2 := [some (eI (v34))]) (s2 := [eI (0)]) rfl rfl rfl ?_
              refine b_rz rfl rfl (Or.inl rfl) ?_
              show ex_q (dt_fg L ρ) rc (d + 2, (67, 66, [some (eR a0), some (eI (i6)), some (eI (v34))], [eI (0)]), f :: F, m30)
              refine b_ieq (t1 := 99) (t2 := 69) rfl rfl rfl rfl (fun g40 => ?_) (fun g40 => absurd g40 (by decide))
              refine w_t (np := 100) (l2 := [some (eR a0), some (eI (i6)), some (eI (v34))]) (s2 := [eI (v34)]) rfl rfl rfl ?_
              refine w_cu (np := 103) (as := [eI (v34)]) (l2 := [some (eI (v34))]) (rest := []) rfl rfl rfl (Nat.ble_eq.mp rfl) rfl rfl rfl rfl ?_
              refine w_t (np := 1) (l2 := [some (eI (v34))]) (s2 := [eI (v34)]) rfl rfl rfl ?_
              refine w_t (np := 3) (l2 := [some (eI (v34))]) (s2 := [eI (48), eI (v34)]) rfl rfl rfl ?_
              refine b_clt (t1 := 16) (t2 := 6) rfl rfl rfl (ev_w_in (by omega) (by omega)) rfl (fun g41 => ?_) (fun g41 => ?_)
              · have b42 : 0 ≤ v34 ∧ v34 ≤ 47 := by omega
                refine w_t (np := 17) (l2 := [some (eI (v34))]) (s2 := [eI (0)]) rfl rfl rfl ?_
                refine b_rz rfl rfl (Or.inl rfl) ?_
                show ex_q (dt_fg L ρ) rc (d + 2, (67, 103, [some (eR a0), some (eI (i6)), some (eI (v34))], [eI (0)]), f :: F, m30)
                refine b_ieq (t1 := 115) (t2 := 106) rfl rfl rfl rfl (fun g42 => ?_) (fun g42 => absurd g42 (by decide))
                refine w_t (np := 116) (l2 := [some (eR a0), some (eI (i6)), some (eI (v34))]) (s2 := [eR a0]) rfl (s_an rfl (pos_g I31 gA0 (by decide))) rfl ?_
                refine w_t (np := 117) (l2 := [some (eR a0), some (eI (i6)), some (eI (v34))]) (s2 := [eI (v34), eR a0]) rfl rfl rfl ?_
                refine w_t (np := 119) (l2 := [some (eR a0), some (eI (i6)), some (eI (v34))]) (s2 := [eI (45), eI (v34), eR a0]) rfl rfl rfl ?_
                refine b_ceq (t1 := 128) (t2 := 122) rfl rfl rfl (ev_w_in (by omega) (by omega)) rfl (fun g43 => ?_) (fun g43 => ?_)
                · have b44 : 45 ≤ v34 ∧ v34 ≤ 45 := by omega
                  refine w_t (np := 129) (l2 := [some (eR a0), some (eI (i6)), some (eI (v34))]) (s2 := [eI (3), eR a0]) rfl rfl rfl ?_
                  refine w_go (t1 := 133) rfl rfl ?_
                  refine j_pf (np := 136) (w := 3) rfl rfl I31 gA0 (by decide) (n := 11) rfl rfl (hO_i (lo := -2147483648) (hi := 2147483647) rfl (by decide)) ?_
                  intro m44 I45 W46
                  have F47 : Fr l_67v 0 0 g μ m44 := F33.w W46 gA0 rfl
                  obtain ⟨v48, e49⟩ : ∃ zz : Int, zz = (i6) + (1) := ⟨_, rfl⟩
                  have b50 : 1 ≤ v48 ∧ v48 ≤ 900 := by omega
                  refine w_t (np := 139) (l2 := [some (eR a0), some (eI (v48)), some (eI (v34))]) (s2 := []) rfl (b_iinc rfl (by rw [← e49]; exact ev_w_in (by omega) (by omega)) rfl) rfl ?_
                  refine w_t (np := 140) (l2 := [some (eR a0), some (eI (v48)), some (eI (v34))]) (s2 := [eR a0]) rfl (s_an rfl (pos_g I45 gA0 (by decide))) rfl ?_
                  refine w_t (np := 141) (l2 := [some (eR a0), some (eI (v48)), some (eI (v34))]) (s2 := [eI (v48), eR a0]) rfl rfl rfl ?_
                  refine j_pf (np := 144) (w := v48) rfl rfl I45 gA0 (by decide) (n := 11) rfl rfl (hO_i (lo := 0) (hi := 900) rfl (by omega)) ?_
                  intro m51 I52 W53
                  have F54 : Fr l_67v 0 0 g μ m51 := F47.w W53 gA0 rfl
                  exact v_rv rfl rfl (K m51 (va) (3) I52 F54 (W53.slot (W46.slot (W32.slot k11 (by decide)) (by decide)) (by decide)) (W53.slot W46.at (by decide)) (by omega))
                · refine w_t (np := 123) (l2 := [some (eR a0), some (eI (i6)), some (eI (v34))]) (s2 := [eI (v34), eR a0]) rfl rfl rfl ?_
                  refine w_t (np := 125) (l2 := [some (eR a0), some (eI (i6)), some (eI (v34))]) (s2 := [eI (59), eI (v34), eR a0]) rfl rfl rfl ?_
                  refine b_cne (t1 := 132) (t2 := 128) rfl rfl rfl (ev_w_in (by omega) (by omega)) rfl (fun g44 => ?_) (fun g44 => False.elim (by omega))
                  refine w_t (np := 133) (l2 := [some (eR a0), some (eI (i6)), some (eI (v34))]) (s2 := [eI (4), eR a0]) rfl rfl rfl ?_
                  refine j_pf (np := 136) (w := 4) rfl rfl I31 gA0 (by decide) (n := 11) rfl rfl (hO_i (lo := -2147483648) (hi := 2147483647) rfl (by decide)) ?_
                  intro m45 I46 W47
                  have F48 : Fr l_67v 0 0 g μ m45 := F33.w W47 gA0 rfl
                  obtain ⟨v49, e50⟩ : ∃ zz : Int, zz = (i6) + (1) := ⟨_, rfl⟩
                  have b51 : 1 ≤ v49 ∧ v49 ≤ 900 := by omega
                  refine w_t (np := 139) (l2 := [some (eR a0), some (eI (v49)), some (eI (v34))]) (s2 := []) rfl (b_iinc rfl (by rw [← e50]; exact ev_w_in (by omega) (by omega)) rfl) rfl ?_
                  refine w_t (np := 140) (l2 := [some (eR a0), some (eI (v49)), some (eI (v34))]) (s2 := [eR a0]) rfl (s_an rfl (pos_g I46 gA0 (by decide))) rfl ?_
                  refine w_t (np := 141) (l2 := [some (eR a0), some (eI (v49)), some (eI (v34))]) (s2 := [eI (v49), eR a0]) rfl rfl rfl ?_
                  refine j_pf (np := 144) (w := v49) rfl rfl I46 gA0 (by decide) (n := 11) rfl rfl (hO_i (lo := 0) (hi := 900) rfl (by omega)) ?_
                  intro m52 I53 W54
                  have F55 : Fr l_67v 0 0 g μ m52 := F48.w W54 gA0 rfl
                  exact v_rv rfl rfl (K m52 (va) (4) I53 F55 (W54.slot (W47.slot (W32.slot k11 (by decide)) (by decide)) (by decide)) (W54.slot W47.at (by decide)) (by omega))
              · have b42 : 48 ≤ v34 ∧ v34 ≤ 96 := by omega
                refine w_t (np := 7) (l2 := [some (eI (v34))]) (s2 := [eI (v34)]) rfl rfl rfl ?_
                refine w_t (np := 9) (l2 := [some (eI (v34))]) (s2 := [eI (57), eI (v34)]) rfl rfl rfl ?_
                refine b_cgt (t1 := 16) (t2 := 12) rfl rfl rfl (ev_w_in (by omega) (by omega)) rfl (fun g42 => ?_) (fun g42 => ?_)
                · have b43 : 58 ≤ v34 ∧ v34 ≤ 96 := by omega
                  refine w_t (np := 17) (l2 := [some (eI (v34))]) (s2 := [eI (0)]) rfl rfl rfl ?_
                  refine b_rz rfl rfl (Or.inl rfl) ?_
                  show ex_q (dt_fg L ρ) rc (d + 2, (67, 103, [some (eR a0), some (eI (i6)), some (eI (v34))], [eI (0)]), f :: F, m30)
                  refine b_ieq (t1 := 115) (t2 := 106) rfl rfl rfl rfl (fun g43 => ?_) (fun g43 => absurd g43 (by decide))
                  refine w_t (np := 116) (l2 := [some (eR a0), some (eI (i6)), some (eI (v34))]) (s2 := [eR a0]) rfl (s_an rfl (pos_g I31 gA0 (by decide))) rfl ?_
                  refine w_t (np := 117) (l2 := [some (eR a0), some (eI (i6)), some (eI (v34))]) (s2 := [eI (v34), eR a0]) rfl rfl rfl ?_
                  refine w_t (np := 119) (l2 := [some (eR a0), some (eI (i6)), some (eI (v34))]) (s2 := [eI (45), eI (v34), eR a0]) rfl rfl rfl ?_
                  refine b_ceq (t1 := 128) (t2 := 122) rfl rfl rfl (ev_w_in (by omega) (by omega)) rfl (fun g44 => False.elim (by omega)) (fun g44 => ?_)
                  refine w_t (np := 123) (l2 := [some (eR a0), some (eI (i6)), some (eI (v34))]) (s2 := [eI (v34), eR a0]) rfl rfl rfl ?_
                  refine w_t (np := 125) (l2 := [some (eR a0), some (eI (i6)), some (eI (v34))]) (s2 := [eI (59), eI (v34), eR a0]) rfl rfl rfl ?_
                  refine b_cne (t1 := 132) (t2 := 128) rfl rfl rfl (ev_w_in (by omega) (by omega)) rfl (fun g45 => ?_) (fun g45 => ?_)
                  · refine w_t (np := 133) (l2 := [some (eR a0), some (eI (i6)), some (eI (v34))]) (s2 := [eI (4), eR a0]) rfl rfl rfl ?_
                    refine j_pf (np := 136) (w := 4) rfl rfl I31 gA0 (by decide) (n := 11) rfl rfl (hO_i (lo := -2147483648) (hi := 2147483647) rfl (by decide)) ?_
                    intro m46 I47 W48
                    have F49 : Fr l_67v 0 0 g μ m46 := F33.w W48 gA0 rfl
                    obtain ⟨v50, e51⟩ : ∃ zz : Int, zz = (i6) + (1) := ⟨_, rfl⟩
                    have b52 : 1 ≤ v50 ∧ v50 ≤ 900 := by omega
                    refine w_t (np := 139) (l2 := [some (eR a0), some (eI (v50)), some (eI (v34))]) (s2 := []) rfl (b_iinc rfl (by rw [← e51]; exact ev_w_in (by omega) (by omega)) rfl) rfl ?_
                    refine w_t (np := 140) (l2 := [some (eR a0), some (eI (v50)), some (eI (v34))]) (s2 := [eR a0]) rfl (s_an rfl (pos_g I47 gA0 (by decide))) rfl ?_
                    refine w_t (np := 141) (l2 := [some (eR a0), some (eI (v50)), some (eI (v34))]) (s2 := [eI (v50), eR a0]) rfl rfl rfl ?_
                    refine j_pf (np := 144) (w := v50) rfl rfl I47 gA0 (by decide) (n := 11) rfl rfl (hO_i (lo := 0) (hi := 900) rfl (by omega)) ?_
                    intro m53 I54 W55
                    have F56 : Fr l_67v 0 0 g μ m53 := F49.w W55 gA0 rfl
                    exact v_rv rfl rfl (K m53 (va) (4) I54 F56 (W55.slot (W48.slot (W32.slot k11 (by decide)) (by decide)) (by decide)) (W55.slot W48.at (by decide)) (by omega))
                  · have b46 : 59 ≤ v34 ∧ v34 ≤ 59 := by omega
                    refine w_t (np := 129) (l2 := [some (eR a0), some (eI (i6)), some (eI (v34))]) (s2 := [eI (3), eR a0]) rfl rfl rfl ?_
                    refine w_go (t1 := 133) rfl rfl ?_
                    refine j_pf (np := 136) (w := 3) rfl rfl I31 gA0 (by decide) (n := 11) rfl rfl (hO_i (lo := -2147483648) (hi := 2147483647) rfl (by decide)) ?_
                    intro m46 I47 W48
                    have F49 : Fr l_67v 0 0 g μ m46 := F33.w W48 gA0 rfl
                    obtain ⟨v50, e51⟩ : ∃ zz : Int, zz = (i6) + (1) := ⟨_, rfl⟩
                    have b52 : 1 ≤ v50 ∧ v50 ≤ 900 := by omega
                    refine w_t (np := 139) (l2 := [some (eR a0), some (eI (v50)), some (eI (v34))]) (s2 := []) rfl (b_iinc rfl (by rw [← e51]; exact ev_w_in (by omega) (by omega)) rfl) rfl ?_
                    refine w_t (np := 140) (l2 := [some (eR a0), some (eI (v50)), some (eI (v34))]) (s2 := [eR a0]) rfl (s_an rfl (pos_g I47 gA0 (by decide))) rfl ?_
                    refine w_t (np := 141) (l2 := [some (eR a0), some (eI (v50)), some (eI (v34))]) (s2 := [eI (v50), eR a0]) rfl rfl rfl ?_
                    refine j_pf (np := 144) (w := v50) rfl rfl I47 gA0 (by decide) (n := 11) rfl rfl (hO_i (lo := 0) (hi := 900) rfl (by omega)) ?_
                    intro m53 I54 W55
                    have F56 : Fr l_67v 0 0 g μ m53 := F49.w W55 gA0 rfl
                    exact v_rv rfl rfl (K m53 (va) (3) I54 F56 (W55.slot (W48.slot (W32.slot k11 (by decide)) (by decide)) (by decide)) (W55.slot W48.at (by decide)) (by omega))
                · have b43 : 48 ≤ v34 ∧ v34 ≤ 57 := by omega
                  refine w_t (np := 13) (l2 := [some (eI (v34))]) (s2 := [eI (1)]) rfl rfl rfl ?_
                  refine w_go (t1 := 17) rfl rfl ?_
                  refine b_rz rfl rfl (Or.inr rfl) ?_
                  show ex_q (dt_fg L ρ) rc (d + 2, (67, 103, [some (eR a0), some (eI (i6)), some (eI (v34))], [eI (1)]), f :: F, m30)
                  refine b_ieq (t1 := 115) (t2 := 106) rfl rfl rfl rfl (fun g43 => absurd g43 (by decide)) (fun g43 => ?_)
                  refine w_t (np := 107) (l2 := [some (eR a0), some (eI (i6)), some (eI (v34))]) (s2 := [eR a0]) rfl (s_an rfl (pos_g I31 gA0 (by decide))) rfl ?_
                  refine w_t (np := 108) (l2 := [some (eR a0), some (eI (i6)), some (eI (v34))]) (s2 := [eI (i6), eR a0]) rfl rfl rfl ?_
                  refine w_cw (np := 111) (as := [eI (i6)]) (l2 := [some (eR a0), some (eI (i6)), none]) (rest := []) rfl rfl rfl (Nat.ble_eq.mp rfl) rfl rfl rfl (I31.kd gA0 (by decide) (n := 11) rfl) rfl ?_
                  refine s_68v (a1 := i6) I31 gA0 (by omega) (W32.slot k11 (by decide)) (W32.slot k12 (by decide)) ?_
                  intro m44 v47 v49 v51 I45 F46 b48 e50 e52 h53 h54
                  have F55 : Fr l_67v 0 0 g μ m44 := F33.t F46 rfl
                  have b56 : -2147483648 ≤ v49 ∧ v49 ≤ 2147483647 := by
                    rw [← e50]
                    exact I45.int gA0 (by decide) (n := 11) rfl (by decide) rfl
                  have b57 : -2147483648 ≤ v51 ∧ v51 ≤ 2147483647 := by
                    rw [← e52]
                    exact I45.int gA0 (by decide) (n := 11) rfl (by decide) rfl
                  show ex_q (dt_fg L ρ) rc (d + 2, (67, 111, [some (eR a0), some (eI (i6)), some (eI (v34))], [eI (v47)]), f :: F, m44)
                  refine w_t (np := 112) (l2 := [some (eR a0), some (eI (v47)), some (eI (v34))]) (s2 := []) rfl rfl rfl ?_
                  refine w_go (t1 := 139) rfl rfl ?_
                  refine w_t (np := 140) (l2 := [some (eR a0), some (eI (v47)), some (eI (v34))]) (s2 := [eR a0]) rfl (s_an rfl (pos_g I45 gA0 (by decide))) rfl ?_
                  refine w_t (np := 141) (l2 := [some (eR a0), some (eI (v47)), some (eI (v34))]) (s2 := [eI (v47), eR a0]) rfl rfl rfl ?_
                  refine j_pf (np := 144) (w := v47) rfl rfl I45 gA0 (by decide) (n := 11) rfl rfl (hO_i (lo := 0) (hi := 900) rfl (by omega)) ?_
                  intro m58 I59 W60
                  have F61 : Fr l_67v 0 0 g μ m58 := F55.w W60 gA0 rfl
                  exact v_rv rfl rfl (K m58 (v49) (v51) I59 F61 (W60.slot e50 (by decide)) (W60.slot e52 (by decide)) (by omega))
            · have b40 : 97 ≤ v34 ∧ v34 ≤ 255 := by omega
              refine w_t (np := 7) (l2 := [some (eI (v34))]) (s2 := [eI (v34)]) rfl rfl rfl ?_
              refine w_t (np := 9) (l2 := [some (eI (v34))]) (s2 := [eI (122), eI (v34)]) rfl rfl rfl ?_
              refine b_cgt (t1 := 16) (t2 := 12) rfl rfl rfl (ev_w_in (by omega) (by omega)) rfl (fun g40 => ?_) (fun g40 => ?_)
              · have b41 : 123 ≤ v34 ∧ v34 ≤ 255 := by omega
                refine w_t (np := 17) (l2 := [some (eI (v34))]) (s2 := [eI (0)]) rfl rfl rfl ?_
                refine b_rz rfl rfl (Or.inl rfl) ?_
                show ex_q (dt_fg L ρ) rc (d + 2, (67, 66, [some (eR a0), some (eI (i6)), some (eI (v34))], [eI (0)]), f :: F, m30)
                refine b_ieq (t1 := 99) (t2 := 69) rfl rfl rfl rfl (fun g41 => ?_) (fun g41 => absurd g41 (by decide))
                refine w_t (np := 100) (l2 := [some (eR a0), some (eI (i6)), some (eI (v34))]) (s2 := [eI (v34)]) rfl rfl rfl ?_
                refine w_cu (np := 103) (as := [eI (v34)]) (l2 := [some (eI (v34))]) (rest := []) rfl rfl rfl (Nat.ble_eq.mp rfl) rfl rfl rfl rfl ?_
                refine w_t (np := 1) (l2 := [some (eI (v34))]) (s2 := [eI (v34)]) rfl rfl rfl ?_
                refine w_t (np := 3) (l2 := [some (eI (v34))]) (s2 := [eI (48), eI (v34)]) rfl rfl rfl ?_
                refine b_clt (t1 := 16) (t2 := 6) rfl rfl rfl (ev_w_in (by omega) (by omega)) rfl (fun g42 => False.elim (by omega)) (fun g42 => ?_)
                refine w_t (np := 7) (l2 := [some (eI (v34))]) (s2 := [eI (v34)]) rfl rfl rfl ?_
                refine w_t (np := 9) (l2 := [some (eI (v34))]) (s2 := [eI (57), eI (v34)]) rfl rfl rfl ?_
                refine b_cgt (t1 := 16) (t2 := 12) rfl rfl rfl (ev_w_in (by omega) (by omega)) rfl (fun g43 => ?_) (fun g43 => False.elim (by omega))
                refine w_t (np := 17) (l2 := [some (eI (v34))]) (s2 := [eI (0)]) rfl rfl rfl ?_
                refine b_rz rfl rfl (Or.inl rfl) ?_
                show ex_q (dt_fg L ρ) rc (d + 2, (67, 103, [some (eR a0), some (eI (i6)), some (eI (v34))], [eI (0)]), f :: F, m30)
                refine b_ieq (t1 := 115) (t2 := 106) rfl rfl rfl rfl (fun g44 => ?_) (fun g44 => absurd g44 (by decide))
                refine w_t (np := 116) (l2 := [some (eR a0), some (eI (i6)), some (eI (v34))]) (s2 := [eR a0]) rfl (s_an rfl (pos_g I31 gA0 (by decide))) rfl ?_
                refine w_t (np := 117) (l2 := [some (eR a0), some (eI (i6)), some (eI (v34))]) (s2 := [eI (v34), eR a0]) rfl rfl rfl ?_
                refine w_t (np := 119) (l2 := [some (eR a0), some (eI (i6)), some (eI (v34))]) (s2 := [eI (45), eI (v34), eR a0]) rfl rfl rfl ?_
                refine b_ceq (t1 := 128) (t2 := 122) rfl rfl rfl (ev_w_in (by omega) (by omega)) rfl (fun g45 => False.elim (by omega)) (fun g45 => ?_)
                refine w_t (np := 123) (l2 := [some (eR a0), some (eI (i6)), some (eI (v34))]) (s2 := [eI (v34), eR a0]) rfl rfl rfl ?_
                refine w_t (np := 125) (l2 := [some (eR a0), some (eI (i6)), some (eI (v34))]) (s2 := [eI (59), eI (v34), eR a0]) rfl rfl rfl ?_
                refine b_cne (t1 := 132) (t2 := 128) rfl rfl rfl (ev_w_in (by omega) (by omega)) rfl (fun g46 => ?_) (fun g46 => False.elim (by omega))
                refine w_t (np := 133) (l2 := [some (eR a0), some (eI (i6)), some (eI (v34))]) (s2 := [eI (4), eR a0]) rfl rfl rfl ?_
                refine j_pf (np := 136) (w := 4) rfl rfl I31 gA0 (by decide) (n := 11) rfl rfl (hO_i (lo := -2147483648) (hi := 2147483647) rfl (by decide)) ?_
                intro m47 I48 W49
                have F50 : Fr l_67v 0 0 g μ m47 := F33.w W49 gA0 rfl
                obtain ⟨v51, e52⟩ : ∃ zz : Int, zz = (i6) + (1) := ⟨_, rfl⟩
                have b53 : 1 ≤ v51 ∧ v51 ≤ 900 := by omega
                refine w_t (np := 139) (l2 := [some (eR a0), some (eI (v51)), some (eI (v34))]) (s2 := []) rfl (b_iinc rfl (by rw [← e52]; exact ev_w_in (by omega) (by omega)) rfl) rfl ?_
                refine w_t (np := 140) (l2 := [some (eR a0), some (eI (v51)), some (eI (v34))]) (s2 := [eR a0]) rfl (s_an rfl (pos_g I48 gA0 (by decide))) rfl ?_
                refine w_t (np := 141) (l2 := [some (eR a0), some (eI (v51)), some (eI (v34))]) (s2 := [eI (v51), eR a0]) rfl rfl rfl ?_
                refine j_pf (np := 144) (w := v51) rfl rfl I48 gA0 (by decide) (n := 11) rfl rfl (hO_i (lo := 0) (hi := 900) rfl (by omega)) ?_
                intro m54 I55 W56
                have F57 : Fr l_67v 0 0 g μ m54 := F50.w W56 gA0 rfl
                exact v_rv rfl rfl (K m54 (va) (4) I55 F57 (W56.slot (W49.slot (W32.slot k11 (by decide)) (by decide)) (by decide)) (W56.slot W49.at (by decide)) (by omega))
              · have b41 : 97 ≤ v34 ∧ v34 ≤ 122 := by omega
                refine w_t (np := 13) (l2 := [some (eI (v34))]) (s2 := [eI (1)]) rfl rfl rfl ?_
                refine w_go (t1 := 17) rfl rfl ?_
                refine b_rz rfl rfl (Or.inr rfl) ?_
                show ex_q (dt_fg L ρ) rc (d + 2, (67, 66, [some (eR a0), some (eI (i6)), some (eI (v34))], [eI (1)]), f :: F, m30)
                refine b_ieq (t1 := 99) (t2 := 69) rfl rfl rfl rfl (fun g41 => absurd g41 (by decide)) (fun g41 => ?_)
                refine w_t (np := 70) (l2 := [some (eR a0), some (eI (i6)), some (eI (v34))]) (s2 := [eR a0]) rfl (s_an rfl (pos_g I31 gA0 (by decide))) rfl ?_
                refine w_t (np := 71) (l2 := [some (eR a0), some (eI (i6)), some (eI (v34))]) (s2 := [eI (1), eR a0]) rfl rfl rfl ?_
                refine j_pf (np := 74) (w := 1) rfl rfl I31 gA0 (by decide) (n := 11) rfl rfl (hO_i (lo := -2147483648) (hi := 2147483647) rfl (by decide)) ?_
                intro m42 I43 W44
                have F45 : Fr l_67v 0 0 g μ m42 := F33.w W44 gA0 rfl
                have hL74 : ∀ (n46 : Nat) (m50 : eM) (i48 : Int), SI g m50 → Fr l_67v 0 0 g μ m50 → (0 ≤ i48 ∧ i48 ≤ 900) → m50.1 a0 7 = va → m50.1 a0 6 = v1 → m50.1 a0 3 = v15 → m50.1 a0 5 = i6 → m50.1 a0 4 = 1 → n46 = (900 - i48).toNat → ex_q (dt_fg L ρ) rc (d + 2, (67, 74, [some (eR a0), some (eI (i48)), some (eI (v34))], []), f :: F, m50) := by
                  intro n46
                  induction n46 using Nat.strongRecOn with
                  | _ n46 ih47 =>
                  intro m50 i48 I51 F52 b49 k53 k54 k55 k56 k57 hn58
                  refine w_t (np := 75) (l2 := [some (eR a0), some (eI (i48)), some (eI (v34))]) (s2 := [eI (i48)]) rfl rfl rfl ?_
                  refine w_t (np := 76) (l2 := [some (eR a0), some (eI (i48)), some (eI (v34))]) (s2 := [eR a0, eI (i48)]) rfl (s_an rfl (pos_g I51 gA0 (by decide))) rfl ?_
                  refine w_gf (np := 79) (v := eI (v15)) rfl rfl (I51.kd gA0 (by decide) (n := 11) rfl) (by rw [k55]; rfl) ?_
                  refine b_cge (t1 := 139) (t2 := 82) rfl rfl rfl (ev_w_in (by omega) (by omega)) (ev_w_in (by omega) (by omega)) (fun g59 => ?_) (fun g59 => ?_)
                  · have b60 : 1 ≤ i48 ∧ i48 ≤ 900 := by omega
                    refine w_t (np := 140) (l2 := [some (eR a0), some (eI (i48)), some (eI (v34))]) (s2 := [eR a0]) rfl (s_an rfl (pos_g I51 gA0 (by decide))) rfl ?_
                    refine w_t (np := 141) (l2 := [some (eR a0), some (eI (i48)), some (eI (v34))]) (s2 := [eI (i48), eR a0]) rfl rfl rfl ?_
                    refine j_pf (np := 144) (w := i48) rfl rfl I51 gA0 (by decide) (n := 11) rfl rfl (hO_i (lo := 0) (hi := 900) rfl (by omega)) ?_
                    intro m60 I61 W62
                    have F63 : Fr l_67v 0 0 g μ m60 := F52.w W62 gA0 rfl
                    exact v_rv rfl rfl (K m60 (va) (1) I61 F63 (W62.slot k53 (by decide)) (W62.slot k57 (by decide)) (by omega))
                  · have b60 : 0 ≤ i48 ∧ i48 ≤ 899 := by omega
                    refine w_t (np := 83) (l2 := [some (eR a0), some (eI (i48)), some (eI (v34))]) (s2 := [eR a0]) rfl (s_an rfl (pos_g I51 gA0 (by decide))) rfl ?_
                    refine w_t (np := 84) (l2 := [some (eR a0), some (eI (i48)), some (eI (v34))]) (s2 := [eI (i48), eR a0]) rfl rfl rfl ?_
                    refine w_cw (np := 87) (as := [eI (i48)]) (l2 := [some (eR a0), some (eI (i48))]) (rest := []) rfl rfl rfl (Nat.ble_eq.mp rfl) rfl rfl rfl (I51.kd gA0 (by decide) (n := 11) rfl) rfl ?_
                    refine s_64f (a1 := i48) I51 gA0 (by omega) k55 ?_
                    intro v60 b61 h62 h63
                    show ex_q (dt_fg L ρ) rc (d + 2, (67, 87, [some (eR a0), some (eI (i48)), some (eI (v34))], [eI (v60)]), f :: F, m50)
                    refine w_cu (np := 90) (as := [eI (v60)]) (l2 := [some (eI (v60))]) (rest := []) rfl rfl rfl (Nat.ble_eq.mp rfl) rfl rfl rfl rfl ?_
                    refine w_t (np := 1) (l2 := [some (eI (v60))]) (s2 := [eI (v60)]) rfl rfl rfl ?_
                    refine w_t (np := 3) (l2 := [some (eI (v60))]) (s2 := [eI (97), eI (v60)]) rfl rfl rfl ?_
                    refine b_clt (t1 := 16) (t2 := 6) rfl rfl rfl (ev_w_in (by omega) (by omega)) rfl (fun g64 => ?_) (fun g64 => ?_)
                    · have b65 : -1 ≤ v60 ∧ v60 ≤ 96 := by omega
                      refine w_t (np := 17) (l2 := [some (eI (v60))]) (s2 := [eI (0)]) rfl rfl rfl ?_
                      refine b_rz rfl rfl (Or.inl rfl) ?_
                      show ex_q (dt_fg L ρ) rc (d + 2, (67, 90, [some (eR a0), some (eI (i48)), some (eI (v34))], [eI (0)]), f :: F, m50)
                      refine b_ieq (t1 := 139) (t2 := 93) rfl rfl rfl rfl (fun g65 => ?_) (fun g65 => absurd g65 (by decide))
                      refine w_t (np := 140) (l2 := [some (eR a0), some (eI (i48)), some (eI (v34))]) (s2 := [eR a0]) rfl (s_an rfl (pos_g I51 gA0 (by decide))) rfl ?_
                      refine w_t (np := 141) (l2 := [some (eR a0), some (eI (i48)), some (eI (v34))]) (s2 := [eI (i48), eR a0]) rfl rfl rfl ?_
                      refine j_pf (np := 144) (w := i48) rfl rfl I51 gA0 (by decide) (n := 11) rfl rfl (hO_i (lo := 0) (hi := 900) rfl (by omega)) ?_
                      intro m66 I67 W68
                      have F69 : Fr l_67v 0 0 g μ m66 := F52.w W68 gA0 rfl
                      exact v_rv rfl rfl (K m66 (va) (1) I67 F69 (W68.slot k53 (by decide)) (W68.slot k57 (by decide)) (by omega))
                    · have b65 : 97 ≤ v60 ∧ v60 ≤ 255 := by omega
                      refine w_t (np := 7) (l2 := [some (eI (v60))]) (s2 := [eI (v60)]) rfl rfl rfl ?_
                      refine w_t (np := 9) (l2 := [some (eI (v60))]) (s2 := [eI (122), eI (v60)]) rfl rfl rfl ?_
                      refine b_cgt (t1 := 16) (t2 := 12) rfl rfl rfl (ev_w_in (by omega) (by omega)) rfl (fun g65 => ?_) (fun g65 => ?_)
                      · have b66 : 123 ≤ v60 ∧ v60 ≤ 255 := by omega
                        refine w_t (np := 17) (l2 := [some (eI (v60))]) (s2 := [eI (0)]) rfl rfl rfl ?_
                        refine b_rz rfl rfl (Or.inl rfl) ?_
                        show ex_q (dt_fg L ρ) rc (d + 2, (67, 90, [some (eR a0), some (eI (i48)), some (eI (v34))], [eI (0)]), f :: F, m50)
                        refine b_ieq (t1 := 139) (t2 := 93) rfl rfl rfl rfl (fun g66 => ?_) (fun g66 => absurd g66 (by decide))
                        refine w_t (np := 140) (l2 := [some (eR a0), some (eI (i48)), some (eI (v34))]) (s2 := [eR a0]) rfl (s_an rfl (pos_g I51 gA0 (by decide))) rfl ?_
                        refine w_t (np := 141) (l2 := [some (eR a0), some (eI (i48)), some (eI (v34))]) (s2 := [eI (i48), eR a0]) rfl rfl rfl ?_
                        refine j_pf (np := 144) (w := i48) rfl rfl I51 gA0 (by decide) (n := 11) rfl rfl (hO_i (lo := 0) (hi := 900) rfl (by omega)) ?_
                        intro m67 I68 W69
                        have F70 : Fr l_67v 0 0 g μ m67 := F52.w W69 gA0 rfl
                        exact v_rv rfl rfl (K m67 (va) (1) I68 F70 (W69.slot k53 (by decide)) (W69.slot k57 (by decide)) (by omega))
                      · have b66 : 97 ≤ v60 ∧ v60 ≤ 122 := by omega
                        refine w_t (np := 13) (l2 := [some (eI (v60))]) (s2 := [eI (1)]) rfl rfl rfl ?_
                        refine w_go (t1 := 17) rfl rfl ?_
                        refine b_rz rfl rfl (Or.inr rfl) ?_
                        show ex_q (dt_fg L ρ) rc (d + 2, (67, 90, [some (eR a0), some (eI (i48)), some (eI (v34))], [eI (1)]), f :: F, m50)
                        refine b_ieq (t1 := 139) (t2 := 93) rfl rfl rfl rfl (fun g66 => absurd g66 (by decide)) (fun g66 => ?_)
                        obtain ⟨v67, e68⟩ : ∃ zz : Int, zz = (i48) + (1) := ⟨_, rfl⟩
                        have b69 : 1 ≤ v67 ∧ v67 ≤ 900 := by omega
                        refine w_t (np := 96) (l2 := [some (eR a0), some (eI (v67)), some (eI (v34))]) (s2 := []) rfl (b_iinc rfl (by rw [← e68]; exact ev_w_in (by omega) (by omega)) rfl) rfl ?_
                        refine w_go (t1 := 74) rfl rfl ?_
                        exact ih47 (900 - (v67)).toNat (by omega) m50 (v67) I51 F52 (by omega) k53 k54 k55 k56 k57    rfl
                exact hL74 _ m42 (i6) I43 F45 (by omega) (W44.slot (W32.slot k11 (by decide)) (by decide)) (W44.slot (W32.slot k13 (by decide)) (by decide)) (W44.slot (W32.slot e16 (by decide)) (by decide)) (W44.slot W32.at (by decide)) W44.at    rfl
          · have b39 : -1 ≤ v34 ∧ v34 ≤ -1 := by omega
            refine w_t (np := 55) (l2 := [some (eR a0), some (eI (i6)), some (eI (v34))]) (s2 := [eR a0]) rfl (s_an rfl (pos_g I31 gA0 (by decide))) rfl ?_
            refine w_t (np := 56) (l2 := [some (eR a0), some (eI (i6)), some (eI (v34))]) (s2 := [eI (0), eR a0]) rfl rfl rfl ?_
            refine j_pf (np := 59) (w := 0) rfl rfl I31 gA0 (by decide) (n := 11) rfl rfl (hO_i (lo := -2147483648) (hi := 2147483647) rfl (by decide)) ?_
            intro m39 I40 W41
            have F42 : Fr l_67v 0 0 g μ m39 := F33.w W41 gA0 rfl
            refine w_go (t1 := 139) rfl rfl ?_
            refine w_t (np := 140) (l2 := [some (eR a0), some (eI (i6)), some (eI (v34))]) (s2 := [eR a0]) rfl (s_an rfl (pos_g I40 gA0 (by decide))) rfl ?_
            refine w_t (np := 141) (l2 := [some (eR a0), some (eI (i6)), some (eI (v34))]) (s2 := [eI (i6), eR a0]) rfl rfl rfl ?_
            refine j_pf (np := 144) (w := i6) rfl rfl I40 gA0 (by decide) (n := 11) rfl rfl (hO_i (lo := 0) (hi := 900) rfl (by omega)) ?_
            intro m43 I44 W45
            have F46 : Fr l_67v 0 0 g μ m43 := F42.w W45 gA0 rfl
            exact v_rv rfl rfl (K m43 (va) (0) I44 F46 (W45.slot (W41.slot (W32.slot k11 (by decide)) (by decide)) (by decide)) (W45.slot W41.at (by decide)) (by omega))
        · have b30 : 32 ≤ v24 ∧ v24 ≤ 32 := by omega
          obtain ⟨v30, e31⟩ : ∃ zz : Int, zz = (i6) + (1) := ⟨_, rfl⟩
          have b32 : 1 ≤ v30 ∧ v30 ≤ 900 := by omega
          refine w_t (np := 36) (l2 := [some (eR a0), some (eI (v30)), none]) (s2 := []) rfl (b_iinc rfl (by rw [← e31]; exact ev_w_in (by omega) (by omega)) rfl) rfl ?_
          refine w_go (t1 := 5) rfl rfl ?_
          exact ih5 (900 - (v30)).toNat (by omega) m8 (v30) I9 F10 (by omega) k11 k12 k13    rfl
  exact hL5 _ μ (v1) hI F0 (by omega) h_va h_to e2    rfl
