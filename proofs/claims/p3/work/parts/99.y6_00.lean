/-! methods, walked -/
def l_28k : List Nat := [1024, 1536, 768]
theorem s_28k {L : Nat} {ρ : Nat → Int} {rc : eQ} {d : Nat} {f : eFr} {F : List eFr} {μ : eM} {g : Nat → Nat} {a0 : Nat} {a1 : Int} {a2 : Int} {a3 : Int} {a4 : Int} {a5 : Int} (hI : SI g μ) (gA0 : g a0 = 2) (bA1 : 0 ≤ a1 ∧ a1 ≤ 49) (bA2 : 0 ≤ a2 ∧ a2 ≤ 1) (bA3 : -2147483648 ≤ a3 ∧ a3 ≤ 2147483647) (bA4 : -2147483648 ≤ a4 ∧ a4 ≤ 2147483647) (bA5 : -2147483648 ≤ a5 ∧ a5 ≤ 2147483647) (K : ∀ (μ2 : eM), SI g μ2 → Fr l_28k 0 0 g μ μ2 → (∀ j : Nat, (j : Int) < a1 → μ2.1 (μ.1 a0 0).toNat j = μ.1 (μ.1 a0 0).toNat j) → ex_q (dt_fg L ρ) rc (d + 2, (f.1, f.2.1, f.2.2.1, f.2.2.2), F, μ2)) : ex_q (dt_fg L ρ) rc (d + 1, (28, 0, [some (eR a0), some (eI (a1)), some (eI (a2)), some (eI (a3)), some (eI (a4)), some (eI (a5))], []), f :: F, μ) := by
  have F0 : Fr l_28k 0 0 g μ μ := Fr.r
  refine w_t (np := 1) (l2 := [some (eR a0), some (eI (a1)), some (eI (a2)), some (eI (a3)), some (eI (a4)), some (eI (a5))]) (s2 := [eR a0]) rfl (s_an rfl (pos_g hI gA0 (by decide))) rfl ?_
  refine j_gr (np := 4) rfl rfl hI gA0 (by decide) (n := 8) rfl rfl rfl ?_
  intro v1 e2 b3 z4
  have b3 : g v1 = 3 := Nat.eq_of_beq_eq_true b3
  refine w_t (np := 5) (l2 := [some (eR a0), some (eI (a1)), some (eI (a2)), some (eI (a3)), some (eI (a4)), some (eI (a5))]) (s2 := [eI (a1), eR v1]) rfl rfl rfl ?_
  refine w_t (np := 6) (l2 := [some (eR a0), some (eI (a1)), some (eI (a2)), some (eI (a3)), some (eI (a4)), some (eI (a5))]) (s2 := [eI (a2), eI (a1), eR v1]) rfl rfl rfl ?_
  refine j_as (np := 7) rfl rfl hI b3 (by decide) (n := 50) rfl rfl (lo := 0) (hi := 1) (fun _ => rfl) (by omega) (by omega) (by omega) ?_
  intro m5 I6 W7
  have F8 : Fr l_28k 0 0 g μ m5 := F0.v W7 b3 rfl rfl
  refine w_t (np := 8) (l2 := [some (eR a0), some (eI (a1)), some (eI (a2)), some (eI (a3)), some (eI (a4)), some (eI (a5))]) (s2 := [eR a0]) rfl (s_an rfl (pos_g I6 gA0 (by decide))) rfl ?_
  refine j_gr (np := 11) rfl rfl I6 gA0 (by decide) (n := 8) rfl rfl rfl ?_
  intro v9 e10 b11 z12
  have b11 : g v9 = 4 := Nat.eq_of_beq_eq_true b11
  refine w_t (np := 12) (l2 := [some (eR a0), some (eI (a1)), some (eI (a2)), some (eI (a3)), some (eI (a4)), some (eI (a5))]) (s2 := [eI (a1), eR v9]) rfl rfl rfl ?_
  refine w_t (np := 13) (l2 := [some (eR a0), some (eI (a1)), some (eI (a2)), some (eI (a3)), some (eI (a4)), some (eI (a5))]) (s2 := [eI (a3), eI (a1), eR v9]) rfl rfl rfl ?_
  refine j_as (np := 14) rfl rfl I6 b11 (by decide) (n := 50) rfl rfl (lo := -2147483648) (hi := 2147483647) (fun _ => rfl) (by omega) (by omega) (by omega) ?_
  intro m13 I14 W15
  have F16 : Fr l_28k 0 0 g μ m13 := F8.v W15 b11 rfl rfl
  refine w_t (np := 15) (l2 := [some (eR a0), some (eI (a1)), some (eI (a2)), some (eI (a3)), some (eI (a4)), some (eI (a5))]) (s2 := [eR a0]) rfl (s_an rfl (pos_g I14 gA0 (by decide))) rfl ?_
  refine j_gr (np := 18) rfl rfl I14 gA0 (by decide) (n := 8) rfl rfl rfl ?_
  intro v17 e18 b19 z20
  have b19 : g v17 = 6 := Nat.eq_of_beq_eq_true b19
  refine w_t (np := 19) (l2 := [some (eR a0), some (eI (a1)), some (eI (a2)), some (eI (a3)), some (eI (a4)), some (eI (a5))]) (s2 := [eI (2), eR v17]) rfl rfl rfl ?_
  refine w_t (np := 20) (l2 := [some (eR a0), some (eI (a1)), some (eI (a2)), some (eI (a3)), some (eI (a4)), some (eI (a5))]) (s2 := [eI (a1), eI (2), eR v17]) rfl rfl rfl ?_
  obtain ⟨v21, e22⟩ : ∃ zz : Int, zz = (2) * (a1) := ⟨_, rfl⟩
  have b23 : 0 ≤ v21 ∧ v21 ≤ 98 := by omega
  refine w_t (np := 21) (l2 := [some (eR a0), some (eI (a1)), some (eI (a2)), some (eI (a3)), some (eI (a4)), some (eI (a5))]) (s2 := [eI (v21), eR v17]) rfl (b_imul (by rw [← e22]; exact ev_w_in (by omega) (by omega))) rfl ?_
  refine w_t (np := 23) (l2 := [some (eR a0), some (eI (a1)), some (eI (a2)), some (eI (a3)), some (eI (a4)), some (eI (a5))]) (s2 := [eI (a4), eI (v21), eR v17]) rfl rfl rfl ?_
  refine w_t (np := 25) (l2 := [some (eR a0), some (eI (a1)), some (eI (a2)), some (eI (a3)), some (eI (a4)), some (eI (a5))]) (s2 := [eI (10), eI (a4), eI (v21), eR v17]) rfl rfl rfl ?_
  refine w_cu (np := 28) (as := [eI (a4), eI (10)]) (l2 := [some (eI (a4)), some (eI (10)), none]) (rest := [eI (v21), eR v17]) rfl rfl rfl (Nat.ble_eq.mp rfl) rfl rfl rfl rfl ?_
  refine w_t (np := 1) (l2 := [some (eI (a4)), some (eI (10)), none]) (s2 := [eI (a4)]) rfl rfl rfl ?_
  refine w_t (np := 2) (l2 := [some (eI (a4)), some (eI (10)), none]) (s2 := [eI (10), eI (a4)]) rfl rfl rfl ?_
  obtain ⟨v24, e25, b26⟩ := h_irem (a := a4) (k := 10) (by decide) (by decide) bA4
  have b27 : -9 ≤ v24 ∧ v24 ≤ 9 := by omega
  refine w_t (np := 3) (l2 := [some (eI (a4)), some (eI (10)), none]) (s2 := [eI (v24)]) rfl (e25 _ _) rfl ?_
  refine w_t (np := 4) (l2 := [some (eI (a4)), some (eI (10)), some (eI (v24))]) (s2 := []) rfl rfl rfl ?_
  refine w_t (np := 5) (l2 := [some (eI (a4)), some (eI (10)), some (eI (v24))]) (s2 := [eI (a4)]) rfl rfl rfl ?_
  refine w_t (np := 6) (l2 := [some (eI (a4)), some (eI (10)), some (eI (v24))]) (s2 := [eI (10), eI (a4)]) rfl rfl rfl ?_
  obtain ⟨v28, e29, b30, h31⟩ := h_ixor2 (a := a4) (b := 10) (by omega) (by decide) (by decide)
  refine w_t (np := 7) (l2 := [some (eI (a4)), some (eI (10)), some (eI (v24))]) (s2 := [eI (v28)]) rfl (e29 _ _) rfl ?_
  refine b_ige (t1 := 18) (t2 := 10) rfl rfl rfl (ev_w_in (by omega) (by omega)) (fun g32 => ?_) (fun g32 => ?_)
  · have b33 : 0 ≤ v28 ∧ v28 ≤ 2147483647 := by omega
    refine w_t (np := 19) (l2 := [some (eI (a4)), some (eI (10)), some (eI (v24))]) (s2 := [eI (v24)]) rfl rfl rfl ?_
    refine b_ri rfl rfl ?_
    show ex_q (dt_fg L ρ) rc (d + 1, (28, 28, [some (eR a0), some (eI (a1)), some (eI (a2)), some (eI (a3)), some (eI (a4)), some (eI (a5))], [eI (v24), eI (v21), eR v17]), f :: F, m13)
    refine j_as (np := 29) rfl rfl I14 b19 (by decide) (n := 100) rfl rfl (lo := 0) (hi := 9) (fun _ => rfl) (by omega) (by omega) (by omega) ?_
    intro m33 I34 W35
    have F36 : Fr l_28k 0 0 g μ m33 := F16.v W35 b19 rfl rfl
    refine w_t (np := 30) (l2 := [some (eR a0), some (eI (a1)), some (eI (a2)), some (eI (a3)), some (eI (a4)), some (eI (a5))]) (s2 := [eR a0]) rfl (s_an rfl (pos_g I34 gA0 (by decide))) rfl ?_
    refine w_gf (np := 33) (v := eR v17) rfl rfl (I34.kd gA0 (by decide) (n := 8) rfl) (by rw [(W35.addr e18 b19 gA0 (by decide))]; rfl) ?_
    refine w_t (np := 34) (l2 := [some (eR a0), some (eI (a1)), some (eI (a2)), some (eI (a3)), some (eI (a4)), some (eI (a5))]) (s2 := [eI (2), eR v17]) rfl rfl rfl ?_
    refine w_t (np := 35) (l2 := [some (eR a0), some (eI (a1)), some (eI (a2)), some (eI (a3)), some (eI (a4)), some (eI (a5))]) (s2 := [eI (a1), eI (2), eR v17]) rfl rfl rfl ?_
    obtain ⟨v37, e38⟩ : ∃ zz : Int, zz = (2) * (a1) := ⟨_, rfl⟩
    have b39 : 0 ≤ v37 ∧ v37 ≤ 98 := by omega
    refine w_t (np := 36) (l2 := [some (eR a0), some (eI (a1)), some (eI (a2)), some (eI (a3)), some (eI (a4)), some (eI (a5))]) (s2 := [eI (v37), eR v17]) rfl (b_imul (by rw [← e38]; exact ev_w_in (by omega) (by omega))) rfl ?_
    refine w_t (np := 37) (l2 := [some (eR a0), some (eI (a1)), some (eI (a2)), some (eI (a3)), some (eI (a4)), some (eI (a5))]) (s2 := [eI (1), eI (v37), eR v17]) rfl rfl rfl ?_
    obtain ⟨v40, e41⟩ : ∃ zz : Int, zz = (v37) + (1) := ⟨_, rfl⟩
    have b42 : 1 ≤ v40 ∧ v40 ≤ 99 := by omega
    refine w_t (np := 38) (l2 := [some (eR a0), some (eI (a1)), some (eI (a2)), some (eI (a3)), some (eI (a4)), some (eI (a5))]) (s2 := [eI (v40), eR v17]) rfl (b_iadd (by rw [← e41]; exact ev_w_in (by omega) (by omega))) rfl ?_
    refine w_t (np := 40) (l2 := [some (eR a0), some (eI (a1)), some (eI (a2)), some (eI (a3)), some (eI (a4)), some (eI (a5))]) (s2 := [eI (a5), eI (v40), eR v17]) rfl rfl rfl ?_
    refine w_t (np := 42) (l2 := [some (eR a0), some (eI (a1)), some (eI (a2)), some (eI (a3)), some (eI (a4)), some (eI (a5))]) (s2 := [eI (10), eI (a5), eI (v40), eR v17]) rfl rfl rfl ?_
    refine w_cu (np := 45) (as := [eI (a5), eI (10)]) (l2 := [some (eI (a5)), some (eI (10)), none]) (rest := [eI (v40), eR v17]) rfl rfl rfl (Nat.ble_eq.mp rfl) rfl rfl rfl rfl ?_
    refine w_t (np := 1) (l2 := [some (eI (a5)), some (eI (10)), none]) (s2 := [eI (a5)]) rfl rfl rfl ?_
    refine w_t (np := 2) (l2 := [some (eI (a5)), some (eI (10)), none]) (s2 := [eI (10), eI (a5)]) rfl rfl rfl ?_
    obtain ⟨v43, e44, b45⟩ := h_irem (a := a5) (k := 10) (by decide) (by decide) bA5
    have b46 : -9 ≤ v43 ∧ v43 ≤ 9 := by omega
    refine w_t (np := 3) (l2 := [some (eI (a5)), some (eI (10)), none]) (s2 := [eI (v43)]) rfl (e44 _ _) rfl ?_
    refine w_t (np := 4) (l2 := [some (eI (a5)), some (eI (10)), some (eI (v43))]) (s2 := []) rfl rfl rfl ?_
    refine w_t (np := 5) (l2 := [some (eI (a5)), some (eI (10)), some (eI (v43))]) (s2 := [eI (a5)]) rfl rfl rfl ?_
    refine w_t (np := 6) (l2 := [some (eI (a5)), some (eI (10)), some (eI (v43))]) (s2 := [eI (10), eI (a5)]) rfl rfl rfl ?_
    obtain ⟨v47, e48, b49, h50⟩ := h_ixor2 (a := a5) (b := 10) (by omega) (by decide) (by decide)
    refine w_t (np := 7) (l2 := [some (eI (a5)), some (eI (10)), some (eI (v43))]) (s2 := [eI (v47)]) rfl (e48 _ _) rfl ?_
    refine b_ige (t1 := 18) (t2 := 10) rfl rfl rfl (ev_w_in (by omega) (by omega)) (fun g51 => ?_) (fun g51 => ?_)
    · have b52 : 0 ≤ v47 ∧ v47 ≤ 2147483647 := by omega
      refine w_t (np := 19) (l2 := [some (eI (a5)), some (eI (10)), some (eI (v43))]) (s2 := [eI (v43)]) rfl rfl rfl ?_
      refine b_ri rfl rfl ?_
      show ex_q (dt_fg L ρ) rc (d + 1, (28, 45, [some (eR a0), some (eI (a1)), some (eI (a2)), some (eI (a3)), some (eI (a4)), some (eI (a5))], [eI (v43), eI (v40), eR v17]), f :: F, m33)
      refine j_as (np := 46) rfl rfl I34 b19 (by decide) (n := 100) rfl rfl (lo := 0) (hi := 9) (fun _ => rfl) (by omega) (by omega) (by omega) ?_
      intro m52 I53 W54
      have F55 : Fr l_28k 0 0 g μ m52 := F36.v W54 b19 rfl rfl
      exact v_rv rfl rfl (K m52 I53 F55 (kp4 e2 W7 W15 W35 W54 b3 b11 (by decide) b19 (by decide) b19 (by decide)))
    · have b52 : -2147483648 ≤ v47 ∧ v47 ≤ -1 := by omega
      refine w_t (np := 11) (l2 := [some (eI (a5)), some (eI (10)), some (eI (v43))]) (s2 := [eI (v43)]) rfl rfl rfl ?_
      refine b_ieq (t1 := 18) (t2 := 14) rfl rfl rfl (ev_w_in (by omega) (by omega)) (fun g52 => ?_) (fun g52 => ?_)
      · have b53 : 0 ≤ v43 ∧ v43 ≤ 0 := by omega
        refine w_t (np := 19) (l2 := [some (eI (a5)), some (eI (10)), some (eI (v43))]) (s2 := [eI (v43)]) rfl rfl rfl ?_
        refine b_ri rfl rfl ?_
        show ex_q (dt_fg L ρ) rc (d + 1, (28, 45, [some (eR a0), some (eI (a1)), some (eI (a2)), some (eI (a3)), some (eI (a4)), some (eI (a5))], [eI (v43), eI (v40), eR v17]), f :: F, m33)
        refine j_as (np := 46) rfl rfl I34 b19 (by decide) (n := 100) rfl rfl (lo := 0) (hi := 9) (fun _ => rfl) (by omega) (by omega) (by omega) ?_
        intro m53 I54 W55
        have F56 : Fr l_28k 0 0 g μ m53 := F36.v W55 b19 rfl rfl
        exact v_rv rfl rfl (K m53 I54 F56 (kp4 e2 W7 W15 W35 W55 b3 b11 (by decide) b19 (by decide) b19 (by decide)))
      · refine w_t (np := 15) (l2 := [some (eI (a5)), some (eI (10)), some (eI (v43))]) (s2 := [eI (v43)]) rfl rfl rfl ?_
        refine w_t (np := 16) (l2 := [some (eI (a5)), some (eI (10)), some (eI (v43))]) (s2 := [eI (10), eI (v43)]) rfl rfl rfl ?_
        obtain ⟨v53, e54⟩ : ∃ zz : Int, zz = (v43) + (10) := ⟨_, rfl⟩
        have b55 : 1 ≤ v53 ∧ v53 ≤ 19 := by omega
        refine w_t (np := 17) (l2 := [some (eI (a5)), some (eI (10)), some (eI (v43))]) (s2 := [eI (v53)]) rfl (b_iadd (by rw [← e54]; exact ev_w_in (by omega) (by omega))) rfl ?_
        refine b_ri rfl rfl ?_
        show ex_q (dt_fg L ρ) rc (d + 1, (28, 45, [some (eR a0), some (eI (a1)), some (eI (a2)), some (eI (a3)), some (eI (a4)), some (eI (a5))], [eI (v53), eI (v40), eR v17]), f :: F, m33)
        refine j_as (np := 46) rfl rfl I34 b19 (by decide) (n := 100) rfl rfl (lo := 0) (hi := 9) (fun _ => rfl) (by omega) (by omega) (by omega) ?_
        intro m56 I57 W58
        have F59 : Fr l_28k 0 0 g μ m56 := F36.v W58 b19 rfl rfl
        exact v_rv rfl rfl (K m56 I57 F59 (kp4 e2 W7 W15 W35 W58 b3 b11 (by decide) b19 (by decide) b19 (by decide)))
  · have b33 : -2147483648 ≤ v28 ∧ v28 ≤ -1 := by omega
    refine w_t (np := 11) (l2 := [some (eI (a4)), some (eI (10)), some (eI (v24))]) (s2 := [eI (v24)]) rfl rfl rfl ?_
    refine b_ieq (t1 := 18) (t2 := 14) rfl rfl rfl (ev_w_in (by omega) (by omega)) (fun g33 => ?_) (fun g33 => ?_)
    · have b34 : 0 ≤ v24 ∧ v24 ≤ 0 := by omega
      refine w_t (np := 19) (l2 := [some (eI (a4)), some (eI (10)), some (eI (v24))]) (s2 := [eI (v24)]) rfl rfl rfl ?_
      refine b_ri rfl rfl ?_
      show ex_q (dt_fg L ρ) rc (d + 1, (28, 28, [some (eR a0), some (eI (a1)), some (eI (a2)), some (eI (a3)), some (eI (a4)), some (eI (a5))], [eI (v24), eI (v21), eR v17]), f :: F, m13)
      refine j_as (np := 29) rfl rfl I14 b19 (by decide) (n := 100) rfl rfl (lo := 0) (hi := 9) (fun _ => rfl) (by omega) (by omega) (by omega) ?_
      intro m34 I35 W36
      have F37 : Fr l_28k 0 0 g μ m34 := F16.v W36 b19 rfl rfl
      refine w_t (np := 30) (l2 := [some (eR a0), some (eI (a1)), some (eI (a2)), some (eI (a3)), some (eI (a4)), some (eI (a5))]) (s2 := [eR a0]) rfl (s_an rfl (pos_g I35 gA0 (by decide))) rfl ?_
      refine w_gf (np := 33) (v := eR v17) rfl rfl (I35.kd gA0 (by decide) (n := 8) rfl) (by rw [(W36.addr e18 b19 gA0 (by decide))]; rfl) ?_
      refine w_t (np := 34) (l2 := [some (eR a0), some (eI (a1)), some (eI (a2)), some (eI (a3)), some (eI (a4)), some (eI (a5))]) (s2 := [eI (2), eR v17]) rfl rfl rfl ?_
      refine w_t (np := 35) (l2 := [some (eR a0), some (eI (a1)), some (eI (a2)), some (eI (a3)), some (eI (a4)), some (eI (a5))]) (s2 := [eI (a1), eI (2), eR v17]) rfl rfl rfl ?_
      obtain ⟨v38, e39⟩ : ∃ zz : Int, zz = (2) * (a1) := ⟨_, rfl⟩
      have b40 : 0 ≤ v38 ∧ v38 ≤ 98 := by omega
      refine w_t (np := 36) (l2 := [some (eR a0), some (eI (a1)), some (eI (a2)), some (eI (a3)), some (eI (a4)), some (eI (a5))]) (s2 := [eI (v38), eR v17]) rfl (b_imul (by rw [← e39]; exact ev_w_in (by omega) (by omega))) rfl ?_
      refine w_t (np := 37) (l2 := [some (eR a0), some (eI (a1)), some (eI (a2)), some (eI (a3)), some (eI (a4)), some (eI (a5))]) (s2 := [eI (1), eI (v38), eR v17]) rfl rfl rfl ?_
      obtain ⟨v41, e42⟩ : ∃ zz : Int, zz = (v38) + (1) := ⟨_, rfl⟩
      have b43 : 1 ≤ v41 ∧ v41 ≤ 99 := by omega
      refine w_t (np := 38) (l2 := [some (eR a0), some (eI (a1)), some (eI (a2)), some (eI (a3)), some (eI (a4)), some (eI (a5))]) (s2 := [eI (v41), eR v17]) rfl (b_iadd (by rw [← e42]; exact ev_w_in (by omega) (by omega))) rfl ?_
      refine w_t (np := 40) (l2 := [some (eR a0), some (eI (a1)), some (eI (a2)), some (eI (a3)), some (eI (a4)), some (eI (a5))]) (s2 := [eI (a5), eI (v41), eR v17]) rfl rfl rfl ?_
      refine w_t (np := 42) (l2 := [some (eR a0), some (eI (a1)), some (eI (a2)), some (eI (a3)), some (eI (a4)), some (eI (a5))]) (s2 := [eI (10), eI (a5), eI (v41), eR v17]) rfl rfl rfl ?_
      refine w_cu (np := 45) (as := [eI (a5), eI (10)]) (l2 := [some (eI (a5)), some (eI (10)), none]) (rest := [eI (v41), eR v17]) rfl rfl rfl (Nat.ble_eq.mp rfl) rfl rfl rfl rfl ?_
      refine w_t (np := 1) (l2 := [some (eI (a5)), some (eI (10)), none]) (s2 := [eI (a5)]) rfl rfl rfl ?_
      refine w_t (np := 2) (l2 := [some (eI (a5)), some (eI (10)), none]) (s2 := [eI (10), eI (a5)]) rfl rfl rfl ?_
      obtain ⟨v44, e45, b46⟩ := h_irem (a := a5) (k := 10) (by decide) (by decide) bA5
      have b47 : -9 ≤ v44 ∧ v44 ≤ 9 := by omega
      refine w_t (np := 3) (l2 := [some (eI (a5)), some (eI (10)), none]) (s2 := [eI (v44)]) rfl (e45 _ _) rfl ?_
      refine w_t (np := 4) (l2 := [some (eI (a5)), some (eI (10)), some (eI (v44))]) (s2 := []) rfl rfl rfl ?_
      refine w_t (np := 5) (l2 := [some (eI (a5)), some (eI (10)), some (eI (v44))]) (s2 := [eI (a5)]) rfl rfl rfl ?_
      refine w_t (np := 6) (l2 := [some (eI (a5)), some (eI (10)), some (eI (v44))]) (s2 := [eI (10), eI (a5)]) rfl rfl rfl ?_
      obtain ⟨v48, e49, b50, h51⟩ := h_ixor2 (a := a5) (b := 10) (by omega) (by decide) (by decide)
      refine w_t (np := 7) (l2 := [some (eI (a5)), some (eI (10)), some (eI (v44))]) (s2 := [eI (v48)]) rfl (e49 _ _) rfl ?_
      refine b_ige (t1 := 18) (t2 := 10) rfl rfl rfl (ev_w_in (by omega) (by omega)) (fun g52 => ?_) (fun g52 => ?_)
      · have b53 : 0 ≤ v48 ∧ v48 ≤ 2147483647 := by omega
        refine w_t (np := 19) (l2 := [some (eI (a5)), some (eI (10)), some (eI (v44))]) (s2 := [eI (v44)]) rfl rfl rfl ?_
        refine b_ri rfl rfl ?_
        show ex_q (dt_fg L ρ) rc (d + 1, (28, 45, [some (eR a0), some (eI (a1)), some (eI (a2)), some (eI (a3)), some (eI (a4)), some (eI (a5))], [eI (v44), eI (v41), eR v17]), f :: F, m34)
        refine j_as (np := 46) rfl rfl I35 b19 (by decide) (n := 100) rfl rfl (lo := 0) (hi := 9) (fun _ => rfl) (by omega) (by omega) (by omega) ?_
        intro m53 I54 W55
        have F56 : Fr l_28k 0 0 g μ m53 := F37.v W55 b19 rfl rfl
        exact v_rv rfl rfl (K m53 I54 F56 (kp4 e2 W7 W15 W36 W55 b3 b11 (by decide) b19 (by decide) b19 (by decide)))
      · have b53 : -2147483648 ≤ v48 ∧ v48 ≤ -1 := by omega
        refine w_t (np := 11) (l2 := [some (eI (a5)), some (eI (10)), some (eI (v44))]) (s2 := [eI (v44)]) rfl rfl rfl ?_
        refine b_ieq (t1 := 18) (t2 := 14) rfl rfl rfl (ev_w_in (by omega) (by omega)) (fun g53 => ?_) (fun g53 => ?_)
        · have b54 : 0 ≤ v44 ∧ v44 ≤ 0 := by omega
          refine w_t (np := 19) (l2 := [some (eI (a5)), some (eI (10)), some (eI (v44))]) (s2 := [eI (v44)]) rfl rfl rfl ?_
          refine b_ri rfl rfl ?_
          show ex_q (dt_fg L ρ) rc (d + 1, (28, 45, [some (eR a0), some (eI (a1)), some (eI (a2)), some (eI (a3)), some (eI (a4)), some (eI (a5))], [eI (v44), eI (v41), eR v17]), f :: F, m34)
          refine j_as (np := 46) rfl rfl I35 b19 (by decide) (n := 100) rfl rfl (lo := 0) (hi := 9) (fun _ => rfl) (by omega) (by omega) (by omega) ?_
          intro m54 I55 W56
          have F57 : Fr l_28k 0 0 g μ m54 := F37.v W56 b19 rfl rfl
          exact v_rv rfl rfl (K m54 I55 F57 (kp4 e2 W7 W15 W36 W56 b3 b11 (by decide) b19 (by decide) b19 (by decide)))
        · refine w_t (np := 15) (l2 := [some (eI (a5)), some (eI (10)), some (eI (v44))]) (s2 := [eI (v44)]) rfl rfl rfl ?_
          refine w_t (np := 16) (l2 := [some (eI (a5)), some (eI (10)), some (eI (v44))]) (s2 := [eI (10), eI (v44)]) rfl rfl rfl ?_
          obtain ⟨v54, e55⟩ : ∃ zz : Int, zz = (v44) + (10) := ⟨_, rfl⟩
          have b56 : 1 ≤ v54 ∧ v54 ≤ 19 := by omega
          refine w_t (np := 17) (l2 := [some (eI (a5)), some (eI (10)), some (eI (v44))]) (s2 := [eI (v54)]) rfl (b_iadd (by rw [← e55]; exact ev_w_in (by omega) (by omega))) rfl ?_
          refine b_ri rfl rfl ?_
          show ex_q (dt_fg L ρ) rc (d + 1, (28, 45, [some (eR a0), some (eI (a1)), some (eI (a2)), some (eI (a3)), some (eI (a4)), some (eI (a5))], [eI (v54), eI (v41), eR v17]), f :: F, m34)
          refine j_as (np := 46) rfl rfl I35 b19 (by decide) (n := 100) rfl rfl (lo := 0) (hi := 9) (fun _ => rfl) (by omega) (by omega) (by omega) ?_
          intro m57 I58 W59
          have F60 : Fr l_28k 0 0 g μ m57 := F37.v W59 b19 rfl rfl
          exact v_rv rfl rfl (K m57 I58 F60 (kp4 e2 W7 W15 W36 W59 b3 b11 (by decide) b19 (by decide) b19 (by decide)))
    · refine w_t (np := 15) (l2 := [some (eI (a4)), some (eI (10)), some (eI (v24))]) (s2 := [eI (v24)]) rfl rfl rfl ?_
      refine w_t (np := 16) (l2 := [some (eI (a4)), some (eI (10)), some (eI (v24))]) (s2 := [eI (10), eI (v24)]) rfl rfl rfl ?_
      obtain ⟨v34, e35⟩ : ∃ zz : Int, zz = (v24) + (10) := ⟨_, rfl⟩
      have b36 : 1 ≤ v34 ∧ v34 ≤ 19 := by omega
      refine w_t (np := 17) (l2 := [some (eI (a4)), some (eI (10)), some (eI (v24))]) (s2 := [eI (v34)]) rfl (b_iadd (by rw [← e35]; exact ev_w_in (by omega) (by omega))) rfl ?_
      refine b_ri rfl rfl ?_
      show ex_q (dt_fg L ρ) rc (d + 1, (28, 28, [some (eR a0), some (eI (a1)), some (eI (a2)), some (eI (a3)), some (eI (a4)), some (eI (a5))], [eI (v34), eI (v21), eR v17]), f :: F, m13)
      refine j_as (np := 29) rfl rfl I14 b19 (by decide) (n := 100) rfl rfl (lo := 0) (hi := 9) (fun _ => rfl) (by omega) (by omega) (by omega) ?_
      intro m37 I38 W39
      have F40 : Fr l_28k 0 0 g μ m37 := F16.v W39 b19 rfl rfl
      refine w_t (np := 30) (l2 := [some (eR a0), some (eI (a1)), some (eI (a2)), some (eI (a3)), some (eI (a4)), some (eI (a5))]) (s2 := [eR a0]) rfl (s_an rfl (pos_g I38 gA0 (by decide))) rfl ?_
      refine w_gf (np := 33) (v := eR v17) rfl rfl (I38.kd gA0 (by decide) (n := 8) rfl) (by rw [(W39.addr e18 b19 gA0 (by decide))]; rfl) ?_
      refine w_t (np := 34) (l2 := [some (eR a0), some (eI (a1)), some (eI (a2)), some (eI (a3)), some (eI (a4)), some (eI (a5))]) (s2 := [eI (2), eR v17]) rfl rfl rfl ?_
      refine w_t (np := 35) (l2 := [some (eR a0), some (eI (a1)), some (eI (a2)), some (eI (a3)), some (eI (a4)), some (eI (a5))]) (s2 := [eI (a1), eI (2), eR v17]) rfl rfl rfl ?_
      obtain ⟨v41, e42⟩ : ∃ zz : Int, zz = (2) * (a1) := ⟨_, rfl⟩
      have b43 : 0 ≤ v41 ∧ v41 ≤ 98 := by omega
      refine w_t (np := 36) (l2 := [some (eR a0), some (eI (a1)), some (eI (a2)), some (eI (a3)), some (eI (a4)), some (eI (a5))]) (s2 := [eI (v41), eR v17]) rfl (b_imul (by rw [← e42]; exact ev_w_in (by omega) (by omega))) rfl ?_
      refine w_t (np := 37) (l2 := [some (eR a0), some (eI (a1)), some (eI (a2)), some (eI (a3)), some (eI (a4)), some (eI (a5))]) (s2 := [eI (1), eI (v41), eR v17]) rfl rfl rfl ?_
      obtain ⟨v44, e45⟩ : ∃ zz : Int, zz = (v41) + (1) := ⟨_, rfl⟩
      have b46 : 1 ≤ v44 ∧ v44 ≤ 99 := by omega
      refine w_t (np := 38) (l2 := [some (eR a0), some (eI (a1)), some (eI (a2)), some (eI (a3)), some (eI (a4)), some (eI (a5))]) (s2 := [eI (v44), eR v17]) rfl (b_iadd (by rw [← e45]; exact ev_w_in (by omega) (by omega))) rfl ?_
      refine w_t (np := 40) (l2 := [some (eR a0), some (eI (a1)), some (eI (a2)), some (eI (a3)), some (eI (a4)), some (eI (a5))]) (s2 := [eI (a5), eI (v44), eR v17]) rfl rfl rfl ?_
      refine w_t (np := 42) (l2 := [some (eR a0), some (eI (a1)), some (eI (a2)), some (eI (a3)), some (eI (a4)), some (eI (a5))]) (s2 := [eI (10), eI (a5), eI (v44), eR v17]) rfl rfl rfl ?_
      refine w_cu (np := 45) (as := [eI (a5), eI (10)]) (l2 := [some (eI (a5)), some (eI (10)), none]) (rest := [eI (v44), eR v17]) rfl rfl rfl (Nat.ble_eq.mp rfl) rfl rfl rfl rfl ?_
      refine w_t (np := 1) (l2 := [some (eI (a5)), some (eI (10)), none]) (s2 := [eI (a5)]) rfl rfl rfl ?_
      refine w_t (np := 2) (l2 := [some (eI (a5)), some (eI (10)), none]) (s2 := [eI (10), eI (a5)]) rfl rfl rfl ?_
      obtain ⟨v47, e48, b49⟩ := h_irem (a := a5) (k := 10) (by decide) (by decide) bA5
      have b50 : -9 ≤ v47 ∧ v47 ≤ 9 := by omega
      refine w_t (np := 3) (l2 := [some (eI (a5)), some (eI (10)), none]) (s2 := [eI (v47)]) rfl (e48 _ _) rfl ?_
      refine w_t (np := 4) (l2 := [some (eI (a5)), some (eI (10)), some (eI (v47))]) (s2 := []) rfl rfl rfl ?_
      refine w_t (np := 5) (l2 := [some (eI (a5)), some (eI (10)), some (eI (v47))]) (s2 := [eI (a5)]) rfl rfl rfl ?_
      refine w_t (np := 6) (l2 := [some (eI (a5)), some (eI (10)), some (eI (v47))]) (s2 := [eI (10), eI (a5)]) rfl rfl rfl ?_
      obtain ⟨v51, e52, b53, h54⟩ := h_ixor2 (a := a5) (b := 10) (by omega) (by decide) (by decide)
      refine w_t (np := 7) (l2 := [some (eI (a5)), some (eI (10)), some (eI (v47))]) (s2 := [eI (v51)]) rfl (e52 _ _) rfl ?_
      refine b_ige (t1 := 18) (t2 := 10) rfl rfl rfl (ev_w_in (by omega) (by omega)) (fun g55 => ?_) (fun g55 => ?_)
      · have b56 : 0 ≤ v51 ∧ v51 ≤ 2147483647 := by omega
        refine w_t (np := 19) (l2 := [some (eI (a5)), some (eI (10)), some (eI (v47))]) (s2 := [eI (v47)]) rfl rfl rfl ?_
        refine b_ri rfl rfl ?_
        show ex_q (dt_fg L ρ) rc (d + 1, (28, 45, [some (eR a0), some (eI (a1)), some (eI (a2)), some (eI (a3)), some (eI (a4)), some (eI (a5))], [eI (v47), eI (v44), eR v17]), f :: F, m37)
        refine j_as (np := 46) rfl rfl I38 b19 (by decide) (n := 100) rfl rfl (lo := 0) (hi := 9) (fun _ => rfl) (by omega) (by omega) (by omega) ?_
        intro m56 I57 W58
        have F59 : Fr l_28k 0 0 g μ m56 := F40.v W58 b19 rfl rfl
        exact v_rv rfl rfl (K m56 I57 F59 (kp4 e2 W7 W15 W39 W58 b3 b11 (by decide) b19 (by decide) b19 (by decide)))
      · have b56 : -2147483648 ≤ v51 ∧ v51 ≤ -1 := by omega
        refine w_t (np := 11) (l2 := [some (eI (a5)), some (eI (10)), some (eI (v47))]) (s2 := [eI (v47)]) rfl rfl rfl ?_
        refine b_ieq (t1 := 18) (t2 := 14) rfl rfl rfl (ev_w_in (by omega) (by omega)) (fun g56 => ?_) (fun g56 => ?_)
        · have b57 : 0 ≤ v47 ∧ v47 ≤ 0 := by omega
          refine w_t (np := 19) (l2 := [some (eI (a5)), some (eI (10)), some (eI (v47))]) (s2 := [eI (v47)]) rfl rfl rfl ?_
          refine b_ri rfl rfl ?_
          show ex_q (dt_fg L ρ) rc (d + 1, (28, 45, [some (eR a0), some (eI (a1)), some (eI (a2)), some (eI (a3)), some (eI (a4)), some (eI (a5))], [eI (v47), eI (v44), eR v17]), f :: F, m37)
          refine j_as (np := 46) rfl rfl I38 b19 (by decide) (n := 100) rfl rfl (lo := 0) (hi := 9) (fun _ => rfl) (by omega) (by omega) (by omega) ?_
          intro m57 I58 W59
          have F60 : Fr l_28k 0 0 g μ m57 := F40.v W59 b19 rfl rfl
          exact v_rv rfl rfl (K m57 I58 F60 (kp4 e2 W7 W15 W39 W59 b3 b11 (by decide) b19 (by decide) b19 (by decide)))
        · refine w_t (np := 15) (l2 := [some (eI (a5)), some (eI (10)), some (eI (v47))]) (s2 := [eI (v47)]) rfl rfl rfl ?_
          refine w_t (np := 16) (l2 := [some (eI (a5)), some (eI (10)), some (eI (v47))]) (s2 := [eI (10), eI (v47)]) rfl rfl rfl ?_
          obtain ⟨v57, e58⟩ : ∃ zz : Int, zz = (v47) + (10) := ⟨_, rfl⟩
          have b59 : 1 ≤ v57 ∧ v57 ≤ 19 := by omega
          refine w_t (np := 17) (l2 := [some (eI (a5)), some (eI (10)), some (eI (v47))]) (s2 := [eI (v57)]) rfl (b_iadd (by rw [← e58]; exact ev_w_in (by omega) (by omega))) rfl ?_
          refine b_ri rfl rfl ?_
          show ex_q (dt_fg L ρ) rc (d + 1, (28, 45, [some (eR a0), some (eI (a1)), some (eI (a2)), some (eI (a3)), some (eI (a4)), some (eI (a5))], [eI (v57), eI (v44), eR v17]), f :: F, m37)
          refine j_as (np := 46) rfl rfl I38 b19 (by decide) (n := 100) rfl rfl (lo := 0) (hi := 9) (fun _ => rfl) (by omega) (by omega) (by omega) ?_
          intro m60 I61 W62
          have F63 : Fr l_28k 0 0 g μ m60 := F40.v W62 b19 rfl rfl
          exact v_rv rfl rfl (K m60 I61 F63 (kp4 e2 W7 W15 W39 W62 b3 b11 (by decide) b19 (by decide) b19 (by decide)))
def l_28k_2 : List Nat := [2304, 2816, 2048]
theorem s_28k_2 {L : Nat} {ρ : Nat → Int} {rc : eQ} {d : Nat} {f : eFr} {F : List eFr} {μ : eM} {g : Nat → Nat} {a0 : Nat} {a1 : Int} {a2 : Int} {a3 : Int} {a4 : Int} {a5 : Int} (hI : SI g μ) (gA0 : g a0 = 7) (bA1 : 0 ≤ a1 ∧ a1 ≤ 889) (bA2 : 0 ≤ a2 ∧ a2 ≤ 1) (bA3 : -2147483648 ≤ a3 ∧ a3 ≤ 2147483647) (bA4 : -2147483648 ≤ a4 ∧ a4 ≤ 2147483647) (bA5 : -2147483648 ≤ a5 ∧ a5 ≤ 2147483647) (K : ∀ (μ2 : eM), SI g μ2 → Fr l_28k_2 0 0 g μ μ2 → (∀ j : Nat, (j : Int) < a1 → μ2.1 (μ.1 a0 0).toNat j = μ.1 (μ.1 a0 0).toNat j) → ex_q (dt_fg L ρ) rc (d + 2, (f.1, f.2.1, f.2.2.1, f.2.2.2), F, μ2)) : ex_q (dt_fg L ρ) rc (d + 1, (28, 0, [some (eR a0), some (eI (a1)), some (eI (a2)), some (eI (a3)), some (eI (a4)), some (eI (a5))], []), f :: F, μ) := by
  have F0 : Fr l_28k_2 0 0 g μ μ := Fr.r
  refine w_t (np := 1) (l2 := [some (eR a0), some (eI (a1)), some (eI (a2)), some (eI (a3)), some (eI (a4)), some (eI (a5))]) (s2 := [eR a0]) rfl (s_an rfl (pos_g hI gA0 (by decide))) rfl ?_
  refine j_gr (np := 4) rfl rfl hI gA0 (by decide) (n := 8) rfl rfl rfl ?_
  intro v1 e2 b3 z4
  have b3 : g v1 = 8 := Nat.eq_of_beq_eq_true b3
  refine w_t (np := 5) (l2 := [some (eR a0), some (eI (a1)), some (eI (a2)), some (eI (a3)), some (eI (a4)), some (eI (a5))]) (s2 := [eI (a1), eR v1]) rfl rfl rfl ?_
  refine w_t (np := 6) (l2 := [some (eR a0), some (eI (a1)), some (eI (a2)), some (eI (a3)), some (eI (a4)), some (eI (a5))]) (s2 := [eI (a2), eI (a1), eR v1]) rfl rfl rfl ?_
  refine j_as (np := 7) rfl rfl hI b3 (by decide) (n := 890) rfl rfl (lo := 0) (hi := 1) (fun _ => rfl) (by omega) (by omega) (by omega) ?_
  intro m5 I6 W7
  have F8 : Fr l_28k_2 0 0 g μ m5 := F0.v W7 b3 rfl rfl
  refine w_t (np := 8) (l2 := [some (eR a0), some (eI (a1)), some (eI (a2)), some (eI (a3)), some (eI (a4)), some (eI (a5))]) (s2 := [eR a0]) rfl (s_an rfl (pos_g I6 gA0 (by decide))) rfl ?_
  refine j_gr (np := 11) rfl rfl I6 gA0 (by decide) (n := 8) rfl rfl rfl ?_
  intro v9 e10 b11 z12
  have b11 : g v9 = 9 := Nat.eq_of_beq_eq_true b11
  refine w_t (np := 12) (l2 := [some (eR a0), some (eI (a1)), some (eI (a2)), some (eI (a3)), some (eI (a4)), some (eI (a5))]) (s2 := [eI (a1), eR v9]) rfl rfl rfl ?_
  refine w_t (np := 13) (l2 := [some (eR a0), some (eI (a1)), some (eI (a2)), some (eI (a3)), some (eI (a4)), some (eI (a5))]) (s2 := [eI (a3), eI (a1), eR v9]) rfl rfl rfl ?_
  refine j_as (np := 14) rfl rfl I6 b11 (by decide) (n := 890) rfl rfl (lo := -2147483648) (hi := 2147483647) (fun _ => rfl) (by omega) (by omega) (by omega) ?_
  intro m13 I14 W15
  have F16 : Fr l_28k_2 0 0 g μ m13 := F8.v W15 b11 rfl rfl
  refine w_t (np := 15) (l2 := [some (eR a0), some (eI (a1)), some (eI (a2)), some (eI (a3)), some (eI (a4)), some (eI (a5))]) (s2 := [eR a0]) rfl (s_an rfl (pos_g I14 gA0 (by decide))) rfl ?_
  refine j_gr (np := 18) rfl rfl I14 gA0 (by decide) (n := 8) rfl rfl rfl ?_
  intro v17 e18 b19 z20
  have b19 : g v17 = 11 := Nat.eq_of_beq_eq_true b19
  refine w_t (np := 19) (l2 := [some (eR a0), some (eI (a1)), some (eI (a2)), some (eI (a3)), some (eI (a4)), some (eI (a5))]) (s2 := [eI (2), eR v17]) rfl rfl rfl ?_
  refine w_t (np := 20) (l2 := [some (eR a0), some (eI (a1)), some (eI (a2)), some (eI (a3)), some (eI (a4)), some (eI (a5))]) (s2 := [eI (a1), eI (2), eR v17]) rfl rfl rfl ?_
  obtain ⟨v21, e22⟩ : ∃ zz : Int, zz = (2) * (a1) := ⟨_, rfl⟩
  have b23 : 0 ≤ v21 ∧ v21 ≤ 1778 := by omega
  refine w_t (np := 21) (l2 := [some (eR a0), some (eI (a1)), some (eI (a2)), some (eI (a3)), some (eI (a4)), some (eI (a5))]) (s2 := [eI (v21), eR v17]) rfl (b_imul (by rw [← e22]; exact ev_w_in (by omega) (by omega))) rfl ?_
  refine w_t (np := 23) (l2 := [some (eR a0), some (eI (a1)), some (eI (a2)), some (eI (a3)), some (eI (a4)), some (eI (a5))]) (s2 := [eI (a4), eI (v21), eR v17]) rfl rfl rfl ?_
  refine w_t (np := 25) (l2 := [some (eR a0), some (eI (a1)), some (eI (a2)), some (eI (a3)), some (eI (a4)), some (eI (a5))]) (s2 := [eI (10), eI (a4), eI (v21), eR v17]) rfl rfl rfl ?_
  refine w_cu (np := 28) (as := [eI (a4), eI (10)]) (l2 := [some (eI (a4)), some (eI (10)), none]) (rest := [eI (v21), eR v17]) rfl rfl rfl (Nat.ble_eq.mp rfl) rfl rfl rfl rfl ?_
  refine w_t (np := 1) (l2 := [some (eI (a4)), some (eI (10)), none]) (s2 := [eI (a4)]) rfl rfl rfl ?_
  refine w_t (np := 2) (l2 := [some (eI (a4)), some (eI (10)), none]) (s2 := [eI (10), eI (a4)]) rfl rfl rfl ?_
  obtain ⟨v24, e25, b26⟩ := h_irem (a := a4) (k := 10) (by decide) (by decide) bA4
  have b27 : -9 ≤ v24 ∧ v24 ≤ 9 := by omega
  refine w_t (np := 3) (l2 := [some (eI (a4)), some (eI (10)), none]) (s2 := [eI (v24)]) rfl (e25 _ _) rfl ?_
  refine w_t (np := 4) (l2 := [some (eI (a4)), some (eI (10)), some (eI (v24))]) (s2 := []) rfl rfl rfl ?_
  refine w_t (np := 5) (l2 := [some (eI (a4)), some (eI (10)), some (eI (v24))]) (s2 := [eI (a4)]) rfl rfl rfl ?_
  refine w_t (np := 6) (l2 := [some (eI (a4)), some (eI (10)), some (eI (v24))]) (s2 := [eI (10), eI (a4)]) rfl rfl rfl ?_
  obtain ⟨v28, e29, b30, h31⟩ := h_ixor2 (a := a4) (b := 10) (by omega) (by decide) (by decide)
  refine w_t (np := 7) (l2 := [some (eI (a4)), some (eI (10)), some (eI (v24))]) (s2 := [eI (v28)]) rfl (e29 _ _) rfl ?_
  refine b_ige (t1 := 18) (t2 := 10) rfl rfl rfl (ev_w_in (by omega) (by omega)) (fun g32 => ?_) (fun g32 => ?_)
  · have b33 : 0 ≤ v28 ∧ v28 ≤ 2147483647 := by omega
    refine w_t (np := 19) (l2 := [some (eI (a4)), some (eI (10)), some (eI (v24))]) (s2 := [eI (v24)]) rfl rfl rfl ?_
    refine b_ri rfl rfl ?_
    show ex_q (dt_fg L ρ) rc (d + 1, (28, 28, [some (eR a0), some (eI (a1)), some (eI (a2)), some (eI (a3)), some (eI (a4)), some (eI (a5))], [eI (v24), eI (v21), eR v17]), f :: F, m13)
    refine j_as (np := 29) rfl rfl I14 b19 (by decide) (n := 1780) rfl rfl (lo := 0) (hi := 9) (fun _ => rfl) (by omega) (by omega) (by omega) ?_
    intro m33 I34 W35
    have F36 : Fr l_28k_2 0 0 g μ m33 := F16.v W35 b19 rfl rfl
    refine w_t (np := 30) (l2 := [some (eR a0), some (eI (a1)), some (eI (a2)), some (eI (a3)), some (eI (a4)), some (eI (a5))]) (s2 := [eR a0]) rfl (s_an rfl (pos_g I34 gA0 (by decide))) rfl ?_
    refine w_gf (np := 33) (v := eR v17) rfl rfl (I34.kd gA0 (by decide) (n := 8) rfl) (by rw [(W35.addr e18 b19 gA0 (by decide))]; rfl) ?_
    refine w_t (np := 34) (l2 := [some (eR a0), some (eI (a1)), some (eI (a2)), some (eI (a3)), some (eI (a4)), some (eI (a5))]) (s2 := [eI (2), eR v17]) rfl rfl rfl ?_
    refine w_t (np := 35) (l2 := [some (eR a0), some (eI (a1)), some (eI (a2)), some (eI (a3)), some (eI (a4)), some (eI (a5))]) (s2 := [eI (a1), eI (2), eR v17]) rfl rfl rfl ?_
    obtain ⟨v37, e38⟩ : ∃ zz : Int, zz = (2) * (a1) := ⟨_, rfl⟩
    have b39 : 0 ≤ v37 ∧ v37 ≤ 1778 := by omega
    refine w_t (np := 36) (l2 := [some (eR a0), some (eI (a1)), some (eI (a2)), some (eI (a3)), some (eI (a4)), some (eI (a5))]) (s2 := [eI (v37), eR v17]) rfl (b_imul (by rw [← e38]; exact ev_w_in (by omega) (by omega))) rfl ?_
    refine w_t (np := 37) (l2 := [some (eR a0), some (eI (a1)), some (eI (a2)), some (eI (a3)), some (eI (a4)), some (eI (a5))]) (s2 := [eI (1), eI (v37), eR v17]) rfl rfl rfl ?_
    obtain ⟨v40, e41⟩ : ∃ zz : Int, zz = (v37) + (1) := ⟨_, rfl⟩
    have b42 : 1 ≤ v40 ∧ v40 ≤ 1779 := by omega
    refine w_t (np := 38) (l2 := [some (eR a0), some (eI (a1)), some (eI (a2)), some (eI (a3)), some (eI (a4)), some (eI (a5))]) (s2 := [eI (v40), eR v17]) rfl (b_iadd (by rw [← e41]; exact ev_w_in (by omega) (by omega))) rfl ?_
    refine w_t (np := 40) (l2 := [some (eR a0), some (eI (a1)), some (eI (a2)), some (eI (a3)), some (eI (a4)), some (eI (a5))]) (s2 := [eI (a5), eI (v40), eR v17]) rfl rfl rfl ?_
    refine w_t (np := 42) (l2 := [some (eR a0), some (eI (a1)), some (eI (a2)), some (eI (a3)), some (eI (a4)), some (eI (a5))]) (s2 := [eI (10), eI (a5), eI (v40), eR v17]) rfl rfl rfl ?_
    refine w_cu (np := 45) (as := [eI (a5), eI (10)]) (l2 := [some (eI (a5)), some (eI (10)), none]) (rest := [eI (v40), eR v17]) rfl rfl rfl (Nat.ble_eq.mp rfl) rfl rfl rfl rfl ?_
    refine w_t (np := 1) (l2 := [some (eI (a5)), some (eI (10)), none]) (s2 := [eI (a5)]) rfl rfl rfl ?_
    refine w_t (np := 2) (l2 := [some (eI (a5)), some (eI (10)), none]) (s2 := [eI (10), eI (a5)]) rfl rfl rfl ?_
    obtain ⟨v43, e44, b45⟩ := h_irem (a := a5) (k := 10) (by decide) (by decide) bA5
    have b46 : -9 ≤ v43 ∧ v43 ≤ 9 := by omega
    refine w_t (np := 3) (l2 := [some (eI (a5)), some (eI (10)), none]) (s2 := [eI (v43)]) rfl (e44 _ _) rfl ?_
    refine w_t (np := 4) (l2 := [some (eI (a5)), some (eI (10)), some (eI (v43))]) (s2 := []) rfl rfl rfl ?_
    refine w_t (np := 5) (l2 := [some (eI (a5)), some (eI (10)), some (eI (v43))]) (s2 := [eI (a5)]) rfl rfl rfl ?_
    refine w_t (np := 6) (l2 := [some (eI (a5)), some (eI (10)), some (eI (v43))]) (s2 := [eI (10), eI (a5)]) rfl rfl rfl ?_
    obtain ⟨v47, e48, b49, h50⟩ := h_ixor2 (a := a5) (b := 10) (by omega) (by decide) (by decide)
    refine w_t (np := 7) (l2 := [some (eI (a5)), some (eI (10)), some (eI (v43))]) (s2 := [eI (v47)]) rfl (e48 _ _) rfl ?_
    refine b_ige (t1 := 18) (t2 := 10) rfl rfl rfl (ev_w_in (by omega) (by omega)) (fun g51 => ?_) (fun g51 => ?_)
    · have b52 : 0 ≤ v47 ∧ v47 ≤ 2147483647 := by omega
      refine w_t (np := 19) (l2 := [some (eI (a5)), some (eI (10)), some (eI (v43))]) (s2 := [eI (v43)]) rfl rfl rfl ?_
      refine b_ri rfl rfl ?_
      show ex_q (dt_fg L ρ) rc (d + 1, (28, 45, [some (eR a0), some (eI (a1)), some (eI (a2)), some (eI (a3)), some (eI (a4)), some (eI (a5))], [eI (v43), eI (v40), eR v17]), f :: F, m33)
      refine j_as (np := 46) rfl rfl I34 b19 (by decide) (n := 1780) rfl rfl (lo := 0) (hi := 9) (fun _ => rfl) (by omega) (by omega) (by omega) ?_
      intro m52 I53 W54
      have F55 : Fr l_28k_2 0 0 g μ m52 := F36.v W54 b19 rfl rfl
      exact v_rv rfl rfl (K m52 I53 F55 (kp4 e2 W7 W15 W35 W54 b3 b11 (by decide) b19 (by decide) b19 (by decide)))
    · have b52 : -2147483648 ≤ v47 ∧ v47 ≤ -1 := by omega
      refine w_t (np := 11) (l2 := [some (eI (a5)), some (eI (10)), some (eI (v43))]) (s2 := [eI (v43)]) rfl rfl rfl ?_
      refine b_ieq (t1 := 18) (t2 := 14) rfl rfl rfl (ev_w_in (by omega) (by omega)) (fun g52 => ?_) (fun g52 => ?_)
      · have b53 : 0 ≤ v43 ∧ v43 ≤ 0 := by omega
        refine w_t (np := 19) (l2 := [some (eI (a5)), some (eI (10)), some (eI (v43))]) (s2 := [eI (v43)]) rfl rfl rfl ?_
        refine b_ri rfl rfl ?_
        show ex_q (dt_fg L ρ) rc (d + 1, (28, 45, [some (eR a0), some (eI (a1)), some (eI (a2)), some (eI (a3)), some (eI (a4)), some (eI (a5))], [eI (v43), eI (v40), eR v17]), f :: F, m33)
        refine j_as (np := 46) rfl rfl I34 b19 (by decide) (n := 1780) rfl rfl (lo := 0) (hi := 9) (fun _ => rfl) (by omega) (by omega) (by omega) ?_
        intro m53 I54 W55
        have F56 : Fr l_28k_2 0 0 g μ m53 := F36.v W55 b19 rfl rfl
        exact v_rv rfl rfl (K m53 I54 F56 (kp4 e2 W7 W15 W35 W55 b3 b11 (by decide) b19 (by decide) b19 (by decide)))
      · refine w_t (np := 15) (l2 := [some (eI (a5)), some (eI (10)), some (eI (v43))]) (s2 := [eI (v43)]) rfl rfl rfl ?_
        refine w_t (np := 16) (l2 := [some (eI (a5)), some (eI (10)), some (eI (v43))]) (s2 := [eI (10), eI (v43)]) rfl rfl rfl ?_
        obtain ⟨v53, e54⟩ : ∃ zz : Int, zz = (v43) + (10) := ⟨_, rfl⟩
        have b55 : 1 ≤ v53 ∧ v53 ≤ 19 := by omega
        refine w_t (np := 17) (l2 := [some (eI (a5)), some (eI (10)), some (eI (v43))]) (s2 := [eI (v53)]) rfl (b_iadd (by rw [← e54]; exact ev_w_in (by omega) (by omega))) rfl ?_
        refine b_ri rfl rfl ?_
        show ex_q (dt_fg L ρ) rc (d + 1, (28, 45, [some (eR a0), some (eI (a1)), some (eI (a2)), some (eI (a3)), some (eI (a4)), some (eI (a5))], [eI (v53), eI (v40), eR v17]), f :: F, m33)
        refine j_as (np := 46) rfl rfl I34 b19 (by decide) (n := 1780) rfl rfl (lo := 0) (hi := 9) (fun _ => rfl) (by omega) (by omega) (by omega) ?_
        intro m56 I57 W58
        have F59 : Fr l_28k_2 0 0 g μ m56 := F36.v W58 b19 rfl rfl
        exact v_rv rfl rfl (K m56 I57 F59 (kp4 e2 W7 W15 W35 W58 b3 b11 (by decide) b19 (by decide) b19 (by decide)))
  · have b33 : -2147483648 ≤ v28 ∧ v28 ≤ -1 := by omega
    refine w_t (np := 11) (l2 := [some (eI (a4)), some (eI (10)), some (eI (v24))]) (s2 := [eI (v24)]) rfl rfl rfl ?_
    refine b_ieq (t1 := 18) (t2 := 14) rfl rfl rfl (ev_w_in (by omega) (by omega)) (fun g33 => ?_) (fun g33 => ?_)
    · have b34 : 0 ≤ v24 ∧ v24 ≤ 0 := by omega
      refine w_t (np := 19) (l2 := [some (eI (a4)), some (eI (10)), some (eI (v24))]) (s2 := [eI (v24)]) rfl rfl rfl ?_
      refine b_ri rfl rfl ?_
      show ex_q (dt_fg L ρ) rc (d + 1, (28, 28, [some (eR a0), some (eI (a1)), some (eI (a2)), some (eI (a3)), some (eI (a4)), some (eI (a5))], [eI (v24), eI (v21), eR v17]), f :: F, m13)
      refine j_as (np := 29) rfl rfl I14 b19 (by decide) (n := 1780) rfl rfl (lo := 0) (hi := 9) (fun _ => rfl) (by omega) (by omega) (by omega) ?_
      intro m34 I35 W36
      have F37 : Fr l_28k_2 0 0 g μ m34 := F16.v W36 b19 rfl rfl
      refine w_t (np := 30) (l2 := [some (eR a0), some (eI (a1)), some (eI (a2)), some (eI (a3)), some (eI (a4)), some (eI (a5))]) (s2 := [eR a0]) rfl (s_an rfl (pos_g I35 gA0 (by decide))) rfl ?_
      refine w_gf (np := 33) (v := eR v17) rfl rfl (I35.kd gA0 (by decide) (n := 8) rfl) (by rw [(W36.addr e18 b19 gA0 (by decide))]; rfl) ?_
      refine w_t (np := 34) (l2 := [some (eR a0), some (eI (a1)), some (eI (a2)), some (eI (a3)), some (eI (a4)), some (eI (a5))]) (s2 := [eI (2), eR v17]) rfl rfl rfl ?_
      refine w_t (np := 35) (l2 := [some (eR a0), some (eI (a1)), some (eI (a2)), some (eI (a3)), some (eI (a4)), some (eI (a5))]) (s2 := [eI (a1), eI (2), eR v17]) rfl rfl rfl ?_
      obtain ⟨v38, e39⟩ : ∃ zz : Int, zz = (2) * (a1) := ⟨_, rfl⟩
      have b40 : 0 ≤ v38 ∧ v38 ≤ 1778 := by omega
      refine w_t (np := 36) (l2 := [some (eR a0), some (eI (a1)), some (eI (a2)), some (eI (a3)), some (eI (a4)), some (eI (a5))]) (s2 := [eI (v38), eR v17]) rfl (b_imul (by rw [← e39]; exact ev_w_in (by omega) (by omega))) rfl ?_
      refine w_t (np := 37) (l2 := [some (eR a0), some (eI (a1)), some (eI (a2)), some (eI (a3)), some (eI (a4)), some (eI (a5))]) (s2 := [eI (1), eI (v38), eR v17]) rfl rfl rfl ?_
      obtain ⟨v41, e42⟩ : ∃ zz : Int, zz = (v38) + (1) := ⟨_, rfl⟩
      have b43 : 1 ≤ v41 ∧ v41 ≤ 1779 := by omega
      refine w_t (np := 38) (l2 := [some (eR a0), some (eI (a1)), some (eI (a2)), some (eI (a3)), some (eI (a4)), some (eI (a5))]) (s2 := [eI (v41), eR v17]) rfl (b_iadd (by rw [← e42]; exact ev_w_in (by omega) (by omega))) rfl ?_
      refine w_t (np := 40) (l2 := [some (eR a0), some (eI (a1)), some (eI (a2)), some (eI (a3)), some (eI (a4)), some (eI (a5))]) (s2 := [eI (a5), eI (v41), eR v17]) rfl rfl rfl ?_
      refine w_t (np := 42) (l2 := [some (eR a0), some (eI (a1)), some (eI (a2)), some (eI (a3)), some (eI (a4)), some (eI (a5))]) (s2 := [eI (10), eI (a5), eI (v41), eR v17]) rfl rfl rfl ?_
      refine w_cu (np := 45) (as := [eI (a5), eI (10)]) (l2 := [some (eI (a5)), some (eI (10)), none]) (rest := [eI (v41), eR v17]) rfl rfl rfl (Nat.ble_eq.mp rfl) rfl rfl rfl rfl ?_
      refine w_t (np := 1) (l2 := [some (eI (a5)), some (eI (10)), none]) (s2 := [eI (a5)]) rfl rfl rfl ?_
      refine w_t (np := 2) (l2 := [some (eI (a5)), some (eI (10)), none]) (s2 := [eI (10), eI (a5)]) rfl rfl rfl ?_
      obtain ⟨v44, e45, b46⟩ := h_irem (a := a5) (k := 10) (by decide) (by decide) bA5
      have b47 : -9 ≤ v44 ∧ v44 ≤ 9 := by omega
      refine w_t (np := 3) (l2 := [some (eI (a5)), some (eI (10)), none]) (s2 := [eI (v44)]) rfl (e45 _ _) rfl ?_
      refine w_t (np := 4) (l2 := [some (eI (a5)), some (eI (10)), some (eI (v44))]) (s2 := []) rfl rfl rfl ?_
      refine w_t (np := 5) (l2 := [some (eI (a5)), some (eI (10)), some (eI (v44))]) (s2 := [eI (a5)]) rfl rfl rfl ?_
      refine w_t (np := 6) (l2 := [some (eI (a5)), some (eI (10)), some (eI (v44))]) (s2 := [eI (10), eI (a5)]) rfl rfl rfl ?_
      obtain ⟨v48, e49, b50, h51⟩ := h_ixor2 (a := a5) (b := 10) (by omega) (by decide) (by decide)
      refine w_t (np := 7) (l2 := [some (eI (a5)), some (eI (10)), some (eI (v44))]) (s2 := [eI (v48)]) rfl (e49 _ _) rfl ?_
      refine b_ige (t1 := 18) (t2 := 10) rfl rfl rfl (ev_w_in (by omega) (by omega)) (fun g52 => ?_) (fun g52 => ?_)
      · have b53 : 0 ≤ v48 ∧ v48 ≤ 2147483647 := by omega
        refine w_t (np := 19) (l2 := [some (eI (a5)), some (eI (10)), some (eI (v44))]) (s2 := [eI (v44)]) rfl rfl rfl ?_
        refine b_ri rfl rfl ?_
        show ex_q (dt_fg L ρ) rc (d + 1, (28, 45, [some (eR a0), some (eI (a1)), some (eI (a2)), some (eI (a3)), some (eI (a4)), some (eI (a5))], [eI (v44), eI (v41), eR v17]), f :: F, m34)
        refine j_as (np := 46) rfl rfl I35 b19 (by decide) (n := 1780) rfl rfl (lo := 0) (hi := 9) (fun _ => rfl) (by omega) (by omega) (by omega) ?_
        intro m53 I54 W55
        have F56 : Fr l_28k_2 0 0 g μ m53 := F37.v W55 b19 rfl rfl
        exact v_rv rfl rfl (K m53 I54 F56 (kp4 e2 W7 W15 W36 W55 b3 b11 (by decide) b19 (by decide) b19 (by decide)))
      · have b53 : -2147483648 ≤ v48 ∧ v48 ≤ -1 := by omega
        refine w_t (np := 11) (l2 := [some (eI (a5)), some (eI (10)), some (eI (v44))]) (s2 := [eI (v44)]) rfl rfl rfl ?_
        refine b_ieq (t1 := 18) (t2 := 14) rfl rfl rfl (ev_w_in (by omega) (by omega)) (fun g53 => ?_) (fun g53 => ?_)
        · have b54 : 0 ≤ v44 ∧ v44 ≤ 0 := by omega
          refine w_t (np := 19) (l2 := [some (eI (a5)), some (eI (10)), some (eI (v44))]) (s2 := [eI (v44)]) rfl rfl rfl ?_
          refine b_ri rfl rfl ?_
          show ex_q (dt_fg L ρ) rc (d + 1, (28, 45, [some (eR a0), some (eI (a1)), some (eI (a2)), some (eI (a3)), some (eI (a4)), some (eI (a5))], [eI (v44), eI (v41), eR v17]), f :: F, m34)
          refine j_as (np := 46) rfl rfl I35 b19 (by decide) (n := 1780) rfl rfl (lo := 0) (hi := 9) (fun _ => rfl) (by omega) (by omega) (by omega) ?_
          intro m54 I55 W56
          have F57 : Fr l_28k_2 0 0 g μ m54 := F37.v W56 b19 rfl rfl
          exact v_rv rfl rfl (K m54 I55 F57 (kp4 e2 W7 W15 W36 W56 b3 b11 (by decide) b19 (by decide) b19 (by decide)))
        · refine w_t (np := 15) (l2 := [some (eI (a5)), some (eI (10)), some (eI (v44))]) (s2 := [eI (v44)]) rfl rfl rfl ?_
          refine w_t (np := 16) (l2 := [some (eI (a5)), some (eI (10)), some (eI (v44))]) (s2 := [eI (10), eI (v44)]) rfl rfl rfl ?_
          obtain ⟨v54, e55⟩ : ∃ zz : Int, zz = (v44) + (10) := ⟨_, rfl⟩
          have b56 : 1 ≤ v54 ∧ v54 ≤ 19 := by omega
          refine w_t (np := 17) (l2 := [some (eI (a5)), some (eI (10)), some (eI (v44))]) (s2 := [eI (v54)]) rfl (b_iadd (by rw [← e55]; exact ev_w_in (by omega) (by omega))) rfl ?_
          refine b_ri rfl rfl ?_
          show ex_q (dt_fg L ρ) rc (d + 1, (28, 45, [some (eR a0), some (eI (a1)), some (eI (a2)), some (eI (a3)), some (eI (a4)), some (eI (a5))], [eI (v54), eI (v41), eR v17]), f :: F, m34)
          refine j_as (np := 46) rfl rfl I35 b19 (by decide) (n := 1780) rfl rfl (lo := 0) (hi := 9) (fun _ => rfl) (by omega) (by omega) (by omega) ?_
          intro m57 I58 W59
          have F60 : Fr l_28k_2 0 0 g μ m57 := F37.v W59 b19 rfl rfl
          exact v_rv rfl rfl (K m57 I58 F60 (kp4 e2 W7 W15 W36 W59 b3 b11 (by decide) b19 (by decide) b19 (by decide)))
    · refine w_t (np := 15) (l2 := [some (eI (a4)), some (eI (10)), some (eI (v24))]) (s2 := [eI (v24)]) rfl rfl rfl ?_
      refine w_t (np := 16) (l2 := [some (eI (a4)), some (eI (10)), some (eI (v24))]) (s2 := [eI (10), eI (v24)]) rfl rfl rfl ?_
      obtain ⟨v34, e35⟩ : ∃ zz : Int, zz = (v24) + (10) := ⟨_, rfl⟩
      have b36 : 1 ≤ v34 ∧ v34 ≤ 19 := by omega
      refine w_t (np := 17) (l2 := [some (eI (a4)), some (eI (10)), some (eI (v24))]) (s2 := [eI (v34)]) rfl (b_iadd (by rw [← e35]; exact ev_w_in (by omega) (by omega))) rfl ?_
      refine b_ri rfl rfl ?_
      show ex_q (dt_fg L ρ) rc (d + 1, (28, 28, [some (eR a0), some (eI (a1)), some (eI (a2)), some (eI (a3)), some (eI (a4)), some (eI (a5))], [eI (v34), eI (v21), eR v17]), f :: F, m13)
      refine j_as (np := 29) rfl rfl I14 b19 (by decide) (n := 1780) rfl rfl (lo := 0) (hi := 9) (fun _ => rfl) (by omega) (by omega) (by omega) ?_
      intro m37 I38 W39
      have F40 : Fr l_28k_2 0 0 g μ m37 := F16.v W39 b19 rfl rfl
      refine w_t (np := 30) (l2 := [some (eR a0), some (eI (a1)), some (eI (a2)), some (eI (a3)), some (eI (a4)), some (eI (a5))]) (s2 := [eR a0]) rfl (s_an rfl (pos_g I38 gA0 (by decide))) rfl ?_
      refine w_gf (np := 33) (v := eR v17) rfl rfl (I38.kd gA0 (by decide) (n := 8) rfl) (by rw [(W39.addr e18 b19 gA0 (by decide))]; rfl) ?_
      refine w_t (np := 34) (l2 := [some (eR a0), some (eI (a1)), some (eI (a2)), some (eI (a3)), some (eI (a4)), some (eI (a5))]) (s2 := [eI (2), eR v17]) rfl rfl rfl ?_
      refine w_t (np := 35) (l2 := [some (eR a0), some (eI (a1)), some (eI (a2)), some (eI (a3)), some (eI (a4)), some (eI (a5))]) (s2 := [eI (a1), eI (2), eR v17]) rfl rfl rfl ?_
      obtain ⟨v41, e42⟩ : ∃ zz : Int, zz = (2) * (a1) := ⟨_, rfl⟩
      have b43 : 0 ≤ v41 ∧ v41 ≤ 1778 := by omega
      refine w_t (np := 36) (l2 := [some (eR a0), some (eI (a1)), some (eI (a2)), some (eI (a3)), some (eI (a4)), some (eI (a5))]) (s2 := [eI (v41), eR v17]) rfl (b_imul (by rw [← e42]; exact ev_w_in (by omega) (by omega))) rfl ?_
      refine w_t (np := 37) (l2 := [some (eR a0), some (eI (a1)), some (eI (a2)), some (eI (a3)), some (eI (a4)), some (eI (a5))]) (s2 := [eI (1), eI (v41), eR v17]) rfl rfl rfl ?_
      obtain ⟨v44, e45⟩ : ∃ zz : Int, zz = (v41) + (1) := ⟨_, rfl⟩
      have b46 : 1 ≤ v44 ∧ v44 ≤ 1779 := by omega
      refine w_t (np := 38) (l2 := [some (eR a0), some (eI (a1)), some (eI (a2)), some (eI (a3)), some (eI (a4)), some (eI (a5))]) (s2 := [eI (v44), eR v17]) rfl (b_iadd (by rw [← e45]; exact ev_w_in (by omega) (by omega))) rfl ?_
      refine w_t (np := 40) (l2 := [some (eR a0), some (eI (a1)), some (eI (a2)), some (eI (a3)), some (eI (a4)), some (eI (a5))]) (s2 := [eI (a5), eI (v44), eR v17]) rfl rfl rfl ?_
      refine w_t (np := 42) (l2 := [some (eR a0), some (eI (a1)), some (eI (a2)), some (eI (a3)), some (eI (a4)), some (eI (a5))]) (s2 := [eI (10), eI (a5), eI (v44), eR v17]) rfl rfl rfl ?_
      refine w_cu (np := 45) (as := [eI (a5), eI (10)]) (l2 := [some (eI (a5)), some (eI (10)), none]) (rest := [eI (v44), eR v17]) rfl rfl rfl (Nat.ble_eq.mp rfl) rfl rfl rfl rfl ?_
      refine w_t (np := 1) (l2 := [some (eI (a5)), some (eI (10)), none]) (s2 := [eI (a5)]) rfl rfl rfl ?_
      refine w_t (np := 2) (l2 := [some (eI (a5)), some (eI (10)), none]) (s2 := [eI (10), eI (a5)]) rfl rfl rfl ?_
      obtain ⟨v47, e48, b49⟩ := h_irem (a := a5) (k := 10) (by decide) (by decide) bA5
      have b50 : -9 ≤ v47 ∧ v47 ≤ 9 := by omega
      refine w_t (np := 3) (l2 := [some (eI (a5)), some (eI (10)), none]) (s2 := [eI (v47)]) rfl (e48 _ _) rfl ?_
      refine w_t (np := 4) (l2 := [some (eI (a5)), some (eI (10)), some (eI (v47))]) (s2 := []) rfl rfl rfl ?_
      refine w_t (np := 5) (l2 := [some (eI (a5)), some (eI (10)), some (eI (v47))]) (s2 := [eI (a5)]) rfl rfl rfl ?_
      refine w_t (np := 6) (l2 := [some (eI (a5)), some (eI (10)), some (eI (v47))]) (s2 := [eI (10), eI (a5)]) rfl rfl rfl ?_
      obtain ⟨v51, e52, b53, h54⟩ := h_ixor2 (a := a5) (b := 10) (by omega) (by decide) (by decide)
      refine w_t (np := 7) (l2 := [some (eI (a5)), some (eI (10)), some (eI (v47))]) (s2 := [eI (v51)]) rfl (e52 _ _) rfl ?_
      refine b_ige (t1 := 18) (t2 := 10) rfl rfl rfl (ev_w_in (by omega) (by omega)) (fun g55 => ?_) (fun g55 => ?_)
      · have b56 : 0 ≤ v51 ∧ v51 ≤ 2147483647 := by omega
        refine w_t (np := 19) (l2 := [some (eI (a5)), some (eI (10)), some (eI (v47))]) (s2 := [eI (v47)]) rfl rfl rfl ?_
        refine b_ri rfl rfl ?_
        show ex_q (dt_fg L ρ) rc (d + 1, (28, 45, [some (eR a0), some (eI (a1)), some (eI (a2)), some (eI (a3)), some (eI (a4)), some (eI (a5))], [eI (v47), eI (v44), eR v17]), f :: F, m37)
        refine j_as (np := 46) rfl rfl I38 b19 (by decide) (n := 1780) rfl rfl (lo := 0) (hi := 9) (fun _ => rfl) (by omega) (by omega) (by omega) ?_
        intro m56 I57 W58
        have F59 : Fr l_28k_2 0 0 g μ m56 := F40.v W58 b19 rfl rfl
        exact v_rv rfl rfl (K m56 I57 F59 (kp4 e2 W7 W15 W39 W58 b3 b11 (by decide) b19 (by decide) b19 (by decide)))
      · have b56 : -2147483648 ≤ v51 ∧ v51 ≤ -1 := by omega
        refine w_t (np := 11) (l2 := [some (eI (a5)), some (eI (10)), some (eI (v47))]) (s2 := [eI (v47)]) rfl rfl rfl ?_
        refine b_ieq (t1 := 18) (t2 := 14) rfl rfl rfl (ev_w_in (by omega) (by omega)) (fun g56 => ?_) (fun g56 => ?_)
        · have b57 : 0 ≤ v47 ∧ v47 ≤ 0 := by omega
          refine w_t (np := 19) (l2 := [some (eI (a5)), some (eI (10)), some (eI (v47))]) (s2 := [eI (v47)]) rfl rfl rfl ?_
          refine b_ri rfl rfl ?_
          show ex_q (dt_fg L ρ) rc (d + 1, (28, 45, [some (eR a0), some (eI (a1)), some (eI (a2)), some (eI (a3)), some (eI (a4)), some (eI (a5))], [eI (v47), eI (v44), eR v17]), f :: F, m37)
          refine j_as (np := 46) rfl rfl I38 b19 (by decide) (n := 1780) rfl rfl (lo := 0) (hi := 9) (fun _ => rfl) (by omega) (by omega) (by omega) ?_
          intro m57 I58 W59
          have F60 : Fr l_28k_2 0 0 g μ m57 := F40.v W59 b19 rfl rfl
          exact v_rv rfl rfl (K m57 I58 F60 (kp4 e2 W7 W15 W39 W59 b3 b11 (by decide) b19 (by decide) b19 (by decide)))
        · refine w_t (np := 15) (l2 := [some (eI (a5)), some (eI (10)), some (eI (v47))]) (s2 := [eI (v47)]) rfl rfl rfl ?_
          refine w_t (np := 16) (l2 := [some (eI (a5)), some (eI (10)), some (eI (v47))]) (s2 := [eI (10), eI (v47)]) rfl rfl rfl ?_
          obtain ⟨v57, e58⟩ : ∃ zz : Int, zz = (v47) + (10) := ⟨_, rfl⟩
          have b59 : 1 ≤ v57 ∧ v57 ≤ 19 := by omega
          refine w_t (np := 17) (l2 := [some (eI (a5)), some (eI (10)), some (eI (v47))]) (s2 := [eI (v57)]) rfl (b_iadd (by rw [← e58]; exact ev_w_in (by omega) (by omega))) rfl ?_
          refine b_ri rfl rfl ?_
          show ex_q (dt_fg L ρ) rc (d + 1, (28, 45, [some (eR a0), some (eI (a1)), some (eI (a2)), some (eI (a3)), some (eI (a4)), some (eI (a5))], [eI (v57), eI (v44), eR v17]), f :: F, m37)
          refine j_as (np := 46) rfl rfl I38 b19 (by decide) (n := 1780) rfl rfl (lo := 0) (hi := 9) (fun _ => rfl) (by omega) (by omega) (by omega) ?_
          intro m60 I61 W62
          have F63 : Fr l_28k_2 0 0 g μ m60 := F40.v W62 b19 rfl rfl
          exact v_rv rfl rfl (K m60 I61 F63 (kp4 e2 W7 W15 W39 W62 b3 b11 (by decide) b19 (by decide) b19 (by decide)))
theorem s_25k {L : Nat} {ρ : Nat → Int} {rc : eQ} {d : Nat} {f : eFr} {F : List eFr} {μ : eM} {g : Nat → Nat} {a0 : Nat} {a1 : Int} {co : Int} (hI : SI g μ) (gA0 : g a0 = 2) (bA1 : 1 ≤ a1 ∧ a1 ≤ 1) (h_co : μ.1 a0 7 = co) (K : ∀ (v : Int), (0 ≤ v ∧ v ≤ 890) → (v = (fcnt (fun x => μ.1 (μ.1 a0 0).toNat x - 1) (co).toNat : Int)) → ex_q (dt_fg L ρ) rc (d + 1, (f.1, f.2.1, f.2.2.1, eI v :: f.2.2.2), F, μ)) : ex_q (dt_fg L ρ) rc (d, (25, 0, [some (eR a0), some (eI (a1)), none, none], []), f :: F, μ) := by
  have b_co : 0 ≤ co ∧ co ≤ 50 := by
    rw [← h_co]
    exact hI.int gA0 (by decide) (n := 8) rfl (by decide) rfl
  obtain ⟨v1, e2, b3, z4⟩ := hI.ref (k := 0) gA0 (by decide) (n := 8) rfl (by decide) rfl
  have b3 : g v1 = 3 := Nat.eq_of_beq_eq_true b3
  refine w_t (np := 1) (l2 := [some (eR a0), some (eI (a1)), none, none]) (s2 := [eI (0)]) rfl rfl rfl ?_
  refine w_t (np := 2) (l2 := [some (eR a0), some (eI (a1)), some (eI (0)), none]) (s2 := []) rfl rfl rfl ?_
  refine w_t (np := 3) (l2 := [some (eR a0), some (eI (a1)), some (eI (0)), none]) (s2 := [eI (0)]) rfl rfl rfl ?_
  refine w_t (np := 4) (l2 := [some (eR a0), some (eI (a1)), some (eI (0)), some (eI (0))]) (s2 := []) rfl rfl rfl ?_
  have hL4 : ∀ (n5 : Nat) (i7 : Int) (i9 : Int), (0 ≤ i7 ∧ i7 ≤ 890) → (0 ≤ i9 ∧ i9 ≤ 890) → i7 = (fcnt (fun x => μ.1 v1 x - 1) (i9).toNat : Int) → i7 ≤ i9 ∧ i9 ≤ co → n5 = (890 - i9).toNat → ex_q (dt_fg L ρ) rc (d, (25, 4, [some (eR a0), some (eI (a1)), some (eI (i7)), some (eI (i9))], []), f :: F, μ) := by
    intro n5
    induction n5 using Nat.strongRecOn with
    | _ n5 ih6 =>
    intro i7 i9 b8 b10 r11 r12 hn13
    refine w_t (np := 5) (l2 := [some (eR a0), some (eI (a1)), some (eI (i7)), some (eI (i9))]) (s2 := [eI (i9)]) rfl rfl rfl ?_
    refine w_t (np := 6) (l2 := [some (eR a0), some (eI (a1)), some (eI (i7)), some (eI (i9))]) (s2 := [eR a0, eI (i9)]) rfl (s_an rfl (pos_g hI gA0 (by decide))) rfl ?_
    refine w_gf (np := 9) (v := eI (co)) rfl rfl (hI.kd gA0 (by decide) (n := 8) rfl) (by rw [h_co]; rfl) ?_
    refine b_cge (t1 := 31) (t2 := 12) rfl rfl rfl (ev_w_in (by omega) (by omega)) (ev_w_in (by omega) (by omega)) (fun g14 => ?_) (fun g14 => ?_)
    · refine w_t (np := 32) (l2 := [some (eR a0), some (eI (a1)), some (eI (i7)), some (eI (i9))]) (s2 := [eI (i7)]) rfl rfl rfl ?_
      exact b_ri rfl rfl (K (i7) (by omega) (fc_e r11 e2 (show i9 = co by omega)))
    · have b15 : 0 ≤ i9 ∧ i9 ≤ 49 := by omega
      have b16 : 1 ≤ co ∧ co ≤ 50 := by omega
      refine w_t (np := 13) (l2 := [some (eR a0), some (eI (a1)), some (eI (i7)), some (eI (i9))]) (s2 := [eR a0]) rfl (s_an rfl (pos_g hI gA0 (by decide))) rfl ?_
      refine w_gf (np := 16) (v := eR v1) rfl rfl (hI.kd gA0 (by decide) (n := 8) rfl) (by rw [e2]; rfl) ?_
      refine w_t (np := 17) (l2 := [some (eR a0), some (eI (a1)), some (eI (i7)), some (eI (i9))]) (s2 := [eI (i9), eR v1]) rfl rfl rfl ?_
      refine j_al (np := 18) rfl rfl hI b3 (by decide) (n := 50) rfl rfl (lo := 0) (hi := 1) (fun _ => rfl) (by omega) (by omega) ?_
      intro v15 e16 b17
      refine w_t (np := 19) (l2 := [some (eR a0), some (eI (a1)), some (eI (i7)), some (eI (i9))]) (s2 := [eI (a1), eI (v15)]) rfl rfl rfl ?_
      refine b_cne (t1 := 25) (t2 := 22) rfl rfl rfl (ev_w_in (by omega) (by omega)) (ev_w_in (by omega) (by omega)) (fun g18 => ?_) (fun g18 => ?_)
      · have b19 : 0 ≤ v15 ∧ v15 ≤ 0 := by omega
        obtain ⟨v19, e20⟩ : ∃ zz : Int, zz = (i9) + (1) := ⟨_, rfl⟩
        have b21 : 1 ≤ v19 ∧ v19 ≤ 50 := by omega
        refine w_t (np := 28) (l2 := [some (eR a0), some (eI (a1)), some (eI (i7)), some (eI (v19))]) (s2 := []) rfl (b_iinc rfl (by rw [← e20]; exact ev_w_in (by omega) (by omega)) rfl) rfl ?_
        refine w_go (t1 := 4) rfl rfl ?_
        exact ih6 (890 - (v19)).toNat (by omega) (i7) (v19) (by omega) (by omega)    (fc_n (by omega) (by omega) r11 e16 (by omega) (by omega)) (by omega) rfl
      · have b19 : 1 ≤ v15 ∧ v15 ≤ 1 := by omega
        obtain ⟨v19, e20⟩ : ∃ zz : Int, zz = (i7) + (1) := ⟨_, rfl⟩
        have b21 : 1 ≤ v19 ∧ v19 ≤ 891 := by omega
        refine w_t (np := 25) (l2 := [some (eR a0), some (eI (a1)), some (eI (v19)), some (eI (i9))]) (s2 := []) rfl (b_iinc rfl (by rw [← e20]; exact ev_w_in (by omega) (by omega)) rfl) rfl ?_
        obtain ⟨v22, e23⟩ : ∃ zz : Int, zz = (i9) + (1) := ⟨_, rfl⟩
        have b24 : 1 ≤ v22 ∧ v22 ≤ 50 := by omega
        refine w_t (np := 28) (l2 := [some (eR a0), some (eI (a1)), some (eI (v19)), some (eI (v22))]) (s2 := []) rfl (b_iinc rfl (by rw [← e23]; exact ev_w_in (by omega) (by omega)) rfl) rfl ?_
        refine w_go (t1 := 4) rfl rfl ?_
        exact ih6 (890 - (v22)).toNat (by omega) (v19) (v22) (by omega) (by omega)    (fc_y (by omega) (by omega) r11 e16 (by omega) (by omega)) (by omega) rfl
  exact hL4 _ (0) (0) (by decide) (by decide)    rfl (by omega) rfl
theorem s_25k_2 {L : Nat} {ρ : Nat → Int} {rc : eQ} {d : Nat} {f : eFr} {F : List eFr} {μ : eM} {g : Nat → Nat} {a0 : Nat} {a1 : Int} {co : Int} (hI : SI g μ) (gA0 : g a0 = 7) (bA1 : 1 ≤ a1 ∧ a1 ≤ 1) (h_co : μ.1 a0 7 = co) (K : ∀ (v : Int), (0 ≤ v ∧ v ≤ 890) → (v = (fcnt (fun x => μ.1 (μ.1 a0 0).toNat x - 1) (co).toNat : Int)) → ex_q (dt_fg L ρ) rc (d + 1, (f.1, f.2.1, f.2.2.1, eI v :: f.2.2.2), F, μ)) : ex_q (dt_fg L ρ) rc (d, (25, 0, [some (eR a0), some (eI (a1)), none, none], []), f :: F, μ) := by
  have b_co : 0 ≤ co ∧ co ≤ 890 := by
    rw [← h_co]
    exact hI.int gA0 (by decide) (n := 8) rfl (by decide) rfl
  obtain ⟨v1, e2, b3, z4⟩ := hI.ref (k := 0) gA0 (by decide) (n := 8) rfl (by decide) rfl
  have b3 : g v1 = 8 := Nat.eq_of_beq_eq_true b3
  refine w_t (np := 1) (l2 := [some (eR a0), some (eI (a1)), none, none]) (s2 := [eI (0)]) rfl rfl rfl ?_
  refine w_t (np := 2) (l2 := [some (eR a0), some (eI (a1)), some (eI (0)), none]) (s2 := []) rfl rfl rfl ?_
  refine w_t (np := 3) (l2 := [some (eR a0), some (eI (a1)), some (eI (0)), none]) (s2 := [eI (0)]) rfl rfl rfl ?_
  refine w_t (np := 4) (l2 := [some (eR a0), some (eI (a1)), some (eI (0)), some (eI (0))]) (s2 := []) rfl rfl rfl ?_
  have hL4 : ∀ (n5 : Nat) (i7 : Int) (i9 : Int), (0 ≤ i7 ∧ i7 ≤ 890) → (0 ≤ i9 ∧ i9 ≤ 890) → i7 = (fcnt (fun x => μ.1 v1 x - 1) (i9).toNat : Int) → i7 ≤ i9 ∧ i9 ≤ co → n5 = (890 - i9).toNat → ex_q (dt_fg L ρ) rc (d, (25, 4, [some (eR a0), some (eI (a1)), some (eI (i7)), some (eI (i9))], []), f :: F, μ) := by
    intro n5
    induction n5 using Nat.strongRecOn with
    | _ n5 ih6 =>
    intro i7 i9 b8 b10 r11 r12 hn13
    refine w_t (np := 5) (l2 := [some (eR a0), some (eI (a1)), some (eI (i7)), some (eI (i9))]) (s2 := [eI (i9)]) rfl rfl rfl ?_
    refine w_t (np := 6) (l2 := [some (eR a0), some (eI (a1)), some (eI (i7)), some (eI (i9))]) (s2 := [eR a0, eI (i9)]) rfl (s_an rfl (pos_g hI gA0 (by decide))) rfl ?_
    refine w_gf (np := 9) (v := eI (co)) rfl rfl (hI.kd gA0 (by decide) (n := 8) rfl) (by rw [h_co]; rfl) ?_
    refine b_cge (t1 := 31) (t2 := 12) rfl rfl rfl (ev_w_in (by omega) (by omega)) (ev_w_in (by omega) (by omega)) (fun g14 => ?_) (fun g14 => ?_)
    · refine w_t (np := 32) (l2 := [some (eR a0), some (eI (a1)), some (eI (i7)), some (eI (i9))]) (s2 := [eI (i7)]) rfl rfl rfl ?_
      exact b_ri rfl rfl (K (i7) (by omega) (fc_e r11 e2 (show i9 = co by omega)))
    · have b15 : 0 ≤ i9 ∧ i9 ≤ 889 := by omega
      have b16 : 1 ≤ co ∧ co ≤ 890 := by omega
      refine w_t (np := 13) (l2 := [some (eR a0), some (eI (a1)), some (eI (i7)), some (eI (i9))]) (s2 := [eR a0]) rfl (s_an rfl (pos_g hI gA0 (by decide))) rfl ?_
      refine w_gf (np := 16) (v := eR v1) rfl rfl (hI.kd gA0 (by decide) (n := 8) rfl) (by rw [e2]; rfl) ?_
      refine w_t (np := 17) (l2 := [some (eR a0), some (eI (a1)), some (eI (i7)), some (eI (i9))]) (s2 := [eI (i9), eR v1]) rfl rfl rfl ?_
      refine j_al (np := 18) rfl rfl hI b3 (by decide) (n := 890) rfl rfl (lo := 0) (hi := 1) (fun _ => rfl) (by omega) (by omega) ?_
      intro v15 e16 b17
      refine w_t (np := 19) (l2 := [some (eR a0), some (eI (a1)), some (eI (i7)), some (eI (i9))]) (s2 := [eI (a1), eI (v15)]) rfl rfl rfl ?_
      refine b_cne (t1 := 25) (t2 := 22) rfl rfl rfl (ev_w_in (by omega) (by omega)) (ev_w_in (by omega) (by omega)) (fun g18 => ?_) (fun g18 => ?_)
      · have b19 : 0 ≤ v15 ∧ v15 ≤ 0 := by omega
        obtain ⟨v19, e20⟩ : ∃ zz : Int, zz = (i9) + (1) := ⟨_, rfl⟩
        have b21 : 1 ≤ v19 ∧ v19 ≤ 890 := by omega
        refine w_t (np := 28) (l2 := [some (eR a0), some (eI (a1)), some (eI (i7)), some (eI (v19))]) (s2 := []) rfl (b_iinc rfl (by rw [← e20]; exact ev_w_in (by omega) (by omega)) rfl) rfl ?_
        refine w_go (t1 := 4) rfl rfl ?_
        exact ih6 (890 - (v19)).toNat (by omega) (i7) (v19) (by omega) (by omega)    (fc_n (by omega) (by omega) r11 e16 (by omega) (by omega)) (by omega) rfl
      · have b19 : 1 ≤ v15 ∧ v15 ≤ 1 := by omega
        obtain ⟨v19, e20⟩ : ∃ zz : Int, zz = (i7) + (1) := ⟨_, rfl⟩
        have b21 : 1 ≤ v19 ∧ v19 ≤ 891 := by omega
        refine w_t (np := 25) (l2 := [some (eR a0), some (eI (a1)), some (eI (v19)), some (eI (i9))]) (s2 := []) rfl (b_iinc rfl (by rw [← e20]; exact ev_w_in (by omega) (by omega)) rfl) rfl ?_
        obtain ⟨v22, e23⟩ : ∃ zz : Int, zz = (i9) + (1) := ⟨_, rfl⟩
        have b24 : 1 ≤ v22 ∧ v22 ≤ 890 := by omega
        refine w_t (np := 28) (l2 := [some (eR a0), some (eI (a1)), some (eI (v19)), some (eI (v22))]) (s2 := []) rfl (b_iinc rfl (by rw [← e23]; exact ev_w_in (by omega) (by omega)) rfl) rfl ?_
        refine w_go (t1 := 4) rfl rfl ?_
        exact ih6 (890 - (v22)).toNat (by omega) (v19) (v22) (by omega) (by omega)    (fc_y (by omega) (by omega) r11 e16 (by omega) (by omega)) (by omega) rfl
  exact hL4 _ (0) (0) (by decide) (by decide)    rfl (by omega) rfl
def l_32 : List Nat := [1024, 1280, 1536, 768, 4096, 3328, 4352, 3584, 3843, 3075]
theorem s_32 {L : Nat} {ρ : Nat → Int} {rc : eQ} {d : Nat} {f : eFr} {F : List eFr} {μ : eM} {g : Nat → Nat} {a0 : Nat} {a1 : Int} {a2 : Int} (hI : SI g μ) (gA0 : g a0 = 2) (bA1 : 0 ≤ a1 ∧ a1 ≤ 49) (bA2 : 0 ≤ a2 ∧ a2 ≤ 48) (K : ∀ (μ2 : eM), SI g μ2 → Fr l_32 0 0 g μ μ2 → (∀ j : Nat, (j : Int) < a2 → μ2.1 (μ.1 a0 0).toNat j = μ.1 (μ.1 a0 0).toNat j) → ex_q (dt_fg L ρ) rc (d + 3, (f.1, f.2.1, f.2.2.1, f.2.2.2), F, μ2)) : ex_q (dt_fg L ρ) rc (d + 2, (32, 0, [some (eR a0), some (eI (a1)), some (eI (a2)), none, none, none, none, none, none, none], []), f :: F, μ) := by
  have F0 : Fr l_32 0 0 g μ μ := Fr.r
  obtain ⟨v1, e2, b3, z4⟩ := hI.ref (k := 0) gA0 (by decide) (n := 8) rfl (by decide) rfl
  have b3 : g v1 = 3 := Nat.eq_of_beq_eq_true b3
  have kq0 : ∀ j : Nat, (j : Int) < a2 → μ.1 v1 j = μ.1 v1 j := fun _ _ => rfl
  refine w_t (np := 1) (l2 := [some (eR a0), some (eI (a1)), some (eI (a2)), none, none, none, none, none, none, none]) (s2 := [eR a0]) rfl (s_an rfl (pos_g hI gA0 (by decide))) rfl ?_
  refine j_gr (np := 4) rfl rfl hI gA0 (by decide) (n := 8) rfl rfl rfl ?_
  intro v5 e6 b7 z8
  have b7 : g v5 = 5 := Nat.eq_of_beq_eq_true b7
  refine w_t (np := 5) (l2 := [some (eR a0), some (eI (a1)), some (eI (a2)), none, none, none, none, none, none, none]) (s2 := [eI (3), eR v5]) rfl rfl rfl ?_
  refine w_t (np := 6) (l2 := [some (eR a0), some (eI (a1)), some (eI (a2)), none, none, none, none, none, none, none]) (s2 := [eI (a1), eI (3), eR v5]) rfl rfl rfl ?_
  obtain ⟨v9, e10⟩ : ∃ zz : Int, zz = (3) * (a1) := ⟨_, rfl⟩
  have b11 : 0 ≤ v9 ∧ v9 ≤ 147 := by omega
  refine w_t (np := 7) (l2 := [some (eR a0), some (eI (a1)), some (eI (a2)), none, none, none, none, none, none, none]) (s2 := [eI (v9), eR v5]) rfl (b_imul (by rw [← e10]; exact ev_w_in (by omega) (by omega))) rfl ?_
  refine j_al (np := 8) rfl rfl hI b7 (by decide) (n := 150) rfl rfl (lo := 0) (hi := 511) (fun _ => rfl) (by omega) (by omega) ?_
  intro v12 e13 b14
  refine w_t (np := 9) (l2 := [some (eR a0), some (eI (a1)), some (eI (a2)), some (eI (v12)), none, none, none, none, none, none]) (s2 := []) rfl rfl rfl ?_
  refine w_t (np := 10) (l2 := [some (eR a0), some (eI (a1)), some (eI (a2)), some (eI (v12)), none, none, none, none, none, none]) (s2 := [eR a0]) rfl (s_an rfl (pos_g hI gA0 (by decide))) rfl ?_
  refine w_gf (np := 13) (v := eR v5) rfl rfl (hI.kd gA0 (by decide) (n := 8) rfl) (by rw [e6]; rfl) ?_
  refine w_t (np := 14) (l2 := [some (eR a0), some (eI (a1)), some (eI (a2)), some (eI (v12)), none, none, none, none, none, none]) (s2 := [eI (3), eR v5]) rfl rfl rfl ?_
  refine w_t (np := 15) (l2 := [some (eR a0), some (eI (a1)), some (eI (a2)), some (eI (v12)), none, none, none, none, none, none]) (s2 := [eI (a1), eI (3), eR v5]) rfl rfl rfl ?_
  obtain ⟨v15, e16⟩ : ∃ zz : Int, zz = (3) * (a1) := ⟨_, rfl⟩
  have b17 : 0 ≤ v15 ∧ v15 ≤ 147 := by omega
  refine w_t (np := 16) (l2 := [some (eR a0), some (eI (a1)), some (eI (a2)), some (eI (v12)), none, none, none, none, none, none]) (s2 := [eI (v15), eR v5]) rfl (b_imul (by rw [← e16]; exact ev_w_in (by omega) (by omega))) rfl ?_
  refine w_t (np := 17) (l2 := [some (eR a0), some (eI (a1)), some (eI (a2)), some (eI (v12)), none, none, none, none, none, none]) (s2 := [eI (1), eI (v15), eR v5]) rfl rfl rfl ?_
  obtain ⟨v18, e19⟩ : ∃ zz : Int, zz = (v15) + (1) := ⟨_, rfl⟩
  have b20 : 1 ≤ v18 ∧ v18 ≤ 148 := by omega
  refine w_t (np := 18) (l2 := [some (eR a0), some (eI (a1)), some (eI (a2)), some (eI (v12)), none, none, none, none, none, none]) (s2 := [eI (v18), eR v5]) rfl (b_iadd (by rw [← e19]; exact ev_w_in (by omega) (by omega))) rfl ?_
  refine j_al (np := 19) rfl rfl hI b7 (by decide) (n := 150) rfl rfl (lo := 0) (hi := 511) (fun _ => rfl) (by omega) (by omega) ?_
  intro v21 e22 b23
  refine w_t (np := 21) (l2 := [some (eR a0), some (eI (a1)), some (eI (a2)), some (eI (v12)), some (eI (v21)), none, none, none, none, none]) (s2 := []) rfl rfl rfl ?_
  refine w_t (np := 22) (l2 := [some (eR a0), some (eI (a1)), some (eI (a2)), some (eI (v12)), some (eI (v21)), none, none, none, none, none]) (s2 := [eR a0]) rfl (s_an rfl (pos_g hI gA0 (by decide))) rfl ?_
  refine w_gf (np := 25) (v := eR v5) rfl rfl (hI.kd gA0 (by decide) (n := 8) rfl) (by rw [e6]; rfl) ?_
  refine w_t (np := 26) (l2 := [some (eR a0), some (eI (a1)), some (eI (a2)), some (eI (v12)), some (eI (v21)), none, none, none, none, none]) (s2 := [eI (3), eR v5]) rfl rfl rfl ?_
  refine w_t (np := 27) (l2 := [some (eR a0), some (eI (a1)), some (eI (a2)), some (eI (v12)), some (eI (v21)), none, none, none, none, none]) (s2 := [eI (a1), eI (3), eR v5]) rfl rfl rfl ?_
  obtain ⟨v24, e25⟩ : ∃ zz : Int, zz = (3) * (a1) := ⟨_, rfl⟩
  have b26 : 0 ≤ v24 ∧ v24 ≤ 147 := by omega
  refine w_t (np := 28) (l2 := [some (eR a0), some (eI (a1)), some (eI (a2)), some (eI (v12)), some (eI (v21)), none, none, none, none, none]) (s2 := [eI (v24), eR v5]) rfl (b_imul (by rw [← e25]; exact ev_w_in (by omega) (by omega))) rfl ?_
  refine w_t (np := 29) (l2 := [some (eR a0), some (eI (a1)), some (eI (a2)), some (eI (v12)), some (eI (v21)), none, none, none, none, none]) (s2 := [eI (2), eI (v24), eR v5]) rfl rfl rfl ?_
  obtain ⟨v27, e28⟩ : ∃ zz : Int, zz = (v24) + (2) := ⟨_, rfl⟩
  have b29 : 2 ≤ v27 ∧ v27 ≤ 149 := by omega
  refine w_t (np := 30) (l2 := [some (eR a0), some (eI (a1)), some (eI (a2)), some (eI (v12)), some (eI (v21)), none, none, none, none, none]) (s2 := [eI (v27), eR v5]) rfl (b_iadd (by rw [← e28]; exact ev_w_in (by omega) (by omega))) rfl ?_
  refine j_al (np := 31) rfl rfl hI b7 (by decide) (n := 150) rfl rfl (lo := 0) (hi := 511) (fun _ => rfl) (by omega) (by omega) ?_
  intro v30 e31 b32
  refine w_t (np := 33) (l2 := [some (eR a0), some (eI (a1)), some (eI (a2)), some (eI (v12)), some (eI (v21)), some (eI (v30)), none, none, none, none]) (s2 := []) rfl rfl rfl ?_
  refine w_t (np := 34) (l2 := [some (eR a0), some (eI (a1)), some (eI (a2)), some (eI (v12)), some (eI (v21)), some (eI (v30)), none, none, none, none]) (s2 := [eR a0]) rfl (s_an rfl (pos_g hI gA0 (by decide))) rfl ?_
  refine j_gr (np := 37) rfl rfl hI gA0 (by decide) (n := 8) rfl rfl rfl ?_
  intro v33 e34 b35 z36
  have b35 : g v33 = 6 := Nat.eq_of_beq_eq_true b35
  refine w_t (np := 38) (l2 := [some (eR a0), some (eI (a1)), some (eI (a2)), some (eI (v12)), some (eI (v21)), some (eI (v30)), none, none, none, none]) (s2 := [eI (2), eR v33]) rfl rfl rfl ?_
  refine w_t (np := 39) (l2 := [some (eR a0), some (eI (a1)), some (eI (a2)), some (eI (v12)), some (eI (v21)), some (eI (v30)), none, none, none, none]) (s2 := [eI (a1), eI (2), eR v33]) rfl rfl rfl ?_
  obtain ⟨v37, e38⟩ : ∃ zz : Int, zz = (2) * (a1) := ⟨_, rfl⟩
  have b39 : 0 ≤ v37 ∧ v37 ≤ 98 := by omega
  refine w_t (np := 40) (l2 := [some (eR a0), some (eI (a1)), some (eI (a2)), some (eI (v12)), some (eI (v21)), some (eI (v30)), none, none, none, none]) (s2 := [eI (v37), eR v33]) rfl (b_imul (by rw [← e38]; exact ev_w_in (by omega) (by omega))) rfl ?_
  refine j_al (np := 41) rfl rfl hI b35 (by decide) (n := 100) rfl rfl (lo := 0) (hi := 9) (fun _ => rfl) (by omega) (by omega) ?_
  intro v40 e41 b42
  refine w_t (np := 43) (l2 := [some (eR a0), some (eI (a1)), some (eI (a2)), some (eI (v12)), some (eI (v21)), some (eI (v30)), some (eI (v40)), none, none, none]) (s2 := []) rfl rfl rfl ?_
  refine w_t (np := 44) (l2 := [some (eR a0), some (eI (a1)), some (eI (a2)), some (eI (v12)), some (eI (v21)), some (eI (v30)), some (eI (v40)), none, none, none]) (s2 := [eR a0]) rfl (s_an rfl (pos_g hI gA0 (by decide))) rfl ?_
  refine w_t (np := 45) (l2 := [some (eR a0), some (eI (a1)), some (eI (a2)), some (eI (v12)), some (eI (v21)), some (eI (v30)), some (eI (v40)), none, none, none]) (s2 := [eI (a1), eR a0]) rfl rfl rfl ?_
  refine w_cw (np := 48) (as := [eI (a1)]) (l2 := [some (eR a0), some (eI (a1))]) (rest := []) rfl rfl rfl (Nat.ble_eq.mp rfl) rfl rfl rfl (hI.kd gA0 (by decide) (n := 8) rfl) rfl ?_
  refine s_24 (a1 := a1) hI gA0 (by omega) ?_
  intro v43 b44
  show ex_q (dt_fg L ρ) rc (d + 2, (32, 48, [some (eR a0), some (eI (a1)), some (eI (a2)), some (eI (v12)), some (eI (v21)), some (eI (v30)), some (eI (v40)), none, none, none], [eI (v43)]), f :: F, μ)
  refine w_t (np := 50) (l2 := [some (eR a0), some (eI (a1)), some (eI (a2)), some (eI (v12)), some (eI (v21)), some (eI (v30)), some (eI (v40)), some (eI (v43)), none, none]) (s2 := []) rfl rfl rfl ?_
  refine w_t (np := 51) (l2 := [some (eR a0), some (eI (a1)), some (eI (a2)), some (eI (v12)), some (eI (v21)), some (eI (v30)), some (eI (v40)), some (eI (v43)), none, none]) (s2 := [eI (3)]) rfl rfl rfl ?_
  refine w_t (np := 52) (l2 := [some (eR a0), some (eI (a1)), some (eI (a2)), some (eI (v12)), some (eI (v21)), some (eI (v30)), some (eI (v40)), some (eI (v43)), none, none]) (s2 := [eR a0, eI (3)]) rfl (s_an rfl (pos_g hI gA0 (by decide))) rfl ?_
  refine j_gr (np := 55) rfl rfl hI gA0 (by decide) (n := 8) rfl rfl rfl ?_
  intro v45 e46 b47 z48
  have b47 : g v45 = 4 := Nat.eq_of_beq_eq_true b47
  refine w_t (np := 56) (l2 := [some (eR a0), some (eI (a1)), some (eI (a2)), some (eI (v12)), some (eI (v21)), some (eI (v30)), some (eI (v40)), some (eI (v43)), none, none]) (s2 := [eI (a1), eR v45, eI (3)]) rfl rfl rfl ?_
  refine j_al (np := 57) rfl rfl hI b47 (by decide) (n := 50) rfl rfl (lo := -2147483648) (hi := 2147483647) (fun _ => rfl) (by omega) (by omega) ?_
  intro v49 e50 b51
  obtain ⟨v52, e53, b54⟩ : ∃ zz : Int, ev_w ((3) * (v49)) = zz ∧ (-2147483648 ≤ zz ∧ zz ≤ 2147483647) := ⟨_, rfl, hw_bd _⟩
  refine w_t (np := 58) (l2 := [some (eR a0), some (eI (a1)), some (eI (a2)), some (eI (v12)), some (eI (v21)), some (eI (v30)), some (eI (v40)), some (eI (v43)), none, none]) (s2 := [eI (v52)]) rfl (b_imul e53) rfl ?_
  refine w_t (np := 60) (l2 := [some (eR a0), some (eI (a1)), some (eI (a2)), some (eI (v12)), some (eI (v21)), some (eI (v30)), some (eI (v40)), some (eI (v43)), some (eI (v52)), none]) (s2 := []) rfl rfl rfl ?_
  refine w_t (np := 61) (l2 := [some (eR a0), some (eI (a1)), some (eI (a2)), some (eI (v12)), some (eI (v21)), some (eI (v30)), some (eI (v40)), some (eI (v43)), some (eI (v52)), none]) (s2 := [eR a0]) rfl (s_an rfl (pos_g hI gA0 (by decide))) rfl ?_
  refine j_gr (np := 64) rfl rfl hI gA0 (by decide) (n := 8) rfl rfl rfl ?_
  intro v55 e56 b57 z58
  rcases hor2 b57 with b57 | b57
  · refine w_t (np := 65) (l2 := [some (eR a0), some (eI (a1)), some (eI (a2)), some (eI (v12)), some (eI (v21)), some (eI (v30)), some (eI (v40)), some (eI (v43)), some (eI (v52)), none]) (s2 := [eR a0, eR v55]) rfl (s_an rfl (pos_g hI gA0 (by decide))) rfl ?_
    refine w_gf (np := 68) (v := eR v55) rfl rfl (hI.kd gA0 (by decide) (n := 8) rfl) (by rw [e56]; rfl) ?_
    refine w_t (np := 69) (l2 := [some (eR a0), some (eI (a1)), some (eI (a2)), some (eI (v12)), some (eI (v21)), some (eI (v30)), some (eI (v40)), some (eI (v43)), some (eI (v52)), none]) (s2 := [eI (v12), eR v55, eR v55]) rfl rfl rfl ?_
    refine w_cw (np := 72) (as := [eI (v12)]) (l2 := [some (eR v55), some (eI (v12))]) (rest := [eR v55]) rfl rfl rfl (Nat.ble_eq.mp rfl) rfl rfl rfl (hI.kd b57 (by decide) (n := 3) rfl) rfl ?_
    refine s_44 (a1 := v12) hI b57 (by omega) ?_
    intro v59 b60
    show ex_q (dt_fg L ρ) rc (d + 2, (32, 72, [some (eR a0), some (eI (a1)), some (eI (a2)), some (eI (v12)), some (eI (v21)), some (eI (v30)), some (eI (v40)), some (eI (v43)), some (eI (v52)), none], [eJ (v59), eR v55]), f :: F, μ)
    refine w_t (np := 74) (l2 := [some (eR a0), some (eI (a1)), some (eI (a2)), some (eI (v12)), some (eI (v21)), some (eI (v30)), some (eI (v40)), some (eI (v43)), some (eI (v52)), none]) (s2 := [eI (v40), eJ (v59), eR v55]) rfl rfl rfl ?_
    refine w_cu (np := 77) (as := [eI (v40)]) (l2 := [some (eI (v40))]) (rest := [eJ (v59), eR v55]) rfl rfl rfl (Nat.ble_eq.mp rfl) rfl rfl rfl rfl ?_
    refine s_74 (a0 := v40) hI (by omega) ?_
    intro v61 b62
    show ex_q (dt_fg L ρ) rc (d + 2, (32, 77, [some (eR a0), some (eI (a1)), some (eI (a2)), some (eI (v12)), some (eI (v21)), some (eI (v30)), some (eI (v40)), some (eI (v43)), some (eI (v52)), none], [eJ (v61), eJ (v59), eR v55]), f :: F, μ)
    refine w_cu (np := 80) (as := [eJ (v59), eJ (v61)]) (l2 := [some (eJ (v59)), none, some (eJ (v61)), none]) (rest := [eR v55]) rfl rfl rfl (Nat.ble_eq.mp rfl) rfl rfl rfl rfl ?_
    refine s_75 hI b60 b62 ?_
    intro v63 b64
    show ex_q (dt_fg L ρ) rc (d + 2, (32, 80, [some (eR a0), some (eI (a1)), some (eI (a2)), some (eI (v12)), some (eI (v21)), some (eI (v30)), some (eI (v40)), some (eI (v43)), some (eI (v52)), none], [eJ (v63), eR v55]), f :: F, μ)
    refine w_cw (np := 83) (as := [eJ (v63)]) (l2 := [some (eR v55), some (eJ (v63)), none, none]) (rest := []) rfl rfl rfl (Nat.ble_eq.mp rfl) rfl rfl rfl (hI.kd b57 (by decide) (n := 3) rfl) rfl ?_
    refine s_46 hI b57 b64 ?_
    intro m65 v68 I66 F67 b69
    have F70 : Fr l_32 0 0 g μ m65 := F0.t F67 rfl
    have q71 := kq_fr kq0 F67 b3 (by decide) rfl rfl
    show ex_q (dt_fg L ρ) rc (d + 2, (32, 83, [some (eR a0), some (eI (a1)), some (eI (a2)), some (eI (v12)), some (eI (v21)), some (eI (v30)), some (eI (v40)), some (eI (v43)), some (eI (v52)), none], [eI (v68)]), f :: F, m65)
    refine w_t (np := 85) (l2 := [some (eR a0), some (eI (a1)), some (eI (a2)), some (eI (v12)), some (eI (v21)), some (eI (v30)), some (eI (v40)), some (eI (v43)), some (eI (v52)), some (eI (v68))]) (s2 := []) rfl rfl rfl ?_
    refine w_t (np := 86) (l2 := [some (eR a0), some (eI (a1)), some (eI (a2)), some (eI (v12)), some (eI (v21)), some (eI (v30)), some (eI (v40)), some (eI (v43)), some (eI (v52)), some (eI (v68))]) (s2 := [eR a0]) rfl (s_an rfl (pos_g I66 gA0 (by decide))) rfl ?_
    refine w_t (np := 87) (l2 := [some (eR a0), some (eI (a1)), some (eI (a2)), some (eI (v12)), some (eI (v21)), some (eI (v30)), some (eI (v40)), some (eI (v43)), some (eI (v52)), some (eI (v68))]) (s2 := [eI (a2), eR a0]) rfl rfl rfl ?_
    refine w_t (np := 88) (l2 := [some (eR a0), some (eI (a1)), some (eI (a2)), some (eI (v12)), some (eI (v21)), some (eI (v30)), some (eI (v40)), some (eI (v43)), some (eI (v52)), some (eI (v68))]) (s2 := [eI (0), eI (a2), eR a0]) rfl rfl rfl ?_
    refine w_t (np := 90) (l2 := [some (eR a0), some (eI (a1)), some (eI (a2)), some (eI (v12)), some (eI (v21)), some (eI (v30)), some (eI (v40)), some (eI (v43)), some (eI (v52)), some (eI (v68))]) (s2 := [eI (v52), eI (0), eI (a2), eR a0]) rfl rfl rfl ?_
    refine w_t (np := 92) (l2 := [some (eR a0), some (eI (a1)), some (eI (a2)), some (eI (v12)), some (eI (v21)), some (eI (v30)), some (eI (v40)), some (eI (v43)), some (eI (v52)), some (eI (v68))]) (s2 := [eI (v40), eI (v52), eI (0), eI (a2), eR a0]) rfl rfl rfl ?_
    refine w_t (np := 94) (l2 := [some (eR a0), some (eI (a1)), some (eI (a2)), some (eI (v12)), some (eI (v21)), some (eI (v30)), some (eI (v40)), some (eI (v43)), some (eI (v52)), some (eI (v68))]) (s2 := [eI (7), eI (v40), eI (v52), eI (0), eI (a2), eR a0]) rfl rfl rfl ?_
    refine w_t (np := 96) (l2 := [some (eR a0), some (eI (a1)), some (eI (a2)), some (eI (v12)), some (eI (v21)), some (eI (v30)), some (eI (v40)), some (eI (v43)), some (eI (v52)), some (eI (v68))]) (s2 := [eI (v43), eI (7), eI (v40), eI (v52), eI (0), eI (a2), eR a0]) rfl rfl rfl ?_
    obtain ⟨v72, e73⟩ : ∃ zz : Int, zz = (7) * (v43) := ⟨_, rfl⟩
    have b74 : -7 ≤ v72 ∧ v72 ≤ 7 := by omega
    refine w_t (np := 97) (l2 := [some (eR a0), some (eI (a1)), some (eI (a2)), some (eI (v12)), some (eI (v21)), some (eI (v30)), some (eI (v40)), some (eI (v43)), some (eI (v52)), some (eI (v68))]) (s2 := [eI (v72), eI (v40), eI (v52), eI (0), eI (a2), eR a0]) rfl (b_imul (by rw [← e73]; exact ev_w_in (by omega) (by omega))) rfl ?_
    obtain ⟨v75, e76⟩ : ∃ zz : Int, zz = (v40) + (v72) := ⟨_, rfl⟩
    have b77 : -7 ≤ v75 ∧ v75 ≤ 16 := by omega
    refine w_t (np := 98) (l2 := [some (eR a0), some (eI (a1)), some (eI (a2)), some (eI (v12)), some (eI (v21)), some (eI (v30)), some (eI (v40)), some (eI (v43)), some (eI (v52)), some (eI (v68))]) (s2 := [eI (v75), eI (v52), eI (0), eI (a2), eR a0]) rfl (b_iadd (by rw [← e76]; exact ev_w_in (by omega) (by omega))) rfl ?_
    refine w_t (np := 100) (l2 := [some (eR a0), some (eI (a1)), some (eI (a2)), some (eI (v12)), some (eI (v21)), some (eI (v30)), some (eI (v40)), some (eI (v43)), some (eI (v52)), some (eI (v68))]) (s2 := [eI (v40), eI (v75), eI (v52), eI (0), eI (a2), eR a0]) rfl rfl rfl ?_
    refine w_t (np := 102) (l2 := [some (eR a0), some (eI (a1)), some (eI (a2)), some (eI (v12)), some (eI (v21)), some (eI (v30)), some (eI (v40)), some (eI (v43)), some (eI (v52)), some (eI (v68))]) (s2 := [eI (8), eI (v40), eI (v75), eI (v52), eI (0), eI (a2), eR a0]) rfl rfl rfl ?_
    refine w_t (np := 104) (l2 := [some (eR a0), some (eI (a1)), some (eI (a2)), some (eI (v12)), some (eI (v21)), some (eI (v30)), some (eI (v40)), some (eI (v43)), some (eI (v52)), some (eI (v68))]) (s2 := [eI (v43), eI (8), eI (v40), eI (v75), eI (v52), eI (0), eI (a2), eR a0]) rfl rfl rfl ?_
    obtain ⟨v78, e79⟩ : ∃ zz : Int, zz = (8) * (v43) := ⟨_, rfl⟩
    have b80 : -8 ≤ v78 ∧ v78 ≤ 8 := by omega
    refine w_t (np := 105) (l2 := [some (eR a0), some (eI (a1)), some (eI (a2)), some (eI (v12)), some (eI (v21)), some (eI (v30)), some (eI (v40)), some (eI (v43)), some (eI (v52)), some (eI (v68))]) (s2 := [eI (v78), eI (v40), eI (v75), eI (v52), eI (0), eI (a2), eR a0]) rfl (b_imul (by rw [← e79]; exact ev_w_in (by omega) (by omega))) rfl ?_
    obtain ⟨v81, e82⟩ : ∃ zz : Int, zz = (v40) + (v78) := ⟨_, rfl⟩
    have b83 : -8 ≤ v81 ∧ v81 ≤ 17 := by omega
    refine w_t (np := 106) (l2 := [some (eR a0), some (eI (a1)), some (eI (a2)), some (eI (v12)), some (eI (v21)), some (eI (v30)), some (eI (v40)), some (eI (v43)), some (eI (v52)), some (eI (v68))]) (s2 := [eI (v81), eI (v75), eI (v52), eI (0), eI (a2), eR a0]) rfl (b_iadd (by rw [← e82]; exact ev_w_in (by omega) (by omega))) rfl ?_
    refine w_cw (np := 109) (as := [eI (a2), eI (0), eI (v52), eI (v75), eI (v81)]) (l2 := [some (eR a0), some (eI (a2)), some (eI (0)), some (eI (v52)), some (eI (v75)), some (eI (v81))]) (rest := []) rfl rfl rfl (Nat.ble_eq.mp rfl) rfl rfl rfl (I66.kd gA0 (by decide) (n := 8) rfl) rfl ?_
    refine s_28k (a1 := a2) (a2 := 0) (a3 := v52) (a4 := v75) (a5 := v81) I66 gA0 (by omega) (by decide) (by omega) (by omega) (by omega) ?_
    intro m84 I85 F86 h87
    have F88 : Fr l_32 0 0 g μ m84 := F70.t F86 rfl
    have q89 := kq_sh q71 h87 (F67.k e2 gA0 (by decide) rfl) (by omega)
    show ex_q (dt_fg L ρ) rc (d + 2, (32, 109, [some (eR a0), some (eI (a1)), some (eI (a2)), some (eI (v12)), some (eI (v21)), some (eI (v30)), some (eI (v40)), some (eI (v43)), some (eI (v52)), some (eI (v68))], []), f :: F, m84)
    refine w_t (np := 110) (l2 := [some (eR a0), some (eI (a1)), some (eI (a2)), some (eI (v12)), some (eI (v21)), some (eI (v30)), some (eI (v40)), some (eI (v43)), some (eI (v52)), some (eI (v68))]) (s2 := [eR a0]) rfl (s_an rfl (pos_g I85 gA0 (by decide))) rfl ?_
    refine w_t (np := 111) (l2 := [some (eR a0), some (eI (a1)), some (eI (a2)), some (eI (v12)), some (eI (v21)), some (eI (v30)), some (eI (v40)), some (eI (v43)), some (eI (v52)), some (eI (v68))]) (s2 := [eI (a2), eR a0]) rfl rfl rfl ?_
    refine w_t (np := 113) (l2 := [some (eR a0), some (eI (a1)), some (eI (a2)), some (eI (v12)), some (eI (v21)), some (eI (v30)), some (eI (v40)), some (eI (v43)), some (eI (v52)), some (eI (v68))]) (s2 := [eI (v30), eI (a2), eR a0]) rfl rfl rfl ?_
    refine w_t (np := 115) (l2 := [some (eR a0), some (eI (a1)), some (eI (a2)), some (eI (v12)), some (eI (v21)), some (eI (v30)), some (eI (v40)), some (eI (v43)), some (eI (v52)), some (eI (v68))]) (s2 := [eI (v68), eI (v30), eI (a2), eR a0]) rfl rfl rfl ?_
    refine w_t (np := 117) (l2 := [some (eR a0), some (eI (a1)), some (eI (a2)), some (eI (v12)), some (eI (v21)), some (eI (v30)), some (eI (v40)), some (eI (v43)), some (eI (v52)), some (eI (v68))]) (s2 := [eI (v21), eI (v68), eI (v30), eI (a2), eR a0]) rfl rfl rfl ?_
    refine w_cw (np := 120) (as := [eI (a2), eI (v30), eI (v68), eI (v21)]) (l2 := [some (eR a0), some (eI (a2)), some (eI (v30)), some (eI (v68)), some (eI (v21))]) (rest := []) rfl rfl rfl (Nat.ble_eq.mp rfl) rfl rfl rfl (I85.kd gA0 (by decide) (n := 8) rfl) rfl ?_
    refine s_29 (a1 := a2) (a2 := v30) (a3 := v68) (a4 := v21) I85 gA0 (by omega) (by omega) (by omega) (by omega) ?_
    intro m90 I91 F92
    have F93 : Fr l_32 0 0 g μ m90 := F88.t F92 rfl
    have q94 := kq_fr q89 F92 b3 (by decide) rfl rfl
    show ex_q (dt_fg L ρ) rc (d + 2, (32, 120, [some (eR a0), some (eI (a1)), some (eI (a2)), some (eI (v12)), some (eI (v21)), some (eI (v30)), some (eI (v40)), some (eI (v43)), some (eI (v52)), some (eI (v68))], []), f :: F, m90)
    refine w_t (np := 121) (l2 := [some (eR a0), some (eI (a1)), some (eI (a2)), some (eI (v12)), some (eI (v21)), some (eI (v30)), some (eI (v40)), some (eI (v43)), some (eI (v52)), some (eI (v68))]) (s2 := [eR a0]) rfl (s_an rfl (pos_g I91 gA0 (by decide))) rfl ?_
    refine w_t (np := 122) (l2 := [some (eR a0), some (eI (a1)), some (eI (a2)), some (eI (v12)), some (eI (v21)), some (eI (v30)), some (eI (v40)), some (eI (v43)), some (eI (v52)), some (eI (v68))]) (s2 := [eI (a2), eR a0]) rfl rfl rfl ?_
    refine w_t (np := 123) (l2 := [some (eR a0), some (eI (a1)), some (eI (a2)), some (eI (v12)), some (eI (v21)), some (eI (v30)), some (eI (v40)), some (eI (v43)), some (eI (v52)), some (eI (v68))]) (s2 := [eI (1), eI (a2), eR a0]) rfl rfl rfl ?_
    obtain ⟨v95, e96⟩ : ∃ zz : Int, zz = (a2) + (1) := ⟨_, rfl⟩
    have b97 : 1 ≤ v95 ∧ v95 ≤ 49 := by omega
    refine w_t (np := 124) (l2 := [some (eR a0), some (eI (a1)), some (eI (a2)), some (eI (v12)), some (eI (v21)), some (eI (v30)), some (eI (v40)), some (eI (v43)), some (eI (v52)), some (eI (v68))]) (s2 := [eI (v95), eR a0]) rfl (b_iadd (by rw [← e96]; exact ev_w_in (by omega) (by omega))) rfl ?_
    refine w_t (np := 125) (l2 := [some (eR a0), some (eI (a1)), some (eI (a2)), some (eI (v12)), some (eI (v21)), some (eI (v30)), some (eI (v40)), some (eI (v43)), some (eI (v52)), some (eI (v68))]) (s2 := [eI (1), eI (v95), eR a0]) rfl rfl rfl ?_
    refine w_t (np := 127) (l2 := [some (eR a0), some (eI (a1)), some (eI (a2)), some (eI (v12)), some (eI (v21)), some (eI (v30)), some (eI (v40)), some (eI (v43)), some (eI (v52)), some (eI (v68))]) (s2 := [eI (v52), eI (1), eI (v95), eR a0]) rfl rfl rfl ?_
    refine w_t (np := 128) (l2 := [some (eR a0), some (eI (a1)), some (eI (a2)), some (eI (v12)), some (eI (v21)), some (eI (v30)), some (eI (v40)), some (eI (v43)), some (eI (v52)), some (eI (v68))]) (s2 := [eI (1), eI (v52), eI (1), eI (v95), eR a0]) rfl rfl rfl ?_
    obtain ⟨v98, e99, b100⟩ : ∃ zz : Int, ev_w ((v52) + (1)) = zz ∧ (-2147483648 ≤ zz ∧ zz ≤ 2147483647) := ⟨_, rfl, hw_bd _⟩
    refine w_t (np := 129) (l2 := [some (eR a0), some (eI (a1)), some (eI (a2)), some (eI (v12)), some (eI (v21)), some (eI (v30)), some (eI (v40)), some (eI (v43)), some (eI (v52)), some (eI (v68))]) (s2 := [eI (v98), eI (1), eI (v95), eR a0]) rfl (b_iadd e99) rfl ?_
    refine w_t (np := 131) (l2 := [some (eR a0), some (eI (a1)), some (eI (a2)), some (eI (v12)), some (eI (v21)), some (eI (v30)), some (eI (v40)), some (eI (v43)), some (eI (v52)), some (eI (v68))]) (s2 := [eI (v40), eI (v98), eI (1), eI (v95), eR a0]) rfl rfl rfl ?_
    refine w_t (np := 132) (l2 := [some (eR a0), some (eI (a1)), some (eI (a2)), some (eI (v12)), some (eI (v21)), some (eI (v30)), some (eI (v40)), some (eI (v43)), some (eI (v52)), some (eI (v68))]) (s2 := [eI (2), eI (v40), eI (v98), eI (1), eI (v95), eR a0]) rfl rfl rfl ?_
    refine w_t (np := 134) (l2 := [some (eR a0), some (eI (a1)), some (eI (a2)), some (eI (v12)), some (eI (v21)), some (eI (v30)), some (eI (v40)), some (eI (v43)), some (eI (v52)), some (eI (v68))]) (s2 := [eI (v43), eI (2), eI (v40), eI (v98), eI (1), eI (v95), eR a0]) rfl rfl rfl ?_
    obtain ⟨v101, e102⟩ : ∃ zz : Int, zz = (2) * (v43) := ⟨_, rfl⟩
    have b103 : -2 ≤ v101 ∧ v101 ≤ 2 := by omega
    refine w_t (np := 135) (l2 := [some (eR a0), some (eI (a1)), some (eI (a2)), some (eI (v12)), some (eI (v21)), some (eI (v30)), some (eI (v40)), some (eI (v43)), some (eI (v52)), some (eI (v68))]) (s2 := [eI (v101), eI (v40), eI (v98), eI (1), eI (v95), eR a0]) rfl (b_imul (by rw [← e102]; exact ev_w_in (by omega) (by omega))) rfl ?_
    obtain ⟨v104, e105⟩ : ∃ zz : Int, zz = (v40) + (v101) := ⟨_, rfl⟩
    have b106 : -2 ≤ v104 ∧ v104 ≤ 11 := by omega
    refine w_t (np := 136) (l2 := [some (eR a0), some (eI (a1)), some (eI (a2)), some (eI (v12)), some (eI (v21)), some (eI (v30)), some (eI (v40)), some (eI (v43)), some (eI (v52)), some (eI (v68))]) (s2 := [eI (v104), eI (v98), eI (1), eI (v95), eR a0]) rfl (b_iadd (by rw [← e105]; exact ev_w_in (by omega) (by omega))) rfl ?_
    refine w_t (np := 138) (l2 := [some (eR a0), some (eI (a1)), some (eI (a2)), some (eI (v12)), some (eI (v21)), some (eI (v30)), some (eI (v40)), some (eI (v43)), some (eI (v52)), some (eI (v68))]) (s2 := [eI (v40), eI (v104), eI (v98), eI (1), eI (v95), eR a0]) rfl rfl rfl ?_
    refine w_t (np := 139) (l2 := [some (eR a0), some (eI (a1)), some (eI (a2)), some (eI (v12)), some (eI (v21)), some (eI (v30)), some (eI (v40)), some (eI (v43)), some (eI (v52)), some (eI (v68))]) (s2 := [eI (5), eI (v40), eI (v104), eI (v98), eI (1), eI (v95), eR a0]) rfl rfl rfl ?_
    refine w_t (np := 141) (l2 := [some (eR a0), some (eI (a1)), some (eI (a2)), some (eI (v12)), some (eI (v21)), some (eI (v30)), some (eI (v40)), some (eI (v43)), some (eI (v52)), some (eI (v68))]) (s2 := [eI (v43), eI (5), eI (v40), eI (v104), eI (v98), eI (1), eI (v95), eR a0]) rfl rfl rfl ?_
    obtain ⟨v107, e108⟩ : ∃ zz : Int, zz = (5) * (v43) := ⟨_, rfl⟩
    have b109 : -5 ≤ v107 ∧ v107 ≤ 5 := by omega
    refine w_t (np := 142) (l2 := [some (eR a0), some (eI (a1)), some (eI (a2)), some (eI (v12)), some (eI (v21)), some (eI (v30)), some (eI (v40)), some (eI (v43)), some (eI (v52)), some (eI (v68))]) (s2 := [eI (v107), eI (v40), eI (v104), eI (v98), eI (1), eI (v95), eR a0]) rfl (b_imul (by rw [← e108]; exact ev_w_in (by omega) (by omega))) rfl ?_
    obtain ⟨v110, e111⟩ : ∃ zz : Int, zz = (v40) + (v107) := ⟨_, rfl⟩
    have b112 : -5 ≤ v110 ∧ v110 ≤ 14 := by omega
    refine w_t (np := 143) (l2 := [some (eR a0), some (eI (a1)), some (eI (a2)), some (eI (v12)), some (eI (v21)), some (eI (v30)), some (eI (v40)), some (eI (v43)), some (eI (v52)), some (eI (v68))]) (s2 := [eI (v110), eI (v104), eI (v98), eI (1), eI (v95), eR a0]) rfl (b_iadd (by rw [← e111]; exact ev_w_in (by omega) (by omega))) rfl ?_
    refine w_cw (np := 146) (as := [eI (v95), eI (1), eI (v98), eI (v104), eI (v110)]) (l2 := [some (eR a0), some (eI (v95)), some (eI (1)), some (eI (v98)), some (eI (v104)), some (eI (v110))]) (rest := []) rfl rfl rfl (Nat.ble_eq.mp rfl) rfl rfl rfl (I91.kd gA0 (by decide) (n := 8) rfl) rfl ?_
    refine s_28k (a1 := v95) (a2 := 1) (a3 := v98) (a4 := v104) (a5 := v110) I91 gA0 (by omega) (by decide) (by omega) (by omega) (by omega) ?_
    intro m113 I114 F115 h116
    have F117 : Fr l_32 0 0 g μ m113 := F93.t F115 rfl
    have q118 := kq_sh q94 h116 (F92.k (F86.k (F67.k e2 gA0 (by decide) rfl) gA0 (by decide) rfl) gA0 (by decide) rfl) (by omega)
    show ex_q (dt_fg L ρ) rc (d + 2, (32, 146, [some (eR a0), some (eI (a1)), some (eI (a2)), some (eI (v12)), some (eI (v21)), some (eI (v30)), some (eI (v40)), some (eI (v43)), some (eI (v52)), some (eI (v68))], []), f :: F, m113)
    refine w_t (np := 147) (l2 := [some (eR a0), some (eI (a1)), some (eI (a2)), some (eI (v12)), some (eI (v21)), some (eI (v30)), some (eI (v40)), some (eI (v43)), some (eI (v52)), some (eI (v68))]) (s2 := [eR a0]) rfl (s_an rfl (pos_g I114 gA0 (by decide))) rfl ?_
    refine w_t (np := 148) (l2 := [some (eR a0), some (eI (a1)), some (eI (a2)), some (eI (v12)), some (eI (v21)), some (eI (v30)), some (eI (v40)), some (eI (v43)), some (eI (v52)), some (eI (v68))]) (s2 := [eI (a2), eR a0]) rfl rfl rfl ?_
    refine w_t (np := 149) (l2 := [some (eR a0), some (eI (a1)), some (eI (a2)), some (eI (v12)), some (eI (v21)), some (eI (v30)), some (eI (v40)), some (eI (v43)), some (eI (v52)), some (eI (v68))]) (s2 := [eI (1), eI (a2), eR a0]) rfl rfl rfl ?_
    obtain ⟨v119, e120⟩ : ∃ zz : Int, zz = (a2) + (1) := ⟨_, rfl⟩
    have b121 : 1 ≤ v119 ∧ v119 ≤ 49 := by omega
    refine w_t (np := 150) (l2 := [some (eR a0), some (eI (a1)), some (eI (a2)), some (eI (v12)), some (eI (v21)), some (eI (v30)), some (eI (v40)), some (eI (v43)), some (eI (v52)), some (eI (v68))]) (s2 := [eI (v119), eR a0]) rfl (b_iadd (by rw [← e120]; exact ev_w_in (by omega) (by omega))) rfl ?_
    refine w_t (np := 152) (l2 := [some (eR a0), some (eI (a1)), some (eI (a2)), some (eI (v12)), some (eI (v21)), some (eI (v30)), some (eI (v40)), some (eI (v43)), some (eI (v52)), some (eI (v68))]) (s2 := [eI (v68), eI (v119), eR a0]) rfl rfl rfl ?_
    refine w_t (np := 154) (l2 := [some (eR a0), some (eI (a1)), some (eI (a2)), some (eI (v12)), some (eI (v21)), some (eI (v30)), some (eI (v40)), some (eI (v43)), some (eI (v52)), some (eI (v68))]) (s2 := [eI (v30), eI (v68), eI (v119), eR a0]) rfl rfl rfl ?_
    refine w_t (np := 155) (l2 := [some (eR a0), some (eI (a1)), some (eI (a2)), some (eI (v12)), some (eI (v21)), some (eI (v30)), some (eI (v40)), some (eI (v43)), some (eI (v52)), some (eI (v68))]) (s2 := [eI (v12), eI (v30), eI (v68), eI (v119), eR a0]) rfl rfl rfl ?_
    refine w_cw (np := 158) (as := [eI (v119), eI (v68), eI (v30), eI (v12)]) (l2 := [some (eR a0), some (eI (v119)), some (eI (v68)), some (eI (v30)), some (eI (v12))]) (rest := []) rfl rfl rfl (Nat.ble_eq.mp rfl) rfl rfl rfl (I114.kd gA0 (by decide) (n := 8) rfl) rfl ?_
    refine s_29 (a1 := v119) (a2 := v68) (a3 := v30) (a4 := v12) I114 gA0 (by omega) (by omega) (by omega) (by omega) ?_
    intro m122 I123 F124
    have F125 : Fr l_32 0 0 g μ m122 := F117.t F124 rfl
    have q126 := kq_fr q118 F124 b3 (by decide) rfl rfl
    show ex_q (dt_fg L ρ) rc (d + 2, (32, 158, [some (eR a0), some (eI (a1)), some (eI (a2)), some (eI (v12)), some (eI (v21)), some (eI (v30)), some (eI (v40)), some (eI (v43)), some (eI (v52)), some (eI (v68))], []), f :: F, m122)
    exact v_rv rfl rfl (K m122 I123 F125 (kq_e q126 e2))
  · refine w_t (np := 65) (l2 := [some (eR a0), some (eI (a1)), some (eI (a2)), some (eI (v12)), some (eI (v21)), some (eI (v30)), some (eI (v40)), some (eI (v43)), some (eI (v52)), none]) (s2 := [eR a0, eR v55]) rfl (s_an rfl (pos_g hI gA0 (by decide))) rfl ?_
    refine w_gf (np := 68) (v := eR v55) rfl rfl (hI.kd gA0 (by decide) (n := 8) rfl) (by rw [e56]; rfl) ?_
    refine w_t (np := 69) (l2 := [some (eR a0), some (eI (a1)), some (eI (a2)), some (eI (v12)), some (eI (v21)), some (eI (v30)), some (eI (v40)), some (eI (v43)), some (eI (v52)), none]) (s2 := [eI (v12), eR v55, eR v55]) rfl rfl rfl ?_
    refine w_cw (np := 72) (as := [eI (v12)]) (l2 := [some (eR v55), some (eI (v12))]) (rest := [eR v55]) rfl rfl rfl (Nat.ble_eq.mp rfl) rfl rfl rfl (hI.kd b57 (by decide) (n := 3) rfl) rfl ?_
    refine s_44_2 (a1 := v12) hI b57 (by omega) ?_
    intro v59 b60
    show ex_q (dt_fg L ρ) rc (d + 2, (32, 72, [some (eR a0), some (eI (a1)), some (eI (a2)), some (eI (v12)), some (eI (v21)), some (eI (v30)), some (eI (v40)), some (eI (v43)), some (eI (v52)), none], [eJ (v59), eR v55]), f :: F, μ)
    refine w_t (np := 74) (l2 := [some (eR a0), some (eI (a1)), some (eI (a2)), some (eI (v12)), some (eI (v21)), some (eI (v30)), some (eI (v40)), some (eI (v43)), some (eI (v52)), none]) (s2 := [eI (v40), eJ (v59), eR v55]) rfl rfl rfl ?_
    refine w_cu (np := 77) (as := [eI (v40)]) (l2 := [some (eI (v40))]) (rest := [eJ (v59), eR v55]) rfl rfl rfl (Nat.ble_eq.mp rfl) rfl rfl rfl rfl ?_
    refine s_74 (a0 := v40) hI (by omega) ?_
    intro v61 b62
    show ex_q (dt_fg L ρ) rc (d + 2, (32, 77, [some (eR a0), some (eI (a1)), some (eI (a2)), some (eI (v12)), some (eI (v21)), some (eI (v30)), some (eI (v40)), some (eI (v43)), some (eI (v52)), none], [eJ (v61), eJ (v59), eR v55]), f :: F, μ)
    refine w_cu (np := 80) (as := [eJ (v59), eJ (v61)]) (l2 := [some (eJ (v59)), none, some (eJ (v61)), none]) (rest := [eR v55]) rfl rfl rfl (Nat.ble_eq.mp rfl) rfl rfl rfl rfl ?_
    refine s_75 hI b60 b62 ?_
    intro v63 b64
    show ex_q (dt_fg L ρ) rc (d + 2, (32, 80, [some (eR a0), some (eI (a1)), some (eI (a2)), some (eI (v12)), some (eI (v21)), some (eI (v30)), some (eI (v40)), some (eI (v43)), some (eI (v52)), none], [eJ (v63), eR v55]), f :: F, μ)
    refine w_cw (np := 83) (as := [eJ (v63)]) (l2 := [some (eR v55), some (eJ (v63)), none, none]) (rest := []) rfl rfl rfl (Nat.ble_eq.mp rfl) rfl rfl rfl (hI.kd b57 (by decide) (n := 3) rfl) rfl ?_
    refine s_46_2 hI b57 b64 ?_
    intro m65 v68 I66 F67 b69
    have F70 : Fr l_32 0 0 g μ m65 := F0.t F67 rfl
    have q71 := kq_fr kq0 F67 b3 (by decide) rfl rfl
    show ex_q (dt_fg L ρ) rc (d + 2, (32, 83, [some (eR a0), some (eI (a1)), some (eI (a2)), some (eI (v12)), some (eI (v21)), some (eI (v30)), some (eI (v40)), some (eI (v43)), some (eI (v52)), none], [eI (v68)]), f :: F, m65)
    refine w_t (np := 85) (l2 := [some (eR a0), some (eI (a1)), some (eI (a2)), some (eI (v12)), some (eI (v21)), some (eI (v30)), some (eI (v40)), some (eI (v43)), some (eI (v52)), some (eI (v68))]) (s2 := []) rfl rfl rfl ?_
    refine w_t (np := 86) (l2 := [some (eR a0), some (eI (a1)), some (eI (a2)), some (eI (v12)), some (eI (v21)), some (eI (v30)), some (eI (v40)), some (eI (v43)), some (eI (v52)), some (eI (v68))]) (s2 := [eR a0]) rfl (s_an rfl (pos_g I66 gA0 (by decide))) rfl ?_
    refine w_t (np := 87) (l2 := [some (eR a0), some (eI (a1)), some (eI (a2)), some (eI (v12)), some (eI (v21)), some (eI (v30)), some (eI (v40)), some (eI (v43)), some (eI (v52)), some (eI (v68))]) (s2 := [eI (a2), eR a0]) rfl rfl rfl ?_
    refine w_t (np := 88) (l2 := [some (eR a0), some (eI (a1)), some (eI (a2)), some (eI (v12)), some (eI (v21)), some (eI (v30)), some (eI (v40)), some (eI (v43)), some (eI (v52)), some (eI (v68))]) (s2 := [eI (0), eI (a2), eR a0]) rfl rfl rfl ?_
    refine w_t (np := 90) (l2 := [some (eR a0), some (eI (a1)), some (eI (a2)), some (eI (v12)), some (eI (v21)), some (eI (v30)), some (eI (v40)), some (eI (v43)), some (eI (v52)), some (eI (v68))]) (s2 := [eI (v52), eI (0), eI (a2), eR a0]) rfl rfl rfl ?_
    refine w_t (np := 92) (l2 := [some (eR a0), some (eI (a1)), some (eI (a2)), some (eI (v12)), some (eI (v21)), some (eI (v30)), some (eI (v40)), some (eI (v43)), some (eI (v52)), some (eI (v68))]) (s2 := [eI (v40), eI (v52), eI (0), eI (a2), eR a0]) rfl rfl rfl ?_
    refine w_t (np := 94) (l2 := [some (eR a0), some (eI (a1)), some (eI (a2)), some (eI (v12)), some (eI (v21)), some (eI (v30)), some (eI (v40)), some (eI (v43)), some (eI (v52)), some (eI (v68))]) (s2 := [eI (7), eI (v40), eI (v52), eI (0), eI (a2), eR a0]) rfl rfl rfl ?_
    refine w_t (np := 96) (l2 := [some (eR a0), some (eI (a1)), some (eI (a2)), some (eI (v12)), some (eI (v21)), some (eI (v30)), some (eI (v40)), some (eI (v43)), some (eI (v52)), some (eI (v68))]) (s2 := [eI (v43), eI (7), eI (v40), eI (v52), eI (0), eI (a2), eR a0]) rfl rfl rfl ?_
    obtain ⟨v72, e73⟩ : ∃ zz : Int, zz = (7) * (v43) := ⟨_, rfl⟩
    have b74 : -7 ≤ v72 ∧ v72 ≤ 7 := by omega
    refine w_t (np := 97) (l2 := [some (eR a0), some (eI (a1)), some (eI (a2)), some (eI (v12)), some (eI (v21)), some (eI (v30)), some (eI (v40)), some (eI (v43)), some (eI (v52)), some (eI (v68))]) (s2 := [eI (v72), eI (v40), eI (v52), eI (0), eI (a2), eR a0]) rfl (b_imul (by rw [← e73]; exact ev_w_in (by omega) (by omega))) rfl ?_
    obtain ⟨v75, e76⟩ : ∃ zz : Int, zz = (v40) + (v72) := ⟨_, rfl⟩
    have b77 : -7 ≤ v75 ∧ v75 ≤ 16 := by omega
    refine w_t (np := 98) (l2 := [some (eR a0), some (eI (a1)), some (eI (a2)), some (eI (v12)), some (eI (v21)), some (eI (v30)), some (eI (v40)), some (eI (v43)), some (eI (v52)), some (eI (v68))]) (s2 := [eI (v75), eI (v52), eI (0), eI (a2), eR a0]) rfl (b_iadd (by rw [← e76]; exact ev_w_in (by omega) (by omega))) rfl ?_
    refine w_t (np := 100) (l2 := [some (eR a0), some (eI (a1)), some (eI (a2)), some (eI (v12)), some (eI (v21)), some (eI (v30)), some (eI (v40)), some (eI (v43)), some (eI (v52)), some (eI (v68))]) (s2 := [eI (v40), eI (v75), eI (v52), eI (0), eI (a2), eR a0]) rfl rfl rfl ?_
    refine w_t (np := 102) (l2 := [some (eR a0), some (eI (a1)), some (eI (a2)), some (eI (v12)), some (eI (v21)), some (eI (v30)), some (eI (v40)), some (eI (v43)), some (eI (v52)), some (eI (v68))]) (s2 := [eI (8), eI (v40), eI (v75), eI (v52), eI (0), eI (a2), eR a0]) rfl rfl rfl ?_
    refine w_t (np := 104) (l2 := [some (eR a0), some (eI (a1)), some (eI (a2)), some (eI (v12)), some (eI (v21)), some (eI (v30)), some (eI (v40)), some (eI (v43)), some (eI (v52)), some (eI (v68))]) (s2 := [eI (v43), eI (8), eI (v40), eI (v75), eI (v52), eI (0), eI (a2), eR a0]) rfl rfl rfl ?_
    obtain ⟨v78, e79⟩ : ∃ zz : Int, zz = (8) * (v43) := ⟨_, rfl⟩
    have b80 : -8 ≤ v78 ∧ v78 ≤ 8 := by omega
    refine w_t (np := 105) (l2 := [some (eR a0), some (eI (a1)), some (eI (a2)), some (eI (v12)), some (eI (v21)), some (eI (v30)), some (eI (v40)), some (eI (v43)), some (eI (v52)), some (eI (v68))]) (s2 := [eI (v78), eI (v40), eI (v75), eI (v52), eI (0), eI (a2), eR a0]) rfl (b_imul (by rw [← e79]; exact ev_w_in (by omega) (by omega))) rfl ?_
    obtain ⟨v81, e82⟩ : ∃ zz : Int, zz = (v40) + (v78) := ⟨_, rfl⟩
    have b83 : -8 ≤ v81 ∧ v81 ≤ 17 := by omega
    refine w_t (np := 106) (l2 := [some (eR a0), some (eI (a1)), some (eI (a2)), some (eI (v12)), some (eI (v21)), some (eI (v30)), some (eI (v40)), some (eI (v43)), some (eI (v52)), some (eI (v68))]) (s2 := [eI (v81), eI (v75), eI (v52), eI (0), eI (a2), eR a0]) rfl (b_iadd (by rw [← e82]; exact ev_w_in (by omega) (by omega))) rfl ?_
    refine w_cw (np := 109) (as := [eI (a2), eI (0), eI (v52), eI (v75), eI (v81)]) (l2 := [some (eR a0), some (eI (a2)), some (eI (0)), some (eI (v52)), some (eI (v75)), some (eI (v81))]) (rest := []) rfl rfl rfl (Nat.ble_eq.mp rfl) rfl rfl rfl (I66.kd gA0 (by decide) (n := 8) rfl) rfl ?_
    refine s_28k (a1 := a2) (a2 := 0) (a3 := v52) (a4 := v75) (a5 := v81) I66 gA0 (by omega) (by decide) (by omega) (by omega) (by omega) ?_
    intro m84 I85 F86 h87
    have F88 : Fr l_32 0 0 g μ m84 := F70.t F86 rfl
    have q89 := kq_sh q71 h87 (F67.k e2 gA0 (by decide) rfl) (by omega)
    show ex_q (dt_fg L ρ) rc (d + 2, (32, 109, [some (eR a0), some (eI (a1)), some (eI (a2)), some (eI (v12)), some (eI (v21)), some (eI (v30)), some (eI (v40)), some (eI (v43)), some (eI (v52)), some (eI (v68))], []), f :: F, m84)
    refine w_t (np := 110) (l2 := [some (eR a0), some (eI (a1)), some (eI (a2)), some (eI (v12)), some (eI (v21)), some (eI (v30)), some (eI (v40)), some (eI (v43)), some (eI (v52)), some (eI (v68))]) (s2 := [eR a0]) rfl (s_an rfl (pos_g I85 gA0 (by decide))) rfl ?_
    refine w_t (np := 111) (l2 := [some (eR a0), some (eI (a1)), some (eI (a2)), some (eI (v12)), some (eI (v21)), some (eI (v30)), some (eI (v40)), some (eI (v43)), some (eI (v52)), some (eI (v68))]) (s2 := [eI (a2), eR a0]) rfl rfl rfl ?_
    refine w_t (np := 113) (l2 := [some (eR a0), some (eI (a1)), some (eI (a2)), some (eI (v12)), some (eI (v21)), some (eI (v30)), some (eI (v40)), some (eI (v43)), some (eI (v52)), some (eI (v68))]) (s2 := [eI (v30), eI (a2), eR a0]) rfl rfl rfl ?_
    refine w_t (np := 115) (l2 := [some (eR a0), some (eI (a1)), some (eI (a2)), some (eI (v12)), some (eI (v21)), some (eI (v30)), some (eI (v40)), some (eI (v43)), some (eI (v52)), some (eI (v68))]) (s2 := [eI (v68), eI (v30), eI (a2), eR a0]) rfl rfl rfl ?_
    refine w_t (np := 117) (l2 := [some (eR a0), some (eI (a1)), some (eI (a2)), some (eI (v12)), some (eI (v21)), some (eI (v30)), some (eI (v40)), some (eI (v43)), some (eI (v52)), some (eI (v68))]) (s2 := [eI (v21), eI (v68), eI (v30), eI (a2), eR a0]) rfl rfl rfl ?_
    refine w_cw (np := 120) (as := [eI (a2), eI (v30), eI (v68), eI (v21)]) (l2 := [some (eR a0), some (eI (a2)), some (eI (v30)), some (eI (v68)), some (eI (v21))]) (rest := []) rfl rfl rfl (Nat.ble_eq.mp rfl) rfl rfl rfl (I85.kd gA0 (by decide) (n := 8) rfl) rfl ?_
    refine s_29 (a1 := a2) (a2 := v30) (a3 := v68) (a4 := v21) I85 gA0 (by omega) (by omega) (by omega) (by omega) ?_
    intro m90 I91 F92
    have F93 : Fr l_32 0 0 g μ m90 := F88.t F92 rfl
    have q94 := kq_fr q89 F92 b3 (by decide) rfl rfl
    show ex_q (dt_fg L ρ) rc (d + 2, (32, 120, [some (eR a0), some (eI (a1)), some (eI (a2)), some (eI (v12)), some (eI (v21)), some (eI (v30)), some (eI (v40)), some (eI (v43)), some (eI (v52)), some (eI (v68))], []), f :: F, m90)
    refine w_t (np := 121) (l2 := [some (eR a0), some (eI (a1)), some (eI (a2)), some (eI (v12)), some (eI (v21)), some (eI (v30)), some (eI (v40)), some (eI (v43)), some (eI (v52)), some (eI (v68))]) (s2 := [eR a0]) rfl (s_an rfl (pos_g I91 gA0 (by decide))) rfl ?_
    refine w_t (np := 122) (l2 := [some (eR a0), some (eI (a1)), some (eI (a2)), some (eI (v12)), some (eI (v21)), some (eI (v30)), some (eI (v40)), some (eI (v43)), some (eI (v52)), some (eI (v68))]) (s2 := [eI (a2), eR a0]) rfl rfl rfl ?_
    refine w_t (np := 123) (l2 := [some (eR a0), some (eI (a1)), some (eI (a2)), some (eI (v12)), some (eI (v21)), some (eI (v30)), some (eI (v40)), some (eI (v43)), some (eI (v52)), some (eI (v68))]) (s2 := [eI (1), eI (a2), eR a0]) rfl rfl rfl ?_
    obtain ⟨v95, e96⟩ : ∃ zz : Int, zz = (a2) + (1) := ⟨_, rfl⟩
    have b97 : 1 ≤ v95 ∧ v95 ≤ 49 := by omega
    refine w_t (np := 124) (l2 := [some (eR a0), some (eI (a1)), some (eI (a2)), some (eI (v12)), some (eI (v21)), some (eI (v30)), some (eI (v40)), some (eI (v43)), some (eI (v52)), some (eI (v68))]) (s2 := [eI (v95), eR a0]) rfl (b_iadd (by rw [← e96]; exact ev_w_in (by omega) (by omega))) rfl ?_
    refine w_t (np := 125) (l2 := [some (eR a0), some (eI (a1)), some (eI (a2)), some (eI (v12)), some (eI (v21)), some (eI (v30)), some (eI (v40)), some (eI (v43)), some (eI (v52)), some (eI (v68))]) (s2 := [eI (1), eI (v95), eR a0]) rfl rfl rfl ?_
    refine w_t (np := 127) (l2 := [some (eR a0), some (eI (a1)), some (eI (a2)), some (eI (v12)), some (eI (v21)), some (eI (v30)), some (eI (v40)), some (eI (v43)), some (eI (v52)), some (eI (v68))]) (s2 := [eI (v52), eI (1), eI (v95), eR a0]) rfl rfl rfl ?_
    refine w_t (np := 128) (l2 := [some (eR a0), some (eI (a1)), some (eI (a2)), some (eI (v12)), some (eI (v21)), some (eI (v30)), some (eI (v40)), some (eI (v43)), some (eI (v52)), some (eI (v68))]) (s2 := [eI (1), eI (v52), eI (1), eI (v95), eR a0]) rfl rfl rfl ?_
    obtain ⟨v98, e99, b100⟩ : ∃ zz : Int, ev_w ((v52) + (1)) = zz ∧ (-2147483648 ≤ zz ∧ zz ≤ 2147483647) := ⟨_, rfl, hw_bd _⟩
    refine w_t (np := 129) (l2 := [some (eR a0), some (eI (a1)), some (eI (a2)), some (eI (v12)), some (eI (v21)), some (eI (v30)), some (eI (v40)), some (eI (v43)), some (eI (v52)), some (eI (v68))]) (s2 := [eI (v98), eI (1), eI (v95), eR a0]) rfl (b_iadd e99) rfl ?_
    refine w_t (np := 131) (l2 := [some (eR a0), some (eI (a1)), some (eI (a2)), some (eI (v12)), some (eI (v21)), some (eI (v30)), some (eI (v40)), some (eI (v43)), some (eI (v52)), some (eI (v68))]) (s2 := [eI (v40), eI (v98), eI (1), eI (v95), eR a0]) rfl rfl rfl ?_
    refine w_t (np := 132) (l2 := [some (eR a0), some (eI (a1)), some (eI (a2)), some (eI (v12)), some (eI (v21)), some (eI (v30)), some (eI (v40)), some (eI (v43)), some (eI (v52)), some (eI (v68))]) (s2 := [eI (2), eI (v40), eI (v98), eI (1), eI (v95), eR a0]) rfl rfl rfl ?_
    refine w_t (np := 134) (l2 := [some (eR a0), some (eI (a1)), some (eI (a2)), some (eI (v12)), some (eI (v21)), some (eI (v30)), some (eI (v40)), some (eI (v43)), some (eI (v52)), some (eI (v68))]) (s2 := [eI (v43), eI (2), eI (v40), eI (v98), eI (1), eI (v95), eR a0]) rfl rfl rfl ?_
    obtain ⟨v101, e102⟩ : ∃ zz : Int, zz = (2) * (v43) := ⟨_, rfl⟩
    have b103 : -2 ≤ v101 ∧ v101 ≤ 2 := by omega
    refine w_t (np := 135) (l2 := [some (eR a0), some (eI (a1)), some (eI (a2)), some (eI (v12)), some (eI (v21)), some (eI (v30)), some (eI (v40)), some (eI (v43)), some (eI (v52)), some (eI (v68))]) (s2 := [eI (v101), eI (v40), eI (v98), eI (1), eI (v95), eR a0]) rfl (b_imul (by rw [← e102]; exact ev_w_in (by omega) (by omega))) rfl ?_
    obtain ⟨v104, e105⟩ : ∃ zz : Int, zz = (v40) + (v101) := ⟨_, rfl⟩
    have b106 : -2 ≤ v104 ∧ v104 ≤ 11 := by omega
    refine w_t (np := 136) (l2 := [some (eR a0), some (eI (a1)), some (eI (a2)), some (eI (v12)), some (eI (v21)), some (eI (v30)), some (eI (v40)), some (eI (v43)), some (eI (v52)), some (eI (v68))]) (s2 := [eI (v104), eI (v98), eI (1), eI (v95), eR a0]) rfl (b_iadd (by rw [← e105]; exact ev_w_in (by omega) (by omega))) rfl ?_
    refine w_t (np := 138) (l2 := [some (eR a0), some (eI (a1)), some (eI (a2)), some (eI (v12)), some (eI (v21)), some (eI (v30)), some (eI (v40)), some (eI (v43)), some (eI (v52)), some (eI (v68))]) (s2 := [eI (v40), eI (v104), eI (v98), eI (1), eI (v95), eR a0]) rfl rfl rfl ?_
    refine w_t (np := 139) (l2 := [some (eR a0), some (eI (a1)), some (eI (a2)), some (eI (v12)), some (eI (v21)), some (eI (v30)), some (eI (v40)), some (eI (v43)), some (eI (v52)), some (eI (v68))]) (s2 := [eI (5), eI (v40), eI (v104), eI (v98), eI (1), eI (v95), eR a0]) rfl rfl rfl ?_
    refine w_t (np := 141) (l2 := [some (eR a0), some (eI (a1)), some (eI (a2)), some (eI (v12)), some (eI (v21)), some (eI (v30)), some (eI (v40)), some (eI (v43)), some (eI (v52)), some (eI (v68))]) (s2 := [eI (v43), eI (5), eI (v40), eI (v104), eI (v98), eI (1), eI (v95), eR a0]) rfl rfl rfl ?_
    obtain ⟨v107, e108⟩ : ∃ zz : Int, zz = (5) * (v43) := ⟨_, rfl⟩
    have b109 : -5 ≤ v107 ∧ v107 ≤ 5 := by omega
    refine w_t (np := 142) (l2 := [some (eR a0), some (eI (a1)), some (eI (a2)), some (eI (v12)), some (eI (v21)), some (eI (v30)), some (eI (v40)), some (eI (v43)), some (eI (v52)), some (eI (v68))]) (s2 := [eI (v107), eI (v40), eI (v104), eI (v98), eI (1), eI (v95), eR a0]) rfl (b_imul (by rw [← e108]; exact ev_w_in (by omega) (by omega))) rfl ?_
    obtain ⟨v110, e111⟩ : ∃ zz : Int, zz = (v40) + (v107) := ⟨_, rfl⟩
    have b112 : -5 ≤ v110 ∧ v110 ≤ 14 := by omega
    refine w_t (np := 143) (l2 := [some (eR a0), some (eI (a1)), some (eI (a2)), some (eI (v12)), some (eI (v21)), some (eI (v30)), some (eI (v40)), some (eI (v43)), some (eI (v52)), some (eI (v68))]) (s2 := [eI (v110), eI (v104), eI (v98), eI (1), eI (v95), eR a0]) rfl (b_iadd (by rw [← e111]; exact ev_w_in (by omega) (by omega))) rfl ?_
    refine w_cw (np := 146) (as := [eI (v95), eI (1), eI (v98), eI (v104), eI (v110)]) (l2 := [some (eR a0), some (eI (v95)), some (eI (1)), some (eI (v98)), some (eI (v104)), some (eI (v110))]) (rest := []) rfl rfl rfl (Nat.ble_eq.mp rfl) rfl rfl rfl (I91.kd gA0 (by decide) (n := 8) rfl) rfl ?_
    refine s_28k (a1 := v95) (a2 := 1) (a3 := v98) (a4 := v104) (a5 := v110) I91 gA0 (by omega) (by decide) (by omega) (by omega) (by omega) ?_
    intro m113 I114 F115 h116
    have F117 : Fr l_32 0 0 g μ m113 := F93.t F115 rfl
    have q118 := kq_sh q94 h116 (F92.k (F86.k (F67.k e2 gA0 (by decide) rfl) gA0 (by decide) rfl) gA0 (by decide) rfl) (by omega)
    show ex_q (dt_fg L ρ) rc (d + 2, (32, 146, [some (eR a0), some (eI (a1)), some (eI (a2)), some (eI (v12)), some (eI (v21)), some (eI (v30)), some (eI (v40)), some (eI (v43)), some (eI (v52)), some (eI (v68))], []), f :: F, m113)
    refine w_t (np := 147) (l2 := [some (eR a0), some (eI (a1)), some (eI (a2)), some (eI (v12)), some (eI (v21)), some (eI (v30)), some (eI (v40)), some (eI (v43)), some (eI (v52)), some (eI (v68))]) (s2 := [eR a0]) rfl (s_an rfl (pos_g I114 gA0 (by decide))) rfl ?_
    refine w_t (np := 148) (l2 := [some (eR a0), some (eI (a1)), some (eI (a2)), some (eI (v12)), some (eI (v21)), some (eI (v30)), some (eI (v40)), some (eI (v43)), some (eI (v52)), some (eI (v68))]) (s2 := [eI (a2), eR a0]) rfl rfl rfl ?_
    refine w_t (np := 149) (l2 := [some (eR a0), some (eI (a1)), some (eI (a2)), some (eI (v12)), some (eI (v21)), some (eI (v30)), some (eI (v40)), some (eI (v43)), some (eI (v52)), some (eI (v68))]) (s2 := [eI (1), eI (a2), eR a0]) rfl rfl rfl ?_
    obtain ⟨v119, e120⟩ : ∃ zz : Int, zz = (a2) + (1) := ⟨_, rfl⟩
    have b121 : 1 ≤ v119 ∧ v119 ≤ 49 := by omega
    refine w_t (np := 150) (l2 := [some (eR a0), some (eI (a1)), some (eI (a2)), some (eI (v12)), some (eI (v21)), some (eI (v30)), some (eI (v40)), some (eI (v43)), some (eI (v52)), some (eI (v68))]) (s2 := [eI (v119), eR a0]) rfl (b_iadd (by rw [← e120]; exact ev_w_in (by omega) (by omega))) rfl ?_
    refine w_t (np := 152) (l2 := [some (eR a0), some (eI (a1)), some (eI (a2)), some (eI (v12)), some (eI (v21)), some (eI (v30)), some (eI (v40)), some (eI (v43)), some (eI (v52)), some (eI (v68))]) (s2 := [eI (v68), eI (v119), eR a0]) rfl rfl rfl ?_
    refine w_t (np := 154) (l2 := [some (eR a0), some (eI (a1)), some (eI (a2)), some (eI (v12)), some (eI (v21)), some (eI (v30)), some (eI (v40)), some (eI (v43)), some (eI (v52)), some (eI (v68))]) (s2 := [eI (v30), eI (v68), eI (v119), eR a0]) rfl rfl rfl ?_
    refine w_t (np := 155) (l2 := [some (eR a0), some (eI (a1)), some (eI (a2)), some (eI (v12)), some (eI (v21)), some (eI (v30)), some (eI (v40)), some (eI (v43)), some (eI (v52)), some (eI (v68))]) (s2 := [eI (v12), eI (v30), eI (v68), eI (v119), eR a0]) rfl rfl rfl ?_
    refine w_cw (np := 158) (as := [eI (v119), eI (v68), eI (v30), eI (v12)]) (l2 := [some (eR a0), some (eI (v119)), some (eI (v68)), some (eI (v30)), some (eI (v12))]) (rest := []) rfl rfl rfl (Nat.ble_eq.mp rfl) rfl rfl rfl (I114.kd gA0 (by decide) (n := 8) rfl) rfl ?_
    refine s_29 (a1 := v119) (a2 := v68) (a3 := v30) (a4 := v12) I114 gA0 (by omega) (by omega) (by omega) (by omega) ?_
    intro m122 I123 F124
    have F125 : Fr l_32 0 0 g μ m122 := F117.t F124 rfl
    have q126 := kq_fr q118 F124 b3 (by decide) rfl rfl
    show ex_q (dt_fg L ρ) rc (d + 2, (32, 158, [some (eR a0), some (eI (a1)), some (eI (a2)), some (eI (v12)), some (eI (v21)), some (eI (v30)), some (eI (v40)), some (eI (v43)), some (eI (v52)), some (eI (v68))], []), f :: F, m122)
    exact v_rv rfl rfl (K m122 I123 F125 (kq_e q126 e2))
def l_33 : List Nat := [1024, 1280, 1536, 768, 4096, 3328, 4352, 3584, 3843, 3075]
theorem s_33 {L : Nat} {ρ : Nat → Int} {rc : eQ} {d : Nat} {f : eFr} {F : List eFr} {μ : eM} {g : Nat → Nat} {a0 : Nat} {a1 : Int} {a2 : Int} (hI : SI g μ) (gA0 : g a0 = 2) (bA1 : 0 ≤ a1 ∧ a1 ≤ 49) (bA2 : 0 ≤ a2 ∧ a2 ≤ 47) (K : ∀ (μ2 : eM), SI g μ2 → Fr l_33 0 0 g μ μ2 → (∀ j : Nat, (j : Int) < a2 → μ2.1 (μ.1 a0 0).toNat j = μ.1 (μ.1 a0 0).toNat j) → ex_q (dt_fg L ρ) rc (d + 3, (f.1, f.2.1, f.2.2.1, f.2.2.2), F, μ2)) : ex_q (dt_fg L ρ) rc (d + 2, (33, 0, [some (eR a0), some (eI (a1)), some (eI (a2)), none, none, none, none, none, none, none, none, none, none], []), f :: F, μ) := by
  have F0 : Fr l_33 0 0 g μ μ := Fr.r
  obtain ⟨v1, e2, b3, z4⟩ := hI.ref (k := 0) gA0 (by decide) (n := 8) rfl (by decide) rfl
  have b3 : g v1 = 3 := Nat.eq_of_beq_eq_true b3
  have kq0 : ∀ j : Nat, (j : Int) < a2 → μ.1 v1 j = μ.1 v1 j := fun _ _ => rfl
  refine w_t (np := 1) (l2 := [some (eR a0), some (eI (a1)), some (eI (a2)), none, none, none, none, none, none, none, none, none, none]) (s2 := [eR a0]) rfl (s_an rfl (pos_g hI gA0 (by decide))) rfl ?_
  refine j_gr (np := 4) rfl rfl hI gA0 (by decide) (n := 8) rfl rfl rfl ?_
  intro v5 e6 b7 z8
  have b7 : g v5 = 5 := Nat.eq_of_beq_eq_true b7
  refine w_t (np := 5) (l2 := [some (eR a0), some (eI (a1)), some (eI (a2)), none, none, none, none, none, none, none, none, none, none]) (s2 := [eI (3), eR v5]) rfl rfl rfl ?_
  refine w_t (np := 6) (l2 := [some (eR a0), some (eI (a1)), some (eI (a2)), none, none, none, none, none, none, none, none, none, none]) (s2 := [eI (a1), eI (3), eR v5]) rfl rfl rfl ?_
  obtain ⟨v9, e10⟩ : ∃ zz : Int, zz = (3) * (a1) := ⟨_, rfl⟩
  have b11 : 0 ≤ v9 ∧ v9 ≤ 147 := by omega
  refine w_t (np := 7) (l2 := [some (eR a0), some (eI (a1)), some (eI (a2)), none, none, none, none, none, none, none, none, none, none]) (s2 := [eI (v9), eR v5]) rfl (b_imul (by rw [← e10]; exact ev_w_in (by omega) (by omega))) rfl ?_
  refine j_al (np := 8) rfl rfl hI b7 (by decide) (n := 150) rfl rfl (lo := 0) (hi := 511) (fun _ => rfl) (by omega) (by omega) ?_
  intro v12 e13 b14
  refine w_t (np := 9) (l2 := [some (eR a0), some (eI (a1)), some (eI (a2)), some (eI (v12)), none, none, none, none, none, none, none, none, none]) (s2 := []) rfl rfl rfl ?_
  refine w_t (np := 10) (l2 := [some (eR a0), some (eI (a1)), some (eI (a2)), some (eI (v12)), none, none, none, none, none, none, none, none, none]) (s2 := [eR a0]) rfl (s_an rfl (pos_g hI gA0 (by decide))) rfl ?_
  refine w_gf (np := 13) (v := eR v5) rfl rfl (hI.kd gA0 (by decide) (n := 8) rfl) (by rw [e6]; rfl) ?_
  refine w_t (np := 14) (l2 := [some (eR a0), some (eI (a1)), some (eI (a2)), some (eI (v12)), none, none, none, none, none, none, none, none, none]) (s2 := [eI (3), eR v5]) rfl rfl rfl ?_
  refine w_t (np := 15) (l2 := [some (eR a0), some (eI (a1)), some (eI (a2)), some (eI (v12)), none, none, none, none, none, none, none, none, none]) (s2 := [eI (a1), eI (3), eR v5]) rfl rfl rfl ?_
  obtain ⟨v15, e16⟩ : ∃ zz : Int, zz = (3) * (a1) := ⟨_, rfl⟩
  have b17 : 0 ≤ v15 ∧ v15 ≤ 147 := by omega
  refine w_t (np := 16) (l2 := [some (eR a0), some (eI (a1)), some (eI (a2)), some (eI (v12)), none, none, none, none, none, none, none, none, none]) (s2 := [eI (v15), eR v5]) rfl (b_imul (by rw [← e16]; exact ev_w_in (by omega) (by omega))) rfl ?_
  refine w_t (np := 17) (l2 := [some (eR a0), some (eI (a1)), some (eI (a2)), some (eI (v12)), none, none, none, none, none, none, none, none, none]) (s2 := [eI (1), eI (v15), eR v5]) rfl rfl rfl ?_
  obtain ⟨v18, e19⟩ : ∃ zz : Int, zz = (v15) + (1) := ⟨_, rfl⟩
  have b20 : 1 ≤ v18 ∧ v18 ≤ 148 := by omega
  refine w_t (np := 18) (l2 := [some (eR a0), some (eI (a1)), some (eI (a2)), some (eI (v12)), none, none, none, none, none, none, none, none, none]) (s2 := [eI (v18), eR v5]) rfl (b_iadd (by rw [← e19]; exact ev_w_in (by omega) (by omega))) rfl ?_
  refine j_al (np := 19) rfl rfl hI b7 (by decide) (n := 150) rfl rfl (lo := 0) (hi := 511) (fun _ => rfl) (by omega) (by omega) ?_
  intro v21 e22 b23
  refine w_t (np := 21) (l2 := [some (eR a0), some (eI (a1)), some (eI (a2)), some (eI (v12)), some (eI (v21)), none, none, none, none, none, none, none, none]) (s2 := []) rfl rfl rfl ?_
  refine w_t (np := 22) (l2 := [some (eR a0), some (eI (a1)), some (eI (a2)), some (eI (v12)), some (eI (v21)), none, none, none, none, none, none, none, none]) (s2 := [eR a0]) rfl (s_an rfl (pos_g hI gA0 (by decide))) rfl ?_
  refine w_gf (np := 25) (v := eR v5) rfl rfl (hI.kd gA0 (by decide) (n := 8) rfl) (by rw [e6]; rfl) ?_
  refine w_t (np := 26) (l2 := [some (eR a0), some (eI (a1)), some (eI (a2)), some (eI (v12)), some (eI (v21)), none, none, none, none, none, none, none, none]) (s2 := [eI (3), eR v5]) rfl rfl rfl ?_
  refine w_t (np := 27) (l2 := [some (eR a0), some (eI (a1)), some (eI (a2)), some (eI (v12)), some (eI (v21)), none, none, none, none, none, none, none, none]) (s2 := [eI (a1), eI (3), eR v5]) rfl rfl rfl ?_
  obtain ⟨v24, e25⟩ : ∃ zz : Int, zz = (3) * (a1) := ⟨_, rfl⟩
  have b26 : 0 ≤ v24 ∧ v24 ≤ 147 := by omega
  refine w_t (np := 28) (l2 := [some (eR a0), some (eI (a1)), some (eI (a2)), some (eI (v12)), some (eI (v21)), none, none, none, none, none, none, none, none]) (s2 := [eI (v24), eR v5]) rfl (b_imul (by rw [← e25]; exact ev_w_in (by omega) (by omega))) rfl ?_
  refine w_t (np := 29) (l2 := [some (eR a0), some (eI (a1)), some (eI (a2)), some (eI (v12)), some (eI (v21)), none, none, none, none, none, none, none, none]) (s2 := [eI (2), eI (v24), eR v5]) rfl rfl rfl ?_
  obtain ⟨v27, e28⟩ : ∃ zz : Int, zz = (v24) + (2) := ⟨_, rfl⟩
  have b29 : 2 ≤ v27 ∧ v27 ≤ 149 := by omega
  refine w_t (np := 30) (l2 := [some (eR a0), some (eI (a1)), some (eI (a2)), some (eI (v12)), some (eI (v21)), none, none, none, none, none, none, none, none]) (s2 := [eI (v27), eR v5]) rfl (b_iadd (by rw [← e28]; exact ev_w_in (by omega) (by omega))) rfl ?_
  refine j_al (np := 31) rfl rfl hI b7 (by decide) (n := 150) rfl rfl (lo := 0) (hi := 511) (fun _ => rfl) (by omega) (by omega) ?_
  intro v30 e31 b32
  refine w_t (np := 33) (l2 := [some (eR a0), some (eI (a1)), some (eI (a2)), some (eI (v12)), some (eI (v21)), some (eI (v30)), none, none, none, none, none, none, none]) (s2 := []) rfl rfl rfl ?_
  refine w_t (np := 34) (l2 := [some (eR a0), some (eI (a1)), some (eI (a2)), some (eI (v12)), some (eI (v21)), some (eI (v30)), none, none, none, none, none, none, none]) (s2 := [eR a0]) rfl (s_an rfl (pos_g hI gA0 (by decide))) rfl ?_
  refine j_gr (np := 37) rfl rfl hI gA0 (by decide) (n := 8) rfl rfl rfl ?_
  intro v33 e34 b35 z36
  have b35 : g v33 = 6 := Nat.eq_of_beq_eq_true b35
  refine w_t (np := 38) (l2 := [some (eR a0), some (eI (a1)), some (eI (a2)), some (eI (v12)), some (eI (v21)), some (eI (v30)), none, none, none, none, none, none, none]) (s2 := [eI (2), eR v33]) rfl rfl rfl ?_
  refine w_t (np := 39) (l2 := [some (eR a0), some (eI (a1)), some (eI (a2)), some (eI (v12)), some (eI (v21)), some (eI (v30)), none, none, none, none, none, none, none]) (s2 := [eI (a1), eI (2), eR v33]) rfl rfl rfl ?_
  obtain ⟨v37, e38⟩ : ∃ zz : Int, zz = (2) * (a1) := ⟨_, rfl⟩
  have b39 : 0 ≤ v37 ∧ v37 ≤ 98 := by omega
  refine w_t (np := 40) (l2 := [some (eR a0), some (eI (a1)), some (eI (a2)), some (eI (v12)), some (eI (v21)), some (eI (v30)), none, none, none, none, none, none, none]) (s2 := [eI (v37), eR v33]) rfl (b_imul (by rw [← e38]; exact ev_w_in (by omega) (by omega))) rfl ?_
  refine j_al (np := 41) rfl rfl hI b35 (by decide) (n := 100) rfl rfl (lo := 0) (hi := 9) (fun _ => rfl) (by omega) (by omega) ?_
  intro v40 e41 b42
  refine w_t (np := 43) (l2 := [some (eR a0), some (eI (a1)), some (eI (a2)), some (eI (v12)), some (eI (v21)), some (eI (v30)), some (eI (v40)), none, none, none, none, none, none]) (s2 := []) rfl rfl rfl ?_
  refine w_t (np := 44) (l2 := [some (eR a0), some (eI (a1)), some (eI (a2)), some (eI (v12)), some (eI (v21)), some (eI (v30)), some (eI (v40)), none, none, none, none, none, none]) (s2 := [eR a0]) rfl (s_an rfl (pos_g hI gA0 (by decide))) rfl ?_
  refine w_t (np := 45) (l2 := [some (eR a0), some (eI (a1)), some (eI (a2)), some (eI (v12)), some (eI (v21)), some (eI (v30)), some (eI (v40)), none, none, none, none, none, none]) (s2 := [eI (a1), eR a0]) rfl rfl rfl ?_
  refine w_cw (np := 48) (as := [eI (a1)]) (l2 := [some (eR a0), some (eI (a1))]) (rest := []) rfl rfl rfl (Nat.ble_eq.mp rfl) rfl rfl rfl (hI.kd gA0 (by decide) (n := 8) rfl) rfl ?_
  refine s_24 (a1 := a1) hI gA0 (by omega) ?_
  intro v43 b44
  show ex_q (dt_fg L ρ) rc (d + 2, (33, 48, [some (eR a0), some (eI (a1)), some (eI (a2)), some (eI (v12)), some (eI (v21)), some (eI (v30)), some (eI (v40)), none, none, none, none, none, none], [eI (v43)]), f :: F, μ)
  refine w_t (np := 50) (l2 := [some (eR a0), some (eI (a1)), some (eI (a2)), some (eI (v12)), some (eI (v21)), some (eI (v30)), some (eI (v40)), some (eI (v43)), none, none, none, none, none]) (s2 := []) rfl rfl rfl ?_
  refine w_t (np := 51) (l2 := [some (eR a0), some (eI (a1)), some (eI (a2)), some (eI (v12)), some (eI (v21)), some (eI (v30)), some (eI (v40)), some (eI (v43)), none, none, none, none, none]) (s2 := [eI (3)]) rfl rfl rfl ?_
  refine w_t (np := 52) (l2 := [some (eR a0), some (eI (a1)), some (eI (a2)), some (eI (v12)), some (eI (v21)), some (eI (v30)), some (eI (v40)), some (eI (v43)), none, none, none, none, none]) (s2 := [eR a0, eI (3)]) rfl (s_an rfl (pos_g hI gA0 (by decide))) rfl ?_
  refine j_gr (np := 55) rfl rfl hI gA0 (by decide) (n := 8) rfl rfl rfl ?_
  intro v45 e46 b47 z48
  have b47 : g v45 = 4 := Nat.eq_of_beq_eq_true b47
  refine w_t (np := 56) (l2 := [some (eR a0), some (eI (a1)), some (eI (a2)), some (eI (v12)), some (eI (v21)), some (eI (v30)), some (eI (v40)), some (eI (v43)), none, none, none, none, none]) (s2 := [eI (a1), eR v45, eI (3)]) rfl rfl rfl ?_
  refine j_al (np := 57) rfl rfl hI b47 (by decide) (n := 50) rfl rfl (lo := -2147483648) (hi := 2147483647) (fun _ => rfl) (by omega) (by omega) ?_
  intro v49 e50 b51
  obtain ⟨v52, e53, b54⟩ : ∃ zz : Int, ev_w ((3) * (v49)) = zz ∧ (-2147483648 ≤ zz ∧ zz ≤ 2147483647) := ⟨_, rfl, hw_bd _⟩
  refine w_t (np := 58) (l2 := [some (eR a0), some (eI (a1)), some (eI (a2)), some (eI (v12)), some (eI (v21)), some (eI (v30)), some (eI (v40)), some (eI (v43)), none, none, none, none, none]) (s2 := [eI (v52)]) rfl (b_imul e53) rfl ?_
  refine w_t (np := 60) (l2 := [some (eR a0), some (eI (a1)), some (eI (a2)), some (eI (v12)), some (eI (v21)), some (eI (v30)), some (eI (v40)), some (eI (v43)), some (eI (v52)), none, none, none, none]) (s2 := []) rfl rfl rfl ?_
  refine w_t (np := 61) (l2 := [some (eR a0), some (eI (a1)), some (eI (a2)), some (eI (v12)), some (eI (v21)), some (eI (v30)), some (eI (v40)), some (eI (v43)), some (eI (v52)), none, none, none, none]) (s2 := [eR a0]) rfl (s_an rfl (pos_g hI gA0 (by decide))) rfl ?_
  refine j_gr (np := 64) rfl rfl hI gA0 (by decide) (n := 8) rfl rfl rfl ?_
  intro v55 e56 b57 z58
  rcases hor2 b57 with b57 | b57
  · refine w_t (np := 66) (l2 := [some (eR a0), some (eI (a1)), some (eI (a2)), some (eI (v12)), some (eI (v21)), some (eI (v30)), some (eI (v40)), some (eI (v43)), some (eI (v52)), none, none, none, none]) (s2 := [eI (v21), eR v55]) rfl rfl rfl ?_
    refine w_cw (np := 69) (as := [eI (v21)]) (l2 := [some (eR v55), some (eI (v21))]) (rest := []) rfl rfl rfl (Nat.ble_eq.mp rfl) rfl rfl rfl (hI.kd b57 (by decide) (n := 3) rfl) rfl ?_
    refine s_44 (a1 := v21) hI b57 (by omega) ?_
    intro v59 b60
    show ex_q (dt_fg L ρ) rc (d + 2, (33, 69, [some (eR a0), some (eI (a1)), some (eI (a2)), some (eI (v12)), some (eI (v21)), some (eI (v30)), some (eI (v40)), some (eI (v43)), some (eI (v52)), none, none, none, none], [eJ (v59)]), f :: F, μ)
    refine w_t (np := 71) (l2 := [some (eR a0), some (eI (a1)), some (eI (a2)), some (eI (v12)), some (eI (v21)), some (eI (v30)), some (eI (v40)), some (eI (v43)), some (eI (v52)), none, none, none, none]) (s2 := [eI (v40), eJ (v59)]) rfl rfl rfl ?_
    refine w_cu (np := 74) (as := [eI (v40)]) (l2 := [some (eI (v40))]) (rest := [eJ (v59)]) rfl rfl rfl (Nat.ble_eq.mp rfl) rfl rfl rfl rfl ?_
    refine s_74 (a0 := v40) hI (by omega) ?_
    intro v61 b62
    show ex_q (dt_fg L ρ) rc (d + 2, (33, 74, [some (eR a0), some (eI (a1)), some (eI (a2)), some (eI (v12)), some (eI (v21)), some (eI (v30)), some (eI (v40)), some (eI (v43)), some (eI (v52)), none, none, none, none], [eJ (v61), eJ (v59)]), f :: F, μ)
    refine w_cu (np := 77) (as := [eJ (v59), eJ (v61)]) (l2 := [some (eJ (v59)), none, some (eJ (v61)), none]) (rest := []) rfl rfl rfl (Nat.ble_eq.mp rfl) rfl rfl rfl rfl ?_
    refine s_76 hI b60 b62 ?_
    intro v63 b64
    show ex_q (dt_fg L ρ) rc (d + 2, (33, 77, [some (eR a0), some (eI (a1)), some (eI (a2)), some (eI (v12)), some (eI (v21)), some (eI (v30)), some (eI (v40)), some (eI (v43)), some (eI (v52)), none, none, none, none], [eJ (v63)]), f :: F, μ)
    refine w_t (np := 79) (l2 := [some (eR a0), some (eI (a1)), some (eI (a2)), some (eI (v12)), some (eI (v21)), some (eI (v30)), some (eI (v40)), some (eI (v43)), some (eI (v52)), some (eJ (v63)), none, none, none]) (s2 := []) rfl rfl rfl ?_
    refine w_t (np := 80) (l2 := [some (eR a0), some (eI (a1)), some (eI (a2)), some (eI (v12)), some (eI (v21)), some (eI (v30)), some (eI (v40)), some (eI (v43)), some (eI (v52)), some (eJ (v63)), none, none, none]) (s2 := [eR a0]) rfl (s_an rfl (pos_g hI gA0 (by decide))) rfl ?_
    refine w_gf (np := 83) (v := eR v55) rfl rfl (hI.kd gA0 (by decide) (n := 8) rfl) (by rw [e56]; rfl) ?_
    refine w_t (np := 85) (l2 := [some (eR a0), some (eI (a1)), some (eI (a2)), some (eI (v12)), some (eI (v21)), some (eI (v30)), some (eI (v40)), some (eI (v43)), some (eI (v52)), some (eJ (v63)), none, none, none]) (s2 := [eJ (v63), eR v55]) rfl rfl rfl ?_
    refine w_cw (np := 88) (as := [eJ (v63)]) (l2 := [some (eR v55), some (eJ (v63)), none, none]) (rest := []) rfl rfl rfl (Nat.ble_eq.mp rfl) rfl rfl rfl (hI.kd b57 (by decide) (n := 3) rfl) rfl ?_
    refine s_46 hI b57 b64 ?_
    intro m65 v68 I66 F67 b69
    have F70 : Fr l_33 0 0 g μ m65 := F0.t F67 rfl
    have q71 := kq_fr kq0 F67 b3 (by decide) rfl rfl
    show ex_q (dt_fg L ρ) rc (d + 2, (33, 88, [some (eR a0), some (eI (a1)), some (eI (a2)), some (eI (v12)), some (eI (v21)), some (eI (v30)), some (eI (v40)), some (eI (v43)), some (eI (v52)), some (eJ (v63)), none, none, none], [eI (v68)]), f :: F, m65)
    refine w_t (np := 90) (l2 := [some (eR a0), some (eI (a1)), some (eI (a2)), some (eI (v12)), some (eI (v21)), some (eI (v30)), some (eI (v40)), some (eI (v43)), some (eI (v52)), some (eJ (v63)), none, some (eI (v68)), none]) (s2 := []) rfl rfl rfl ?_
    refine w_t (np := 91) (l2 := [some (eR a0), some (eI (a1)), some (eI (a2)), some (eI (v12)), some (eI (v21)), some (eI (v30)), some (eI (v40)), some (eI (v43)), some (eI (v52)), some (eJ (v63)), none, some (eI (v68)), none]) (s2 := [eR a0]) rfl (s_an rfl (pos_g I66 gA0 (by decide))) rfl ?_
    refine w_gf (np := 94) (v := eR v55) rfl rfl (I66.kd gA0 (by decide) (n := 8) rfl) (by rw [(F67.k e56 gA0 (by decide) rfl)]; rfl) ?_
    refine w_t (np := 96) (l2 := [some (eR a0), some (eI (a1)), some (eI (a2)), some (eI (v12)), some (eI (v21)), some (eI (v30)), some (eI (v40)), some (eI (v43)), some (eI (v52)), some (eJ (v63)), none, some (eI (v68)), none]) (s2 := [eJ (v63), eR v55]) rfl rfl rfl ?_
    refine w_t (np := 98) (l2 := [some (eR a0), some (eI (a1)), some (eI (a2)), some (eI (v12)), some (eI (v21)), some (eI (v30)), some (eI (v40)), some (eI (v43)), some (eI (v52)), some (eJ (v63)), none, some (eI (v68)), none]) (s2 := [eI (v40), eJ (v63), eR v55]) rfl rfl rfl ?_
    refine w_t (np := 99) (l2 := [some (eR a0), some (eI (a1)), some (eI (a2)), some (eI (v12)), some (eI (v21)), some (eI (v30)), some (eI (v40)), some (eI (v43)), some (eI (v52)), some (eJ (v63)), none, some (eI (v68)), none]) (s2 := [eI (3), eI (v40), eJ (v63), eR v55]) rfl rfl rfl ?_
    refine w_t (np := 101) (l2 := [some (eR a0), some (eI (a1)), some (eI (a2)), some (eI (v12)), some (eI (v21)), some (eI (v30)), some (eI (v40)), some (eI (v43)), some (eI (v52)), some (eJ (v63)), none, some (eI (v68)), none]) (s2 := [eI (v43), eI (3), eI (v40), eJ (v63), eR v55]) rfl rfl rfl ?_
    obtain ⟨v72, e73⟩ : ∃ zz : Int, zz = (3) * (v43) := ⟨_, rfl⟩
    have b74 : -3 ≤ v72 ∧ v72 ≤ 3 := by omega
    refine w_t (np := 102) (l2 := [some (eR a0), some (eI (a1)), some (eI (a2)), some (eI (v12)), some (eI (v21)), some (eI (v30)), some (eI (v40)), some (eI (v43)), some (eI (v52)), some (eJ (v63)), none, some (eI (v68)), none]) (s2 := [eI (v72), eI (v40), eJ (v63), eR v55]) rfl (b_imul (by rw [← e73]; exact ev_w_in (by omega) (by omega))) rfl ?_
    obtain ⟨v75, e76⟩ : ∃ zz : Int, zz = (v40) + (v72) := ⟨_, rfl⟩
    have b77 : -3 ≤ v75 ∧ v75 ≤ 12 := by omega
    refine w_t (np := 103) (l2 := [some (eR a0), some (eI (a1)), some (eI (a2)), some (eI (v12)), some (eI (v21)), some (eI (v30)), some (eI (v40)), some (eI (v43)), some (eI (v52)), some (eJ (v63)), none, some (eI (v68)), none]) (s2 := [eI (v75), eJ (v63), eR v55]) rfl (b_iadd (by rw [← e76]; exact ev_w_in (by omega) (by omega))) rfl ?_
    refine w_cu (np := 106) (as := [eI (v75)]) (l2 := [some (eI (v75))]) (rest := [eJ (v63), eR v55]) rfl rfl rfl (Nat.ble_eq.mp rfl) rfl rfl rfl rfl ?_
    refine s_74 (a0 := v75) I66 (by omega) ?_
    intro v78 b79
    show ex_q (dt_fg L ρ) rc (d + 2, (33, 106, [some (eR a0), some (eI (a1)), some (eI (a2)), some (eI (v12)), some (eI (v21)), some (eI (v30)), some (eI (v40)), some (eI (v43)), some (eI (v52)), some (eJ (v63)), none, some (eI (v68)), none], [eJ (v78), eJ (v63), eR v55]), f :: F, m65)
    refine w_cu (np := 109) (as := [eJ (v63), eJ (v78)]) (l2 := [some (eJ (v63)), none, some (eJ (v78)), none]) (rest := [eR v55]) rfl rfl rfl (Nat.ble_eq.mp rfl) rfl rfl rfl rfl ?_
    refine s_75 I66 b64 b79 ?_
    intro v80 b81
    show ex_q (dt_fg L ρ) rc (d + 2, (33, 109, [some (eR a0), some (eI (a1)), some (eI (a2)), some (eI (v12)), some (eI (v21)), some (eI (v30)), some (eI (v40)), some (eI (v43)), some (eI (v52)), some (eJ (v63)), none, some (eI (v68)), none], [eJ (v80), eR v55]), f :: F, m65)
    refine w_cw (np := 112) (as := [eJ (v80)]) (l2 := [some (eR v55), some (eJ (v80)), none, none]) (rest := []) rfl rfl rfl (Nat.ble_eq.mp rfl) rfl rfl rfl (I66.kd b57 (by decide) (n := 3) rfl) rfl ?_
    refine s_46 I66 b57 b81 ?_
    intro m82 v85 I83 F84 b86
    have F87 : Fr l_33 0 0 g μ m82 := F70.t F84 rfl
    have q88 := kq_fr q71 F84 b3 (by decide) rfl rfl
    show ex_q (dt_fg L ρ) rc (d + 2, (33, 112, [some (eR a0), some (eI (a1)), some (eI (a2)), some (eI (v12)), some (eI (v21)), some (eI (v30)), some (eI (v40)), some (eI (v43)), some (eI (v52)), some (eJ (v63)), none, some (eI (v68)), none], [eI (v85)]), f :: F, m82)
    refine w_t (np := 114) (l2 := [some (eR a0), some (eI (a1)), some (eI (a2)), some (eI (v12)), some (eI (v21)), some (eI (v30)), some (eI (v40)), some (eI (v43)), some (eI (v52)), some (eJ (v63)), none, some (eI (v68)), some (eI (v85))]) (s2 := []) rfl rfl rfl ?_
    refine w_t (np := 115) (l2 := [some (eR a0), some (eI (a1)), some (eI (a2)), some (eI (v12)), some (eI (v21)), some (eI (v30)), some (eI (v40)), some (eI (v43)), some (eI (v52)), some (eJ (v63)), none, some (eI (v68)), some (eI (v85))]) (s2 := [eR a0]) rfl (s_an rfl (pos_g I83 gA0 (by decide))) rfl ?_
    refine w_t (np := 116) (l2 := [some (eR a0), some (eI (a1)), some (eI (a2)), some (eI (v12)), some (eI (v21)), some (eI (v30)), some (eI (v40)), some (eI (v43)), some (eI (v52)), some (eJ (v63)), none, some (eI (v68)), some (eI (v85))]) (s2 := [eI (a2), eR a0]) rfl rfl rfl ?_
    refine w_t (np := 117) (l2 := [some (eR a0), some (eI (a1)), some (eI (a2)), some (eI (v12)), some (eI (v21)), some (eI (v30)), some (eI (v40)), some (eI (v43)), some (eI (v52)), some (eJ (v63)), none, some (eI (v68)), some (eI (v85))]) (s2 := [eI (1), eI (a2), eR a0]) rfl rfl rfl ?_
    refine w_t (np := 119) (l2 := [some (eR a0), some (eI (a1)), some (eI (a2)), some (eI (v12)), some (eI (v21)), some (eI (v30)), some (eI (v40)), some (eI (v43)), some (eI (v52)), some (eJ (v63)), none, some (eI (v68)), some (eI (v85))]) (s2 := [eI (v52), eI (1), eI (a2), eR a0]) rfl rfl rfl ?_
    refine w_t (np := 121) (l2 := [some (eR a0), some (eI (a1)), some (eI (a2)), some (eI (v12)), some (eI (v21)), some (eI (v30)), some (eI (v40)), some (eI (v43)), some (eI (v52)), some (eJ (v63)), none, some (eI (v68)), some (eI (v85))]) (s2 := [eI (v40), eI (v52), eI (1), eI (a2), eR a0]) rfl rfl rfl ?_
    refine w_t (np := 122) (l2 := [some (eR a0), some (eI (a1)), some (eI (a2)), some (eI (v12)), some (eI (v21)), some (eI (v30)), some (eI (v40)), some (eI (v43)), some (eI (v52)), some (eJ (v63)), none, some (eI (v68)), some (eI (v85))]) (s2 := [eI (4), eI (v40), eI (v52), eI (1), eI (a2), eR a0]) rfl rfl rfl ?_
    refine w_t (np := 124) (l2 := [some (eR a0), some (eI (a1)), some (eI (a2)), some (eI (v12)), some (eI (v21)), some (eI (v30)), some (eI (v40)), some (eI (v43)), some (eI (v52)), some (eJ (v63)), none, some (eI (v68)), some (eI (v85))]) (s2 := [eI (v43), eI (4), eI (v40), eI (v52), eI (1), eI (a2), eR a0]) rfl rfl rfl ?_
    obtain ⟨v89, e90⟩ : ∃ zz : Int, zz = (4) * (v43) := ⟨_, rfl⟩
    have b91 : -4 ≤ v89 ∧ v89 ≤ 4 := by omega
    refine w_t (np := 125) (l2 := [some (eR a0), some (eI (a1)), some (eI (a2)), some (eI (v12)), some (eI (v21)), some (eI (v30)), some (eI (v40)), some (eI (v43)), some (eI (v52)), some (eJ (v63)), none, some (eI (v68)), some (eI (v85))]) (s2 := [eI (v89), eI (v40), eI (v52), eI (1), eI (a2), eR a0]) rfl (b_imul (by rw [← e90]; exact ev_w_in (by omega) (by omega))) rfl ?_
    obtain ⟨v92, e93⟩ : ∃ zz : Int, zz = (v40) + (v89) := ⟨_, rfl⟩
    have b94 : -4 ≤ v92 ∧ v92 ≤ 13 := by omega
    refine w_t (np := 126) (l2 := [some (eR a0), some (eI (a1)), some (eI (a2)), some (eI (v12)), some (eI (v21)), some (eI (v30)), some (eI (v40)), some (eI (v43)), some (eI (v52)), some (eJ (v63)), none, some (eI (v68)), some (eI (v85))]) (s2 := [eI (v92), eI (v52), eI (1), eI (a2), eR a0]) rfl (b_iadd (by rw [← e93]; exact ev_w_in (by omega) (by omega))) rfl ?_
    refine w_t (np := 128) (l2 := [some (eR a0), some (eI (a1)), some (eI (a2)), some (eI (v12)), some (eI (v21)), some (eI (v30)), some (eI (v40)), some (eI (v43)), some (eI (v52)), some (eJ (v63)), none, some (eI (v68)), some (eI (v85))]) (s2 := [eI (v40), eI (v92), eI (v52), eI (1), eI (a2), eR a0]) rfl rfl rfl ?_
    refine w_t (np := 130) (l2 := [some (eR a0), some (eI (a1)), some (eI (a2)), some (eI (v12)), some (eI (v21)), some (eI (v30)), some (eI (v40)), some (eI (v43)), some (eI (v52)), some (eJ (v63)), none, some (eI (v68)), some (eI (v85))]) (s2 := [eI (7), eI (v40), eI (v92), eI (v52), eI (1), eI (a2), eR a0]) rfl rfl rfl ?_
    refine w_t (np := 132) (l2 := [some (eR a0), some (eI (a1)), some (eI (a2)), some (eI (v12)), some (eI (v21)), some (eI (v30)), some (eI (v40)), some (eI (v43)), some (eI (v52)), some (eJ (v63)), none, some (eI (v68)), some (eI (v85))]) (s2 := [eI (v43), eI (7), eI (v40), eI (v92), eI (v52), eI (1), eI (a2), eR a0]) rfl rfl rfl ?_
    obtain ⟨v95, e96⟩ : ∃ zz : Int, zz = (7) * (v43) := ⟨_, rfl⟩
    have b97 : -7 ≤ v95 ∧ v95 ≤ 7 := by omega
    refine w_t (np := 133) (l2 := [some (eR a0), some (eI (a1)), some (eI (a2)), some (eI (v12)), some (eI (v21)), some (eI (v30)), some (eI (v40)), some (eI (v43)), some (eI (v52)), some (eJ (v63)), none, some (eI (v68)), some (eI (v85))]) (s2 := [eI (v95), eI (v40), eI (v92), eI (v52), eI (1), eI (a2), eR a0]) rfl (b_imul (by rw [← e96]; exact ev_w_in (by omega) (by omega))) rfl ?_
    obtain ⟨v98, e99⟩ : ∃ zz : Int, zz = (v40) + (v95) := ⟨_, rfl⟩
    have b100 : -7 ≤ v98 ∧ v98 ≤ 16 := by omega
    refine w_t (np := 134) (l2 := [some (eR a0), some (eI (a1)), some (eI (a2)), some (eI (v12)), some (eI (v21)), some (eI (v30)), some (eI (v40)), some (eI (v43)), some (eI (v52)), some (eJ (v63)), none, some (eI (v68)), some (eI (v85))]) (s2 := [eI (v98), eI (v92), eI (v52), eI (1), eI (a2), eR a0]) rfl (b_iadd (by rw [← e99]; exact ev_w_in (by omega) (by omega))) rfl ?_
    refine w_cw (np := 137) (as := [eI (a2), eI (1), eI (v52), eI (v92), eI (v98)]) (l2 := [some (eR a0), some (eI (a2)), some (eI (1)), some (eI (v52)), some (eI (v92)), some (eI (v98))]) (rest := []) rfl rfl rfl (Nat.ble_eq.mp rfl) rfl rfl rfl (I83.kd gA0 (by decide) (n := 8) rfl) rfl ?_
    refine s_28k (a1 := a2) (a2 := 1) (a3 := v52) (a4 := v92) (a5 := v98) I83 gA0 (by omega) (by decide) (by omega) (by omega) (by omega) ?_
    intro m101 I102 F103 h104
    have F105 : Fr l_33 0 0 g μ m101 := F87.t F103 rfl
    have q106 := kq_sh q88 h104 (F84.k (F67.k e2 gA0 (by decide) rfl) gA0 (by decide) rfl) (by omega)
    show ex_q (dt_fg L ρ) rc (d + 2, (33, 137, [some (eR a0), some (eI (a1)), some (eI (a2)), some (eI (v12)), some (eI (v21)), some (eI (v30)), some (eI (v40)), some (eI (v43)), some (eI (v52)), some (eJ (v63)), none, some (eI (v68)), some (eI (v85))], []), f :: F, m101)
    refine w_t (np := 138) (l2 := [some (eR a0), some (eI (a1)), some (eI (a2)), some (eI (v12)), some (eI (v21)), some (eI (v30)), some (eI (v40)), some (eI (v43)), some (eI (v52)), some (eJ (v63)), none, some (eI (v68)), some (eI (v85))]) (s2 := [eR a0]) rfl (s_an rfl (pos_g I102 gA0 (by decide))) rfl ?_
    refine w_t (np := 139) (l2 := [some (eR a0), some (eI (a1)), some (eI (a2)), some (eI (v12)), some (eI (v21)), some (eI (v30)), some (eI (v40)), some (eI (v43)), some (eI (v52)), some (eJ (v63)), none, some (eI (v68)), some (eI (v85))]) (s2 := [eI (a2), eR a0]) rfl rfl rfl ?_
    refine w_t (np := 141) (l2 := [some (eR a0), some (eI (a1)), some (eI (a2)), some (eI (v12)), some (eI (v21)), some (eI (v30)), some (eI (v40)), some (eI (v43)), some (eI (v52)), some (eJ (v63)), none, some (eI (v68)), some (eI (v85))]) (s2 := [eI (v85), eI (a2), eR a0]) rfl rfl rfl ?_
    refine w_t (np := 143) (l2 := [some (eR a0), some (eI (a1)), some (eI (a2)), some (eI (v12)), some (eI (v21)), some (eI (v30)), some (eI (v40)), some (eI (v43)), some (eI (v52)), some (eJ (v63)), none, some (eI (v68)), some (eI (v85))]) (s2 := [eI (v30), eI (v85), eI (a2), eR a0]) rfl rfl rfl ?_
    refine w_t (np := 144) (l2 := [some (eR a0), some (eI (a1)), some (eI (a2)), some (eI (v12)), some (eI (v21)), some (eI (v30)), some (eI (v40)), some (eI (v43)), some (eI (v52)), some (eJ (v63)), none, some (eI (v68)), some (eI (v85))]) (s2 := [eI (v12), eI (v30), eI (v85), eI (a2), eR a0]) rfl rfl rfl ?_
    refine w_cw (np := 147) (as := [eI (a2), eI (v85), eI (v30), eI (v12)]) (l2 := [some (eR a0), some (eI (a2)), some (eI (v85)), some (eI (v30)), some (eI (v12))]) (rest := []) rfl rfl rfl (Nat.ble_eq.mp rfl) rfl rfl rfl (I102.kd gA0 (by decide) (n := 8) rfl) rfl ?_
    refine s_29 (a1 := a2) (a2 := v85) (a3 := v30) (a4 := v12) I102 gA0 (by omega) (by omega) (by omega) (by omega) ?_
    intro m107 I108 F109
    have F110 : Fr l_33 0 0 g μ m107 := F105.t F109 rfl
    have q111 := kq_fr q106 F109 b3 (by decide) rfl rfl
    show ex_q (dt_fg L ρ) rc (d + 2, (33, 147, [some (eR a0), some (eI (a1)), some (eI (a2)), some (eI (v12)), some (eI (v21)), some (eI (v30)), some (eI (v40)), some (eI (v43)), some (eI (v52)), some (eJ (v63)), none, some (eI (v68)), some (eI (v85))], []), f :: F, m107)
    refine w_t (np := 148) (l2 := [some (eR a0), some (eI (a1)), some (eI (a2)), some (eI (v12)), some (eI (v21)), some (eI (v30)), some (eI (v40)), some (eI (v43)), some (eI (v52)), some (eJ (v63)), none, some (eI (v68)), some (eI (v85))]) (s2 := [eR a0]) rfl (s_an rfl (pos_g I108 gA0 (by decide))) rfl ?_
    refine w_t (np := 149) (l2 := [some (eR a0), some (eI (a1)), some (eI (a2)), some (eI (v12)), some (eI (v21)), some (eI (v30)), some (eI (v40)), some (eI (v43)), some (eI (v52)), some (eJ (v63)), none, some (eI (v68)), some (eI (v85))]) (s2 := [eI (a2), eR a0]) rfl rfl rfl ?_
    refine w_t (np := 150) (l2 := [some (eR a0), some (eI (a1)), some (eI (a2)), some (eI (v12)), some (eI (v21)), some (eI (v30)), some (eI (v40)), some (eI (v43)), some (eI (v52)), some (eJ (v63)), none, some (eI (v68)), some (eI (v85))]) (s2 := [eI (1), eI (a2), eR a0]) rfl rfl rfl ?_
    obtain ⟨v112, e113⟩ : ∃ zz : Int, zz = (a2) + (1) := ⟨_, rfl⟩
    have b114 : 1 ≤ v112 ∧ v112 ≤ 48 := by omega
    refine w_t (np := 151) (l2 := [some (eR a0), some (eI (a1)), some (eI (a2)), some (eI (v12)), some (eI (v21)), some (eI (v30)), some (eI (v40)), some (eI (v43)), some (eI (v52)), some (eJ (v63)), none, some (eI (v68)), some (eI (v85))]) (s2 := [eI (v112), eR a0]) rfl (b_iadd (by rw [← e113]; exact ev_w_in (by omega) (by omega))) rfl ?_
    refine w_t (np := 152) (l2 := [some (eR a0), some (eI (a1)), some (eI (a2)), some (eI (v12)), some (eI (v21)), some (eI (v30)), some (eI (v40)), some (eI (v43)), some (eI (v52)), some (eJ (v63)), none, some (eI (v68)), some (eI (v85))]) (s2 := [eI (1), eI (v112), eR a0]) rfl rfl rfl ?_
    refine w_t (np := 154) (l2 := [some (eR a0), some (eI (a1)), some (eI (a2)), some (eI (v12)), some (eI (v21)), some (eI (v30)), some (eI (v40)), some (eI (v43)), some (eI (v52)), some (eJ (v63)), none, some (eI (v68)), some (eI (v85))]) (s2 := [eI (v52), eI (1), eI (v112), eR a0]) rfl rfl rfl ?_
    refine w_t (np := 155) (l2 := [some (eR a0), some (eI (a1)), some (eI (a2)), some (eI (v12)), some (eI (v21)), some (eI (v30)), some (eI (v40)), some (eI (v43)), some (eI (v52)), some (eJ (v63)), none, some (eI (v68)), some (eI (v85))]) (s2 := [eI (1), eI (v52), eI (1), eI (v112), eR a0]) rfl rfl rfl ?_
    obtain ⟨v115, e116, b117⟩ : ∃ zz : Int, ev_w ((v52) + (1)) = zz ∧ (-2147483648 ≤ zz ∧ zz ≤ 2147483647) := ⟨_, rfl, hw_bd _⟩
    refine w_t (np := 156) (l2 := [some (eR a0), some (eI (a1)), some (eI (a2)), some (eI (v12)), some (eI (v21)), some (eI (v30)), some (eI (v40)), some (eI (v43)), some (eI (v52)), some (eJ (v63)), none, some (eI (v68)), some (eI (v85))]) (s2 := [eI (v115), eI (1), eI (v112), eR a0]) rfl (b_iadd e116) rfl ?_
    refine w_t (np := 158) (l2 := [some (eR a0), some (eI (a1)), some (eI (a2)), some (eI (v12)), some (eI (v21)), some (eI (v30)), some (eI (v40)), some (eI (v43)), some (eI (v52)), some (eJ (v63)), none, some (eI (v68)), some (eI (v85))]) (s2 := [eI (v40), eI (v115), eI (1), eI (v112), eR a0]) rfl rfl rfl ?_
    refine w_t (np := 159) (l2 := [some (eR a0), some (eI (a1)), some (eI (a2)), some (eI (v12)), some (eI (v21)), some (eI (v30)), some (eI (v40)), some (eI (v43)), some (eI (v52)), some (eJ (v63)), none, some (eI (v68)), some (eI (v85))]) (s2 := [eI (3), eI (v40), eI (v115), eI (1), eI (v112), eR a0]) rfl rfl rfl ?_
    refine w_t (np := 161) (l2 := [some (eR a0), some (eI (a1)), some (eI (a2)), some (eI (v12)), some (eI (v21)), some (eI (v30)), some (eI (v40)), some (eI (v43)), some (eI (v52)), some (eJ (v63)), none, some (eI (v68)), some (eI (v85))]) (s2 := [eI (v43), eI (3), eI (v40), eI (v115), eI (1), eI (v112), eR a0]) rfl rfl rfl ?_
    obtain ⟨v118, e119⟩ : ∃ zz : Int, zz = (3) * (v43) := ⟨_, rfl⟩
    have b120 : -3 ≤ v118 ∧ v118 ≤ 3 := by omega
    refine w_t (np := 162) (l2 := [some (eR a0), some (eI (a1)), some (eI (a2)), some (eI (v12)), some (eI (v21)), some (eI (v30)), some (eI (v40)), some (eI (v43)), some (eI (v52)), some (eJ (v63)), none, some (eI (v68)), some (eI (v85))]) (s2 := [eI (v118), eI (v40), eI (v115), eI (1), eI (v112), eR a0]) rfl (b_imul (by rw [← e119]; exact ev_w_in (by omega) (by omega))) rfl ?_
    obtain ⟨v121, e122⟩ : ∃ zz : Int, zz = (v40) + (v118) := ⟨_, rfl⟩
    have b123 : -3 ≤ v121 ∧ v121 ≤ 12 := by omega
    refine w_t (np := 163) (l2 := [some (eR a0), some (eI (a1)), some (eI (a2)), some (eI (v12)), some (eI (v21)), some (eI (v30)), some (eI (v40)), some (eI (v43)), some (eI (v52)), some (eJ (v63)), none, some (eI (v68)), some (eI (v85))]) (s2 := [eI (v121), eI (v115), eI (1), eI (v112), eR a0]) rfl (b_iadd (by rw [← e122]; exact ev_w_in (by omega) (by omega))) rfl ?_
    refine w_t (np := 165) (l2 := [some (eR a0), some (eI (a1)), some (eI (a2)), some (eI (v12)), some (eI (v21)), some (eI (v30)), some (eI (v40)), some (eI (v43)), some (eI (v52)), some (eJ (v63)), none, some (eI (v68)), some (eI (v85))]) (s2 := [eI (v40), eI (v121), eI (v115), eI (1), eI (v112), eR a0]) rfl rfl rfl ?_
    refine w_cw (np := 168) (as := [eI (v112), eI (1), eI (v115), eI (v121), eI (v40)]) (l2 := [some (eR a0), some (eI (v112)), some (eI (1)), some (eI (v115)), some (eI (v121)), some (eI (v40))]) (rest := []) rfl rfl rfl (Nat.ble_eq.mp rfl) rfl rfl rfl (I108.kd gA0 (by decide) (n := 8) rfl) rfl ?_
    refine s_28k (a1 := v112) (a2 := 1) (a3 := v115) (a4 := v121) (a5 := v40) I108 gA0 (by omega) (by decide) (by omega) (by omega) (by omega) ?_
    intro m124 I125 F126 h127
    have F128 : Fr l_33 0 0 g μ m124 := F110.t F126 rfl
    have q129 := kq_sh q111 h127 (F109.k (F103.k (F84.k (F67.k e2 gA0 (by decide) rfl) gA0 (by decide) rfl) gA0 (by decide) rfl) gA0 (by decide) rfl) (by omega)
    show ex_q (dt_fg L ρ) rc (d + 2, (33, 168, [some (eR a0), some (eI (a1)), some (eI (a2)), some (eI (v12)), some (eI (v21)), some (eI (v30)), some (eI (v40)), some (eI (v43)), some (eI (v52)), some (eJ (v63)), none, some (eI (v68)), some (eI (v85))], []), f :: F, m124)
    refine w_t (np := 169) (l2 := [some (eR a0), some (eI (a1)), some (eI (a2)), some (eI (v12)), some (eI (v21)), some (eI (v30)), some (eI (v40)), some (eI (v43)), some (eI (v52)), some (eJ (v63)), none, some (eI (v68)), some (eI (v85))]) (s2 := [eR a0]) rfl (s_an rfl (pos_g I125 gA0 (by decide))) rfl ?_
    refine w_t (np := 170) (l2 := [some (eR a0), some (eI (a1)), some (eI (a2)), some (eI (v12)), some (eI (v21)), some (eI (v30)), some (eI (v40)), some (eI (v43)), some (eI (v52)), some (eJ (v63)), none, some (eI (v68)), some (eI (v85))]) (s2 := [eI (a2), eR a0]) rfl rfl rfl ?_
    refine w_t (np := 171) (l2 := [some (eR a0), some (eI (a1)), some (eI (a2)), some (eI (v12)), some (eI (v21)), some (eI (v30)), some (eI (v40)), some (eI (v43)), some (eI (v52)), some (eJ (v63)), none, some (eI (v68)), some (eI (v85))]) (s2 := [eI (1), eI (a2), eR a0]) rfl rfl rfl ?_
    obtain ⟨v130, e131⟩ : ∃ zz : Int, zz = (a2) + (1) := ⟨_, rfl⟩
    have b132 : 1 ≤ v130 ∧ v130 ≤ 48 := by omega
    refine w_t (np := 172) (l2 := [some (eR a0), some (eI (a1)), some (eI (a2)), some (eI (v12)), some (eI (v21)), some (eI (v30)), some (eI (v40)), some (eI (v43)), some (eI (v52)), some (eJ (v63)), none, some (eI (v68)), some (eI (v85))]) (s2 := [eI (v130), eR a0]) rfl (b_iadd (by rw [← e131]; exact ev_w_in (by omega) (by omega))) rfl ?_
    refine w_t (np := 174) (l2 := [some (eR a0), some (eI (a1)), some (eI (a2)), some (eI (v12)), some (eI (v21)), some (eI (v30)), some (eI (v40)), some (eI (v43)), some (eI (v52)), some (eJ (v63)), none, some (eI (v68)), some (eI (v85))]) (s2 := [eI (v68), eI (v130), eR a0]) rfl rfl rfl ?_
    refine w_t (np := 176) (l2 := [some (eR a0), some (eI (a1)), some (eI (a2)), some (eI (v12)), some (eI (v21)), some (eI (v30)), some (eI (v40)), some (eI (v43)), some (eI (v52)), some (eJ (v63)), none, some (eI (v68)), some (eI (v85))]) (s2 := [eI (v85), eI (v68), eI (v130), eR a0]) rfl rfl rfl ?_
    refine w_t (np := 178) (l2 := [some (eR a0), some (eI (a1)), some (eI (a2)), some (eI (v12)), some (eI (v21)), some (eI (v30)), some (eI (v40)), some (eI (v43)), some (eI (v52)), some (eJ (v63)), none, some (eI (v68)), some (eI (v85))]) (s2 := [eI (v21), eI (v85), eI (v68), eI (v130), eR a0]) rfl rfl rfl ?_
    refine w_cw (np := 181) (as := [eI (v130), eI (v68), eI (v85), eI (v21)]) (l2 := [some (eR a0), some (eI (v130)), some (eI (v68)), some (eI (v85)), some (eI (v21))]) (rest := []) rfl rfl rfl (Nat.ble_eq.mp rfl) rfl rfl rfl (I125.kd gA0 (by decide) (n := 8) rfl) rfl ?_
    refine s_29 (a1 := v130) (a2 := v68) (a3 := v85) (a4 := v21) I125 gA0 (by omega) (by omega) (by omega) (by omega) ?_
    intro m133 I134 F135
    have F136 : Fr l_33 0 0 g μ m133 := F128.t F135 rfl
    have q137 := kq_fr q129 F135 b3 (by decide) rfl rfl
    show ex_q (dt_fg L ρ) rc (d + 2, (33, 181, [some (eR a0), some (eI (a1)), some (eI (a2)), some (eI (v12)), some (eI (v21)), some (eI (v30)), some (eI (v40)), some (eI (v43)), some (eI (v52)), some (eJ (v63)), none, some (eI (v68)), some (eI (v85))], []), f :: F, m133)
    refine w_t (np := 182) (l2 := [some (eR a0), some (eI (a1)), some (eI (a2)), some (eI (v12)), some (eI (v21)), some (eI (v30)), some (eI (v40)), some (eI (v43)), some (eI (v52)), some (eJ (v63)), none, some (eI (v68)), some (eI (v85))]) (s2 := [eR a0]) rfl (s_an rfl (pos_g I134 gA0 (by decide))) rfl ?_
    refine w_t (np := 183) (l2 := [some (eR a0), some (eI (a1)), some (eI (a2)), some (eI (v12)), some (eI (v21)), some (eI (v30)), some (eI (v40)), some (eI (v43)), some (eI (v52)), some (eJ (v63)), none, some (eI (v68)), some (eI (v85))]) (s2 := [eI (a2), eR a0]) rfl rfl rfl ?_
    refine w_t (np := 184) (l2 := [some (eR a0), some (eI (a1)), some (eI (a2)), some (eI (v12)), some (eI (v21)), some (eI (v30)), some (eI (v40)), some (eI (v43)), some (eI (v52)), some (eJ (v63)), none, some (eI (v68)), some (eI (v85))]) (s2 := [eI (2), eI (a2), eR a0]) rfl rfl rfl ?_
    obtain ⟨v138, e139⟩ : ∃ zz : Int, zz = (a2) + (2) := ⟨_, rfl⟩
    have b140 : 2 ≤ v138 ∧ v138 ≤ 49 := by omega
    refine w_t (np := 185) (l2 := [some (eR a0), some (eI (a1)), some (eI (a2)), some (eI (v12)), some (eI (v21)), some (eI (v30)), some (eI (v40)), some (eI (v43)), some (eI (v52)), some (eJ (v63)), none, some (eI (v68)), some (eI (v85))]) (s2 := [eI (v138), eR a0]) rfl (b_iadd (by rw [← e139]; exact ev_w_in (by omega) (by omega))) rfl ?_
    refine w_t (np := 186) (l2 := [some (eR a0), some (eI (a1)), some (eI (a2)), some (eI (v12)), some (eI (v21)), some (eI (v30)), some (eI (v40)), some (eI (v43)), some (eI (v52)), some (eJ (v63)), none, some (eI (v68)), some (eI (v85))]) (s2 := [eI (0), eI (v138), eR a0]) rfl rfl rfl ?_
    refine w_t (np := 188) (l2 := [some (eR a0), some (eI (a1)), some (eI (a2)), some (eI (v12)), some (eI (v21)), some (eI (v30)), some (eI (v40)), some (eI (v43)), some (eI (v52)), some (eJ (v63)), none, some (eI (v68)), some (eI (v85))]) (s2 := [eI (v52), eI (0), eI (v138), eR a0]) rfl rfl rfl ?_
    refine w_t (np := 189) (l2 := [some (eR a0), some (eI (a1)), some (eI (a2)), some (eI (v12)), some (eI (v21)), some (eI (v30)), some (eI (v40)), some (eI (v43)), some (eI (v52)), some (eJ (v63)), none, some (eI (v68)), some (eI (v85))]) (s2 := [eI (2), eI (v52), eI (0), eI (v138), eR a0]) rfl rfl rfl ?_
    obtain ⟨v141, e142, b143⟩ : ∃ zz : Int, ev_w ((v52) + (2)) = zz ∧ (-2147483648 ≤ zz ∧ zz ≤ 2147483647) := ⟨_, rfl, hw_bd _⟩
    refine w_t (np := 190) (l2 := [some (eR a0), some (eI (a1)), some (eI (a2)), some (eI (v12)), some (eI (v21)), some (eI (v30)), some (eI (v40)), some (eI (v43)), some (eI (v52)), some (eJ (v63)), none, some (eI (v68)), some (eI (v85))]) (s2 := [eI (v141), eI (0), eI (v138), eR a0]) rfl (b_iadd e142) rfl ?_
    refine w_t (np := 192) (l2 := [some (eR a0), some (eI (a1)), some (eI (a2)), some (eI (v12)), some (eI (v21)), some (eI (v30)), some (eI (v40)), some (eI (v43)), some (eI (v52)), some (eJ (v63)), none, some (eI (v68)), some (eI (v85))]) (s2 := [eI (v40), eI (v141), eI (0), eI (v138), eR a0]) rfl rfl rfl ?_
    refine w_t (np := 194) (l2 := [some (eR a0), some (eI (a1)), some (eI (a2)), some (eI (v12)), some (eI (v21)), some (eI (v30)), some (eI (v40)), some (eI (v43)), some (eI (v52)), some (eJ (v63)), none, some (eI (v68)), some (eI (v85))]) (s2 := [eI (8), eI (v40), eI (v141), eI (0), eI (v138), eR a0]) rfl rfl rfl ?_
    refine w_t (np := 196) (l2 := [some (eR a0), some (eI (a1)), some (eI (a2)), some (eI (v12)), some (eI (v21)), some (eI (v30)), some (eI (v40)), some (eI (v43)), some (eI (v52)), some (eJ (v63)), none, some (eI (v68)), some (eI (v85))]) (s2 := [eI (v43), eI (8), eI (v40), eI (v141), eI (0), eI (v138), eR a0]) rfl rfl rfl ?_
    obtain ⟨v144, e145⟩ : ∃ zz : Int, zz = (8) * (v43) := ⟨_, rfl⟩
    have b146 : -8 ≤ v144 ∧ v144 ≤ 8 := by omega
    refine w_t (np := 197) (l2 := [some (eR a0), some (eI (a1)), some (eI (a2)), some (eI (v12)), some (eI (v21)), some (eI (v30)), some (eI (v40)), some (eI (v43)), some (eI (v52)), some (eJ (v63)), none, some (eI (v68)), some (eI (v85))]) (s2 := [eI (v144), eI (v40), eI (v141), eI (0), eI (v138), eR a0]) rfl (b_imul (by rw [← e145]; exact ev_w_in (by omega) (by omega))) rfl ?_
    obtain ⟨v147, e148⟩ : ∃ zz : Int, zz = (v40) + (v144) := ⟨_, rfl⟩
    have b149 : -8 ≤ v147 ∧ v147 ≤ 17 := by omega
    refine w_t (np := 198) (l2 := [some (eR a0), some (eI (a1)), some (eI (a2)), some (eI (v12)), some (eI (v21)), some (eI (v30)), some (eI (v40)), some (eI (v43)), some (eI (v52)), some (eJ (v63)), none, some (eI (v68)), some (eI (v85))]) (s2 := [eI (v147), eI (v141), eI (0), eI (v138), eR a0]) rfl (b_iadd (by rw [← e148]; exact ev_w_in (by omega) (by omega))) rfl ?_
    refine w_t (np := 200) (l2 := [some (eR a0), some (eI (a1)), some (eI (a2)), some (eI (v12)), some (eI (v21)), some (eI (v30)), some (eI (v40)), some (eI (v43)), some (eI (v52)), some (eJ (v63)), none, some (eI (v68)), some (eI (v85))]) (s2 := [eI (v40), eI (v147), eI (v141), eI (0), eI (v138), eR a0]) rfl rfl rfl ?_
    refine w_t (np := 202) (l2 := [some (eR a0), some (eI (a1)), some (eI (a2)), some (eI (v12)), some (eI (v21)), some (eI (v30)), some (eI (v40)), some (eI (v43)), some (eI (v52)), some (eJ (v63)), none, some (eI (v68)), some (eI (v85))]) (s2 := [eI (7), eI (v40), eI (v147), eI (v141), eI (0), eI (v138), eR a0]) rfl rfl rfl ?_
    refine w_t (np := 204) (l2 := [some (eR a0), some (eI (a1)), some (eI (a2)), some (eI (v12)), some (eI (v21)), some (eI (v30)), some (eI (v40)), some (eI (v43)), some (eI (v52)), some (eJ (v63)), none, some (eI (v68)), some (eI (v85))]) (s2 := [eI (v43), eI (7), eI (v40), eI (v147), eI (v141), eI (0), eI (v138), eR a0]) rfl rfl rfl ?_
    obtain ⟨v150, e151⟩ : ∃ zz : Int, zz = (7) * (v43) := ⟨_, rfl⟩
    have b152 : -7 ≤ v150 ∧ v150 ≤ 7 := by omega
    refine w_t (np := 205) (l2 := [some (eR a0), some (eI (a1)), some (eI (a2)), some (eI (v12)), some (eI (v21)), some (eI (v30)), some (eI (v40)), some (eI (v43)), some (eI (v52)), some (eJ (v63)), none, some (eI (v68)), some (eI (v85))]) (s2 := [eI (v150), eI (v40), eI (v147), eI (v141), eI (0), eI (v138), eR a0]) rfl (b_imul (by rw [← e151]; exact ev_w_in (by omega) (by omega))) rfl ?_
    obtain ⟨v153, e154⟩ : ∃ zz : Int, zz = (v40) + (v150) := ⟨_, rfl⟩
    have b155 : -7 ≤ v153 ∧ v153 ≤ 16 := by omega
    refine w_t (np := 206) (l2 := [some (eR a0), some (eI (a1)), some (eI (a2)), some (eI (v12)), some (eI (v21)), some (eI (v30)), some (eI (v40)), some (eI (v43)), some (eI (v52)), some (eJ (v63)), none, some (eI (v68)), some (eI (v85))]) (s2 := [eI (v153), eI (v147), eI (v141), eI (0), eI (v138), eR a0]) rfl (b_iadd (by rw [← e154]; exact ev_w_in (by omega) (by omega))) rfl ?_
    refine w_cw (np := 209) (as := [eI (v138), eI (0), eI (v141), eI (v147), eI (v153)]) (l2 := [some (eR a0), some (eI (v138)), some (eI (0)), some (eI (v141)), some (eI (v147)), some (eI (v153))]) (rest := []) rfl rfl rfl (Nat.ble_eq.mp rfl) rfl rfl rfl (I134.kd gA0 (by decide) (n := 8) rfl) rfl ?_
    refine s_28k (a1 := v138) (a2 := 0) (a3 := v141) (a4 := v147) (a5 := v153) I134 gA0 (by omega) (by decide) (by omega) (by omega) (by omega) ?_
    intro m156 I157 F158 h159
    have F160 : Fr l_33 0 0 g μ m156 := F136.t F158 rfl
    have q161 := kq_sh q137 h159 (F135.k (F126.k (F109.k (F103.k (F84.k (F67.k e2 gA0 (by decide) rfl) gA0 (by decide) rfl) gA0 (by decide) rfl) gA0 (by decide) rfl) gA0 (by decide) rfl) gA0 (by decide) rfl) (by omega)
    show ex_q (dt_fg L ρ) rc (d + 2, (33, 209, [some (eR a0), some (eI (a1)), some (eI (a2)), some (eI (v12)), some (eI (v21)), some (eI (v30)), some (eI (v40)), some (eI (v43)), some (eI (v52)), some (eJ (v63)), none, some (eI (v68)), some (eI (v85))], []), f :: F, m156)
    refine w_t (np := 210) (l2 := [some (eR a0), some (eI (a1)), some (eI (a2)), some (eI (v12)), some (eI (v21)), some (eI (v30)), some (eI (v40)), some (eI (v43)), some (eI (v52)), some (eJ (v63)), none, some (eI (v68)), some (eI (v85))]) (s2 := [eR a0]) rfl (s_an rfl (pos_g I157 gA0 (by decide))) rfl ?_
    refine w_t (np := 211) (l2 := [some (eR a0), some (eI (a1)), some (eI (a2)), some (eI (v12)), some (eI (v21)), some (eI (v30)), some (eI (v40)), some (eI (v43)), some (eI (v52)), some (eJ (v63)), none, some (eI (v68)), some (eI (v85))]) (s2 := [eI (a2), eR a0]) rfl rfl rfl ?_
    refine w_t (np := 212) (l2 := [some (eR a0), some (eI (a1)), some (eI (a2)), some (eI (v12)), some (eI (v21)), some (eI (v30)), some (eI (v40)), some (eI (v43)), some (eI (v52)), some (eJ (v63)), none, some (eI (v68)), some (eI (v85))]) (s2 := [eI (2), eI (a2), eR a0]) rfl rfl rfl ?_
    obtain ⟨v162, e163⟩ : ∃ zz : Int, zz = (a2) + (2) := ⟨_, rfl⟩
    have b164 : 2 ≤ v162 ∧ v162 ≤ 49 := by omega
    refine w_t (np := 213) (l2 := [some (eR a0), some (eI (a1)), some (eI (a2)), some (eI (v12)), some (eI (v21)), some (eI (v30)), some (eI (v40)), some (eI (v43)), some (eI (v52)), some (eJ (v63)), none, some (eI (v68)), some (eI (v85))]) (s2 := [eI (v162), eR a0]) rfl (b_iadd (by rw [← e163]; exact ev_w_in (by omega) (by omega))) rfl ?_
    refine w_t (np := 215) (l2 := [some (eR a0), some (eI (a1)), some (eI (a2)), some (eI (v12)), some (eI (v21)), some (eI (v30)), some (eI (v40)), some (eI (v43)), some (eI (v52)), some (eJ (v63)), none, some (eI (v68)), some (eI (v85))]) (s2 := [eI (v85), eI (v162), eR a0]) rfl rfl rfl ?_
    refine w_t (np := 217) (l2 := [some (eR a0), some (eI (a1)), some (eI (a2)), some (eI (v12)), some (eI (v21)), some (eI (v30)), some (eI (v40)), some (eI (v43)), some (eI (v52)), some (eJ (v63)), none, some (eI (v68)), some (eI (v85))]) (s2 := [eI (v68), eI (v85), eI (v162), eR a0]) rfl rfl rfl ?_
    refine w_t (np := 218) (l2 := [some (eR a0), some (eI (a1)), some (eI (a2)), some (eI (v12)), some (eI (v21)), some (eI (v30)), some (eI (v40)), some (eI (v43)), some (eI (v52)), some (eJ (v63)), none, some (eI (v68)), some (eI (v85))]) (s2 := [eI (v12), eI (v68), eI (v85), eI (v162), eR a0]) rfl rfl rfl ?_
    refine w_cw (np := 221) (as := [eI (v162), eI (v85), eI (v68), eI (v12)]) (l2 := [some (eR a0), some (eI (v162)), some (eI (v85)), some (eI (v68)), some (eI (v12))]) (rest := []) rfl rfl rfl (Nat.ble_eq.mp rfl) rfl rfl rfl (I157.kd gA0 (by decide) (n := 8) rfl) rfl ?_
    refine s_29 (a1 := v162) (a2 := v85) (a3 := v68) (a4 := v12) I157 gA0 (by omega) (by omega) (by omega) (by omega) ?_
    intro m165 I166 F167
    have F168 : Fr l_33 0 0 g μ m165 := F160.t F167 rfl
    have q169 := kq_fr q161 F167 b3 (by decide) rfl rfl
    show ex_q (dt_fg L ρ) rc (d + 2, (33, 221, [some (eR a0), some (eI (a1)), some (eI (a2)), some (eI (v12)), some (eI (v21)), some (eI (v30)), some (eI (v40)), some (eI (v43)), some (eI (v52)), some (eJ (v63)), none, some (eI (v68)), some (eI (v85))], []), f :: F, m165)
    exact v_rv rfl rfl (K m165 I166 F168 (kq_e q169 e2))
  · refine w_t (np := 66) (l2 := [some (eR a0), some (eI (a1)), some (eI (a2)), some (eI (v12)), some (eI (v21)), some (eI (v30)), some (eI (v40)), some (eI (v43)), some (eI (v52)), none, none, none, none]) (s2 := [eI (v21), eR v55]) rfl rfl rfl ?_
    refine w_cw (np := 69) (as := [eI (v21)]) (l2 := [some (eR v55), some (eI (v21))]) (rest := []) rfl rfl rfl (Nat.ble_eq.mp rfl) rfl rfl rfl (hI.kd b57 (by decide) (n := 3) rfl) rfl ?_
    refine s_44_2 (a1 := v21) hI b57 (by omega) ?_
    intro v59 b60
    show ex_q (dt_fg L ρ) rc (d + 2, (33, 69, [some (eR a0), some (eI (a1)), some (eI (a2)), some (eI (v12)), some (eI (v21)), some (eI (v30)), some (eI (v40)), some (eI (v43)), some (eI (v52)), none, none, none, none], [eJ (v59)]), f :: F, μ)
    refine w_t (np := 71) (l2 := [some (eR a0), some (eI (a1)), some (eI (a2)), some (eI (v12)), some (eI (v21)), some (eI (v30)), some (eI (v40)), some (eI (v43)), some (eI (v52)), none, none, none, none]) (s2 := [eI (v40), eJ (v59)]) rfl rfl rfl ?_
    refine w_cu (np := 74) (as := [eI (v40)]) (l2 := [some (eI (v40))]) (rest := [eJ (v59)]) rfl rfl rfl (Nat.ble_eq.mp rfl) rfl rfl rfl rfl ?_
    refine s_74 (a0 := v40) hI (by omega) ?_
    intro v61 b62
    show ex_q (dt_fg L ρ) rc (d + 2, (33, 74, [some (eR a0), some (eI (a1)), some (eI (a2)), some (eI (v12)), some (eI (v21)), some (eI (v30)), some (eI (v40)), some (eI (v43)), some (eI (v52)), none, none, none, none], [eJ (v61), eJ (v59)]), f :: F, μ)
    refine w_cu (np := 77) (as := [eJ (v59), eJ (v61)]) (l2 := [some (eJ (v59)), none, some (eJ (v61)), none]) (rest := []) rfl rfl rfl (Nat.ble_eq.mp rfl) rfl rfl rfl rfl ?_
    refine s_76 hI b60 b62 ?_
    intro v63 b64
    show ex_q (dt_fg L ρ) rc (d + 2, (33, 77, [some (eR a0), some (eI (a1)), some (eI (a2)), some (eI (v12)), some (eI (v21)), some (eI (v30)), some (eI (v40)), some (eI (v43)), some (eI (v52)), none, none, none, none], [eJ (v63)]), f :: F, μ)
    refine w_t (np := 79) (l2 := [some (eR a0), some (eI (a1)), some (eI (a2)), some (eI (v12)), some (eI (v21)), some (eI (v30)), some (eI (v40)), some (eI (v43)), some (eI (v52)), some (eJ (v63)), none, none, none]) (s2 := []) rfl rfl rfl ?_
    refine w_t (np := 80) (l2 := [some (eR a0), some (eI (a1)), some (eI (a2)), some (eI (v12)), some (eI (v21)), some (eI (v30)), some (eI (v40)), some (eI (v43)), some (eI (v52)), some (eJ (v63)), none, none, none]) (s2 := [eR a0]) rfl (s_an rfl (pos_g hI gA0 (by decide))) rfl ?_
    refine w_gf (np := 83) (v := eR v55) rfl rfl (hI.kd gA0 (by decide) (n := 8) rfl) (by rw [e56]; rfl) ?_
    refine w_t (np := 85) (l2 := [some (eR a0), some (eI (a1)), some (eI (a2)), some (eI (v12)), some (eI (v21)), some (eI (v30)), some (eI (v40)), some (eI (v43)), some (eI (v52)), some (eJ (v63)), none, none, none]) (s2 := [eJ (v63), eR v55]) rfl rfl rfl ?_
    refine w_cw (np := 88) (as := [eJ (v63)]) (l2 := [some (eR v55), some (eJ (v63)), none, none]) (rest := []) rfl rfl rfl (Nat.ble_eq.mp rfl) rfl rfl rfl (hI.kd b57 (by decide) (n := 3) rfl) rfl ?_
    refine s_46_2 hI b57 b64 ?_
    intro m65 v68 I66 F67 b69
    have F70 : Fr l_33 0 0 g μ m65 := F0.t F67 rfl
    have q71 := kq_fr kq0 F67 b3 (by decide) rfl rfl
    show ex_q (dt_fg L ρ) rc (d + 2, (33, 88, [some (eR a0), some (eI (a1)), some (eI (a2)), some (eI (v12)), some (eI (v21)), some (eI (v30)), some (eI (v40)), some (eI (v43)), some (eI (v52)), some (eJ (v63)), none, none, none], [eI (v68)]), f :: F, m65)
    refine w_t (np := 90) (l2 := [some (eR a0), some (eI (a1)), some (eI (a2)), some (eI (v12)), some (eI (v21)), some (eI (v30)), some (eI (v40)), some (eI (v43)), some (eI (v52)), some (eJ (v63)), none, some (eI (v68)), none]) (s2 := []) rfl rfl rfl ?_
    refine w_t (np := 91) (l2 := [some (eR a0), some (eI (a1)), some (eI (a2)), some (eI (v12)), some (eI (v21)), some (eI (v30)), some (eI (v40)), some (eI (v43)), some (eI (v52)), some (eJ (v63)), none, some (eI (v68)), none]) (s2 := [eR a0]) rfl (s_an rfl (pos_g I66 gA0 (by decide))) rfl ?_
    refine w_gf (np := 94) (v := eR v55) rfl rfl (I66.kd gA0 (by decide) (n := 8) rfl) (by rw [(F67.k e56 gA0 (by decide) rfl)]; rfl) ?_
    refine w_t (np := 96) (l2 := [some (eR a0), some (eI (a1)), some (eI (a2)), some (eI (v12)), some (eI (v21)), some (eI (v30)), some (eI (v40)), some (eI (v43)), some (eI (v52)), some (eJ (v63)), none, some (eI (v68)), none]) (s2 := [eJ (v63), eR v55]) rfl rfl rfl ?_
    refine w_t (np := 98) (l2 := [some (eR a0), some (eI (a1)), some (eI (a2)), some (eI (v12)), some (eI (v21)), some (eI (v30)), some (eI (v40)), some (eI (v43)), some (eI (v52)), some (eJ (v63)), none, some (eI (v68)), none]) (s2 := [eI (v40), eJ (v63), eR v55]) rfl rfl rfl ?_
    refine w_t (np := 99) (l2 := [some (eR a0), some (eI (a1)), some (eI (a2)), some (eI (v12)), some (eI (v21)), some (eI (v30)), some (eI (v40)), some (eI (v43)), some (eI (v52)), some (eJ (v63)), none, some (eI (v68)), none]) (s2 := [eI (3), eI (v40), eJ (v63), eR v55]) rfl rfl rfl ?_
    refine w_t (np := 101) (l2 := [some (eR a0), some (eI (a1)), some (eI (a2)), some (eI (v12)), some (eI (v21)), some (eI (v30)), some (eI (v40)), some (eI (v43)), some (eI (v52)), some (eJ (v63)), none, some (eI (v68)), none]) (s2 := [eI (v43), eI (3), eI (v40), eJ (v63), eR v55]) rfl rfl rfl ?_
    obtain ⟨v72, e73⟩ : ∃ zz : Int, zz = (3) * (v43) := ⟨_, rfl⟩
    have b74 : -3 ≤ v72 ∧ v72 ≤ 3 := by omega
    refine w_t (np := 102) (l2 := [some (eR a0), some (eI (a1)), some (eI (a2)), some (eI (v12)), some (eI (v21)), some (eI (v30)), some (eI (v40)), some (eI (v43)), some (eI (v52)), some (eJ (v63)), none, some (eI (v68)), none]) (s2 := [eI (v72), eI (v40), eJ (v63), eR v55]) rfl (b_imul (by rw [← e73]; exact ev_w_in (by omega) (by omega))) rfl ?_
    obtain ⟨v75, e76⟩ : ∃ zz : Int, zz = (v40) + (v72) := ⟨_, rfl⟩
    have b77 : -3 ≤ v75 ∧ v75 ≤ 12 := by omega
    refine w_t (np := 103) (l2 := [some (eR a0), some (eI (a1)), some (eI (a2)), some (eI (v12)), some (eI (v21)), some (eI (v30)), some (eI (v40)), some (eI (v43)), some (eI (v52)), some (eJ (v63)), none, some (eI (v68)), none]) (s2 := [eI (v75), eJ (v63), eR v55]) rfl (b_iadd (by rw [← e76]; exact ev_w_in (by omega) (by omega))) rfl ?_
    refine w_cu (np := 106) (as := [eI (v75)]) (l2 := [some (eI (v75))]) (rest := [eJ (v63), eR v55]) rfl rfl rfl (Nat.ble_eq.mp rfl) rfl rfl rfl rfl ?_
    refine s_74 (a0 := v75) I66 (by omega) ?_
    intro v78 b79
    show ex_q (dt_fg L ρ) rc (d + 2, (33, 106, [some (eR a0), some (eI (a1)), some (eI (a2)), some (eI (v12)), some (eI (v21)), some (eI (v30)), some (eI (v40)), some (eI (v43)), some (eI (v52)), some (eJ (v63)), none, some (eI (v68)), none], [eJ (v78), eJ (v63), eR v55]), f :: F, m65)
    refine w_cu (np := 109) (as := [eJ (v63), eJ (v78)]) (l2 := [some (eJ (v63)), none, some (eJ (v78)), none]) (rest := [eR v55]) rfl rfl rfl (Nat.ble_eq.mp rfl) rfl rfl rfl rfl ?_
    refine s_75 I66 b64 b79 ?_
    intro v80 b81
    show ex_q (dt_fg L ρ) rc (d + 2, (33, 109, [some (eR a0), some (eI (a1)), some (eI (a2)), some (eI (v12)), some (eI (v21)), some (eI (v30)), some (eI (v40)), some (eI (v43)), some (eI (v52)), some (eJ (v63)), none, some (eI (v68)), none], [eJ (v80), eR v55]), f :: F, m65)
    refine w_cw (np := 112) (as := [eJ (v80)]) (l2 := [some (eR v55), some (eJ (v80)), none, none]) (rest := []) rfl rfl rfl (Nat.ble_eq.mp rfl) rfl rfl rfl (I66.kd b57 (by decide) (n := 3) rfl) rfl ?_
    refine s_46_2 I66 b57 b81 ?_
    intro m82 v85 I83 F84 b86
    have F87 : Fr l_33 0 0 g μ m82 := F70.t F84 rfl
    have q88 := kq_fr q71 F84 b3 (by decide) rfl rfl
    show ex_q (dt_fg L ρ) rc (d + 2, (33, 112, [some (eR a0), some (eI (a1)), some (eI (a2)), some (eI (v12)), some (eI (v21)), some (eI (v30)), some (eI (v40)), some (eI (v43)), some (eI (v52)), some (eJ (v63)), none, some (eI (v68)), none], [eI (v85)]), f :: F, m82)
    refine w_t (np := 114) (l2 := [some (eR a0), some (eI (a1)), some (eI (a2)), some (eI (v12)), some (eI (v21)), some (eI (v30)), some (eI (v40)), some (eI (v43)), some (eI (v52)), some (eJ (v63)), none, some (eI (v68)), some (eI (v85))]) (s2 := []) rfl rfl rfl ?_
    refine w_t (np := 115) (l2 := [some (eR a0), some (eI (a1)), some (eI (a2)), some (eI (v12)), some (eI (v21)), some (eI (v30)), some (eI (v40)), some (eI (v43)), some (eI (v52)), some (eJ (v63)), none, some (eI (v68)), some (eI (v85))]) (s2 := [eR a0]) rfl (s_an rfl (pos_g I83 gA0 (by decide))) rfl ?_
    refine w_t (np := 116) (l2 := [some (eR a0), some (eI (a1)), some (eI (a2)), some (eI (v12)), some (eI (v21)), some (eI (v30)), some (eI (v40)), some (eI (v43)), some (eI (v52)), some (eJ (v63)), none, some (eI (v68)), some (eI (v85))]) (s2 := [eI (a2), eR a0]) rfl rfl rfl ?_
    refine w_t (np := 117) (l2 := [some (eR a0), some (eI (a1)), some (eI (a2)), some (eI (v12)), some (eI (v21)), some (eI (v30)), some (eI (v40)), some (eI (v43)), some (eI (v52)), some (eJ (v63)), none, some (eI (v68)), some (eI (v85))]) (s2 := [eI (1), eI (a2), eR a0]) rfl rfl rfl ?_
    refine w_t (np := 119) (l2 := [some (eR a0), some (eI (a1)), some (eI (a2)), some (eI (v12)), some (eI (v21)), some (eI (v30)), some (eI (v40)), some (eI (v43)), some (eI (v52)), some (eJ (v63)), none, some (eI (v68)), some (eI (v85))]) (s2 := [eI (v52), eI (1), eI (a2), eR a0]) rfl rfl rfl ?_
    refine w_t (np := 121) (l2 := [some (eR a0), some (eI (a1)), some (eI (a2)), some (eI (v12)), some (eI (v21)), some (eI (v30)), some (eI (v40)), some (eI (v43)), some (eI (v52)), some (eJ (v63)), none, some (eI (v68)), some (eI (v85))]) (s2 := [eI (v40), eI (v52), eI (1), eI (a2), eR a0]) rfl rfl rfl ?_
    refine w_t (np := 122) (l2 := [some (eR a0), some (eI (a1)), some (eI (a2)), some (eI (v12)), some (eI (v21)), some (eI (v30)), some (eI (v40)), some (eI (v43)), some (eI (v52)), some (eJ (v63)), none, some (eI (v68)), some (eI (v85))]) (s2 := [eI (4), eI (v40), eI (v52), eI (1), eI (a2), eR a0]) rfl rfl rfl ?_
    refine w_t (np := 124) (l2 := [some (eR a0), some (eI (a1)), some (eI (a2)), some (eI (v12)), some (eI (v21)), some (eI (v30)), some (eI (v40)), some (eI (v43)), some (eI (v52)), some (eJ (v63)), none, some (eI (v68)), some (eI (v85))]) (s2 := [eI (v43), eI (4), eI (v40), eI (v52), eI (1), eI (a2), eR a0]) rfl rfl rfl ?_
    obtain ⟨v89, e90⟩ : ∃ zz : Int, zz = (4) * (v43) := ⟨_, rfl⟩
    have b91 : -4 ≤ v89 ∧ v89 ≤ 4 := by omega
    refine w_t (np := 125) (l2 := [some (eR a0), some (eI (a1)), some (eI (a2)), some (eI (v12)), some (eI (v21)), some (eI (v30)), some (eI (v40)), some (eI (v43)), some (eI (v52)), some (eJ (v63)), none, some (eI (v68)), some (eI (v85))]) (s2 := [eI (v89), eI (v40), eI (v52), eI (1), eI (a2), eR a0]) rfl (b_imul (by rw [← e90]; exact ev_w_in (by omega) (by omega))) rfl ?_
    obtain ⟨v92, e93⟩ : ∃ zz : Int, zz = (v40) + (v89) := ⟨_, rfl⟩
    have b94 : -4 ≤ v92 ∧ v92 ≤ 13 := by omega
    refine w_t (np := 126) (l2 := [some (eR a0), some (eI (a1)), some (eI (a2)), some (eI (v12)), some (eI (v21)), some (eI (v30)), some (eI (v40)), some (eI (v43)), some (eI (v52)), some (eJ (v63)), none, some (eI (v68)), some (eI (v85))]) (s2 := [eI (v92), eI (v52), eI (1), eI (a2), eR a0]) rfl (b_iadd (by rw [← e93]; exact ev_w_in (by omega) (by omega))) rfl ?_
    refine w_t (np := 128) (l2 := [some (eR a0), some (eI (a1)), some (eI (a2)), some (eI (v12)), some (eI (v21)), some (eI (v30)), some (eI (v40)), some (eI (v43)), some (eI (v52)), some (eJ (v63)), none, some (eI (v68)), some (eI (v85))]) (s2 := [eI (v40), eI (v92), eI (v52), eI (1), eI (a2), eR a0]) rfl rfl rfl ?_
    refine w_t (np := 130) (l2 := [some (eR a0), some (eI (a1)), some (eI (a2)), some (eI (v12)), some (eI (v21)), some (eI (v30)), some (eI (v40)), some (eI (v43)), some (eI (v52)), some (eJ (v63)), none, some (eI (v68)), some (eI (v85))]) (s2 := [eI (7), eI (v40), eI (v92), eI (v52), eI (1), eI (a2), eR a0]) rfl rfl rfl ?_
    refine w_t (np := 132) (l2 := [some (eR a0), some (eI (a1)), some (eI (a2)), some (eI (v12)), some (eI (v21)), some (eI (v30)), some (eI (v40)), some (eI (v43)), some (eI (v52)), some (eJ (v63)), none, some (eI (v68)), some (eI (v85))]) (s2 := [eI (v43), eI (7), eI (v40), eI (v92), eI (v52), eI (1), eI (a2), eR a0]) rfl rfl rfl ?_
    obtain ⟨v95, e96⟩ : ∃ zz : Int, zz = (7) * (v43) := ⟨_, rfl⟩
    have b97 : -7 ≤ v95 ∧ v95 ≤ 7 := by omega
    refine w_t (np := 133) (l2 := [some (eR a0), some (eI (a1)), some (eI (a2)), some (eI (v12)), some (eI (v21)), some (eI (v30)), some (eI (v40)), some (eI (v43)), some (eI (v52)), some (eJ (v63)), none, some (eI (v68)), some (eI (v85))]) (s2 := [eI (v95), eI (v40), eI (v92), eI (v52), eI (1), eI (a2), eR a0]) rfl (b_imul (by rw [← e96]; exact ev_w_in (by omega) (by omega))) rfl ?_
    obtain ⟨v98, e99⟩ : ∃ zz : Int, zz = (v40) + (v95) := ⟨_, rfl⟩
    have b100 : -7 ≤ v98 ∧ v98 ≤ 16 := by omega
    refine w_t (np := 134) (l2 := [some (eR a0), some (eI (a1)), some (eI (a2)), some (eI (v12)), some (eI (v21)), some (eI (v30)), some (eI (v40)), some (eI (v43)), some (eI (v52)), some (eJ (v63)), none, some (eI (v68)), some (eI (v85))]) (s2 := [eI (v98), eI (v92), eI (v52), eI (1), eI (a2), eR a0]) rfl (b_iadd (by rw [← e99]; exact ev_w_in (by omega) (by omega))) rfl ?_
    refine w_cw (np := 137) (as := [eI (a2), eI (1), eI (v52), eI (v92), eI (v98)]) (l2 := [some (eR a0), some (eI (a2)), some (eI (1)), some (eI (v52)), some (eI (v92)), some (eI (v98))]) (rest := []) rfl rfl rfl (Nat.ble_eq.mp rfl) rfl rfl rfl (I83.kd gA0 (by decide) (n := 8) rfl) rfl ?_
    refine s_28k (a1 := a2) (a2 := 1) (a3 := v52) (a4 := v92) (a5 := v98) I83 gA0 (by omega) (by decide) (by omega) (by omega) (by omega) ?_
    intro m101 I102 F103 h104
    have F105 : Fr l_33 0 0 g μ m101 := F87.t F103 rfl
    have q106 := kq_sh q88 h104 (F84.k (F67.k e2 gA0 (by decide) rfl) gA0 (by decide) rfl) (by omega)
    show ex_q (dt_fg L ρ) rc (d + 2, (33, 137, [some (eR a0), some (eI (a1)), some (eI (a2)), some (eI (v12)), some (eI (v21)), some (eI (v30)), some (eI (v40)), some (eI (v43)), some (eI (v52)), some (eJ (v63)), none, some (eI (v68)), some (eI (v85))], []), f :: F, m101)
    refine w_t (np := 138) (l2 := [some (eR a0), some (eI (a1)), some (eI (a2)), some (eI (v12)), some (eI (v21)), some (eI (v30)), some (eI (v40)), some (eI (v43)), some (eI (v52)), some (eJ (v63)), none, some (eI (v68)), some (eI (v85))]) (s2 := [eR a0]) rfl (s_an rfl (pos_g I102 gA0 (by decide))) rfl ?_
    refine w_t (np := 139) (l2 := [some (eR a0), some (eI (a1)), some (eI (a2)), some (eI (v12)), some (eI (v21)), some (eI (v30)), some (eI (v40)), some (eI (v43)), some (eI (v52)), some (eJ (v63)), none, some (eI (v68)), some (eI (v85))]) (s2 := [eI (a2), eR a0]) rfl rfl rfl ?_
    refine w_t (np := 141) (l2 := [some (eR a0), some (eI (a1)), some (eI (a2)), some (eI (v12)), some (eI (v21)), some (eI (v30)), some (eI (v40)), some (eI (v43)), some (eI (v52)), some (eJ (v63)), none, some (eI (v68)), some (eI (v85))]) (s2 := [eI (v85), eI (a2), eR a0]) rfl rfl rfl ?_
    refine w_t (np := 143) (l2 := [some (eR a0), some (eI (a1)), some (eI (a2)), some (eI (v12)), some (eI (v21)), some (eI (v30)), some (eI (v40)), some (eI (v43)), some (eI (v52)), some (eJ (v63)), none, some (eI (v68)), some (eI (v85))]) (s2 := [eI (v30), eI (v85), eI (a2), eR a0]) rfl rfl rfl ?_
    refine w_t (np := 144) (l2 := [some (eR a0), some (eI (a1)), some (eI (a2)), some (eI (v12)), some (eI (v21)), some (eI (v30)), some (eI (v40)), some (eI (v43)), some (eI (v52)), some (eJ (v63)), none, some (eI (v68)), some (eI (v85))]) (s2 := [eI (v12), eI (v30), eI (v85), eI (a2), eR a0]) rfl rfl rfl ?_
    refine w_cw (np := 147) (as := [eI (a2), eI (v85), eI (v30), eI (v12)]) (l2 := [some (eR a0), some (eI (a2)), some (eI (v85)), some (eI (v30)), some (eI (v12))]) (rest := []) rfl rfl rfl (Nat.ble_eq.mp rfl) rfl rfl rfl (I102.kd gA0 (by decide) (n := 8) rfl) rfl ?_
    refine s_29 (a1 := a2) (a2 := v85) (a3 := v30) (a4 := v12) I102 gA0 (by omega) (by omega) (by omega) (by omega) ?_
    intro m107 I108 F109
    have F110 : Fr l_33 0 0 g μ m107 := F105.t F109 rfl
    have q111 := kq_fr q106 F109 b3 (by decide) rfl rfl
    show ex_q (dt_fg L ρ) rc (d + 2, (33, 147, [some (eR a0), some (eI (a1)), some (eI (a2)), some (eI (v12)), some (eI (v21)), some (eI (v30)), some (eI (v40)), some (eI (v43)), some (eI (v52)), some (eJ (v63)), none, some (eI (v68)), some (eI (v85))], []), f :: F, m107)
    refine w_t (np := 148) (l2 := [some (eR a0), some (eI (a1)), some (eI (a2)), some (eI (v12)), some (eI (v21)), some (eI (v30)), some (eI (v40)), some (eI (v43)), some (eI (v52)), some (eJ (v63)), none, some (eI (v68)), some (eI (v85))]) (s2 := [eR a0]) rfl (s_an rfl (pos_g I108 gA0 (by decide))) rfl ?_
    refine w_t (np := 149) (l2 := [some (eR a0), some (eI (a1)), some (eI (a2)), some (eI (v12)), some (eI (v21)), some (eI (v30)), some (eI (v40)), some (eI (v43)), some (eI (v52)), some (eJ (v63)), none, some (eI (v68)), some (eI (v85))]) (s2 := [eI (a2), eR a0]) rfl rfl rfl ?_
    refine w_t (np := 150) (l2 := [some (eR a0), some (eI (a1)), some (eI (a2)), some (eI (v12)), some (eI (v21)), some (eI (v30)), some (eI (v40)), some (eI (v43)), some (eI (v52)), some (eJ (v63)), none, some (eI (v68)), some (eI (v85))]) (s2 := [eI (1), eI (a2), eR a0]) rfl rfl rfl ?_
    obtain ⟨v112, e113⟩ : ∃ zz : Int, zz = (a2) + (1) := ⟨_, rfl⟩
    have b114 : 1 ≤ v112 ∧ v112 ≤ 48 := by omega
    refine w_t (np := 151) (l2 := [some (eR a0), some (eI (a1)), some (eI (a2)), some (eI (v12)), some (eI (v21)), some (eI (v30)), some (eI (v40)), some (eI (v43)), some (eI (v52)), some (eJ (v63)), none, some (eI (v68)), some (eI (v85))]) (s2 := [eI (v112), eR a0]) rfl (b_iadd (by rw [← e113]; exact ev_w_in (by omega) (by omega))) rfl ?_
    refine w_t (np := 152) (l2 := [some (eR a0), some (eI (a1)), some (eI (a2)), some (eI (v12)), some (eI (v21)), some (eI (v30)), some (eI (v40)), some (eI (v43)), some (eI (v52)), some (eJ (v63)), none, some (eI (v68)), some (eI (v85))]) (s2 := [eI (1), eI (v112), eR a0]) rfl rfl rfl ?_
    refine w_t (np := 154) (l2 := [some (eR a0), some (eI (a1)), some (eI (a2)), some (eI (v12)), some (eI (v21)), some (eI (v30)), some (eI (v40)), some (eI (v43)), some (eI (v52)), some (eJ (v63)), none, some (eI (v68)), some (eI (v85))]) (s2 := [eI (v52), eI (1), eI (v112), eR a0]) rfl rfl rfl ?_
    refine w_t (np := 155) (l2 := [some (eR a0), some (eI (a1)), some (eI (a2)), some (eI (v12)), some (eI (v21)), some (eI (v30)), some (eI (v40)), some (eI (v43)), some (eI (v52)), some (eJ (v63)), none, some (eI (v68)), some (eI (v85))]) (s2 := [eI (1), eI (v52), eI (1), eI (v112), eR a0]) rfl rfl rfl ?_
    obtain ⟨v115, e116, b117⟩ : ∃ zz : Int, ev_w ((v52) + (1)) = zz ∧ (-2147483648 ≤ zz ∧ zz ≤ 2147483647) := ⟨_, rfl, hw_bd _⟩
    refine w_t (np := 156) (l2 := [some (eR a0), some (eI (a1)), some (eI (a2)), some (eI (v12)), some (eI (v21)), some (eI (v30)), some (eI (v40)), some (eI (v43)), some (eI (v52)), some (eJ (v63)), none, some (eI (v68)), some (eI (v85))]) (s2 := [eI (v115), eI (1), eI (v112), eR a0]) rfl (b_iadd e116) rfl ?_
    refine w_t (np := 158) (l2 := [some (eR a0), some (eI (a1)), some (eI (a2)), some (eI (v12)), some (eI (v21)), some (eI (v30)), some (eI (v40)), some (eI (v43)), some (eI (v52)), some (eJ (v63)), none, some (eI (v68)), some (eI (v85))]) (s2 := [eI (v40), eI (v115), eI (1), eI (v112), eR a0]) rfl rfl rfl ?_
    refine w_t (np := 159) (l2 := [some (eR a0), some (eI (a1)), some (eI (a2)), some (eI (v12)), some (eI (v21)), some (eI (v30)), some (eI (v40)), some (eI (v43)), some (eI (v52)), some (eJ (v63)), none, some (eI (v68)), some (eI (v85))]) (s2 := [eI (3), eI (v40), eI (v115), eI (1), eI (v112), eR a0]) rfl rfl rfl ?_
    refine w_t (np := 161) (l2 := [some (eR a0), some (eI (a1)), some (eI (a2)), some (eI (v12)), some (eI (v21)), some (eI (v30)), some (eI (v40)), some (eI (v43)), some (eI (v52)), some (eJ (v63)), none, some (eI (v68)), some (eI (v85))]) (s2 := [eI (v43), eI (3), eI (v40), eI (v115), eI (1), eI (v112), eR a0]) rfl rfl rfl ?_
    obtain ⟨v118, e119⟩ : ∃ zz : Int, zz = (3) * (v43) := ⟨_, rfl⟩
    have b120 : -3 ≤ v118 ∧ v118 ≤ 3 := by omega
    refine w_t (np := 162) (l2 := [some (eR a0), some (eI (a1)), some (eI (a2)), some (eI (v12)), some (eI (v21)), some (eI (v30)), some (eI (v40)), some (eI (v43)), some (eI (v52)), some (eJ (v63)), none, some (eI (v68)), some (eI (v85))]) (s2 := [eI (v118), eI (v40), eI (v115), eI (1), eI (v112), eR a0]) rfl (b_imul (by rw [← e119]; exact ev_w_in (by omega) (by omega))) rfl ?_
    obtain ⟨v121, e122⟩ : ∃ zz : Int, zz = (v40) + (v118) := ⟨_, rfl⟩
    have b123 : -3 ≤ v121 ∧ v121 ≤ 12 := by omega
    refine w_t (np := 163) (l2 := [some (eR a0), some (eI (a1)), some (eI (a2)), some (eI (v12)), some (eI (v21)), some (eI (v30)), some (eI (v40)), some (eI (v43)), some (eI (v52)), some (eJ (v63)), none, some (eI (v68)), some (eI (v85))]) (s2 := [eI (v121), eI (v115), eI (1), eI (v112), eR a0]) rfl (b_iadd (by rw [← e122]; exact ev_w_in (by omega) (by omega))) rfl ?_
    refine w_t (np := 165) (l2 := [some (eR a0), some (eI (a1)), some (eI (a2)), some (eI (v12)), some (eI (v21)), some (eI (v30)), some (eI (v40)), some (eI (v43)), some (eI (v52)), some (eJ (v63)), none, some (eI (v68)), some (eI (v85))]) (s2 := [eI (v40), eI (v121), eI (v115), eI (1), eI (v112), eR a0]) rfl rfl rfl ?_
    refine w_cw (np := 168) (as := [eI (v112), eI (1), eI (v115), eI (v121), eI (v40)]) (l2 := [some (eR a0), some (eI (v112)), some (eI (1)), some (eI (v115)), some (eI (v121)), some (eI (v40))]) (rest := []) rfl rfl rfl (Nat.ble_eq.mp rfl) rfl rfl rfl (I108.kd gA0 (by decide) (n := 8) rfl) rfl ?_
    refine s_28k (a1 := v112) (a2 := 1) (a3 := v115) (a4 := v121) (a5 := v40) I108 gA0 (by omega) (by decide) (by omega) (by omega) (by omega) ?_
    intro m124 I125 F126 h127
    have F128 : Fr l_33 0 0 g μ m124 := F110.t F126 rfl
    have q129 := kq_sh q111 h127 (F109.k (F103.k (F84.k (F67.k e2 gA0 (by decide) rfl) gA0 (by decide) rfl) gA0 (by decide) rfl) gA0 (by decide) rfl) (by omega)
    show ex_q (dt_fg L ρ) rc (d + 2, (33, 168, [some (eR a0), some (eI (a1)), some (eI (a2)), some (eI (v12)), some (eI (v21)), some (eI (v30)), some (eI (v40)), some (eI (v43)), some (eI (v52)), some (eJ (v63)), none, some (eI (v68)), some (eI (v85))], []), f :: F, m124)
    refine w_t (np := 169) (l2 := [some (eR a0), some (eI (a1)), some (eI (a2)), some (eI (v12)), some (eI (v21)), some (eI (v30)), some (eI (v40)), some (eI (v43)), some (eI (v52)), some (eJ (v63)), none, some (eI (v68)), some (eI (v85))]) (s2 := [eR a0]) rfl (s_an rfl (pos_g I125 gA0 (by decide))) rfl ?_
    refine w_t (np := 170) (l2 := [some (eR a0), some (eI (a1)), some (eI (a2)), some (eI (v12)), some (eI (v21)), some (eI (v30)), some (eI (v40)), some (eI (v43)), some (eI (v52)), some (eJ (v63)), none, some (eI (v68)), some (eI (v85))]) (s2 := [eI (a2), eR a0]) rfl rfl rfl ?_
    refine w_t (np := 171) (l2 := [some (eR a0), some (eI (a1)), some (eI (a2)), some (eI (v12)), some (eI (v21)), some (eI (v30)), some (eI (v40)), some (eI (v43)), some (eI (v52)), some (eJ (v63)), none, some (eI (v68)), some (eI (v85))]) (s2 := [eI (1), eI (a2), eR a0]) rfl rfl rfl ?_
    obtain ⟨v130, e131⟩ : ∃ zz : Int, zz = (a2) + (1) := ⟨_, rfl⟩
    have b132 : 1 ≤ v130 ∧ v130 ≤ 48 := by omega
    refine w_t (np := 172) (l2 := [some (eR a0), some (eI (a1)), some (eI (a2)), some (eI (v12)), some (eI (v21)), some (eI (v30)), some (eI (v40)), some (eI (v43)), some (eI (v52)), some (eJ (v63)), none, some (eI (v68)), some (eI (v85))]) (s2 := [eI (v130), eR a0]) rfl (b_iadd (by rw [← e131]; exact ev_w_in (by omega) (by omega))) rfl ?_
    refine w_t (np := 174) (l2 := [some (eR a0), some (eI (a1)), some (eI (a2)), some (eI (v12)), some (eI (v21)), some (eI (v30)), some (eI (v40)), some (eI (v43)), some (eI (v52)), some (eJ (v63)), none, some (eI (v68)), some (eI (v85))]) (s2 := [eI (v68), eI (v130), eR a0]) rfl rfl rfl ?_
    refine w_t (np := 176) (l2 := [some (eR a0), some (eI (a1)), some (eI (a2)), some (eI (v12)), some (eI (v21)), some (eI (v30)), some (eI (v40)), some (eI (v43)), some (eI (v52)), some (eJ (v63)), none, some (eI (v68)), some (eI (v85))]) (s2 := [eI (v85), eI (v68), eI (v130), eR a0]) rfl rfl rfl ?_
    refine w_t (np := 178) (l2 := [some (eR a0), some (eI (a1)), some (eI (a2)), some (eI (v12)), some (eI (v21)), some (eI (v30)), some (eI (v40)), some (eI (v43)), some (eI (v52)), some (eJ (v63)), none, some (eI (v68)), some (eI (v85))]) (s2 := [eI (v21), eI (v85), eI (v68), eI (v130), eR a0]) rfl rfl rfl ?_
    refine w_cw (np := 181) (as := [eI (v130), eI (v68), eI (v85), eI (v21)]) (l2 := [some (eR a0), some (eI (v130)), some (eI (v68)), some (eI (v85)), some (eI (v21))]) (rest := []) rfl rfl rfl (Nat.ble_eq.mp rfl) rfl rfl rfl (I125.kd gA0 (by decide) (n := 8) rfl) rfl ?_
    refine s_29 (a1 := v130) (a2 := v68) (a3 := v85) (a4 := v21) I125 gA0 (by omega) (by omega) (by omega) (by omega) ?_
    intro m133 I134 F135
    have F136 : Fr l_33 0 0 g μ m133 := F128.t F135 rfl
    have q137 := kq_fr q129 F135 b3 (by decide) rfl rfl
    show ex_q (dt_fg L ρ) rc (d + 2, (33, 181, [some (eR a0), some (eI (a1)), some (eI (a2)), some (eI (v12)), some (eI (v21)), some (eI (v30)), some (eI (v40)), some (eI (v43)), some (eI (v52)), some (eJ (v63)), none, some (eI (v68)), some (eI (v85))], []), f :: F, m133)
    refine w_t (np := 182) (l2 := [some (eR a0), some (eI (a1)), some (eI (a2)), some (eI (v12)), some (eI (v21)), some (eI (v30)), some (eI (v40)), some (eI (v43)), some (eI (v52)), some (eJ (v63)), none, some (eI (v68)), some (eI (v85))]) (s2 := [eR a0]) rfl (s_an rfl (pos_g I134 gA0 (by decide))) rfl ?_
    refine w_t (np := 183) (l2 := [some (eR a0), some (eI (a1)), some (eI (a2)), some (eI (v12)), some (eI (v21)), some (eI (v30)), some (eI (v40)), some (eI (v43)), some (eI (v52)), some (eJ (v63)), none, some (eI (v68)), some (eI (v85))]) (s2 := [eI (a2), eR a0]) rfl rfl rfl ?_
    refine w_t (np := 184) (l2 := [some (eR a0), some (eI (a1)), some (eI (a2)), some (eI (v12)), some (eI (v21)), some (eI (v30)), some (eI (v40)), some (eI (v43)), some (eI (v52)), some (eJ (v63)), none, some (eI (v68)), some (eI (v85))]) (s2 := [eI (2), eI (a2), eR a0]) rfl rfl rfl ?_
    obtain ⟨v138, e139⟩ : ∃ zz : Int, zz = (a2) + (2) := ⟨_, rfl⟩
    have b140 : 2 ≤ v138 ∧ v138 ≤ 49 := by omega
    refine w_t (np := 185) (l2 := [some (eR a0), some (eI (a1)), some (eI (a2)), some (eI (v12)), some (eI (v21)), some (eI (v30)), some (eI (v40)), some (eI (v43)), some (eI (v52)), some (eJ (v63)), none, some (eI (v68)), some (eI (v85))]) (s2 := [eI (v138), eR a0]) rfl (b_iadd (by rw [← e139]; exact ev_w_in (by omega) (by omega))) rfl ?_
    refine w_t (np := 186) (l2 := [some (eR a0), some (eI (a1)), some (eI (a2)), some (eI (v12)), some (eI (v21)), some (eI (v30)), some (eI (v40)), some (eI (v43)), some (eI (v52)), some (eJ (v63)), none, some (eI (v68)), some (eI (v85))]) (s2 := [eI (0), eI (v138), eR a0]) rfl rfl rfl ?_
    refine w_t (np := 188) (l2 := [some (eR a0), some (eI (a1)), some (eI (a2)), some (eI (v12)), some (eI (v21)), some (eI (v30)), some (eI (v40)), some (eI (v43)), some (eI (v52)), some (eJ (v63)), none, some (eI (v68)), some (eI (v85))]) (s2 := [eI (v52), eI (0), eI (v138), eR a0]) rfl rfl rfl ?_
    refine w_t (np := 189) (l2 := [some (eR a0), some (eI (a1)), some (eI (a2)), some (eI (v12)), some (eI (v21)), some (eI (v30)), some (eI (v40)), some (eI (v43)), some (eI (v52)), some (eJ (v63)), none, some (eI (v68)), some (eI (v85))]) (s2 := [eI (2), eI (v52), eI (0), eI (v138), eR a0]) rfl rfl rfl ?_
    obtain ⟨v141, e142, b143⟩ : ∃ zz : Int, ev_w ((v52) + (2)) = zz ∧ (-2147483648 ≤ zz ∧ zz ≤ 2147483647) := ⟨_, rfl, hw_bd _⟩
    refine w_t (np := 190) (l2 := [some (eR a0), some (eI (a1)), some (eI (a2)), some (eI (v12)), some (eI (v21)), some (eI (v30)), some (eI (v40)), some (eI (v43)), some (eI (v52)), some (eJ (v63)), none, some (eI (v68)), some (eI (v85))]) (s2 := [eI (v141), eI (0), eI (v138), eR a0]) rfl (b_iadd e142) rfl ?_
    refine w_t (np := 192) (l2 := [some (eR a0), some (eI (a1)), some (eI (a2)), some (eI (v12)), some (eI (v21)), some (eI (v30)), some (eI (v40)), some (eI (v43)), some (eI (v52)), some (eJ (v63)), none, some (eI (v68)), some (eI (v85))]) (s2 := [eI (v40), eI (v141), eI (0), eI (v138), eR a0]) rfl rfl rfl ?_
    refine w_t (np := 194) (l2 := [some (eR a0), some (eI (a1)), some (eI (a2)), some (eI (v12)), some (eI (v21)), some (eI (v30)), some (eI (v40)), some (eI (v43)), some (eI (v52)), some (eJ (v63)), none, some (eI (v68)), some (eI (v85))]) (s2 := [eI (8), eI (v40), eI (v141), eI (0), eI (v138), eR a0]) rfl rfl rfl ?_
    refine w_t (np := 196) (l2 := [some (eR a0), some (eI (a1)), some (eI (a2)), some (eI (v12)), some (eI (v21)), some (eI (v30)), some (eI (v40)), some (eI (v43)), some (eI (v52)), some (eJ (v63)), none, some (eI (v68)), some (eI (v85))]) (s2 := [eI (v43), eI (8), eI (v40), eI (v141), eI (0), eI (v138), eR a0]) rfl rfl rfl ?_
    obtain ⟨v144, e145⟩ : ∃ zz : Int, zz = (8) * (v43) := ⟨_, rfl⟩
    have b146 : -8 ≤ v144 ∧ v144 ≤ 8 := by omega
    refine w_t (np := 197) (l2 := [some (eR a0), some (eI (a1)), some (eI (a2)), some (eI (v12)), some (eI (v21)), some (eI (v30)), some (eI (v40)), some (eI (v43)), some (eI (v52)), some (eJ (v63)), none, some (eI (v68)), some (eI (v85))]) (s2 := [eI (v144), eI (v40), eI (v141), eI (0), eI (v138), eR a0]) rfl (b_imul (by rw [← e145]; exact ev_w_in (by omega) (by omega))) rfl ?_
    obtain ⟨v147, e148⟩ : ∃ zz : Int, zz = (v40) + (v144) := ⟨_, rfl⟩
    have b149 : -8 ≤ v147 ∧ v147 ≤ 17 := by omega
    refine w_t (np := 198) (l2 := [some (eR a0), some (eI (a1)), some (eI (a2)), some (eI (v12)), some (eI (v21)), some (eI (v30)), some (eI (v40)), some (eI (v43)), some (eI (v52)), some (eJ (v63)), none, some (eI (v68)), some (eI (v85))]) (s2 := [eI (v147), eI (v141), eI (0), eI (v138), eR a0]) rfl (b_iadd (by rw [← e148]; exact ev_w_in (by omega) (by omega))) rfl ?_
    refine w_t (np := 200) (l2 := [some (eR a0), some (eI (a1)), some (eI (a2)), some (eI (v12)), some (eI (v21)), some (eI (v30)), some (eI (v40)), some (eI (v43)), some (eI (v52)), some (eJ (v63)), none, some (eI (v68)), some (eI (v85))]) (s2 := [eI (v40), eI (v147), eI (v141), eI (0), eI (v138), eR a0]) rfl rfl rfl ?_
    refine w_t (np := 202) (l2 := [some (eR a0), some (eI (a1)), some (eI (a2)), some (eI (v12)), some (eI (v21)), some (eI (v30)), some (eI (v40)), some (eI (v43)), some (eI (v52)), some (eJ (v63)), none, some (eI (v68)), some (eI (v85))]) (s2 := [eI (7), eI (v40), eI (v147), eI (v141), eI (0), eI (v138), eR a0]) rfl rfl rfl ?_
    refine w_t (np := 204) (l2 := [some (eR a0), some (eI (a1)), some (eI (a2)), some (eI (v12)), some (eI (v21)), some (eI (v30)), some (eI (v40)), some (eI (v43)), some (eI (v52)), some (eJ (v63)), none, some (eI (v68)), some (eI (v85))]) (s2 := [eI (v43), eI (7), eI (v40), eI (v147), eI (v141), eI (0), eI (v138), eR a0]) rfl rfl rfl ?_
    obtain ⟨v150, e151⟩ : ∃ zz : Int, zz = (7) * (v43) := ⟨_, rfl⟩
    have b152 : -7 ≤ v150 ∧ v150 ≤ 7 := by omega
    refine w_t (np := 205) (l2 := [some (eR a0), some (eI (a1)), some (eI (a2)), some (eI (v12)), some (eI (v21)), some (eI (v30)), some (eI (v40)), some (eI (v43)), some (eI (v52)), some (eJ (v63)), none, some (eI (v68)), some (eI (v85))]) (s2 := [eI (v150), eI (v40), eI (v147), eI (v141), eI (0), eI (v138), eR a0]) rfl (b_imul (by rw [← e151]; exact ev_w_in (by omega) (by omega))) rfl ?_
    obtain ⟨v153, e154⟩ : ∃ zz : Int, zz = (v40) + (v150) := ⟨_, rfl⟩
    have b155 : -7 ≤ v153 ∧ v153 ≤ 16 := by omega
    refine w_t (np := 206) (l2 := [some (eR a0), some (eI (a1)), some (eI (a2)), some (eI (v12)), some (eI (v21)), some (eI (v30)), some (eI (v40)), some (eI (v43)), some (eI (v52)), some (eJ (v63)), none, some (eI (v68)), some (eI (v85))]) (s2 := [eI (v153), eI (v147), eI (v141), eI (0), eI (v138), eR a0]) rfl (b_iadd (by rw [← e154]; exact ev_w_in (by omega) (by omega))) rfl ?_
    refine w_cw (np := 209) (as := [eI (v138), eI (0), eI (v141), eI (v147), eI (v153)]) (l2 := [some (eR a0), some (eI (v138)), some (eI (0)), some (eI (v141)), some (eI (v147)), some (eI (v153))]) (rest := []) rfl rfl rfl (Nat.ble_eq.mp rfl) rfl rfl rfl (I134.kd gA0 (by decide) (n := 8) rfl) rfl ?_
    refine s_28k (a1 := v138) (a2 := 0) (a3 := v141) (a4 := v147) (a5 := v153) I134 gA0 (by omega) (by decide) (by omega) (by omega) (by omega) ?_
    intro m156 I157 F158 h159
    have F160 : Fr l_33 0 0 g μ m156 := F136.t F158 rfl
    have q161 := kq_sh q137 h159 (F135.k (F126.k (F109.k (F103.k (F84.k (F67.k e2 gA0 (by decide) rfl) gA0 (by decide) rfl) gA0 (by decide) rfl) gA0 (by decide) rfl) gA0 (by decide) rfl) gA0 (by decide) rfl) (by omega)
    show ex_q (dt_fg L ρ) rc (d + 2, (33, 209, [some (eR a0), some (eI (a1)), some (eI (a2)), some (eI (v12)), some (eI (v21)), some (eI (v30)), some (eI (v40)), some (eI (v43)), some (eI (v52)), some (eJ (v63)), none, some (eI (v68)), some (eI (v85))], []), f :: F, m156)
    refine w_t (np := 210) (l2 := [some (eR a0), some (eI (a1)), some (eI (a2)), some (eI (v12)), some (eI (v21)), some (eI (v30)), some (eI (v40)), some (eI (v43)), some (eI (v52)), some (eJ (v63)), none, some (eI (v68)), some (eI (v85))]) (s2 := [eR a0]) rfl (s_an rfl (pos_g I157 gA0 (by decide))) rfl ?_
    refine w_t (np := 211) (l2 := [some (eR a0), some (eI (a1)), some (eI (a2)), some (eI (v12)), some (eI (v21)), some (eI (v30)), some (eI (v40)), some (eI (v43)), some (eI (v52)), some (eJ (v63)), none, some (eI (v68)), some (eI (v85))]) (s2 := [eI (a2), eR a0]) rfl rfl rfl ?_
    refine w_t (np := 212) (l2 := [some (eR a0), some (eI (a1)), some (eI (a2)), some (eI (v12)), some (eI (v21)), some (eI (v30)), some (eI (v40)), some (eI (v43)), some (eI (v52)), some (eJ (v63)), none, some (eI (v68)), some (eI (v85))]) (s2 := [eI (2), eI (a2), eR a0]) rfl rfl rfl ?_
    obtain ⟨v162, e163⟩ : ∃ zz : Int, zz = (a2) + (2) := ⟨_, rfl⟩
    have b164 : 2 ≤ v162 ∧ v162 ≤ 49 := by omega
    refine w_t (np := 213) (l2 := [some (eR a0), some (eI (a1)), some (eI (a2)), some (eI (v12)), some (eI (v21)), some (eI (v30)), some (eI (v40)), some (eI (v43)), some (eI (v52)), some (eJ (v63)), none, some (eI (v68)), some (eI (v85))]) (s2 := [eI (v162), eR a0]) rfl (b_iadd (by rw [← e163]; exact ev_w_in (by omega) (by omega))) rfl ?_
    refine w_t (np := 215) (l2 := [some (eR a0), some (eI (a1)), some (eI (a2)), some (eI (v12)), some (eI (v21)), some (eI (v30)), some (eI (v40)), some (eI (v43)), some (eI (v52)), some (eJ (v63)), none, some (eI (v68)), some (eI (v85))]) (s2 := [eI (v85), eI (v162), eR a0]) rfl rfl rfl ?_
    refine w_t (np := 217) (l2 := [some (eR a0), some (eI (a1)), some (eI (a2)), some (eI (v12)), some (eI (v21)), some (eI (v30)), some (eI (v40)), some (eI (v43)), some (eI (v52)), some (eJ (v63)), none, some (eI (v68)), some (eI (v85))]) (s2 := [eI (v68), eI (v85), eI (v162), eR a0]) rfl rfl rfl ?_
    refine w_t (np := 218) (l2 := [some (eR a0), some (eI (a1)), some (eI (a2)), some (eI (v12)), some (eI (v21)), some (eI (v30)), some (eI (v40)), some (eI (v43)), some (eI (v52)), some (eJ (v63)), none, some (eI (v68)), some (eI (v85))]) (s2 := [eI (v12), eI (v68), eI (v85), eI (v162), eR a0]) rfl rfl rfl ?_
    refine w_cw (np := 221) (as := [eI (v162), eI (v85), eI (v68), eI (v12)]) (l2 := [some (eR a0), some (eI (v162)), some (eI (v85)), some (eI (v68)), some (eI (v12))]) (rest := []) rfl rfl rfl (Nat.ble_eq.mp rfl) rfl rfl rfl (I157.kd gA0 (by decide) (n := 8) rfl) rfl ?_
    refine s_29 (a1 := v162) (a2 := v85) (a3 := v68) (a4 := v12) I157 gA0 (by omega) (by omega) (by omega) (by omega) ?_
    intro m165 I166 F167
    have F168 : Fr l_33 0 0 g μ m165 := F160.t F167 rfl
    have q169 := kq_fr q161 F167 b3 (by decide) rfl rfl
    show ex_q (dt_fg L ρ) rc (d + 2, (33, 221, [some (eR a0), some (eI (a1)), some (eI (a2)), some (eI (v12)), some (eI (v21)), some (eI (v30)), some (eI (v40)), some (eI (v43)), some (eI (v52)), some (eJ (v63)), none, some (eI (v68)), some (eI (v85))], []), f :: F, m165)
    exact v_rv rfl rfl (K m165 I166 F168 (kq_e q169 e2))
def l_32_2 : List Nat := [2304, 2560, 2816, 2048, 4096, 3328, 4352, 3584, 3843, 3075]
theorem s_32_2 {L : Nat} {ρ : Nat → Int} {rc : eQ} {d : Nat} {f : eFr} {F : List eFr} {μ : eM} {g : Nat → Nat} {a0 : Nat} {a1 : Int} {a2 : Int} (hI : SI g μ) (gA0 : g a0 = 7) (bA1 : 0 ≤ a1 ∧ a1 ≤ 889) (bA2 : 0 ≤ a2 ∧ a2 ≤ 888) (K : ∀ (μ2 : eM), SI g μ2 → Fr l_32_2 0 0 g μ μ2 → (∀ j : Nat, (j : Int) < a2 → μ2.1 (μ.1 a0 0).toNat j = μ.1 (μ.1 a0 0).toNat j) → ex_q (dt_fg L ρ) rc (d + 3, (f.1, f.2.1, f.2.2.1, f.2.2.2), F, μ2)) : ex_q (dt_fg L ρ) rc (d + 2, (32, 0, [some (eR a0), some (eI (a1)), some (eI (a2)), none, none, none, none, none, none, none], []), f :: F, μ) := by
  have F0 : Fr l_32_2 0 0 g μ μ := Fr.r
  obtain ⟨v1, e2, b3, z4⟩ := hI.ref (k := 0) gA0 (by decide) (n := 8) rfl (by decide) rfl
  have b3 : g v1 = 8 := Nat.eq_of_beq_eq_true b3
  have kq0 : ∀ j : Nat, (j : Int) < a2 → μ.1 v1 j = μ.1 v1 j := fun _ _ => rfl
  refine w_t (np := 1) (l2 := [some (eR a0), some (eI (a1)), some (eI (a2)), none, none, none, none, none, none, none]) (s2 := [eR a0]) rfl (s_an rfl (pos_g hI gA0 (by decide))) rfl ?_
  refine j_gr (np := 4) rfl rfl hI gA0 (by decide) (n := 8) rfl rfl rfl ?_
  intro v5 e6 b7 z8
  have b7 : g v5 = 10 := Nat.eq_of_beq_eq_true b7
  refine w_t (np := 5) (l2 := [some (eR a0), some (eI (a1)), some (eI (a2)), none, none, none, none, none, none, none]) (s2 := [eI (3), eR v5]) rfl rfl rfl ?_
  refine w_t (np := 6) (l2 := [some (eR a0), some (eI (a1)), some (eI (a2)), none, none, none, none, none, none, none]) (s2 := [eI (a1), eI (3), eR v5]) rfl rfl rfl ?_
  obtain ⟨v9, e10⟩ : ∃ zz : Int, zz = (3) * (a1) := ⟨_, rfl⟩
  have b11 : 0 ≤ v9 ∧ v9 ≤ 2667 := by omega
  refine w_t (np := 7) (l2 := [some (eR a0), some (eI (a1)), some (eI (a2)), none, none, none, none, none, none, none]) (s2 := [eI (v9), eR v5]) rfl (b_imul (by rw [← e10]; exact ev_w_in (by omega) (by omega))) rfl ?_
  refine j_al (np := 8) rfl rfl hI b7 (by decide) (n := 2670) rfl rfl (lo := 0) (hi := 511) (fun _ => rfl) (by omega) (by omega) ?_
  intro v12 e13 b14
  refine w_t (np := 9) (l2 := [some (eR a0), some (eI (a1)), some (eI (a2)), some (eI (v12)), none, none, none, none, none, none]) (s2 := []) rfl rfl rfl ?_
  refine w_t (np := 10) (l2 := [some (eR a0), some (eI (a1)), some (eI (a2)), some (eI (v12)), none, none, none, none, none, none]) (s2 := [eR a0]) rfl (s_an rfl (pos_g hI gA0 (by decide))) rfl ?_
  refine w_gf (np := 13) (v := eR v5) rfl rfl (hI.kd gA0 (by decide) (n := 8) rfl) (by rw [e6]; rfl) ?_
  refine w_t (np := 14) (l2 := [some (eR a0), some (eI (a1)), some (eI (a2)), some (eI (v12)), none, none, none, none, none, none]) (s2 := [eI (3), eR v5]) rfl rfl rfl ?_
  refine w_t (np := 15) (l2 := [some (eR a0), some (eI (a1)), some (eI (a2)), some (eI (v12)), none, none, none, none, none, none]) (s2 := [eI (a1), eI (3), eR v5]) rfl rfl rfl ?_
  obtain ⟨v15, e16⟩ : ∃ zz : Int, zz = (3) * (a1) := ⟨_, rfl⟩
  have b17 : 0 ≤ v15 ∧ v15 ≤ 2667 := by omega
  refine w_t (np := 16) (l2 := [some (eR a0), some (eI (a1)), some (eI (a2)), some (eI (v12)), none, none, none, none, none, none]) (s2 := [eI (v15), eR v5]) rfl (b_imul (by rw [← e16]; exact ev_w_in (by omega) (by omega))) rfl ?_
  refine w_t (np := 17) (l2 := [some (eR a0), some (eI (a1)), some (eI (a2)), some (eI (v12)), none, none, none, none, none, none]) (s2 := [eI (1), eI (v15), eR v5]) rfl rfl rfl ?_
  obtain ⟨v18, e19⟩ : ∃ zz : Int, zz = (v15) + (1) := ⟨_, rfl⟩
  have b20 : 1 ≤ v18 ∧ v18 ≤ 2668 := by omega
  refine w_t (np := 18) (l2 := [some (eR a0), some (eI (a1)), some (eI (a2)), some (eI (v12)), none, none, none, none, none, none]) (s2 := [eI (v18), eR v5]) rfl (b_iadd (by rw [← e19]; exact ev_w_in (by omega) (by omega))) rfl ?_
  refine j_al (np := 19) rfl rfl hI b7 (by decide) (n := 2670) rfl rfl (lo := 0) (hi := 511) (fun _ => rfl) (by omega) (by omega) ?_
  intro v21 e22 b23
  refine w_t (np := 21) (l2 := [some (eR a0), some (eI (a1)), some (eI (a2)), some (eI (v12)), some (eI (v21)), none, none, none, none, none]) (s2 := []) rfl rfl rfl ?_
  refine w_t (np := 22) (l2 := [some (eR a0), some (eI (a1)), some (eI (a2)), some (eI (v12)), some (eI (v21)), none, none, none, none, none]) (s2 := [eR a0]) rfl (s_an rfl (pos_g hI gA0 (by decide))) rfl ?_
  refine w_gf (np := 25) (v := eR v5) rfl rfl (hI.kd gA0 (by decide) (n := 8) rfl) (by rw [e6]; rfl) ?_
  refine w_t (np := 26) (l2 := [some (eR a0), some (eI (a1)), some (eI (a2)), some (eI (v12)), some (eI (v21)), none, none, none, none, none]) (s2 := [eI (3), eR v5]) rfl rfl rfl ?_
  refine w_t (np := 27) (l2 := [some (eR a0), some (eI (a1)), some (eI (a2)), some (eI (v12)), some (eI (v21)), none, none, none, none, none]) (s2 := [eI (a1), eI (3), eR v5]) rfl rfl rfl ?_
  obtain ⟨v24, e25⟩ : ∃ zz : Int, zz = (3) * (a1) := ⟨_, rfl⟩
  have b26 : 0 ≤ v24 ∧ v24 ≤ 2667 := by omega
  refine w_t (np := 28) (l2 := [some (eR a0), some (eI (a1)), some (eI (a2)), some (eI (v12)), some (eI (v21)), none, none, none, none, none]) (s2 := [eI (v24), eR v5]) rfl (b_imul (by rw [← e25]; exact ev_w_in (by omega) (by omega))) rfl ?_
  refine w_t (np := 29) (l2 := [some (eR a0), some (eI (a1)), some (eI (a2)), some (eI (v12)), some (eI (v21)), none, none, none, none, none]) (s2 := [eI (2), eI (v24), eR v5]) rfl rfl rfl ?_
  obtain ⟨v27, e28⟩ : ∃ zz : Int, zz = (v24) + (2) := ⟨_, rfl⟩
  have b29 : 2 ≤ v27 ∧ v27 ≤ 2669 := by omega
  refine w_t (np := 30) (l2 := [some (eR a0), some (eI (a1)), some (eI (a2)), some (eI (v12)), some (eI (v21)), none, none, none, none, none]) (s2 := [eI (v27), eR v5]) rfl (b_iadd (by rw [← e28]; exact ev_w_in (by omega) (by omega))) rfl ?_
  refine j_al (np := 31) rfl rfl hI b7 (by decide) (n := 2670) rfl rfl (lo := 0) (hi := 511) (fun _ => rfl) (by omega) (by omega) ?_
  intro v30 e31 b32
  refine w_t (np := 33) (l2 := [some (eR a0), some (eI (a1)), some (eI (a2)), some (eI (v12)), some (eI (v21)), some (eI (v30)), none, none, none, none]) (s2 := []) rfl rfl rfl ?_
  refine w_t (np := 34) (l2 := [some (eR a0), some (eI (a1)), some (eI (a2)), some (eI (v12)), some (eI (v21)), some (eI (v30)), none, none, none, none]) (s2 := [eR a0]) rfl (s_an rfl (pos_g hI gA0 (by decide))) rfl ?_
  refine j_gr (np := 37) rfl rfl hI gA0 (by decide) (n := 8) rfl rfl rfl ?_
  intro v33 e34 b35 z36
  have b35 : g v33 = 11 := Nat.eq_of_beq_eq_true b35
  refine w_t (np := 38) (l2 := [some (eR a0), some (eI (a1)), some (eI (a2)), some (eI (v12)), some (eI (v21)), some (eI (v30)), none, none, none, none]) (s2 := [eI (2), eR v33]) rfl rfl rfl ?_
  refine w_t (np := 39) (l2 := [some (eR a0), some (eI (a1)), some (eI (a2)), some (eI (v12)), some (eI (v21)), some (eI (v30)), none, none, none, none]) (s2 := [eI (a1), eI (2), eR v33]) rfl rfl rfl ?_
  obtain ⟨v37, e38⟩ : ∃ zz : Int, zz = (2) * (a1) := ⟨_, rfl⟩
  have b39 : 0 ≤ v37 ∧ v37 ≤ 1778 := by omega
  refine w_t (np := 40) (l2 := [some (eR a0), some (eI (a1)), some (eI (a2)), some (eI (v12)), some (eI (v21)), some (eI (v30)), none, none, none, none]) (s2 := [eI (v37), eR v33]) rfl (b_imul (by rw [← e38]; exact ev_w_in (by omega) (by omega))) rfl ?_
  refine j_al (np := 41) rfl rfl hI b35 (by decide) (n := 1780) rfl rfl (lo := 0) (hi := 9) (fun _ => rfl) (by omega) (by omega) ?_
  intro v40 e41 b42
  refine w_t (np := 43) (l2 := [some (eR a0), some (eI (a1)), some (eI (a2)), some (eI (v12)), some (eI (v21)), some (eI (v30)), some (eI (v40)), none, none, none]) (s2 := []) rfl rfl rfl ?_
  refine w_t (np := 44) (l2 := [some (eR a0), some (eI (a1)), some (eI (a2)), some (eI (v12)), some (eI (v21)), some (eI (v30)), some (eI (v40)), none, none, none]) (s2 := [eR a0]) rfl (s_an rfl (pos_g hI gA0 (by decide))) rfl ?_
  refine w_t (np := 45) (l2 := [some (eR a0), some (eI (a1)), some (eI (a2)), some (eI (v12)), some (eI (v21)), some (eI (v30)), some (eI (v40)), none, none, none]) (s2 := [eI (a1), eR a0]) rfl rfl rfl ?_
  refine w_cw (np := 48) (as := [eI (a1)]) (l2 := [some (eR a0), some (eI (a1))]) (rest := []) rfl rfl rfl (Nat.ble_eq.mp rfl) rfl rfl rfl (hI.kd gA0 (by decide) (n := 8) rfl) rfl ?_
  refine s_24_2 (a1 := a1) hI gA0 (by omega) ?_
  intro v43 b44
  show ex_q (dt_fg L ρ) rc (d + 2, (32, 48, [some (eR a0), some (eI (a1)), some (eI (a2)), some (eI (v12)), some (eI (v21)), some (eI (v30)), some (eI (v40)), none, none, none], [eI (v43)]), f :: F, μ)
  refine w_t (np := 50) (l2 := [some (eR a0), some (eI (a1)), some (eI (a2)), some (eI (v12)), some (eI (v21)), some (eI (v30)), some (eI (v40)), some (eI (v43)), none, none]) (s2 := []) rfl rfl rfl ?_
  refine w_t (np := 51) (l2 := [some (eR a0), some (eI (a1)), some (eI (a2)), some (eI (v12)), some (eI (v21)), some (eI (v30)), some (eI (v40)), some (eI (v43)), none, none]) (s2 := [eI (3)]) rfl rfl rfl ?_
  refine w_t (np := 52) (l2 := [some (eR a0), some (eI (a1)), some (eI (a2)), some (eI (v12)), some (eI (v21)), some (eI (v30)), some (eI (v40)), some (eI (v43)), none, none]) (s2 := [eR a0, eI (3)]) rfl (s_an rfl (pos_g hI gA0 (by decide))) rfl ?_
  refine j_gr (np := 55) rfl rfl hI gA0 (by decide) (n := 8) rfl rfl rfl ?_
  intro v45 e46 b47 z48
  have b47 : g v45 = 9 := Nat.eq_of_beq_eq_true b47
  refine w_t (np := 56) (l2 := [some (eR a0), some (eI (a1)), some (eI (a2)), some (eI (v12)), some (eI (v21)), some (eI (v30)), some (eI (v40)), some (eI (v43)), none, none]) (s2 := [eI (a1), eR v45, eI (3)]) rfl rfl rfl ?_
  refine j_al (np := 57) rfl rfl hI b47 (by decide) (n := 890) rfl rfl (lo := -2147483648) (hi := 2147483647) (fun _ => rfl) (by omega) (by omega) ?_
  intro v49 e50 b51
  obtain ⟨v52, e53, b54⟩ : ∃ zz : Int, ev_w ((3) * (v49)) = zz ∧ (-2147483648 ≤ zz ∧ zz ≤ 2147483647) := ⟨_, rfl, hw_bd _⟩
  refine w_t (np := 58) (l2 := [some (eR a0), some (eI (a1)), some (eI (a2)), some (eI (v12)), some (eI (v21)), some (eI (v30)), some (eI (v40)), some (eI (v43)), none, none]) (s2 := [eI (v52)]) rfl (b_imul e53) rfl ?_
  refine w_t (np := 60) (l2 := [some (eR a0), some (eI (a1)), some (eI (a2)), some (eI (v12)), some (eI (v21)), some (eI (v30)), some (eI (v40)), some (eI (v43)), some (eI (v52)), none]) (s2 := []) rfl rfl rfl ?_
  refine w_t (np := 61) (l2 := [some (eR a0), some (eI (a1)), some (eI (a2)), some (eI (v12)), some (eI (v21)), some (eI (v30)), some (eI (v40)), some (eI (v43)), some (eI (v52)), none]) (s2 := [eR a0]) rfl (s_an rfl (pos_g hI gA0 (by decide))) rfl ?_
  refine j_gr (np := 64) rfl rfl hI gA0 (by decide) (n := 8) rfl rfl rfl ?_
  intro v55 e56 b57 z58
  rcases hor2 b57 with b57 | b57
  · refine w_t (np := 65) (l2 := [some (eR a0), some (eI (a1)), some (eI (a2)), some (eI (v12)), some (eI (v21)), some (eI (v30)), some (eI (v40)), some (eI (v43)), some (eI (v52)), none]) (s2 := [eR a0, eR v55]) rfl (s_an rfl (pos_g hI gA0 (by decide))) rfl ?_
    refine w_gf (np := 68) (v := eR v55) rfl rfl (hI.kd gA0 (by decide) (n := 8) rfl) (by rw [e56]; rfl) ?_
    refine w_t (np := 69) (l2 := [some (eR a0), some (eI (a1)), some (eI (a2)), some (eI (v12)), some (eI (v21)), some (eI (v30)), some (eI (v40)), some (eI (v43)), some (eI (v52)), none]) (s2 := [eI (v12), eR v55, eR v55]) rfl rfl rfl ?_
    refine w_cw (np := 72) (as := [eI (v12)]) (l2 := [some (eR v55), some (eI (v12))]) (rest := [eR v55]) rfl rfl rfl (Nat.ble_eq.mp rfl) rfl rfl rfl (hI.kd b57 (by decide) (n := 3) rfl) rfl ?_
    refine s_44 (a1 := v12) hI b57 (by omega) ?_
    intro v59 b60
    show ex_q (dt_fg L ρ) rc (d + 2, (32, 72, [some (eR a0), some (eI (a1)), some (eI (a2)), some (eI (v12)), some (eI (v21)), some (eI (v30)), some (eI (v40)), some (eI (v43)), some (eI (v52)), none], [eJ (v59), eR v55]), f :: F, μ)
    refine w_t (np := 74) (l2 := [some (eR a0), some (eI (a1)), some (eI (a2)), some (eI (v12)), some (eI (v21)), some (eI (v30)), some (eI (v40)), some (eI (v43)), some (eI (v52)), none]) (s2 := [eI (v40), eJ (v59), eR v55]) rfl rfl rfl ?_
    refine w_cu (np := 77) (as := [eI (v40)]) (l2 := [some (eI (v40))]) (rest := [eJ (v59), eR v55]) rfl rfl rfl (Nat.ble_eq.mp rfl) rfl rfl rfl rfl ?_
    refine s_74 (a0 := v40) hI (by omega) ?_
    intro v61 b62
    show ex_q (dt_fg L ρ) rc (d + 2, (32, 77, [some (eR a0), some (eI (a1)), some (eI (a2)), some (eI (v12)), some (eI (v21)), some (eI (v30)), some (eI (v40)), some (eI (v43)), some (eI (v52)), none], [eJ (v61), eJ (v59), eR v55]), f :: F, μ)
    refine w_cu (np := 80) (as := [eJ (v59), eJ (v61)]) (l2 := [some (eJ (v59)), none, some (eJ (v61)), none]) (rest := [eR v55]) rfl rfl rfl (Nat.ble_eq.mp rfl) rfl rfl rfl rfl ?_
    refine s_75 hI b60 b62 ?_
    intro v63 b64
    show ex_q (dt_fg L ρ) rc (d + 2, (32, 80, [some (eR a0), some (eI (a1)), some (eI (a2)), some (eI (v12)), some (eI (v21)), some (eI (v30)), some (eI (v40)), some (eI (v43)), some (eI (v52)), none], [eJ (v63), eR v55]), f :: F, μ)
    refine w_cw (np := 83) (as := [eJ (v63)]) (l2 := [some (eR v55), some (eJ (v63)), none, none]) (rest := []) rfl rfl rfl (Nat.ble_eq.mp rfl) rfl rfl rfl (hI.kd b57 (by decide) (n := 3) rfl) rfl ?_
    refine s_46 hI b57 b64 ?_
    intro m65 v68 I66 F67 b69
    have F70 : Fr l_32_2 0 0 g μ m65 := F0.t F67 rfl
    have q71 := kq_fr kq0 F67 b3 (by decide) rfl rfl
    show ex_q (dt_fg L ρ) rc (d + 2, (32, 83, [some (eR a0), some (eI (a1)), some (eI (a2)), some (eI (v12)), some (eI (v21)), some (eI (v30)), some (eI (v40)), some (eI (v43)), some (eI (v52)), none], [eI (v68)]), f :: F, m65)
    refine w_t (np := 85) (l2 := [some (eR a0), some (eI (a1)), some (eI (a2)), some (eI (v12)), some (eI (v21)), some (eI (v30)), some (eI (v40)), some (eI (v43)), some (eI (v52)), some (eI (v68))]) (s2 := []) rfl rfl rfl ?_
    refine w_t (np := 86) (l2 := [some (eR a0), some (eI (a1)), some (eI (a2)), some (eI (v12)), some (eI (v21)), some (eI (v30)), some (eI (v40)), some (eI (v43)), some (eI (v52)), some (eI (v68))]) (s2 := [eR a0]) rfl (s_an rfl (pos_g I66 gA0 (by decide))) rfl ?_
    refine w_t (np := 87) (l2 := [some (eR a0), some (eI (a1)), some (eI (a2)), some (eI (v12)), some (eI (v21)), some (eI (v30)), some (eI (v40)), some (eI (v43)), some (eI (v52)), some (eI (v68))]) (s2 := [eI (a2), eR a0]) rfl rfl rfl ?_
    refine w_t (np := 88) (l2 := [some (eR a0), some (eI (a1)), some (eI (a2)), some (eI (v12)), some (eI (v21)), some (eI (v30)), some (eI (v40)), some (eI (v43)), some (eI (v52)), some (eI (v68))]) (s2 := [eI (0), eI (a2), eR a0]) rfl rfl rfl ?_
    refine w_t (np := 90) (l2 := [some (eR a0), some (eI (a1)), some (eI (a2)), some (eI (v12)), some (eI (v21)), some (eI (v30)), some (eI (v40)), some (eI (v43)), some (eI (v52)), some (eI (v68))]) (s2 := [eI (v52), eI (0), eI (a2), eR a0]) rfl rfl rfl ?_
    refine w_t (np := 92) (l2 := [some (eR a0), some (eI (a1)), some (eI (a2)), some (eI (v12)), some (eI (v21)), some (eI (v30)), some (eI (v40)), some (eI (v43)), some (eI (v52)), some (eI (v68))]) (s2 := [eI (v40), eI (v52), eI (0), eI (a2), eR a0]) rfl rfl rfl ?_
    refine w_t (np := 94) (l2 := [some (eR a0), some (eI (a1)), some (eI (a2)), some (eI (v12)), some (eI (v21)), some (eI (v30)), some (eI (v40)), some (eI (v43)), some (eI (v52)), some (eI (v68))]) (s2 := [eI (7), eI (v40), eI (v52), eI (0), eI (a2), eR a0]) rfl rfl rfl ?_
    refine w_t (np := 96) (l2 := [some (eR a0), some (eI (a1)), some (eI (a2)), some (eI (v12)), some (eI (v21)), some (eI (v30)), some (eI (v40)), some (eI (v43)), some (eI (v52)), some (eI (v68))]) (s2 := [eI (v43), eI (7), eI (v40), eI (v52), eI (0), eI (a2), eR a0]) rfl rfl rfl ?_
    obtain ⟨v72, e73⟩ : ∃ zz : Int, zz = (7) * (v43) := ⟨_, rfl⟩
    have b74 : -7 ≤ v72 ∧ v72 ≤ 7 := by omega
    refine w_t (np := 97) (l2 := [some (eR a0), some (eI (a1)), some (eI (a2)), some (eI (v12)), some (eI (v21)), some (eI (v30)), some (eI (v40)), some (eI (v43)), some (eI (v52)), some (eI (v68))]) (s2 := [eI (v72), eI (v40), eI (v52), eI (0), eI (a2), eR a0]) rfl (b_imul (by rw [← e73]; exact ev_w_in (by omega) (by omega))) rfl ?_
    obtain ⟨v75, e76⟩ : ∃ zz : Int, zz = (v40) + (v72) := ⟨_, rfl⟩
    have b77 : -7 ≤ v75 ∧ v75 ≤ 16 := by omega
    refine w_t (np := 98) (l2 := [some (eR a0), some (eI (a1)), some (eI (a2)), some (eI (v12)), some (eI (v21)), some (eI (v30)), some (eI (v40)), some (eI (v43)), some (eI (v52)), some (eI (v68))]) (s2 := [eI (v75), eI (v52), eI (0), eI (a2), eR a0]) rfl (b_iadd (by rw [← e76]; exact ev_w_in (by omega) (by omega))) rfl ?_
    refine w_t (np := 100) (l2 := [some (eR a0), some (eI (a1)), some (eI (a2)), some (eI (v12)), some (eI (v21)), some (eI (v30)), some (eI (v40)), some (eI (v43)), some (eI (v52)), some (eI (v68))]) (s2 := [eI (v40), eI (v75), eI (v52), eI (0), eI (a2), eR a0]) rfl rfl rfl ?_
    refine w_t (np := 102) (l2 := [some (eR a0), some (eI (a1)), some (eI (a2)), some (eI (v12)), some (eI (v21)), some (eI (v30)), some (eI (v40)), some (eI (v43)), some (eI (v52)), some (eI (v68))]) (s2 := [eI (8), eI (v40), eI (v75), eI (v52), eI (0), eI (a2), eR a0]) rfl rfl rfl ?_
    refine w_t (np := 104) (l2 := [some (eR a0), some (eI (a1)), some (eI (a2)), some (eI (v12)), some (eI (v21)), some (eI (v30)), some (eI (v40)), some (eI (v43)), some (eI (v52)), some (eI (v68))]) (s2 := [eI (v43), eI (8), eI (v40), eI (v75), eI (v52), eI (0), eI (a2), eR a0]) rfl rfl rfl ?_
    obtain ⟨v78, e79⟩ : ∃ zz : Int, zz = (8) * (v43) := ⟨_, rfl⟩
    have b80 : -8 ≤ v78 ∧ v78 ≤ 8 := by omega
    refine w_t (np := 105) (l2 := [some (eR a0), some (eI (a1)), some (eI (a2)), some (eI (v12)), some (eI (v21)), some (eI (v30)), some (eI (v40)), some (eI (v43)), some (eI (v52)), some (eI (v68))]) (s2 := [eI (v78), eI (v40), eI (v75), eI (v52), eI (0), eI (a2), eR a0]) rfl (b_imul (by rw [← e79]; exact ev_w_in (by omega) (by omega))) rfl ?_
    obtain ⟨v81, e82⟩ : ∃ zz : Int, zz = (v40) + (v78) := ⟨_, rfl⟩
    have b83 : -8 ≤ v81 ∧ v81 ≤ 17 := by omega
    refine w_t (np := 106) (l2 := [some (eR a0), some (eI (a1)), some (eI (a2)), some (eI (v12)), some (eI (v21)), some (eI (v30)), some (eI (v40)), some (eI (v43)), some (eI (v52)), some (eI (v68))]) (s2 := [eI (v81), eI (v75), eI (v52), eI (0), eI (a2), eR a0]) rfl (b_iadd (by rw [← e82]; exact ev_w_in (by omega) (by omega))) rfl ?_
    refine w_cw (np := 109) (as := [eI (a2), eI (0), eI (v52), eI (v75), eI (v81)]) (l2 := [some (eR a0), some (eI (a2)), some (eI (0)), some (eI (v52)), some (eI (v75)), some (eI (v81))]) (rest := []) rfl rfl rfl (Nat.ble_eq.mp rfl) rfl rfl rfl (I66.kd gA0 (by decide) (n := 8) rfl) rfl ?_
    refine s_28k_2 (a1 := a2) (a2 := 0) (a3 := v52) (a4 := v75) (a5 := v81) I66 gA0 (by omega) (by decide) (by omega) (by omega) (by omega) ?_
    intro m84 I85 F86 h87
    have F88 : Fr l_32_2 0 0 g μ m84 := F70.t F86 rfl
    have q89 := kq_sh q71 h87 (F67.k e2 gA0 (by decide) rfl) (by omega)
    show ex_q (dt_fg L ρ) rc (d + 2, (32, 109, [some (eR a0), some (eI (a1)), some (eI (a2)), some (eI (v12)), some (eI (v21)), some (eI (v30)), some (eI (v40)), some (eI (v43)), some (eI (v52)), some (eI (v68))], []), f :: F, m84)
    refine w_t (np := 110) (l2 := [some (eR a0), some (eI (a1)), some (eI (a2)), some (eI (v12)), some (eI (v21)), some (eI (v30)), some (eI (v40)), some (eI (v43)), some (eI (v52)), some (eI (v68))]) (s2 := [eR a0]) rfl (s_an rfl (pos_g I85 gA0 (by decide))) rfl ?_
    refine w_t (np := 111) (l2 := [some (eR a0), some (eI (a1)), some (eI (a2)), some (eI (v12)), some (eI (v21)), some (eI (v30)), some (eI (v40)), some (eI (v43)), some (eI (v52)), some (eI (v68))]) (s2 := [eI (a2), eR a0]) rfl rfl rfl ?_
    refine w_t (np := 113) (l2 := [some (eR a0), some (eI (a1)), some (eI (a2)), some (eI (v12)), some (eI (v21)), some (eI (v30)), some (eI (v40)), some (eI (v43)), some (eI (v52)), some (eI (v68))]) (s2 := [eI (v30), eI (a2), eR a0]) rfl rfl rfl ?_
    refine w_t (np := 115) (l2 := [some (eR a0), some (eI (a1)), some (eI (a2)), some (eI (v12)), some (eI (v21)), some (eI (v30)), some (eI (v40)), some (eI (v43)), some (eI (v52)), some (eI (v68))]) (s2 := [eI (v68), eI (v30), eI (a2), eR a0]) rfl rfl rfl ?_
    refine w_t (np := 117) (l2 := [some (eR a0), some (eI (a1)), some (eI (a2)), some (eI (v12)), some (eI (v21)), some (eI (v30)), some (eI (v40)), some (eI (v43)), some (eI (v52)), some (eI (v68))]) (s2 := [eI (v21), eI (v68), eI (v30), eI (a2), eR a0]) rfl rfl rfl ?_
    refine w_cw (np := 120) (as := [eI (a2), eI (v30), eI (v68), eI (v21)]) (l2 := [some (eR a0), some (eI (a2)), some (eI (v30)), some (eI (v68)), some (eI (v21))]) (rest := []) rfl rfl rfl (Nat.ble_eq.mp rfl) rfl rfl rfl (I85.kd gA0 (by decide) (n := 8) rfl) rfl ?_
    refine s_29_2 (a1 := a2) (a2 := v30) (a3 := v68) (a4 := v21) I85 gA0 (by omega) (by omega) (by omega) (by omega) ?_
    intro m90 I91 F92
    have F93 : Fr l_32_2 0 0 g μ m90 := F88.t F92 rfl
    have q94 := kq_fr q89 F92 b3 (by decide) rfl rfl
    show ex_q (dt_fg L ρ) rc (d + 2, (32, 120, [some (eR a0), some (eI (a1)), some (eI (a2)), some (eI (v12)), some (eI (v21)), some (eI (v30)), some (eI (v40)), some (eI (v43)), some (eI (v52)), some (eI (v68))], []), f :: F, m90)
    refine w_t (np := 121) (l2 := [some (eR a0), some (eI (a1)), some (eI (a2)), some (eI (v12)), some (eI (v21)), some (eI (v30)), some (eI (v40)), some (eI (v43)), some (eI (v52)), some (eI (v68))]) (s2 := [eR a0]) rfl (s_an rfl (pos_g I91 gA0 (by decide))) rfl ?_
    refine w_t (np := 122) (l2 := [some (eR a0), some (eI (a1)), some (eI (a2)), some (eI (v12)), some (eI (v21)), some (eI (v30)), some (eI (v40)), some (eI (v43)), some (eI (v52)), some (eI (v68))]) (s2 := [eI (a2), eR a0]) rfl rfl rfl ?_
    refine w_t (np := 123) (l2 := [some (eR a0), some (eI (a1)), some (eI (a2)), some (eI (v12)), some (eI (v21)), some (eI (v30)), some (eI (v40)), some (eI (v43)), some (eI (v52)), some (eI (v68))]) (s2 := [eI (1), eI (a2), eR a0]) rfl rfl rfl ?_
    obtain ⟨v95, e96⟩ : ∃ zz : Int, zz = (a2) + (1) := ⟨_, rfl⟩
    have b97 : 1 ≤ v95 ∧ v95 ≤ 889 := by omega
    refine w_t (np := 124) (l2 := [some (eR a0), some (eI (a1)), some (eI (a2)), some (eI (v12)), some (eI (v21)), some (eI (v30)), some (eI (v40)), some (eI (v43)), some (eI (v52)), some (eI (v68))]) (s2 := [eI (v95), eR a0]) rfl (b_iadd (by rw [← e96]; exact ev_w_in (by omega) (by omega))) rfl ?_
    refine w_t (np := 125) (l2 := [some (eR a0), some (eI (a1)), some (eI (a2)), some (eI (v12)), some (eI (v21)), some (eI (v30)), some (eI (v40)), some (eI (v43)), some (eI (v52)), some (eI (v68))]) (s2 := [eI (1), eI (v95), eR a0]) rfl rfl rfl ?_
    refine w_t (np := 127) (l2 := [some (eR a0), some (eI (a1)), some (eI (a2)), some (eI (v12)), some (eI (v21)), some (eI (v30)), some (eI (v40)), some (eI (v43)), some (eI (v52)), some (eI (v68))]) (s2 := [eI (v52), eI (1), eI (v95), eR a0]) rfl rfl rfl ?_
    refine w_t (np := 128) (l2 := [some (eR a0), some (eI (a1)), some (eI (a2)), some (eI (v12)), some (eI (v21)), some (eI (v30)), some (eI (v40)), some (eI (v43)), some (eI (v52)), some (eI (v68))]) (s2 := [eI (1), eI (v52), eI (1), eI (v95), eR a0]) rfl rfl rfl ?_
    obtain ⟨v98, e99, b100⟩ : ∃ zz : Int, ev_w ((v52) + (1)) = zz ∧ (-2147483648 ≤ zz ∧ zz ≤ 2147483647) := ⟨_, rfl, hw_bd _⟩
    refine w_t (np := 129) (l2 := [some (eR a0), some (eI (a1)), some (eI (a2)), some (eI (v12)), some (eI (v21)), some (eI (v30)), some (eI (v40)), some (eI (v43)), some (eI (v52)), some (eI (v68))]) (s2 := [eI (v98), eI (1), eI (v95), eR a0]) rfl (b_iadd e99) rfl ?_
    refine w_t (np := 131) (l2 := [some (eR a0), some (eI (a1)), some (eI (a2)), some (eI (v12)), some (eI (v21)), some (eI (v30)), some (eI (v40)), some (eI (v43)), some (eI (v52)), some (eI (v68))]) (s2 := [eI (v40), eI (v98), eI (1), eI (v95), eR a0]) rfl rfl rfl ?_
    refine w_t (np := 132) (l2 := [some (eR a0), some (eI (a1)), some (eI (a2)), some (eI (v12)), some (eI (v21)), some (eI (v30)), some (eI (v40)), some (eI (v43)), some (eI (v52)), some (eI (v68))]) (s2 := [eI (2), eI (v40), eI (v98), eI (1), eI (v95), eR a0]) rfl rfl rfl ?_
    refine w_t (np := 134) (l2 := [some (eR a0), some (eI (a1)), some (eI (a2)), some (eI (v12)), some (eI (v21)), some (eI (v30)), some (eI (v40)), some (eI (v43)), some (eI (v52)), some (eI (v68))]) (s2 := [eI (v43), eI (2), eI (v40), eI (v98), eI (1), eI (v95), eR a0]) rfl rfl rfl ?_
    obtain ⟨v101, e102⟩ : ∃ zz : Int, zz = (2) * (v43) := ⟨_, rfl⟩
    have b103 : -2 ≤ v101 ∧ v101 ≤ 2 := by omega
    refine w_t (np := 135) (l2 := [some (eR a0), some (eI (a1)), some (eI (a2)), some (eI (v12)), some (eI (v21)), some (eI (v30)), some (eI (v40)), some (eI (v43)), some (eI (v52)), some (eI (v68))]) (s2 := [eI (v101), eI (v40), eI (v98), eI (1), eI (v95), eR a0]) rfl (b_imul (by rw [← e102]; exact ev_w_in (by omega) (by omega))) rfl ?_
    obtain ⟨v104, e105⟩ : ∃ zz : Int, zz = (v40) + (v101) := ⟨_, rfl⟩
    have b106 : -2 ≤ v104 ∧ v104 ≤ 11 := by omega
    refine w_t (np := 136) (l2 := [some (eR a0), some (eI (a1)), some (eI (a2)), some (eI (v12)), some (eI (v21)), some (eI (v30)), some (eI (v40)), some (eI (v43)), some (eI (v52)), some (eI (v68))]) (s2 := [eI (v104), eI (v98), eI (1), eI (v95), eR a0]) rfl (b_iadd (by rw [← e105]; exact ev_w_in (by omega) (by omega))) rfl ?_
    refine w_t (np := 138) (l2 := [some (eR a0), some (eI (a1)), some (eI (a2)), some (eI (v12)), some (eI (v21)), some (eI (v30)), some (eI (v40)), some (eI (v43)), some (eI (v52)), some (eI (v68))]) (s2 := [eI (v40), eI (v104), eI (v98), eI (1), eI (v95), eR a0]) rfl rfl rfl ?_
    refine w_t (np := 139) (l2 := [some (eR a0), some (eI (a1)), some (eI (a2)), some (eI (v12)), some (eI (v21)), some (eI (v30)), some (eI (v40)), some (eI (v43)), some (eI (v52)), some (eI (v68))]) (s2 := [eI (5), eI (v40), eI (v104), eI (v98), eI (1), eI (v95), eR a0]) rfl rfl rfl ?_
    refine w_t (np := 141) (l2 := [some (eR a0), some (eI (a1)), some (eI (a2)), some (eI (v12)), some (eI (v21)), some (eI (v30)), some (eI (v40)), some (eI (v43)), some (eI (v52)), some (eI (v68))]) (s2 := [eI (v43), eI (5), eI (v40), eI (v104), eI (v98), eI (1), eI (v95), eR a0]) rfl rfl rfl ?_
    obtain ⟨v107, e108⟩ : ∃ zz : Int, zz = (5) * (v43) := ⟨_, rfl⟩
    have b109 : -5 ≤ v107 ∧ v107 ≤ 5 := by omega
    refine w_t (np := 142) (l2 := [some (eR a0), some (eI (a1)), some (eI (a2)), some (eI (v12)), some (eI (v21)), some (eI (v30)), some (eI (v40)), some (eI (v43)), some (eI (v52)), some (eI (v68))]) (s2 := [eI (v107), eI (v40), eI (v104), eI (v98), eI (1), eI (v95), eR a0]) rfl (b_imul (by rw [← e108]; exact ev_w_in (by omega) (by omega))) rfl ?_
    obtain ⟨v110, e111⟩ : ∃ zz : Int, zz = (v40) + (v107) := ⟨_, rfl⟩
    have b112 : -5 ≤ v110 ∧ v110 ≤ 14 := by omega
    refine w_t (np := 143) (l2 := [some (eR a0), some (eI (a1)), some (eI (a2)), some (eI (v12)), some (eI (v21)), some (eI (v30)), some (eI (v40)), some (eI (v43)), some (eI (v52)), some (eI (v68))]) (s2 := [eI (v110), eI (v104), eI (v98), eI (1), eI (v95), eR a0]) rfl (b_iadd (by rw [← e111]; exact ev_w_in (by omega) (by omega))) rfl ?_
    refine w_cw (np := 146) (as := [eI (v95), eI (1), eI (v98), eI (v104), eI (v110)]) (l2 := [some (eR a0), some (eI (v95)), some (eI (1)), some (eI (v98)), some (eI (v104)), some (eI (v110))]) (rest := []) rfl rfl rfl (Nat.ble_eq.mp rfl) rfl rfl rfl (I91.kd gA0 (by decide) (n := 8) rfl) rfl ?_
    refine s_28k_2 (a1 := v95) (a2 := 1) (a3 := v98) (a4 := v104) (a5 := v110) I91 gA0 (by omega) (by decide) (by omega) (by omega) (by omega) ?_
    intro m113 I114 F115 h116
    have F117 : Fr l_32_2 0 0 g μ m113 := F93.t F115 rfl
    have q118 := kq_sh q94 h116 (F92.k (F86.k (F67.k e2 gA0 (by decide) rfl) gA0 (by decide) rfl) gA0 (by decide) rfl) (by omega)
    show ex_q (dt_fg L ρ) rc (d + 2, (32, 146, [some (eR a0), some (eI (a1)), some (eI (a2)), some (eI (v12)), some (eI (v21)), some (eI (v30)), some (eI (v40)), some (eI (v43)), some (eI (v52)), some (eI (v68))], []), f :: F, m113)
    refine w_t (np := 147) (l2 := [some (eR a0), some (eI (a1)), some (eI (a2)), some (eI (v12)), some (eI (v21)), some (eI (v30)), some (eI (v40)), some (eI (v43)), some (eI (v52)), some (eI (v68))]) (s2 := [eR a0]) rfl (s_an rfl (pos_g I114 gA0 (by decide))) rfl ?_
    refine w_t (np := 148) (l2 := [some (eR a0), some (eI (a1)), some (eI (a2)), some (eI (v12)), some (eI (v21)), some (eI (v30)), some (eI (v40)), some (eI (v43)), some (eI (v52)), some (eI (v68))]) (s2 := [eI (a2), eR a0]) rfl rfl rfl ?_
    refine w_t (np := 149) (l2 := [some (eR a0), some (eI (a1)), some (eI (a2)), some (eI (v12)), some (eI (v21)), some (eI (v30)), some (eI (v40)), some (eI (v43)), some (eI (v52)), some (eI (v68))]) (s2 := [eI (1), eI (a2), eR a0]) rfl rfl rfl ?_
    obtain ⟨v119, e120⟩ : ∃ zz : Int, zz = (a2) + (1) := ⟨_, rfl⟩
    have b121 : 1 ≤ v119 ∧ v119 ≤ 889 := by omega
    refine w_t (np := 150) (l2 := [some (eR a0), some (eI (a1)), some (eI (a2)), some (eI (v12)), some (eI (v21)), some (eI (v30)), some (eI (v40)), some (eI (v43)), some (eI (v52)), some (eI (v68))]) (s2 := [eI (v119), eR a0]) rfl (b_iadd (by rw [← e120]; exact ev_w_in (by omega) (by omega))) rfl ?_
    refine w_t (np := 152) (l2 := [some (eR a0), some (eI (a1)), some (eI (a2)), some (eI (v12)), some (eI (v21)), some (eI (v30)), some (eI (v40)), some (eI (v43)), some (eI (v52)), some (eI (v68))]) (s2 := [eI (v68), eI (v119), eR a0]) rfl rfl rfl ?_
    refine w_t (np := 154) (l2 := [some (eR a0), some (eI (a1)), some (eI (a2)), some (eI (v12)), some (eI (v21)), some (eI (v30)), some (eI (v40)), some (eI (v43)), some (eI (v52)), some (eI (v68))]) (s2 := [eI (v30), eI (v68), eI (v119), eR a0]) rfl rfl rfl ?_
    refine w_t (np := 155) (l2 := [some (eR a0), some (eI (a1)), some (eI (a2)), some (eI (v12)), some (eI (v21)), some (eI (v30)), some (eI (v40)), some (eI (v43)), some (eI (v52)), some (eI (v68))]) (s2 := [eI (v12), eI (v30), eI (v68), eI (v119), eR a0]) rfl rfl rfl ?_
    refine w_cw (np := 158) (as := [eI (v119), eI (v68), eI (v30), eI (v12)]) (l2 := [some (eR a0), some (eI (v119)), some (eI (v68)), some (eI (v30)), some (eI (v12))]) (rest := []) rfl rfl rfl (Nat.ble_eq.mp rfl) rfl rfl rfl (I114.kd gA0 (by decide) (n := 8) rfl) rfl ?_
    refine s_29_2 (a1 := v119) (a2 := v68) (a3 := v30) (a4 := v12) I114 gA0 (by omega) (by omega) (by omega) (by omega) ?_
    intro m122 I123 F124
    have F125 : Fr l_32_2 0 0 g μ m122 := F117.t F124 rfl
    have q126 := kq_fr q118 F124 b3 (by decide) rfl rfl
    show ex_q (dt_fg L ρ) rc (d + 2, (32, 158, [some (eR a0), some (eI (a1)), some (eI (a2)), some (eI (v12)), some (eI (v21)), some (eI (v30)), some (eI (v40)), some (eI (v43)), some (eI (v52)), some (eI (v68))], []), f :: F, m122)
    exact v_rv rfl rfl (K m122 I123 F125 (kq_e q126 e2))
  · refine w_t (np := 65) (l2 := [some (eR a0), some (eI (a1)), some (eI (a2)), some (eI (v12)), some (eI (v21)), some (eI (v30)), some (eI (v40)), some (eI (v43)), some (eI (v52)), none]) (s2 := [eR a0, eR v55]) rfl (s_an rfl (pos_g hI gA0 (by decide))) rfl ?_
    refine w_gf (np := 68) (v := eR v55) rfl rfl (hI.kd gA0 (by decide) (n := 8) rfl) (by rw [e56]; rfl) ?_
    refine w_t (np := 69) (l2 := [some (eR a0), some (eI (a1)), some (eI (a2)), some (eI (v12)), some (eI (v21)), some (eI (v30)), some (eI (v40)), some (eI (v43)), some (eI (v52)), none]) (s2 := [eI (v12), eR v55, eR v55]) rfl rfl rfl ?_
    refine w_cw (np := 72) (as := [eI (v12)]) (l2 := [some (eR v55), some (eI (v12))]) (rest := [eR v55]) rfl rfl rfl (Nat.ble_eq.mp rfl) rfl rfl rfl (hI.kd b57 (by decide) (n := 3) rfl) rfl ?_
    refine s_44_2 (a1 := v12) hI b57 (by omega) ?_
    intro v59 b60
    show ex_q (dt_fg L ρ) rc (d + 2, (32, 72, [some (eR a0), some (eI (a1)), some (eI (a2)), some (eI (v12)), some (eI (v21)), some (eI (v30)), some (eI (v40)), some (eI (v43)), some (eI (v52)), none], [eJ (v59), eR v55]), f :: F, μ)
    refine w_t (np := 74) (l2 := [some (eR a0), some (eI (a1)), some (eI (a2)), some (eI (v12)), some (eI (v21)), some (eI (v30)), some (eI (v40)), some (eI (v43)), some (eI (v52)), none]) (s2 := [eI (v40), eJ (v59), eR v55]) rfl rfl rfl ?_
    refine w_cu (np := 77) (as := [eI (v40)]) (l2 := [some (eI (v40))]) (rest := [eJ (v59), eR v55]) rfl rfl rfl (Nat.ble_eq.mp rfl) rfl rfl rfl rfl ?_
    refine s_74 (a0 := v40) hI (by omega) ?_
    intro v61 b62
    show ex_q (dt_fg L ρ) rc (d + 2, (32, 77, [some (eR a0), some (eI (a1)), some (eI (a2)), some (eI (v12)), some (eI (v21)), some (eI (v30)), some (eI (v40)), some (eI (v43)), some (eI (v52)), none], [eJ (v61), eJ (v59), eR v55]), f :: F, μ)
    refine w_cu (np := 80) (as := [eJ (v59), eJ (v61)]) (l2 := [some (eJ (v59)), none, some (eJ (v61)), none]) (rest := [eR v55]) rfl rfl rfl (Nat.ble_eq.mp rfl) rfl rfl rfl rfl ?_
    refine s_75 hI b60 b62 ?_
    intro v63 b64
    show ex_q (dt_fg L ρ) rc (d + 2, (32, 80, [some (eR a0), some (eI (a1)), some (eI (a2)), some (eI (v12)), some (eI (v21)), some (eI (v30)), some (eI (v40)), some (eI (v43)), some (eI (v52)), none], [eJ (v63), eR v55]), f :: F, μ)
    refine w_cw (np := 83) (as := [eJ (v63)]) (l2 := [some (eR v55), some (eJ (v63)), none, none]) (rest := []) rfl rfl rfl (Nat.ble_eq.mp rfl) rfl rfl rfl (hI.kd b57 (by decide) (n := 3) rfl) rfl ?_
    refine s_46_2 hI b57 b64 ?_
    intro m65 v68 I66 F67 b69
    have F70 : Fr l_32_2 0 0 g μ m65 := F0.t F67 rfl
    have q71 := kq_fr kq0 F67 b3 (by decide) rfl rfl
    show ex_q (dt_fg L ρ) rc (d + 2, (32, 83, [some (eR a0), some (eI (a1)), some (eI (a2)), some (eI (v12)), some (eI (v21)), some (eI (v30)), some (eI (v40)), some (eI (v43)), some (eI (v52)), none], [eI (v68)]), f :: F, m65)
    refine w_t (np := 85) (l2 := [some (eR a0), some (eI (a1)), some (eI (a2)), some (eI (v12)), some (eI (v21)), some (eI (v30)), some (eI (v40)), some (eI (v43)), some (eI (v52)), some (eI (v68))]) (s2 := []) rfl rfl rfl ?_
    refine w_t (np := 86) (l2 := [some (eR a0), some (eI (a1)), some (eI (a2)), some (eI (v12)), some (eI (v21)), some (eI (v30)), some (eI (v40)), some (eI (v43)), some (eI (v52)), some (eI (v68))]) (s2 := [eR a0]) rfl (s_an rfl (pos_g I66 gA0 (by decide))) rfl ?_
    refine w_t (np := 87) (l2 := [some (eR a0), some (eI (a1)), some (eI (a2)), some (eI (v12)), some (eI (v21)), some (eI (v30)), some (eI (v40)), some (eI (v43)), some (eI (v52)), some (eI (v68))]) (s2 := [eI (a2), eR a0]) rfl rfl rfl ?_
    refine w_t (np := 88) (l2 := [some (eR a0), some (eI (a1)), some (eI (a2)), some (eI (v12)), some (eI (v21)), some (eI (v30)), some (eI (v40)), some (eI (v43)), some (eI (v52)), some (eI (v68))]) (s2 := [eI (0), eI (a2), eR a0]) rfl rfl rfl ?_
    refine w_t (np := 90) (l2 := [some (eR a0), some (eI (a1)), some (eI (a2)), some (eI (v12)), some (eI (v21)), some (eI (v30)), some (eI (v40)), some (eI (v43)), some (eI (v52)), some (eI (v68))]) (s2 := [eI (v52), eI (0), eI (a2), eR a0]) rfl rfl rfl ?_
    refine w_t (np := 92) (l2 := [some (eR a0), some (eI (a1)), some (eI (a2)), some (eI (v12)), some (eI (v21)), some (eI (v30)), some (eI (v40)), some (eI (v43)), some (eI (v52)), some (eI (v68))]) (s2 := [eI (v40), eI (v52), eI (0), eI (a2), eR a0]) rfl rfl rfl ?_
    refine w_t (np := 94) (l2 := [some (eR a0), some (eI (a1)), some (eI (a2)), some (eI (v12)), some (eI (v21)), some (eI (v30)), some (eI (v40)), some (eI (v43)), some (eI (v52)), some (eI (v68))]) (s2 := [eI (7), eI (v40), eI (v52), eI (0), eI (a2), eR a0]) rfl rfl rfl ?_
    refine w_t (np := 96) (l2 := [some (eR a0), some (eI (a1)), some (eI (a2)), some (eI (v12)), some (eI (v21)), some (eI (v30)), some (eI (v40)), some (eI (v43)), some (eI (v52)), some (eI (v68))]) (s2 := [eI (v43), eI (7), eI (v40), eI (v52), eI (0), eI (a2), eR a0]) rfl rfl rfl ?_
    obtain ⟨v72, e73⟩ : ∃ zz : Int, zz = (7) * (v43) := ⟨_, rfl⟩
    have b74 : -7 ≤ v72 ∧ v72 ≤ 7 := by omega
    refine w_t (np := 97) (l2 := [some (eR a0), some (eI (a1)), some (eI (a2)), some (eI (v12)), some (eI (v21)), some (eI (v30)), some (eI (v40)), some (eI (v43)), some (eI (v52)), some (eI (v68))]) (s2 := [eI (v72), eI (v40), eI (v52), eI (0), eI (a2), eR a0]) rfl (b_imul (by rw [← e73]; exact ev_w_in (by omega) (by omega))) rfl ?_
    obtain ⟨v75, e76⟩ : ∃ zz : Int, zz = (v40) + (v72) := ⟨_, rfl⟩
    have b77 : -7 ≤ v75 ∧ v75 ≤ 16 := by omega
    refine w_t (np := 98) (l2 := [some (eR a0), some (eI (a1)), some (eI (a2)), some (eI (v12)), some (eI (v21)), some (eI (v30)), some (eI (v40)), some (eI (v43)), some (eI (v52)), some (eI (v68))]) (s2 := [eI (v75), eI (v52), eI (0), eI (a2), eR a0]) rfl (b_iadd (by rw [← e76]; exact ev_w_in (by omega) (by omega))) rfl ?_
    refine w_t (np := 100) (l2 := [some (eR a0), some (eI (a1)), some (eI (a2)), some (eI (v12)), some (eI (v21)), some (eI (v30)), some (eI (v40)), some (eI (v43)), some (eI (v52)), some (eI (v68))]) (s2 := [eI (v40), eI (v75), eI (v52), eI (0), eI (a2), eR a0]) rfl rfl rfl ?_
    refine w_t (np := 102) (l2 := [some (eR a0), some (eI (a1)), some (eI (a2)), some (eI (v12)), some (eI (v21)), some (eI (v30)), some (eI (v40)), some (eI (v43)), some (eI (v52)), some (eI (v68))]) (s2 := [eI (8), eI (v40), eI (v75), eI (v52), eI (0), eI (a2), eR a0]) rfl rfl rfl ?_
    refine w_t (np := 104) (l2 := [some (eR a0), some (eI (a1)), some (eI (a2)), some (eI (v12)), some (eI (v21)), some (eI (v30)), some (eI (v40)), some (eI (v43)), some (eI (v52)), some (eI (v68))]) (s2 := [eI (v43), eI (8), eI (v40), eI (v75), eI (v52), eI (0), eI (a2), eR a0]) rfl rfl rfl ?_
    obtain ⟨v78, e79⟩ : ∃ zz : Int, zz = (8) * (v43) := ⟨_, rfl⟩
    have b80 : -8 ≤ v78 ∧ v78 ≤ 8 := by omega
    refine w_t (np := 105) (l2 := [some (eR a0), some (eI (a1)), some (eI (a2)), some (eI (v12)), some (eI (v21)), some (eI (v30)), some (eI (v40)), some (eI (v43)), some (eI (v52)), some (eI (v68))]) (s2 := [eI (v78), eI (v40), eI (v75), eI (v52), eI (0), eI (a2), eR a0]) rfl (b_imul (by rw [← e79]; exact ev_w_in (by omega) (by omega))) rfl ?_
    obtain ⟨v81, e82⟩ : ∃ zz : Int, zz = (v40) + (v78) := ⟨_, rfl⟩
    have b83 : -8 ≤ v81 ∧ v81 ≤ 17 := by omega
    refine w_t (np := 106) (l2 := [some (eR a0), some (eI (a1)), some (eI (a2)), some (eI (v12)), some (eI (v21)), some (eI (v30)), some (eI (v40)), some (eI (v43)), some (eI (v52)), some (eI (v68))]) (s2 := [eI (v81), eI (v75), eI (v52), eI (0), eI (a2), eR a0]) rfl (b_iadd (by rw [← e82]; exact ev_w_in (by omega) (by omega))) rfl ?_
    refine w_cw (np := 109) (as := [eI (a2), eI (0), eI (v52), eI (v75), eI (v81)]) (l2 := [some (eR a0), some (eI (a2)), some (eI (0)), some (eI (v52)), some (eI (v75)), some (eI (v81))]) (rest := []) rfl rfl rfl (Nat.ble_eq.mp rfl) rfl rfl rfl (I66.kd gA0 (by decide) (n := 8) rfl) rfl ?_
    refine s_28k_2 (a1 := a2) (a2 := 0) (a3 := v52) (a4 := v75) (a5 := v81) I66 gA0 (by omega) (by decide) (by omega) (by omega) (by omega) ?_
    intro m84 I85 F86 h87
    have F88 : Fr l_32_2 0 0 g μ m84 := F70.t F86 rfl
    have q89 := kq_sh q71 h87 (F67.k e2 gA0 (by decide) rfl) (by omega)
    show ex_q (dt_fg L ρ) rc (d + 2, (32, 109, [some (eR a0), some (eI (a1)), some (eI (a2)), some (eI (v12)), some (eI (v21)), some (eI (v30)), some (eI (v40)), some (eI (v43)), some (eI (v52)), some (eI (v68))], []), f :: F, m84)
    refine w_t (np := 110) (l2 := [some (eR a0), some (eI (a1)), some (eI (a2)), some (eI (v12)), some (eI (v21)), some (eI (v30)), some (eI (v40)), some (eI (v43)), some (eI (v52)), some (eI (v68))]) (s2 := [eR a0]) rfl (s_an rfl (pos_g I85 gA0 (by decide))) rfl ?_
    refine w_t (np := 111) (l2 := [some (eR a0), some (eI (a1)), some (eI (a2)), some (eI (v12)), some (eI (v21)), some (eI (v30)), some (eI (v40)), some (eI (v43)), some (eI (v52)), some (eI (v68))]) (s2 := [eI (a2), eR a0]) rfl rfl rfl ?_
    refine w_t (np := 113) (l2 := [some (eR a0), some (eI (a1)), some (eI (a2)), some (eI (v12)), some (eI (v21)), some (eI (v30)), some (eI (v40)), some (eI (v43)), some (eI (v52)), some (eI (v68))]) (s2 := [eI (v30), eI (a2), eR a0]) rfl rfl rfl ?_
    refine w_t (np := 115) (l2 := [some (eR a0), some (eI (a1)), some (eI (a2)), some (eI (v12)), some (eI (v21)), some (eI (v30)), some (eI (v40)), some (eI (v43)), some (eI (v52)), some (eI (v68))]) (s2 := [eI (v68), eI (v30), eI (a2), eR a0]) rfl rfl rfl ?_
    refine w_t (np := 117) (l2 := [some (eR a0), some (eI (a1)), some (eI (a2)), some (eI (v12)), some (eI (v21)), some (eI (v30)), some (eI (v40)), some (eI (v43)), some (eI (v52)), some (eI (v68))]) (s2 := [eI (v21), eI (v68), eI (v30), eI (a2), eR a0]) rfl rfl rfl ?_
    refine w_cw (np := 120) (as := [eI (a2), eI (v30), eI (v68), eI (v21)]) (l2 := [some (eR a0), some (eI (a2)), some (eI (v30)), some (eI (v68)), some (eI (v21))]) (rest := []) rfl rfl rfl (Nat.ble_eq.mp rfl) rfl rfl rfl (I85.kd gA0 (by decide) (n := 8) rfl) rfl ?_
    refine s_29_2 (a1 := a2) (a2 := v30) (a3 := v68) (a4 := v21) I85 gA0 (by omega) (by omega) (by omega) (by omega) ?_
    intro m90 I91 F92
    have F93 : Fr l_32_2 0 0 g μ m90 := F88.t F92 rfl
    have q94 := kq_fr q89 F92 b3 (by decide) rfl rfl
    show ex_q (dt_fg L ρ) rc (d + 2, (32, 120, [some (eR a0), some (eI (a1)), some (eI (a2)), some (eI (v12)), some (eI (v21)), some (eI (v30)), some (eI (v40)), some (eI (v43)), some (eI (v52)), some (eI (v68))], []), f :: F, m90)
    refine w_t (np := 121) (l2 := [some (eR a0), some (eI (a1)), some (eI (a2)), some (eI (v12)), some (eI (v21)), some (eI (v30)), some (eI (v40)), some (eI (v43)), some (eI (v52)), some (eI (v68))]) (s2 := [eR a0]) rfl (s_an rfl (pos_g I91 gA0 (by decide))) rfl ?_
    refine w_t (np := 122) (l2 := [some (eR a0), some (eI (a1)), some (eI (a2)), some (eI (v12)), some (eI (v21)), some (eI (v30)), some (eI (v40)), some (eI (v43)), some (eI (v52)), some (eI (v68))]) (s2 := [eI (a2), eR a0]) rfl rfl rfl ?_
    refine w_t (np := 123) (l2 := [some (eR a0), some (eI (a1)), some (eI (a2)), some (eI (v12)), some (eI (v21)), some (eI (v30)), some (eI (v40)), some (eI (v43)), some (eI (v52)), some (eI (v68))]) (s2 := [eI (1), eI (a2), eR a0]) rfl rfl rfl ?_
    obtain ⟨v95, e96⟩ : ∃ zz : Int, zz = (a2) + (1) := ⟨_, rfl⟩
    have b97 : 1 ≤ v95 ∧ v95 ≤ 889 := by omega
    refine w_t (np := 124) (l2 := [some (eR a0), some (eI (a1)), some (eI (a2)), some (eI (v12)), some (eI (v21)), some (eI (v30)), some (eI (v40)), some (eI (v43)), some (eI (v52)), some (eI (v68))]) (s2 := [eI (v95), eR a0]) rfl (b_iadd (by rw [← e96]; exact ev_w_in (by omega) (by omega))) rfl ?_
    refine w_t (np := 125) (l2 := [some (eR a0), some (eI (a1)), some (eI (a2)), some (eI (v12)), some (eI (v21)), some (eI (v30)), some (eI (v40)), some (eI (v43)), some (eI (v52)), some (eI (v68))]) (s2 := [eI (1), eI (v95), eR a0]) rfl rfl rfl ?_
    refine w_t (np := 127) (l2 := [some (eR a0), some (eI (a1)), some (eI (a2)), some (eI (v12)), some (eI (v21)), some (eI (v30)), some (eI (v40)), some (eI (v43)), some (eI (v52)), some (eI (v68))]) (s2 := [eI (v52), eI (1), eI (v95), eR a0]) rfl rfl rfl ?_
    refine w_t (np := 128) (l2 := [some (eR a0), some (eI (a1)), some (eI (a2)), some (eI (v12)), some (eI (v21)), some (eI (v30)), some (eI (v40)), some (eI (v43)), some (eI (v52)), some (eI (v68))]) (s2 := [eI (1), eI (v52), eI (1), eI (v95), eR a0]) rfl rfl rfl ?_
    obtain ⟨v98, e99, b100⟩ : ∃ zz : Int, ev_w ((v52) + (1)) = zz ∧ (-2147483648 ≤ zz ∧ zz ≤ 2147483647) := ⟨_, rfl, hw_bd _⟩
    refine w_t (np := 129) (l2 := [some (eR a0), some (eI (a1)), some (eI (a2)), some (eI (v12)), some (eI (v21)), some (eI (v30)), some (eI (v40)), some (eI (v43)), some (eI (v52)), some (eI (v68))]) (s2 := [eI (v98), eI (1), eI (v95), eR a0]) rfl (b_iadd e99) rfl ?_
    refine w_t (np := 131) (l2 := [some (eR a0), some (eI (a1)), some (eI (a2)), some (eI (v12)), some (eI (v21)), some (eI (v30)), some (eI (v40)), some (eI (v43)), some (eI (v52)), some (eI (v68))]) (s2 := [eI (v40), eI (v98), eI (1), eI (v95), eR a0]) rfl rfl rfl ?_
    refine w_t (np := 132) (l2 := [some (eR a0), some (eI (a1)), some (eI (a2)), some (eI (v12)), some (eI (v21)), some (eI (v30)), some (eI (v40)), some (eI (v43)), some (eI (v52)), some (eI (v68))]) (s2 := [eI (2), eI (v40), eI (v98), eI (1), eI (v95), eR a0]) rfl rfl rfl ?_
    refine w_t (np := 134) (l2 := [some (eR a0), some (eI (a1)), some (eI (a2)), some (eI (v12)), some (eI (v21)), some (eI (v30)), some (eI (v40)), some (eI (v43)), some (eI (v52)), some (eI (v68))]) (s2 := [eI (v43), eI (2), eI (v40), eI (v98), eI (1), eI (v95), eR a0]) rfl rfl rfl ?_
    obtain ⟨v101, e102⟩ : ∃ zz : Int, zz = (2) * (v43) := ⟨_, rfl⟩
    have b103 : -2 ≤ v101 ∧ v101 ≤ 2 := by omega
    refine w_t (np := 135) (l2 := [some (eR a0), some (eI (a1)), some (eI (a2)), some (eI (v12)), some (eI (v21)), some (eI (v30)), some (eI (v40)), some (eI (v43)), some (eI (v52)), some (eI (v68))]) (s2 := [eI (v101), eI (v40), eI (v98), eI (1), eI (v95), eR a0]) rfl (b_imul (by rw [← e102]; exact ev_w_in (by omega) (by omega))) rfl ?_
    obtain ⟨v104, e105⟩ : ∃ zz : Int, zz = (v40) + (v101) := ⟨_, rfl⟩
    have b106 : -2 ≤ v104 ∧ v104 ≤ 11 := by omega
    refine w_t (np := 136) (l2 := [some (eR a0), some (eI (a1)), some (eI (a2)), some (eI (v12)), some (eI (v21)), some (eI (v30)), some (eI (v40)), some (eI (v43)), some (eI (v52)), some (eI (v68))]) (s2 := [eI (v104), eI (v98), eI (1), eI (v95), eR a0]) rfl (b_iadd (by rw [← e105]; exact ev_w_in (by omega) (by omega))) rfl ?_
    refine w_t (np := 138) (l2 := [some (eR a0), some (eI (a1)), some (eI (a2)), some (eI (v12)), some (eI (v21)), some (eI (v30)), some (eI (v40)), some (eI (v43)), some (eI (v52)), some (eI (v68))]) (s2 := [eI (v40), eI (v104), eI (v98), eI (1), eI (v95), eR a0]) rfl rfl rfl ?_
    refine w_t (np := 139) (l2 := [some (eR a0), some (eI (a1)), some (eI (a2)), some (eI (v12)), some (eI (v21)), some (eI (v30)), some (eI (v40)), some (eI (v43)), some (eI (v52)), some (eI (v68))]) (s2 := [eI (5), eI (v40), eI (v104), eI (v98), eI (1), eI (v95), eR a0]) rfl rfl rfl ?_
    refine w_t (np := 141) (l2 := [some (eR a0), some (eI (a1)), some (eI (a2)), some (eI (v12)), some (eI (v21)), some (eI (v30)), some (eI (v40)), some (eI (v43)), some (eI (v52)), some (eI (v68))]) (s2 := [eI (v43), eI (5), eI (v40), eI (v104), eI (v98), eI (1), eI (v95), eR a0]) rfl rfl rfl ?_
    obtain ⟨v107, e108⟩ : ∃ zz : Int, zz = (5) * (v43) := ⟨_, rfl⟩
    have b109 : -5 ≤ v107 ∧ v107 ≤ 5 := by omega
    refine w_t (np := 142) (l2 := [some (eR a0), some (eI (a1)), some (eI (a2)), some (eI (v12)), some (eI (v21)), some (eI (v30)), some (eI (v40)), some (eI (v43)), some (eI (v52)), some (eI (v68))]) (s2 := [eI (v107), eI (v40), eI (v104), eI (v98), eI (1), eI (v95), eR a0]) rfl (b_imul (by rw [← e108]; exact ev_w_in (by omega) (by omega))) rfl ?_
    obtain ⟨v110, e111⟩ : ∃ zz : Int, zz = (v40) + (v107) := ⟨_, rfl⟩
    have b112 : -5 ≤ v110 ∧ v110 ≤ 14 := by omega
    refine w_t (np := 143) (l2 := [some (eR a0), some (eI (a1)), some (eI (a2)), some (eI (v12)), some (eI (v21)), some (eI (v30)), some (eI (v40)), some (eI (v43)), some (eI (v52)), some (eI (v68))]) (s2 := [eI (v110), eI (v104), eI (v98), eI (1), eI (v95), eR a0]) rfl (b_iadd (by rw [← e111]; exact ev_w_in (by omega) (by omega))) rfl ?_
    refine w_cw (np := 146) (as := [eI (v95), eI (1), eI (v98), eI (v104), eI (v110)]) (l2 := [some (eR a0), some (eI (v95)), some (eI (1)), some (eI (v98)), some (eI (v104)), some (eI (v110))]) (rest := []) rfl rfl rfl (Nat.ble_eq.mp rfl) rfl rfl rfl (I91.kd gA0 (by decide) (n := 8) rfl) rfl ?_
    refine s_28k_2 (a1 := v95) (a2 := 1) (a3 := v98) (a4 := v104) (a5 := v110) I91 gA0 (by omega) (by decide) (by omega) (by omega) (by omega) ?_
    intro m113 I114 F115 h116
    have F117 : Fr l_32_2 0 0 g μ m113 := F93.t F115 rfl
    have q118 := kq_sh q94 h116 (F92.k (F86.k (F67.k e2 gA0 (by decide) rfl) gA0 (by decide) rfl) gA0 (by decide) rfl) (by omega)
    show ex_q (dt_fg L ρ) rc (d + 2, (32, 146, [some (eR a0), some (eI (a1)), some (eI (a2)), some (eI (v12)), some (eI (v21)), some (eI (v30)), some (eI (v40)), some (eI (v43)), some (eI (v52)), some (eI (v68))], []), f :: F, m113)
    refine w_t (np := 147) (l2 := [some (eR a0), some (eI (a1)), some (eI (a2)), some (eI (v12)), some (eI (v21)), some (eI (v30)), some (eI (v40)), some (eI (v43)), some (eI (v52)), some (eI (v68))]) (s2 := [eR a0]) rfl (s_an rfl (pos_g I114 gA0 (by decide))) rfl ?_
    refine w_t (np := 148) (l2 := [some (eR a0), some (eI (a1)), some (eI (a2)), some (eI (v12)), some (eI (v21)), some (eI (v30)), some (eI (v40)), some (eI (v43)), some (eI (v52)), some (eI (v68))]) (s2 := [eI (a2), eR a0]) rfl rfl rfl ?_
    refine w_t (np := 149) (l2 := [some (eR a0), some (eI (a1)), some (eI (a2)), some (eI (v12)), some (eI (v21)), some (eI (v30)), some (eI (v40)), some (eI (v43)), some (eI (v52)), some (eI (v68))]) (s2 := [eI (1), eI (a2), eR a0]) rfl rfl rfl ?_
    obtain ⟨v119, e120⟩ : ∃ zz : Int, zz = (a2) + (1) := ⟨_, rfl⟩
    have b121 : 1 ≤ v119 ∧ v119 ≤ 889 := by omega
    refine w_t (np := 150) (l2 := [some (eR a0), some (eI (a1)), some (eI (a2)), some (eI (v12)), some (eI (v21)), some (eI (v30)), some (eI (v40)), some (eI (v43)), some (eI (v52)), some (eI (v68))]) (s2 := [eI (v119), eR a0]) rfl (b_iadd (by rw [← e120]; exact ev_w_in (by omega) (by omega))) rfl ?_
    refine w_t (np := 152) (l2 := [some (eR a0), some (eI (a1)), some (eI (a2)), some (eI (v12)), some (eI (v21)), some (eI (v30)), some (eI (v40)), some (eI (v43)), some (eI (v52)), some (eI (v68))]) (s2 := [eI (v68), eI (v119), eR a0]) rfl rfl rfl ?_
    refine w_t (np := 154) (l2 := [some (eR a0), some (eI (a1)), some (eI (a2)), some (eI (v12)), some (eI (v21)), some (eI (v30)), some (eI (v40)), some (eI (v43)), some (eI (v52)), some (eI (v68))]) (s2 := [eI (v30), eI (v68), eI (v119), eR a0]) rfl rfl rfl ?_
    refine w_t (np := 155) (l2 := [some (eR a0), some (eI (a1)), some (eI (a2)), some (eI (v12)), some (eI (v21)), some (eI (v30)), some (eI (v40)), some (eI (v43)), some (eI (v52)), some (eI (v68))]) (s2 := [eI (v12), eI (v30), eI (v68), eI (v119), eR a0]) rfl rfl rfl ?_
    refine w_cw (np := 158) (as := [eI (v119), eI (v68), eI (v30), eI (v12)]) (l2 := [some (eR a0), some (eI (v119)), some (eI (v68)), some (eI (v30)), some (eI (v12))]) (rest := []) rfl rfl rfl (Nat.ble_eq.mp rfl) rfl rfl rfl (I114.kd gA0 (by decide) (n := 8) rfl) rfl ?_
    refine s_29_2 (a1 := v119) (a2 := v68) (a3 := v30) (a4 := v12) I114 gA0 (by omega) (by omega) (by omega) (by omega) ?_
    intro m122 I123 F124
    have F125 : Fr l_32_2 0 0 g μ m122 := F117.t F124 rfl
    have q126 := kq_fr q118 F124 b3 (by decide) rfl rfl
    show ex_q (dt_fg L ρ) rc (d + 2, (32, 158, [some (eR a0), some (eI (a1)), some (eI (a2)), some (eI (v12)), some (eI (v21)), some (eI (v30)), some (eI (v40)), some (eI (v43)), some (eI (v52)), some (eI (v68))], []), f :: F, m122)
    exact v_rv rfl rfl (K m122 I123 F125 (kq_e q126 e2))
def l_33_2 : List Nat := [2304, 2560, 2816, 2048, 4096, 3328, 4352, 3584, 3843, 3075]
theorem s_33_2 {L : Nat} {ρ : Nat → Int} {rc : eQ} {d : Nat} {f : eFr} {F : List eFr} {μ : eM} {g : Nat → Nat} {a0 : Nat} {a1 : Int} {a2 : Int} (hI : SI g μ) (gA0 : g a0 = 7) (bA1 : 0 ≤ a1 ∧ a1 ≤ 889) (bA2 : 0 ≤ a2 ∧ a2 ≤ 887) (K : ∀ (μ2 : eM), SI g μ2 → Fr l_33_2 0 0 g μ μ2 → (∀ j : Nat, (j : Int) < a2 → μ2.1 (μ.1 a0 0).toNat j = μ.1 (μ.1 a0 0).toNat j) → ex_q (dt_fg L ρ) rc (d + 3, (f.1, f.2.1, f.2.2.1, f.2.2.2), F, μ2)) : ex_q (dt_fg L ρ) rc (d + 2, (33, 0, [some (eR a0), some (eI (a1)), some (eI (a2)), none, none, none, none, none, none, none, none, none, none], []), f :: F, μ) := by
  have F0 : Fr l_33_2 0 0 g μ μ := Fr.r
  obtain ⟨v1, e2, b3, z4⟩ := hI.ref (k := 0) gA0 (by decide) (n := 8) rfl (by decide) rfl
  have b3 : g v1 = 8 := Nat.eq_of_beq_eq_true b3
  have kq0 : ∀ j : Nat, (j : Int) < a2 → μ.1 v1 j = μ.1 v1 j := fun _ _ => rfl
  refine w_t (np := 1) (l2 := [some (eR a0), some (eI (a1)), some (eI (a2)), none, none, none, none, none, none, none, none, none, none]) (s2 := [eR a0]) rfl (s_an rfl (pos_g hI gA0 (by decide))) rfl ?_
  refine j_gr (np := 4) rfl rfl hI gA0 (by decide) (n := 8) rfl rfl rfl ?_
  intro v5 e6 b7 z8
  have b7 : g v5 = 10 := Nat.eq_of_beq_eq_true b7
  refine w_t (np := 5) (l2 := [some (eR a0), some (eI (a1)), some (eI (a2)), none, none, none, none, none, none, none, none, none, none]) (s2 := [eI (3), eR v5]) rfl rfl rfl ?_
  refine w_t (np := 6) (l2 := [some (eR a0), some (eI (a1)), some (eI (a2)), none, none, none, none, none, none, none, none, none, none]) (s2 := [eI (a1), eI (3), eR v5]) rfl rfl rfl ?_
  obtain ⟨v9, e10⟩ : ∃ zz : Int, zz = (3) * (a1) := ⟨_, rfl⟩
  have b11 : 0 ≤ v9 ∧ v9 ≤ 2667 := by omega
  refine w_t (np := 7) (l2 := [some (eR a0), some (eI (a1)), some (eI (a2)), none, none, none, none, none, none, none, none, none, none]) (s2 := [eI (v9), eR v5]) rfl (b_imul (by rw [← e10]; exact ev_w_in (by omega) (by omega))) rfl ?_
  refine j_al (np := 8) rfl rfl hI b7 (by decide) (n := 2670) rfl rfl (lo := 0) (hi := 511) (fun _ => rfl) (by omega) (by omega) ?_
  intro v12 e13 b14
  refine w_t (np := 9) (l2 := [some (eR a0), some (eI (a1)), some (eI (a2)), some (eI (v12)), none, none, none, none, none, none, none, none, none]) (s2 := []) rfl rfl rfl ?_
  refine w_t (np := 10) (l2 := [some (eR a0), some (eI (a1)), some (eI (a2)), some (eI (v12)), none, none, none, none, none, none, none, none, none]) (s2 := [eR a0]) rfl (s_an rfl (pos_g hI gA0 (by decide))) rfl ?_
  refine w_gf (np := 13) (v := eR v5) rfl rfl (hI.kd gA0 (by decide) (n := 8) rfl) (by rw [e6]; rfl) ?_
  refine w_t (np := 14) (l2 := [some (eR a0), some (eI (a1)), some (eI (a2)), some (eI (v12)), none, none, none, none, none, none, none, none, none]) (s2 := [eI (3), eR v5]) rfl rfl rfl ?_
  refine w_t (np := 15) (l2 := [some (eR a0), some (eI (a1)), some (eI (a2)), some (eI (v12)), none, none, none, none, none, none, none, none, none]) (s2 := [eI (a1), eI (3), eR v5]) rfl rfl rfl ?_
  obtain ⟨v15, e16⟩ : ∃ zz : Int, zz = (3) * (a1) := ⟨_, rfl⟩
  have b17 : 0 ≤ v15 ∧ v15 ≤ 2667 := by omega
  refine w_t (np := 16) (l2 := [some (eR a0), some (eI (a1)), some (eI (a2)), some (eI (v12)), none, none, none, none, none, none, none, none, none]) (s2 := [eI (v15), eR v5]) rfl (b_imul (by rw [← e16]; exact ev_w_in (by omega) (by omega))) rfl ?_
  refine w_t (np := 17) (l2 := [some (eR a0), some (eI (a1)), some (eI (a2)), some (eI (v12)), none, none, none, none, none, none, none, none, none]) (s2 := [eI (1), eI (v15), eR v5]) rfl rfl rfl ?_
  obtain ⟨v18, e19⟩ : ∃ zz : Int, zz = (v15) + (1) := ⟨_, rfl⟩
  have b20 : 1 ≤ v18 ∧ v18 ≤ 2668 := by omega
  refine w_t (np := 18) (l2 := [some (eR a0), some (eI (a1)), some (eI (a2)), some (eI (v12)), none, none, none, none, none, none, none, none, none]) (s2 := [eI (v18), eR v5]) rfl (b_iadd (by rw [← e19]; exact ev_w_in (by omega) (by omega))) rfl ?_
  refine j_al (np := 19) rfl rfl hI b7 (by decide) (n := 2670) rfl rfl (lo := 0) (hi := 511) (fun _ => rfl) (by omega) (by omega) ?_
  intro v21 e22 b23
  refine w_t (np := 21) (l2 := [some (eR a0), some (eI (a1)), some (eI (a2)), some (eI (v12)), some (eI (v21)), none, none, none, none, none, none, none, none]) (s2 := []) rfl rfl rfl ?_
  refine w_t (np := 22) (l2 := [some (eR a0), some (eI (a1)), some (eI (a2)), some (eI (v12)), some (eI (v21)), none, none, none, none, none, none, none, none]) (s2 := [eR a0]) rfl (s_an rfl (pos_g hI gA0 (by decide))) rfl ?_
  refine w_gf (np := 25) (v := eR v5) rfl rfl (hI.kd gA0 (by decide) (n := 8) rfl) (by rw [e6]; rfl) ?_
  refine w_t (np := 26) (l2 := [some (eR a0), some (eI (a1)), some (eI (a2)), some (eI (v12)), some (eI (v21)), none, none, none, none, none, none, none, none]) (s2 := [eI (3), eR v5]) rfl rfl rfl ?_
  refine w_t (np := 27) (l2 := [some (eR a0), some (eI (a1)), some (eI (a2)), some (eI (v12)), some (eI (v21)), none, none, none, none, none, none, none, none]) (s2 := [eI (a1), eI (3), eR v5]) rfl rfl rfl ?_
  obtain ⟨v24, e25⟩ : ∃ zz : Int, zz = (3) * (a1) := ⟨_, rfl⟩
  have b26 : 0 ≤ v24 ∧ v24 ≤ 2667 := by omega
  refine w_t (np := 28) (l2 := [some (eR a0), some (eI (a1)), some (eI (a2)), some (eI (v12)), some (eI (v21)), none, none, none, none, none, none, none, none]) (s2 := [eI (v24), eR v5]) rfl (b_imul (by rw [← e25]; exact ev_w_in (by omega) (by omega))) rfl ?_
  refine w_t (np := 29) (l2 := [some (eR a0), some (eI (a1)), some (eI (a2)), some (eI (v12)), some (eI (v21)), none, none, none, none, none, none, none, none]) (s2 := [eI (2), eI (v24), eR v5]) rfl rfl rfl ?_
  obtain ⟨v27, e28⟩ : ∃ zz : Int, zz = (v24) + (2) := ⟨_, rfl⟩
  have b29 : 2 ≤ v27 ∧ v27 ≤ 2669 := by omega
  refine w_t (np := 30) (l2 := [some (eR a0), some (eI (a1)), some (eI (a2)), some (eI (v12)), some (eI (v21)), none, none, none, none, none, none, none, none]) (s2 := [eI (v27), eR v5]) rfl (b_iadd (by rw [← e28]; exact ev_w_in (by omega) (by omega))) rfl ?_
  refine j_al (np := 31) rfl rfl hI b7 (by decide) (n := 2670) rfl rfl (lo := 0) (hi := 511) (fun _ => rfl) (by omega) (by omega) ?_
  intro v30 e31 b32
  refine w_t (np := 33) (l2 := [some (eR a0), some (eI (a1)), some (eI (a2)), some (eI (v12)), some (eI (v21)), some (eI (v30)), none, none, none, none, none, none, none]) (s2 := []) rfl rfl rfl ?_
  refine w_t (np := 34) (l2 := [some (eR a0), some (eI (a1)), some (eI (a2)), some (eI (v12)), some (eI (v21)), some (eI (v30)), none, none, none, none, none, none, none]) (s2 := [eR a0]) rfl (s_an rfl (pos_g hI gA0 (by decide))) rfl ?_
  refine j_gr (np := 37) rfl rfl hI gA0 (by decide) (n := 8) rfl rfl rfl ?_
  intro v33 e34 b35 z36
  have b35 : g v33 = 11 := Nat.eq_of_beq_eq_true b35
  refine w_t (np := 38) (l2 := [some (eR a0), some (eI (a1)), some (eI (a2)), some (eI (v12)), some (eI (v21)), some (eI (v30)), none, none, none, none, none, none, none]) (s2 := [eI (2), eR v33]) rfl rfl rfl ?_
  refine w_t (np := 39) (l2 := [some (eR a0), some (eI (a1)), some (eI (a2)), some (eI (v12)), some (eI (v21)), some (eI (v30)), none, none, none, none, none, none, none]) (s2 := [eI (a1), eI (2), eR v33]) rfl rfl rfl ?_
  obtain ⟨v37, e38⟩ : ∃ zz : Int, zz = (2) * (a1) := ⟨_, rfl⟩
  have b39 : 0 ≤ v37 ∧ v37 ≤ 1778 := by omega
  refine w_t (np := 40) (l2 := [some (eR a0), some (eI (a1)), some (eI (a2)), some (eI (v12)), some (eI (v21)), some (eI (v30)), none, none, none, none, none, none, none]) (s2 := [eI (v37), eR v33]) rfl (b_imul (by rw [← e38]; exact ev_w_in (by omega) (by omega))) rfl ?_
  refine j_al (np := 41) rfl rfl hI b35 (by decide) (n := 1780) rfl rfl (lo := 0) (hi := 9) (fun _ => rfl) (by omega) (by omega) ?_
  intro v40 e41 b42
  refine w_t (np := 43) (l2 := [some (eR a0), some (eI (a1)), some (eI (a2)), some (eI (v12)), some (eI (v21)), some (eI (v30)), some (eI (v40)), none, none, none, none, none, none]) (s2 := []) rfl rfl rfl ?_
  refine w_t (np := 44) (l2 := [some (eR a0), some (eI (a1)), some (eI (a2)), some (eI (v12)), some (eI (v21)), some (eI (v30)), some (eI (v40)), none, none, none, none, none, none]) (s2 := [eR a0]) rfl (s_an rfl (pos_g hI gA0 (by decide))) rfl ?_
  refine w_t (np := 45) (l2 := [some (eR a0), some (eI (a1)), some (eI (a2)), some (eI (v12)), some (eI (v21)), some (eI (v30)), some (eI (v40)), none, none, none, none, none, none]) (s2 := [eI (a1), eR a0]) rfl rfl rfl ?_
  refine w_cw (np := 48) (as := [eI (a1)]) (l2 := [some (eR a0), some (eI (a1))]) (rest := []) rfl rfl rfl (Nat.ble_eq.mp rfl) rfl rfl rfl (hI.kd gA0 (by decide) (n := 8) rfl) rfl ?_
  refine s_24_2 (a1 := a1) hI gA0 (by omega) ?_
  intro v43 b44
  show ex_q (dt_fg L ρ) rc (d + 2, (33, 48, [some (eR a0), some (eI (a1)), some (eI (a2)), some (eI (v12)), some (eI (v21)), some (eI (v30)), some (eI (v40)), none, none, none, none, none, none], [eI (v43)]), f :: F, μ)
  refine w_t (np := 50) (l2 := [some (eR a0), some (eI (a1)), some (eI (a2)), some (eI (v12)), some (eI (v21)), some (eI (v30)), some (eI (v40)), some (eI (v43)), none, none, none, none, none]) (s2 := []) rfl rfl rfl ?_
  refine w_t (np := 51) (l2 := [some (eR a0), some (eI (a1)), some (eI (a2)), some (eI (v12)), some (eI (v21)), some (eI (v30)), some (eI (v40)), some (eI (v43)), none, none, none, none, none]) (s2 := [eI (3)]) rfl rfl rfl ?_
  refine w_t (np := 52) (l2 := [some (eR a0), some (eI (a1)), some (eI (a2)), some (eI (v12)), some (eI (v21)), some (eI (v30)), some (eI (v40)), some (eI (v43)), none, none, none, none, none]) (s2 := [eR a0, eI (3)]) rfl (s_an rfl (pos_g hI gA0 (by decide))) rfl ?_
  refine j_gr (np := 55) rfl rfl hI gA0 (by decide) (n := 8) rfl rfl rfl ?_
  intro v45 e46 b47 z48
  have b47 : g v45 = 9 := Nat.eq_of_beq_eq_true b47
  refine w_t (np := 56) (l2 := [some (eR a0), some (eI (a1)), some (eI (a2)), some (eI (v12)), some (eI (v21)), some (eI (v30)), some (eI (v40)), some (eI (v43)), none, none, none, none, none]) (s2 := [eI (a1), eR v45, eI (3)]) rfl rfl rfl ?_
  refine j_al (np := 57) rfl rfl hI b47 (by decide) (n := 890) rfl rfl (lo := -2147483648) (hi := 2147483647) (fun _ => rfl) (by omega) (by omega) ?_
  intro v49 e50 b51
  obtain ⟨v52, e53, b54⟩ : ∃ zz : Int, ev_w ((3) * (v49)) = zz ∧ (-2147483648 ≤ zz ∧ zz ≤ 2147483647) := ⟨_, rfl, hw_bd _⟩
  refine w_t (np := 58) (l2 := [some (eR a0), some (eI (a1)), some (eI (a2)), some (eI (v12)), some (eI (v21)), some (eI (v30)), some (eI (v40)), some (eI (v43)), none, none, none, none, none]) (s2 := [eI (v52)]) rfl (b_imul e53) rfl ?_
  refine w_t (np := 60) (l2 := [some (eR a0), some (eI (a1)), some (eI (a2)), some (eI (v12)), some (eI (v21)), some (eI (v30)), some (eI (v40)), some (eI (v43)), some (eI (v52)), none, none, none, none]) (s2 := []) rfl rfl rfl ?_
  refine w_t (np := 61) (l2 := [some (eR a0), some (eI (a1)), some (eI (a2)), some (eI (v12)), some (eI (v21)), some (eI (v30)), some (eI (v40)), some (eI (v43)), some (eI (v52)), none, none, none, none]) (s2 := [eR a0]) rfl (s_an rfl (pos_g hI gA0 (by decide))) rfl ?_
  refine j_gr (np := 64) rfl rfl hI gA0 (by decide) (n := 8) rfl rfl rfl ?_
  intro v55 e56 b57 z58
  rcases hor2 b57 with b57 | b57
  · refine w_t (np := 66) (l2 := [some (eR a0), some (eI (a1)), some (eI (a2)), some (eI (v12)), some (eI (v21)), some (eI (v30)), some (eI (v40)), some (eI (v43)), some (eI (v52)), none, none, none, none]) (s2 := [eI (v21), eR v55]) rfl rfl rfl ?_
    refine w_cw (np := 69) (as := [eI (v21)]) (l2 := [some (eR v55), some (eI (v21))]) (rest := []) rfl rfl rfl (Nat.ble_eq.mp rfl) rfl rfl rfl (hI.kd b57 (by decide) (n := 3) rfl) rfl ?_
    refine s_44 (a1 := v21) hI b57 (by omega) ?_
    intro v59 b60
    show ex_q (dt_fg L ρ) rc (d + 2, (33, 69, [some (eR a0), some (eI (a1)), some (eI (a2)), some (eI (v12)), some (eI (v21)), some (eI (v30)), some (eI (v40)), some (eI (v43)), some (eI (v52)), none, none, none, none], [eJ (v59)]), f :: F, μ)
    refine w_t (np := 71) (l2 := [some (eR a0), some (eI (a1)), some (eI (a2)), some (eI (v12)), some (eI (v21)), some (eI (v30)), some (eI (v40)), some (eI (v43)), some (eI (v52)), none, none, none, none]) (s2 := [eI (v40), eJ (v59)]) rfl rfl rfl ?_
    refine w_cu (np := 74) (as := [eI (v40)]) (l2 := [some (eI (v40))]) (rest := [eJ (v59)]) rfl rfl rfl (Nat.ble_eq.mp rfl) rfl rfl rfl rfl ?_
    refine s_74 (a0 := v40) hI (by omega) ?_
    intro v61 b62
    show ex_q (dt_fg L ρ) rc (d + 2, (33, 74, [some (eR a0), some (eI (a1)), some (eI (a2)), some (eI (v12)), some (eI (v21)), some (eI (v30)), some (eI (v40)), some (eI (v43)), some (eI (v52)), none, none, none, none], [eJ (v61), eJ (v59)]), f :: F, μ)
    refine w_cu (np := 77) (as := [eJ (v59), eJ (v61)]) (l2 := [some (eJ (v59)), none, some (eJ (v61)), none]) (rest := []) rfl rfl rfl (Nat.ble_eq.mp rfl) rfl rfl rfl rfl ?_
    refine s_76 hI b60 b62 ?_
    intro v63 b64
    show ex_q (dt_fg L ρ) rc (d + 2, (33, 77, [some (eR a0), some (eI (a1)), some (eI (a2)), some (eI (v12)), some (eI (v21)), some (eI (v30)), some (eI (v40)), some (eI (v43)), some (eI (v52)), none, none, none, none], [eJ (v63)]), f :: F, μ)
    refine w_t (np := 79) (l2 := [some (eR a0), some (eI (a1)), some (eI (a2)), some (eI (v12)), some (eI (v21)), some (eI (v30)), some (eI (v40)), some (eI (v43)), some (eI (v52)), some (eJ (v63)), none, none, none]) (s2 := []) rfl rfl rfl ?_
    refine w_t (np := 80) (l2 := [some (eR a0), some (eI (a1)), some (eI (a2)), some (eI (v12)), some (eI (v21)), some (eI (v30)), some (eI (v40)), some (eI (v43)), some (eI (v52)), some (eJ (v63)), none, none, none]) (s2 := [eR a0]) rfl (s_an rfl (pos_g hI gA0 (by decide))) rfl ?_
    refine w_gf (np := 83) (v := eR v55) rfl rfl (hI.kd gA0 (by decide) (n := 8) rfl) (by rw [e56]; rfl) ?_
    refine w_t (np := 85) (l2 := [some (eR a0), some (eI (a1)), some (eI (a2)), some (eI (v12)), some (eI (v21)), some (eI (v30)), some (eI (v40)), some (eI (v43)), some (eI (v52)), some (eJ (v63)), none, none, none]) (s2 := [eJ (v63), eR v55]) rfl rfl rfl ?_
    refine w_cw (np := 88) (as := [eJ (v63)]) (l2 := [some (eR v55), some (eJ (v63)), none, none]) (rest := []) rfl rfl rfl (Nat.ble_eq.mp rfl) rfl rfl rfl (hI.kd b57 (by decide) (n := 3) rfl) rfl ?_
    refine s_46 hI b57 b64 ?_
    intro m65 v68 I66 F67 b69
    have F70 : Fr l_33_2 0 0 g μ m65 := F0.t F67 rfl
    have q71 := kq_fr kq0 F67 b3 (by decide) rfl rfl
    show ex_q (dt_fg L ρ) rc (d + 2, (33, 88, [some (eR a0), some (eI (a1)), some (eI (a2)), some (eI (v12)), some (eI (v21)), some (eI (v30)), some (eI (v40)), some (eI (v43)), some (eI (v52)), some (eJ (v63)), none, none, none], [eI (v68)]), f :: F, m65)
    refine w_t (np := 90) (l2 := [some (eR a0), some (eI (a1)), some (eI (a2)), some (eI (v12)), some (eI (v21)), some (eI (v30)), some (eI (v40)), some (eI (v43)), some (eI (v52)), some (eJ (v63)), none, some (eI (v68)), none]) (s2 := []) rfl rfl rfl ?_
    refine w_t (np := 91) (l2 := [some (eR a0), some (eI (a1)), some (eI (a2)), some (eI (v12)), some (eI (v21)), some (eI (v30)), some (eI (v40)), some (eI (v43)), some (eI (v52)), some (eJ (v63)), none, some (eI (v68)), none]) (s2 := [eR a0]) rfl (s_an rfl (pos_g I66 gA0 (by decide))) rfl ?_
    refine w_gf (np := 94) (v := eR v55) rfl rfl (I66.kd gA0 (by decide) (n := 8) rfl) (by rw [(F67.k e56 gA0 (by decide) rfl)]; rfl) ?_
    refine w_t (np := 96) (l2 := [some (eR a0), some (eI (a1)), some (eI (a2)), some (eI (v12)), some (eI (v21)), some (eI (v30)), some (eI (v40)), some (eI (v43)), some (eI (v52)), some (eJ (v63)), none, some (eI (v68)), none]) (s2 := [eJ (v63), eR v55]) rfl rfl rfl ?_
    refine w_t (np := 98) (l2 := [some (eR a0), some (eI (a1)), some (eI (a2)), some (eI (v12)), some (eI (v21)), some (eI (v30)), some (eI (v40)), some (eI (v43)), some (eI (v52)), some (eJ (v63)), none, some (eI (v68)), none]) (s2 := [eI (v40), eJ (v63), eR v55]) rfl rfl rfl ?_
    refine w_t (np := 99) (l2 := [some (eR a0), some (eI (a1)), some (eI (a2)), some (eI (v12)), some (eI (v21)), some (eI (v30)), some (eI (v40)), some (eI (v43)), some (eI (v52)), some (eJ (v63)), none, some (eI (v68)), none]) (s2 := [eI (3), eI (v40), eJ (v63), eR v55]) rfl rfl rfl ?_
    refine w_t (np := 101) (l2 := [some (eR a0), some (eI (a1)), some (eI (a2)), some (eI (v12)), some (eI (v21)), some (eI (v30)), some (eI (v40)), some (eI (v43)), some (eI (v52)), some (eJ (v63)), none, some (eI (v68)), none]) (s2 := [eI (v43), eI (3), eI (v40), eJ (v63), eR v55]) rfl rfl rfl ?_
    obtain ⟨v72, e73⟩ : ∃ zz : Int, zz = (3) * (v43) := ⟨_, rfl⟩
    have b74 : -3 ≤ v72 ∧ v72 ≤ 3 := by omega
    refine w_t (np := 102) (l2 := [some (eR a0), some (eI (a1)), some (eI (a2)), some (eI (v12)), some (eI (v21)), some (eI (v30)), some (eI (v40)), some (eI (v43)), some (eI (v52)), some (eJ (v63)), none, some (eI (v68)), none]) (s2 := [eI (v72), eI (v40), eJ (v63), eR v55]) rfl (b_imul (by rw [← e73]; exact ev_w_in (by omega) (by omega))) rfl ?_
    obtain ⟨v75, e76⟩ : ∃ zz : Int, zz = (v40) + (v72) := ⟨_, rfl⟩
    have b77 : -3 ≤ v75 ∧ v75 ≤ 12 := by omega
    refine w_t (np := 103) (l2 := [some (eR a0), some (eI (a1)), some (eI (a2)), some (eI (v12)), some (eI (v21)), some (eI (v30)), some (eI (v40)), some (eI (v43)), some (eI (v52)), some (eJ (v63)), none, some (eI (v68)), none]) (s2 := [eI (v75), eJ (v63), eR v55]) rfl (b_iadd (by rw [← e76]; exact ev_w_in (by omega) (by omega))) rfl ?_
    refine w_cu (np := 106) (as := [eI (v75)]) (l2 := [some (eI (v75))]) (rest := [eJ (v63), eR v55]) rfl rfl rfl (Nat.ble_eq.mp rfl) rfl rfl rfl rfl ?_
    refine s_74 (a0 := v75) I66 (by omega) ?_
    intro v78 b79
    show ex_q (dt_fg L ρ) rc (d + 2, (33, 106, [some (eR a0), some (eI (a1)), some (eI (a2)), some (eI (v12)), some (eI (v21)), some (eI (v30)), some (eI (v40)), some (eI (v43)), some (eI (v52)), some (eJ (v63)), none, some (eI (v68)), none], [eJ (v78), eJ (v63), eR v55]), f :: F, m65)
    refine w_cu (np := 109) (as := [eJ (v63), eJ (v78)]) (l2 := [some (eJ (v63)), none, some (eJ (v78)), none]) (rest := [eR v55]) rfl rfl rfl (Nat.ble_eq.mp rfl) rfl rfl rfl rfl ?_
    refine s_75 I66 b64 b79 ?_
    intro v80 b81
    show ex_q (dt_fg L ρ) rc (d + 2, (33, 109, [some (eR a0), some (eI (a1)), some (eI (a2)), some (eI (v12)), some (eI (v21)), some (eI (v30)), some (eI (v40)), some (eI (v43)), some (eI (v52)), some (eJ (v63)), none, some (eI (v68)), none], [eJ (v80), eR v55]), f :: F, m65)
    refine w_cw (np := 112) (as := [eJ (v80)]) (l2 := [some (eR v55), some (eJ (v80)), none, none]) (rest := []) rfl rfl rfl (Nat.ble_eq.mp rfl) rfl rfl rfl (I66.kd b57 (by decide) (n := 3) rfl) rfl ?_
    refine s_46 I66 b57 b81 ?_
    intro m82 v85 I83 F84 b86
    have F87 : Fr l_33_2 0 0 g μ m82 := F70.t F84 rfl
    have q88 := kq_fr q71 F84 b3 (by decide) rfl rfl
    show ex_q (dt_fg L ρ) rc (d + 2, (33, 112, [some (eR a0), some (eI (a1)), some (eI (a2)), some (eI (v12)), some (eI (v21)), some (eI (v30)), some (eI (v40)), some (eI (v43)), some (eI (v52)), some (eJ (v63)), none, some (eI (v68)), none], [eI (v85)]), f :: F, m82)
    refine w_t (np := 114) (l2 := [some (eR a0), some (eI (a1)), some (eI (a2)), some (eI (v12)), some (eI (v21)), some (eI (v30)), some (eI (v40)), some (eI (v43)), some (eI (v52)), some (eJ (v63)), none, some (eI (v68)), some (eI (v85))]) (s2 := []) rfl rfl rfl ?_
    refine w_t (np := 115) (l2 := [some (eR a0), some (eI (a1)), some (eI (a2)), some (eI (v12)), some (eI (v21)), some (eI (v30)), some (eI (v40)), some (eI (v43)), some (eI (v52)), some (eJ (v63)), none, some (eI (v68)), some (eI (v85))]) (s2 := [eR a0]) rfl (s_an rfl (pos_g I83 gA0 (by decide))) rfl ?_
    refine w_t (np := 116) (l2 := [some (eR a0), some (eI (a1)), some (eI (a2)), some (eI (v12)), some (eI (v21)), some (eI (v30)), some (eI (v40)), some (eI (v43)), some (eI (v52)), some (eJ (v63)), none, some (eI (v68)), some (eI (v85))]) (s2 := [eI (a2), eR a0]) rfl rfl rfl ?_
    refine w_t (np := 117) (l2 := [some (eR a0), some (eI (a1)), some (eI (a2)), some (eI (v12)), some (eI (v21)), some (eI (v30)), some (eI (v40)), some (eI (v43)), some (eI (v52)), some (eJ (v63)), none, some (eI (v68)), some (eI (v85))]) (s2 := [eI (1), eI (a2), eR a0]) rfl rfl rfl ?_
    refine w_t (np := 119) (l2 := [some (eR a0), some (eI (a1)), some (eI (a2)), some (eI (v12)), some (eI (v21)), some (eI (v30)), some (eI (v40)), some (eI (v43)), some (eI (v52)), some (eJ (v63)), none, some (eI (v68)), some (eI (v85))]) (s2 := [eI (v52), eI (1), eI (a2), eR a0]) rfl rfl rfl ?_
    refine w_t (np := 121) (l2 := [some (eR a0), some (eI (a1)), some (eI (a2)), some (eI (v12)), some (eI (v21)), some (eI (v30)), some (eI (v40)), some (eI (v43)), some (eI (v52)), some (eJ (v63)), none, some (eI (v68)), some (eI (v85))]) (s2 := [eI (v40), eI (v52), eI (1), eI (a2), eR a0]) rfl rfl rfl ?_
    refine w_t (np := 122) (l2 := [some (eR a0), some (eI (a1)), some (eI (a2)), some (eI (v12)), some (eI (v21)), some (eI (v30)), some (eI (v40)), some (eI (v43)), some (eI (v52)), some (eJ (v63)), none, some (eI (v68)), some (eI (v85))]) (s2 := [eI (4), eI (v40), eI (v52), eI (1), eI (a2), eR a0]) rfl rfl rfl ?_
    refine w_t (np := 124) (l2 := [some (eR a0), some (eI (a1)), some (eI (a2)), some (eI (v12)), some (eI (v21)), some (eI (v30)), some (eI (v40)), some (eI (v43)), some (eI (v52)), some (eJ (v63)), none, some (eI (v68)), some (eI (v85))]) (s2 := [eI (v43), eI (4), eI (v40), eI (v52), eI (1), eI (a2), eR a0]) rfl rfl rfl ?_
    obtain ⟨v89, e90⟩ : ∃ zz : Int, zz = (4) * (v43) := ⟨_, rfl⟩
    have b91 : -4 ≤ v89 ∧ v89 ≤ 4 := by omega
    refine w_t (np := 125) (l2 := [some (eR a0), some (eI (a1)), some (eI (a2)), some (eI (v12)), some (eI (v21)), some (eI (v30)), some (eI (v40)), some (eI (v43)), some (eI (v52)), some (eJ (v63)), none, some (eI (v68)), some (eI (v85))]) (s2 := [eI (v89), eI (v40), eI (v52), eI (1), eI (a2), eR a0]) rfl (b_imul (by rw [← e90]; exact ev_w_in (by omega) (by omega))) rfl ?_
    obtain ⟨v92, e93⟩ : ∃ zz : Int, zz = (v40) + (v89) := ⟨_, rfl⟩
    have b94 : -4 ≤ v92 ∧ v92 ≤ 13 := by omega
    refine w_t (np := 126) (l2 := [some (eR a0), some (eI (a1)), some (eI (a2)), some (eI (v12)), some (eI (v21)), some (eI (v30)), some (eI (v40)), some (eI (v43)), some (eI (v52)), some (eJ (v63)), none, some (eI (v68)), some (eI (v85))]) (s2 := [eI (v92), eI (v52), eI (1), eI (a2), eR a0]) rfl (b_iadd (by rw [← e93]; exact ev_w_in (by omega) (by omega))) rfl ?_
    refine w_t (np := 128) (l2 := [some (eR a0), some (eI (a1)), some (eI (a2)), some (eI (v12)), some (eI (v21)), some (eI (v30)), some (eI (v40)), some (eI (v43)), some (eI (v52)), some (eJ (v63)), none, some (eI (v68)), some (eI (v85))]) (s2 := [eI (v40), eI (v92), eI (v52), eI (1), eI (a2), eR a0]) rfl rfl rfl ?_
    refine w_t (np := 130) (l2 := [some (eR a0), some (eI (a1)), some (eI (a2)), some (eI (v12)), some (eI (v21)), some (eI (v30)), some (eI (v40)), some (eI (v43)), some (eI (v52)), some (eJ (v63)), none, some (eI (v68)), some (eI (v85))]) (s2 := [eI (7), eI (v40), eI (v92), eI (v52), eI (1), eI (a2), eR a0]) rfl rfl rfl ?_
    refine w_t (np := 132) (l2 := [some (eR a0), some (eI (a1)), some (eI (a2)), some (eI (v12)), some (eI (v21)), some (eI (v30)), some (eI (v40)), some (eI (v43)), some (eI (v52)), some (eJ (v63)), none, some (eI (v68)), some (eI (v85))]) (s2 := [eI (v43), eI (7), eI (v40), eI (v92), eI (v52), eI (1), eI (a2), eR a0]) rfl rfl rfl ?_
    obtain ⟨v95, e96⟩ : ∃ zz : Int, zz = (7) * (v43) := ⟨_, rfl⟩
    have b97 : -7 ≤ v95 ∧ v95 ≤ 7 := by omega
    refine w_t (np := 133) (l2 := [some (eR a0), some (eI (a1)), some (eI (a2)), some (eI (v12)), some (eI (v21)), some (eI (v30)), some (eI (v40)), some (eI (v43)), some (eI (v52)), some (eJ (v63)), none, some (eI (v68)), some (eI (v85))]) (s2 := [eI (v95), eI (v40), eI (v92), eI (v52), eI (1), eI (a2), eR a0]) rfl (b_imul (by rw [← e96]; exact ev_w_in (by omega) (by omega))) rfl ?_
    obtain ⟨v98, e99⟩ : ∃ zz : Int, zz = (v40) + (v95) := ⟨_, rfl⟩
    have b100 : -7 ≤ v98 ∧ v98 ≤ 16 := by omega
    refine w_t (np := 134) (l2 := [some (eR a0), some (eI (a1)), some (eI (a2)), some (eI (v12)), some (eI (v21)), some (eI (v30)), some (eI (v40)), some (eI (v43)), some (eI (v52)), some (eJ (v63)), none, some (eI (v68)), some (eI (v85))]) (s2 := [eI (v98), eI (v92), eI (v52), eI (1), eI (a2), eR a0]) rfl (b_iadd (by rw [← e99]; exact ev_w_in (by omega) (by omega))) rfl ?_
    refine w_cw (np := 137) (as := [eI (a2), eI (1), eI (v52), eI (v92), eI (v98)]) (l2 := [some (eR a0), some (eI (a2)), some (eI (1)), some (eI (v52)), some (eI (v92)), some (eI (v98))]) (rest := []) rfl rfl rfl (Nat.ble_eq.mp rfl) rfl rfl rfl (I83.kd gA0 (by decide) (n := 8) rfl) rfl ?_
    refine s_28k_2 (a1 := a2) (a2 := 1) (a3 := v52) (a4 := v92) (a5 := v98) I83 gA0 (by omega) (by decide) (by omega) (by omega) (by omega) ?_
    intro m101 I102 F103 h104
    have F105 : Fr l_33_2 0 0 g μ m101 := F87.t F103 rfl
    have q106 := kq_sh q88 h104 (F84.k (F67.k e2 gA0 (by decide) rfl) gA0 (by decide) rfl) (by omega)
    show ex_q (dt_fg L ρ) rc (d + 2, (33, 137, [some (eR a0), some (eI (a1)), some (eI (a2)), some (eI (v12)), some (eI (v21)), some (eI (v30)), some (eI (v40)), some (eI (v43)), some (eI (v52)), some (eJ (v63)), none, some (eI (v68)), some (eI (v85))], []), f :: F, m101)
    refine w_t (np := 138) (l2 := [some (eR a0), some (eI (a1)), some (eI (a2)), some (eI (v12)), some (eI (v21)), some (eI (v30)), some (eI (v40)), some (eI (v43)), some (eI (v52)), some (eJ (v63)), none, some (eI (v68)), some (eI (v85))]) (s2 := [eR a0]) rfl (s_an rfl (pos_g I102 gA0 (by decide))) rfl ?_
    refine w_t (np := 139) (l2 := [some (eR a0), some (eI (a1)), some (eI (a2)), some (eI (v12)), some (eI (v21)), some (eI (v30)), some (eI (v40)), some (eI (v43)), some (eI (v52)), some (eJ (v63)), none, some (eI (v68)), some (eI (v85))]) (s2 := [eI (a2), eR a0]) rfl rfl rfl ?_
    refine w_t (np := 141) (l2 := [some (eR a0), some (eI (a1)), some (eI (a2)), some (eI (v12)), some (eI (v21)), some (eI (v30)), some (eI (v40)), some (eI (v43)), some (eI (v52)), some (eJ (v63)), none, some (eI (v68)), some (eI (v85))]) (s2 := [eI (v85), eI (a2), eR a0]) rfl rfl rfl ?_
    refine w_t (np := 143) (l2 := [some (eR a0), some (eI (a1)), some (eI (a2)), some (eI (v12)), some (eI (v21)), some (eI (v30)), some (eI (v40)), some (eI (v43)), some (eI (v52)), some (eJ (v63)), none, some (eI (v68)), some (eI (v85))]) (s2 := [eI (v30), eI (v85), eI (a2), eR a0]) rfl rfl rfl ?_
    refine w_t (np := 144) (l2 := [some (eR a0), some (eI (a1)), some (eI (a2)), some (eI (v12)), some (eI (v21)), some (eI (v30)), some (eI (v40)), some (eI (v43)), some (eI (v52)), some (eJ (v63)), none, some (eI (v68)), some (eI (v85))]) (s2 := [eI (v12), eI (v30), eI (v85), eI (a2), eR a0]) rfl rfl rfl ?_
    refine w_cw (np := 147) (as := [eI (a2), eI (v85), eI (v30), eI (v12)]) (l2 := [some (eR a0), some (eI (a2)), some (eI (v85)), some (eI (v30)), some (eI (v12))]) (rest := []) rfl rfl rfl (Nat.ble_eq.mp rfl) rfl rfl rfl (I102.kd gA0 (by decide) (n := 8) rfl) rfl ?_
    refine s_29_2 (a1 := a2) (a2 := v85) (a3 := v30) (a4 := v12) I102 gA0 (by omega) (by omega) (by omega) (by omega) ?_
    intro m107 I108 F109
    have F110 : Fr l_33_2 0 0 g μ m107 := F105.t F109 rfl
    have q111 := kq_fr q106 F109 b3 (by decide) rfl rfl
    show ex_q (dt_fg L ρ) rc (d + 2, (33, 147, [some (eR a0), some (eI (a1)), some (eI (a2)), some (eI (v12)), some (eI (v21)), some (eI (v30)), some (eI (v40)), some (eI (v43)), some (eI (v52)), some (eJ (v63)), none, some (eI (v68)), some (eI (v85))], []), f :: F, m107)
    refine w_t (np := 148) (l2 := [some (eR a0), some (eI (a1)), some (eI (a2)), some (eI (v12)), some (eI (v21)), some (eI (v30)), some (eI (v40)), some (eI (v43)), some (eI (v52)), some (eJ (v63)), none, some (eI (v68)), some (eI (v85))]) (s2 := [eR a0]) rfl (s_an rfl (pos_g I108 gA0 (by decide))) rfl ?_
    refine w_t (np := 149) (l2 := [some (eR a0), some (eI (a1)), some (eI (a2)), some (eI (v12)), some (eI (v21)), some (eI (v30)), some (eI (v40)), some (eI (v43)), some (eI (v52)), some (eJ (v63)), none, some (eI (v68)), some (eI (v85))]) (s2 := [eI (a2), eR a0]) rfl rfl rfl ?_
    refine w_t (np := 150) (l2 := [some (eR a0), some (eI (a1)), some (eI (a2)), some (eI (v12)), some (eI (v21)), some (eI (v30)), some (eI (v40)), some (eI (v43)), some (eI (v52)), some (eJ (v63)), none, some (eI (v68)), some (eI (v85))]) (s2 := [eI (1), eI (a2), eR a0]) rfl rfl rfl ?_
    obtain ⟨v112, e113⟩ : ∃ zz : Int, zz = (a2) + (1) := ⟨_, rfl⟩
    have b114 : 1 ≤ v112 ∧ v112 ≤ 888 := by omega
    refine w_t (np := 151) (l2 := [some (eR a0), some (eI (a1)), some (eI (a2)), some (eI (v12)), some (eI (v21)), some (eI (v30)), some (eI (v40)), some (eI (v43)), some (eI (v52)), some (eJ (v63)), none, some (eI (v68)), some (eI (v85))]) (s2 := [eI (v112), eR a0]) rfl (b_iadd (by rw [← e113]; exact ev_w_in (by omega) (by omega))) rfl ?_
    refine w_t (np := 152) (l2 := [some (eR a0), some (eI (a1)), some (eI (a2)), some (eI (v12)), some (eI (v21)), some (eI (v30)), some (eI (v40)), some (eI (v43)), some (eI (v52)), some (eJ (v63)), none, some (eI (v68)), some (eI (v85))]) (s2 := [eI (1), eI (v112), eR a0]) rfl rfl rfl ?_
    refine w_t (np := 154) (l2 := [some (eR a0), some (eI (a1)), some (eI (a2)), some (eI (v12)), some (eI (v21)), some (eI (v30)), some (eI (v40)), some (eI (v43)), some (eI (v52)), some (eJ (v63)), none, some (eI (v68)), some (eI (v85))]) (s2 := [eI (v52), eI (1), eI (v112), eR a0]) rfl rfl rfl ?_
    refine w_t (np := 155) (l2 := [some (eR a0), some (eI (a1)), some (eI (a2)), some (eI (v12)), some (eI (v21)), some (eI (v30)), some (eI (v40)), some (eI (v43)), some (eI (v52)), some (eJ (v63)), none, some (eI (v68)), some (eI (v85))]) (s2 := [eI (1), eI (v52), eI (1), eI (v112), eR a0]) rfl rfl rfl ?_
    obtain ⟨v115, e116, b117⟩ : ∃ zz : Int, ev_w ((v52) + (1)) = zz ∧ (-2147483648 ≤ zz ∧ zz ≤ 2147483647) := ⟨_, rfl, hw_bd _⟩
    refine w_t (np := 156) (l2 := [some (eR a0), some (eI (a1)), some (eI (a2)), some (eI (v12)), some (eI (v21)), some (eI (v30)), some (eI (v40)), some (eI (v43)), some (eI (v52)), some (eJ (v63)), none, some (eI (v68)), some (eI (v85))]) (s2 := [eI (v115), eI (1), eI (v112), eR a0]) rfl (b_iadd e116) rfl ?_
    refine w_t (np := 158) (l2 := [some (eR a0), some (eI (a1)), some (eI (a2)), some (eI (v12)), some (eI (v21)), some (eI (v30)), some (eI (v40)), some (eI (v43)), some (eI (v52)), some (eJ (v63)), none, some (eI (v68)), some (eI (v85))]) (s2 := [eI (v40), eI (v115), eI (1), eI (v112), eR a0]) rfl rfl rfl ?_
    refine w_t (np := 159) (l2 := [some (eR a0), some (eI (a1)), some (eI (a2)), some (eI (v12)), some (eI (v21)), some (eI (v30)), some (eI (v40)), some (eI (v43)), some (eI (v52)), some (eJ (v63)), none, some (eI (v68)), some (eI (v85))]) (s2 := [eI (3), eI (v40), eI (v115), eI (1), eI (v112), eR a0]) rfl rfl rfl ?_
    refine w_t (np := 161) (l2 := [some (eR a0), some (eI (a1)), some (eI (a2)), some (eI (v12)), some (eI (v21)), some (eI (v30)), some (eI (v40)), some (eI (v43)), some (eI (v52)), some (eJ (v63)), none, some (eI (v68)), some (eI (v85))]) (s2 := [eI (v43), eI (3), eI (v40), eI (v115), eI (1), eI (v112), eR a0]) rfl rfl rfl ?_
    obtain ⟨v118, e119⟩ : ∃ zz : Int, zz = (3) * (v43) := ⟨_, rfl⟩
    have b120 : -3 ≤ v118 ∧ v118 ≤ 3 := by omega
    refine w_t (np := 162) (l2 := [some (eR a0), some (eI (a1)), some (eI (a2)), some (eI (v12)), some (eI (v21)), some (eI (v30)), some (eI (v40)), some (eI (v43)), some (eI (v52)), some (eJ (v63)), none, some (eI (v68)), some (eI (v85))]) (s2 := [eI (v118), eI (v40), eI (v115), eI (1), eI (v112), eR a0]) rfl (b_imul (by rw [← e119]; exact ev_w_in (by omega) (by omega))) rfl ?_
    obtain ⟨v121, e122⟩ : ∃ zz : Int, zz = (v40) + (v118) := ⟨_, rfl⟩
    have b123 : -3 ≤ v121 ∧ v121 ≤ 12 := by omega
    refine w_t (np := 163) (l2 := [some (eR a0), some (eI (a1)), some (eI (a2)), some (eI (v12)), some (eI (v21)), some (eI (v30)), some (eI (v40)), some (eI (v43)), some (eI (v52)), some (eJ (v63)), none, some (eI (v68)), some (eI (v85))]) (s2 := [eI (v121), eI (v115), eI (1), eI (v112), eR a0]) rfl (b_iadd (by rw [← e122]; exact ev_w_in (by omega) (by omega))) rfl ?_
    refine w_t (np := 165) (l2 := [some (eR a0), some (eI (a1)), some (eI (a2)), some (eI (v12)), some (eI (v21)), some (eI (v30)), some (eI (v40)), some (eI (v43)), some (eI (v52)), some (eJ (v63)), none, some (eI (v68)), some (eI (v85))]) (s2 := [eI (v40), eI (v121), eI (v115), eI (1), eI (v112), eR a0]) rfl rfl rfl ?_
    refine w_cw (np := 168) (as := [eI (v112), eI (1), eI (v115), eI (v121), eI (v40)]) (l2 := [some (eR a0), some (eI (v112)), some (eI (1)), some (eI (v115)), some (eI (v121)), some (eI (v40))]) (rest := []) rfl rfl rfl (Nat.ble_eq.mp rfl) rfl rfl rfl (I108.kd gA0 (by decide) (n := 8) rfl) rfl ?_
    refine s_28k_2 (a1 := v112) (a2 := 1) (a3 := v115) (a4 := v121) (a5 := v40) I108 gA0 (by omega) (by decide) (by omega) (by omega) (by omega) ?_
    intro m124 I125 F126 h127
    have F128 : Fr l_33_2 0 0 g μ m124 := F110.t F126 rfl
    have q129 := kq_sh q111 h127 (F109.k (F103.k (F84.k (F67.k e2 gA0 (by decide) rfl) gA0 (by decide) rfl) gA0 (by decide) rfl) gA0 (by decide) rfl) (by omega)
    show ex_q (dt_fg L ρ) rc (d + 2, (33, 168, [some (eR a0), some (eI (a1)), some (eI (a2)), some (eI (v12)), some (eI (v21)), some (eI (v30)), some (eI (v40)), some (eI (v43)), some (eI (v52)), some (eJ (v63)), none, some (eI (v68)), some (eI (v85))], []), f :: F, m124)
    refine w_t (np := 169) (l2 := [some (eR a0), some (eI (a1)), some (eI (a2)), some (eI (v12)), some (eI (v21)), some (eI (v30)), some (eI (v40)), some (eI (v43)), some (eI (v52)), some (eJ (v63)), none, some (eI (v68)), some (eI (v85))]) (s2 := [eR a0]) rfl (s_an rfl (pos_g I125 gA0 (by decide))) rfl ?_
    refine w_t (np := 170) (l2 := [some (eR a0), some (eI (a1)), some (eI (a2)), some (eI (v12)), some (eI (v21)), some (eI (v30)), some (eI (v40)), some (eI (v43)), some (eI (v52)), some (eJ (v63)), none, some (eI (v68)), some (eI (v85))]) (s2 := [eI (a2), eR a0]) rfl rfl rfl ?_
    refine w_t (np := 171) (l2 := [some (eR a0), some (eI (a1)), some (eI (a2)), some (eI (v12)), some (eI (v21)), some (eI (v30)), some (eI (v40)), some (eI (v43)), some (eI (v52)), some (eJ (v63)), none, some (eI (v68)), some (eI (v85))]) (s2 := [eI (1), eI (a2), eR a0]) rfl rfl rfl ?_
    obtain ⟨v130, e131⟩ : ∃ zz : Int, zz = (a2) + (1) := ⟨_, rfl⟩
    have b132 : 1 ≤ v130 ∧ v130 ≤ 888 := by omega
    refine w_t (np := 172) (l2 := [some (eR a0), some (eI (a1)), some (eI (a2)), some (eI (v12)), some (eI (v21)), some (eI (v30)), some (eI (v40)), some (eI (v43)), some (eI (v52)), some (eJ (v63)), none, some (eI (v68)), some (eI (v85))]) (s2 := [eI (v130), eR a0]) rfl (b_iadd (by rw [← e131]; exact ev_w_in (by omega) (by omega))) rfl ?_
    refine w_t (np := 174) (l2 := [some (eR a0), some (eI (a1)), some (eI (a2)), some (eI (v12)), some (eI (v21)), some (eI (v30)), some (eI (v40)), some (eI (v43)), some (eI (v52)), some (eJ (v63)), none, some (eI (v68)), some (eI (v85))]) (s2 := [eI (v68), eI (v130), eR a0]) rfl rfl rfl ?_
    refine w_t (np := 176) (l2 := [some (eR a0), some (eI (a1)), some (eI (a2)), some (eI (v12)), some (eI (v21)), some (eI (v30)), some (eI (v40)), some (eI (v43)), some (eI (v52)), some (eJ (v63)), none, some (eI (v68)), some (eI (v85))]) (s2 := [eI (v85), eI (v68), eI (v130), eR a0]) rfl rfl rfl ?_
    refine w_t (np := 178) (l2 := [some (eR a0), some (eI (a1)), some (eI (a2)), some (eI (v12)), some (eI (v21)), some (eI (v30)), some (eI (v40)), some (eI (v43)), some (eI (v52)), some (eJ (v63)), none, some (eI (v68)), some (eI (v85))]) (s2 := [eI (v21), eI (v85), eI (v68), eI (v130), eR a0]) rfl rfl rfl ?_
    refine w_cw (np := 181) (as := [eI (v130), eI (v68), eI (v85), eI (v21)]) (l2 := [some (eR a0), some (eI (v130)), some (eI (v68)), some (eI (v85)), some (eI (v21))]) (rest := []) rfl rfl rfl (Nat.ble_eq.mp rfl) rfl rfl rfl (I125.kd gA0 (by decide) (n := 8) rfl) rfl ?_
    refine s_29_2 (a1 := v130) (a2 := v68) (a3 := v85) (a4 := v21) I125 gA0 (by omega) (by omega) (by omega) (by omega) ?_
    intro m133 I134 F135
    have F136 : Fr l_33_2 0 0 g μ m133 := F128.t F135 rfl
    have q137 := kq_fr q129 F135 b3 (by decide) rfl rfl
    show ex_q (dt_fg L ρ) rc (d + 2, (33, 181, [some (eR a0), some (eI (a1)), some (eI (a2)), some (eI (v12)), some (eI (v21)), some (eI (v30)), some (eI (v40)), some (eI (v43)), some (eI (v52)), some (eJ (v63)), none, some (eI (v68)), some (eI (v85))], []), f :: F, m133)
    refine w_t (np := 182) (l2 := [some (eR a0), some (eI (a1)), some (eI (a2)), some (eI (v12)), some (eI (v21)), some (eI (v30)), some (eI (v40)), some (eI (v43)), some (eI (v52)), some (eJ (v63)), none, some (eI (v68)), some (eI (v85))]) (s2 := [eR a0]) rfl (s_an rfl (pos_g I134 gA0 (by decide))) rfl ?_
    refine w_t (np := 183) (l2 := [some (eR a0), some (eI (a1)), some (eI (a2)), some (eI (v12)), some (eI (v21)), some (eI (v30)), some (eI (v40)), some (eI (v43)), some (eI (v52)), some (eJ (v63)), none, some (eI (v68)), some (eI (v85))]) (s2 := [eI (a2), eR a0]) rfl rfl rfl ?_
    refine w_t (np := 184) (l2 := [some (eR a0), some (eI (a1)), some (eI (a2)), some (eI (v12)), some (eI (v21)), some (eI (v30)), some (eI (v40)), some (eI (v43)), some (eI (v52)), some (eJ (v63)), none, some (eI (v68)), some (eI (v85))]) (s2 := [eI (2), eI (a2), eR a0]) rfl rfl rfl ?_
    obtain ⟨v138, e139⟩ : ∃ zz : Int, zz = (a2) + (2) := ⟨_, rfl⟩
    have b140 : 2 ≤ v138 ∧ v138 ≤ 889 := by omega
    refine w_t (np := 185) (l2 := [some (eR a0), some (eI (a1)), some (eI (a2)), some (eI (v12)), some (eI (v21)), some (eI (v30)), some (eI (v40)), some (eI (v43)), some (eI (v52)), some (eJ (v63)), none, some (eI (v68)), some (eI (v85))]) (s2 := [eI (v138), eR a0]) rfl (b_iadd (by rw [← e139]; exact ev_w_in (by omega) (by omega))) rfl ?_
    refine w_t (np := 186) (l2 := [some (eR a0), some (eI (a1)), some (eI (a2)), some (eI (v12)), some (eI (v21)), some (eI (v30)), some (eI (v40)), some (eI (v43)), some (eI (v52)), some (eJ (v63)), none, some (eI (v68)), some (eI (v85))]) (s2 := [eI (0), eI (v138), eR a0]) rfl rfl rfl ?_
    refine w_t (np := 188) (l2 := [some (eR a0), some (eI (a1)), some (eI (a2)), some (eI (v12)), some (eI (v21)), some (eI (v30)), some (eI (v40)), some (eI (v43)), some (eI (v52)), some (eJ (v63)), none, some (eI (v68)), some (eI (v85))]) (s2 := [eI (v52), eI (0), eI (v138), eR a0]) rfl rfl rfl ?_
    refine w_t (np := 189) (l2 := [some (eR a0), some (eI (a1)), some (eI (a2)), some (eI (v12)), some (eI (v21)), some (eI (v30)), some (eI (v40)), some (eI (v43)), some (eI (v52)), some (eJ (v63)), none, some (eI (v68)), some (eI (v85))]) (s2 := [eI (2), eI (v52), eI (0), eI (v138), eR a0]) rfl rfl rfl ?_
    obtain ⟨v141, e142, b143⟩ : ∃ zz : Int, ev_w ((v52) + (2)) = zz ∧ (-2147483648 ≤ zz ∧ zz ≤ 2147483647) := ⟨_, rfl, hw_bd _⟩
    refine w_t (np := 190) (l2 := [some (eR a0), some (eI (a1)), some (eI (a2)), some (eI (v12)), some (eI (v21)), some (eI (v30)), some (eI (v40)), some (eI (v43)), some (eI (v52)), some (eJ (v63)), none, some (eI (v68)), some (eI (v85))]) (s2 := [eI (v141), eI (0), eI (v138), eR a0]) rfl (b_iadd e142) rfl ?_
    refine w_t (np := 192) (l2 := [some (eR a0), some (eI (a1)), some (eI (a2)), some (eI (v12)), some (eI (v21)), some (eI (v30)), some (eI (v40)), some (eI (v43)), some (eI (v52)), some (eJ (v63)), none, some (eI (v68)), some (eI (v85))]) (s2 := [eI (v40), eI (v141), eI (0), eI (v138), eR a0]) rfl rfl rfl ?_
    refine w_t (np := 194) (l2 := [some (eR a0), some (eI (a1)), some (eI (a2)), some (eI (v12)), some (eI (v21)), some (eI (v30)), some (eI (v40)), some (eI (v43)), some (eI (v52)), some (eJ (v63)), none, some (eI (v68)), some (eI (v85))]) (s2 := [eI (8), eI (v40), eI (v141), eI (0), eI (v138), eR a0]) rfl rfl rfl ?_
    refine w_t (np := 196) (l2 := [some (eR a0), some (eI (a1)), some (eI (a2)), some (eI (v12)), some (eI (v21)), some (eI (v30)), some (eI (v40)), some (eI (v43)), some (eI (v52)), some (eJ (v63)), none, some (eI (v68)), some (eI (v85))]) (s2 := [eI (v43), eI (8), eI (v40), eI (v141), eI (0), eI (v138), eR a0]) rfl rfl rfl ?_
    obtain ⟨v144, e145⟩ : ∃ zz : Int, zz = (8) * (v43) := ⟨_, rfl⟩
    have b146 : -8 ≤ v144 ∧ v144 ≤ 8 := by omega
    refine w_t (np := 197) (l2 := [some (eR a0), some (eI (a1)), some (eI (a2)), some (eI (v12)), some (eI (v21)), some (eI (v30)), some (eI (v40)), some (eI (v43)), some (eI (v52)), some (eJ (v63)), none, some (eI (v68)), some (eI (v85))]) (s2 := [eI (v144), eI (v40), eI (v141), eI (0), eI (v138), eR a0]) rfl (b_imul (by rw [← e145]; exact ev_w_in (by omega) (by omega))) rfl ?_
    obtain ⟨v147, e148⟩ : ∃ zz : Int, zz = (v40) + (v144) := ⟨_, rfl⟩
    have b149 : -8 ≤ v147 ∧ v147 ≤ 17 := by omega
    refine w_t (np := 198) (l2 := [some (eR a0), some (eI (a1)), some (eI (a2)), some (eI (v12)), some (eI (v21)), some (eI (v30)), some (eI (v40)), some (eI (v43)), some (eI (v52)), some (eJ (v63)), none, some (eI (v68)), some (eI (v85))]) (s2 := [eI (v147), eI (v141), eI (0), eI (v138), eR a0]) rfl (b_iadd (by rw [← e148]; exact ev_w_in (by omega) (by omega))) rfl ?_
    refine w_t (np := 200) (l2 := [some (eR a0), some (eI (a1)), some (eI (a2)), some (eI (v12)), some (eI (v21)), some (eI (v30)), some (eI (v40)), some (eI (v43)), some (eI (v52)), some (eJ (v63)), none, some (eI (v68)), some (eI (v85))]) (s2 := [eI (v40), eI (v147), eI (v141), eI (0), eI (v138), eR a0]) rfl rfl rfl ?_
    refine w_t (np := 202) (l2 := [some (eR a0), some (eI (a1)), some (eI (a2)), some (eI (v12)), some (eI (v21)), some (eI (v30)), some (eI (v40)), some (eI (v43)), some (eI (v52)), some (eJ (v63)), none, some (eI (v68)), some (eI (v85))]) (s2 := [eI (7), eI (v40), eI (v147), eI (v141), eI (0), eI (v138), eR a0]) rfl rfl rfl ?_
    refine w_t (np := 204) (l2 := [some (eR a0), some (eI (a1)), some (eI (a2)), some (eI (v12)), some (eI (v21)), some (eI (v30)), some (eI (v40)), some (eI (v43)), some (eI (v52)), some (eJ (v63)), none, some (eI (v68)), some (eI (v85))]) (s2 := [eI (v43), eI (7), eI (v40), eI (v147), eI (v141), eI (0), eI (v138), eR a0]) rfl rfl rfl ?_
    obtain ⟨v150, e151⟩ : ∃ zz : Int, zz = (7) * (v43) := ⟨_, rfl⟩
    have b152 : -7 ≤ v150 ∧ v150 ≤ 7 := by omega
    refine w_t (np := 205) (l2 := [some (eR a0), some (eI (a1)), some (eI (a2)), some (eI (v12)), some (eI (v21)), some (eI (v30)), some (eI (v40)), some (eI (v43)), some (eI (v52)), some (eJ (v63)), none, some (eI (v68)), some (eI (v85))]) (s2 := [eI (v150), eI (v40), eI (v147), eI (v141), eI (0), eI (v138), eR a0]) rfl (b_imul (by rw [← e151]; exact ev_w_in (by omega) (by omega))) rfl ?_
    obtain ⟨v153, e154⟩ : ∃ zz : Int, zz = (v40) + (v150) := ⟨_, rfl⟩
    have b155 : -7 ≤ v153 ∧ v153 ≤ 16 := by omega
    refine w_t (np := 206) (l2 := [some (eR a0), some (eI (a1)), some (eI (a2)), some (eI (v12)), some (eI (v21)), some (eI (v30)), some (eI (v40)), some (eI (v43)), some (eI (v52)), some (eJ (v63)), none, some (eI (v68)), some (eI (v85))]) (s2 := [eI (v153), eI (v147), eI (v141), eI (0), eI (v138), eR a0]) rfl (b_iadd (by rw [← e154]; exact ev_w_in (by omega) (by omega))) rfl ?_
    refine w_cw (np := 209) (as := [eI (v138), eI (0), eI (v141), eI (v147), eI (v153)]) (l2 := [some (eR a0), some (eI (v138)), some (eI (0)), some (eI (v141)), some (eI (v147)), some (eI (v153))]) (rest := []) rfl rfl rfl (Nat.ble_eq.mp rfl) rfl rfl rfl (I134.kd gA0 (by decide) (n := 8) rfl) rfl ?_
    refine s_28k_2 (a1 := v138) (a2 := 0) (a3 := v141) (a4 := v147) (a5 := v153) I134 gA0 (by omega) (by decide) (by omega) (by omega) (by omega) ?_
    intro m156 I157 F158 h159
    have F160 : Fr l_33_2 0 0 g μ m156 := F136.t F158 rfl
    have q161 := kq_sh q137 h159 (F135.k (F126.k (F109.k (F103.k (F84.k (F67.k e2 gA0 (by decide) rfl) gA0 (by decide) rfl) gA0 (by decide) rfl) gA0 (by decide) rfl) gA0 (by decide) rfl) gA0 (by decide) rfl) (by omega)
    show ex_q (dt_fg L ρ) rc (d + 2, (33, 209, [some (eR a0), some (eI (a1)), some (eI (a2)), some (eI (v12)), some (eI (v21)), some (eI (v30)), some (eI (v40)), some (eI (v43)), some (eI (v52)), some (eJ (v63)), none, some (eI (v68)), some (eI (v85))], []), f :: F, m156)
    refine w_t (np := 210) (l2 := [some (eR a0), some (eI (a1)), some (eI (a2)), some (eI (v12)), some (eI (v21)), some (eI (v30)), some (eI (v40)), some (eI (v43)), some (eI (v52)), some (eJ (v63)), none, some (eI (v68)), some (eI (v85))]) (s2 := [eR a0]) rfl (s_an rfl (pos_g I157 gA0 (by decide))) rfl ?_
    refine w_t (np := 211) (l2 := [some (eR a0), some (eI (a1)), some (eI (a2)), some (eI (v12)), some (eI (v21)), some (eI (v30)), some (eI (v40)), some (eI (v43)), some (eI (v52)), some (eJ (v63)), none, some (eI (v68)), some (eI (v85))]) (s2 := [eI (a2), eR a0]) rfl rfl rfl ?_
    refine w_t (np := 212) (l2 := [some (eR a0), some (eI (a1)), some (eI (a2)), some (eI (v12)), some (eI (v21)), some (eI (v30)), some (eI (v40)), some (eI (v43)), some (eI (v52)), some (eJ (v63)), none, some (eI (v68)), some (eI (v85))]) (s2 := [eI (2), eI (a2), eR a0]) rfl rfl rfl ?_
    obtain ⟨v162, e163⟩ : ∃ zz : Int, zz = (a2) + (2) := ⟨_, rfl⟩
    have b164 : 2 ≤ v162 ∧ v162 ≤ 889 := by omega
    refine w_t (np := 213) (l2 := [some (eR a0), some (eI (a1)), some (eI (a2)), some (eI (v12)), some (eI (v21)), some (eI (v30)), some (eI (v40)), some (eI (v43)), some (eI (v52)), some (eJ (v63)), none, some (eI (v68)), some (eI (v85))]) (s2 := [eI (v162), eR a0]) rfl (b_iadd (by rw [← e163]; exact ev_w_in (by omega) (by omega))) rfl ?_
    refine w_t (np := 215) (l2 := [some (eR a0), some (eI (a1)), some (eI (a2)), some (eI (v12)), some (eI (v21)), some (eI (v30)), some (eI (v40)), some (eI (v43)), some (eI (v52)), some (eJ (v63)), none, some (eI (v68)), some (eI (v85))]) (s2 := [eI (v85), eI (v162), eR a0]) rfl rfl rfl ?_
    refine w_t (np := 217) (l2 := [some (eR a0), some (eI (a1)), some (eI (a2)), some (eI (v12)), some (eI (v21)), some (eI (v30)), some (eI (v40)), some (eI (v43)), some (eI (v52)), some (eJ (v63)), none, some (eI (v68)), some (eI (v85))]) (s2 := [eI (v68), eI (v85), eI (v162), eR a0]) rfl rfl rfl ?_
    refine w_t (np := 218) (l2 := [some (eR a0), some (eI (a1)), some (eI (a2)), some (eI (v12)), some (eI (v21)), some (eI (v30)), some (eI (v40)), some (eI (v43)), some (eI (v52)), some (eJ (v63)), none, some (eI (v68)), some (eI (v85))]) (s2 := [eI (v12), eI (v68), eI (v85), eI (v162), eR a0]) rfl rfl rfl ?_
    refine w_cw (np := 221) (as := [eI (v162), eI (v85), eI (v68), eI (v12)]) (l2 := [some (eR a0), some (eI (v162)), some (eI (v85)), some (eI (v68)), some (eI (v12))]) (rest := []) rfl rfl rfl (Nat.ble_eq.mp rfl) rfl rfl rfl (I157.kd gA0 (by decide) (n := 8) rfl) rfl ?_
    refine s_29_2 (a1 := v162) (a2 := v85) (a3 := v68) (a4 := v12) I157 gA0 (by omega) (by omega) (by omega) (by omega) ?_
    intro m165 I166 F167
    have F168 : Fr l_33_2 0 0 g μ m165 := F160.t F167 rfl
    have q169 := kq_fr q161 F167 b3 (by decide) rfl rfl
    show ex_q (dt_fg L ρ) rc (d + 2, (33, 221, [some (eR a0), some (eI (a1)), some (eI (a2)), some (eI (v12)), some (eI (v21)), some (eI (v30)), some (eI (v40)), some (eI (v43)), some (eI (v52)), some (eJ (v63)), none, some (eI (v68)), some (eI (v85))], []), f :: F, m165)
    exact v_rv rfl rfl (K m165 I166 F168 (kq_e q169 e2))
  · refine w_t (np := 66) (l2 := [some (eR a0), some (eI (a1)), some (eI (a2)), some (eI (v12)), some (eI (v21)), some (eI (v30)), some (eI (v40)), some (eI (v43)), some (eI (v52)), none, none, none, none]) (s2 := [eI (v21), eR v55]) rfl rfl rfl ?_
    refine w_cw (np := 69) (as := [eI (v21)]) (l2 := [some (eR v55), some (eI (v21))]) (rest := []) rfl rfl rfl (Nat.ble_eq.mp rfl) rfl rfl rfl (hI.kd b57 (by decide) (n := 3) rfl) rfl ?_
    refine s_44_2 (a1 := v21) hI b57 (by omega) ?_
    intro v59 b60
    show ex_q (dt_fg L ρ) rc (d + 2, (33, 69, [some (eR a0), some (eI (a1)), some (eI (a2)), some (eI (v12)), some (eI (v21)), some (eI (v30)), some (eI (v40)), some (eI (v43)), some (eI (v52)), none, none, none, none], [eJ (v59)]), f :: F, μ)
    refine w_t (np := 71) (l2 := [some (eR a0), some (eI (a1)), some (eI (a2)), some (eI (v12)), some (eI (v21)), some (eI (v30)), some (eI (v40)), some (eI (v43)), some (eI (v52)), none, none, none, none]) (s2 := [eI (v40), eJ (v59)]) rfl rfl rfl ?_
    refine w_cu (np := 74) (as := [eI (v40)]) (l2 := [some (eI (v40))]) (rest := [eJ (v59)]) rfl rfl rfl (Nat.ble_eq.mp rfl) rfl rfl rfl rfl ?_
    refine s_74 (a0 := v40) hI (by omega) ?_
    intro v61 b62
    show ex_q (dt_fg L ρ) rc (d + 2, (33, 74, [some (eR a0), some (eI (a1)), some (eI (a2)), some (eI (v12)), some (eI (v21)), some (eI (v30)), some (eI (v40)), some (eI (v43)), some (eI (v52)), none, none, none, none], [eJ (v61), eJ (v59)]), f :: F, μ)
    refine w_cu (np := 77) (as := [eJ (v59), eJ (v61)]) (l2 := [some (eJ (v59)), none, some (eJ (v61)), none]) (rest := []) rfl rfl rfl (Nat.ble_eq.mp rfl) rfl rfl rfl rfl ?_
    refine s_76 hI b60 b62 ?_
    intro v63 b64
    show ex_q (dt_fg L ρ) rc (d + 2, (33, 77, [some (eR a0), some (eI (a1)), some (eI (a2)), some (eI (v12)), some (eI (v21)), some (eI (v30)), some (eI (v40)), some (eI (v43)), some (eI (v52)), none, none, none, none], [eJ (v63)]), f :: F, μ)
    refine w_t (np := 79) (l2 := [some (eR a0), some (eI (a1)), some (eI (a2)), some (eI (v12)), some (eI (v21)), some (eI (v30)), some (eI (v40)), some (eI (v43)), some (eI (v52)), some (eJ (v63)), none, none, none]) (s2 := []) rfl rfl rfl ?_
    refine w_t (np := 80) (l2 := [some (eR a0), some (eI (a1)), some (eI (a2)), some (eI (v12)), some (eI (v21)), some (eI (v30)), some (eI (v40)), some (eI (v43)), some (eI (v52)), some (eJ (v63)), none, none, none]) (s2 := [eR a0]) rfl (s_an rfl (pos_g hI gA0 (by decide))) rfl ?_
    refine w_gf (np := 83) (v := eR v55) rfl rfl (hI.kd gA0 (by decide) (n := 8) rfl) (by rw [e56]; rfl) ?_
    refine w_t (np := 85) (l2 := [some (eR a0), some (eI (a1)), some (eI (a2)), some (eI (v12)), some (eI (v21)), some (eI (v30)), some (eI (v40)), some (eI (v43)), some (eI (v52)), some (eJ (v63)), none, none, none]) (s2 := [eJ (v63), eR v55]) rfl rfl rfl ?_
    refine w_cw (np := 88) (as := [eJ (v63)]) (l2 := [some (eR v55), some (eJ (v63)), none, none]) (rest := []) rfl rfl rfl (Nat.ble_eq.mp rfl) rfl rfl rfl (hI.kd b57 (by decide) (n := 3) rfl) rfl ?_
    refine s_46_2 hI b57 b64 ?_
    intro m65 v68 I66 F67 b69
    have F70 : Fr l_33_2 0 0 g μ m65 := F0.t F67 rfl
    have q71 := kq_fr kq0 F67 b3 (by decide) rfl rfl
    show ex_q (dt_fg L ρ) rc (d + 2, (33, 88, [some (eR a0), some (eI (a1)), some (eI (a2)), some (eI (v12)), some (eI (v21)), some (eI (v30)), some (eI (v40)), some (eI (v43)), some (eI (v52)), some (eJ (v63)), none, none, none], [eI (v68)]), f :: F, m65)
    refine w_t (np := 90) (l2 := [some (eR a0), some (eI (a1)), some (eI (a2)), some (eI (v12)), some (eI (v21)), some (eI (v30)), some (eI (v40)), some (eI (v43)), some (eI (v52)), some (eJ (v63)), none, some (eI (v68)), none]) (s2 := []) rfl rfl rfl ?_
    refine w_t (np := 91) (l2 := [some (eR a0), some (eI (a1)), some (eI (a2)), some (eI (v12)), some (eI (v21)), some (eI (v30)), some (eI (v40)), some (eI (v43)), some (eI (v52)), some (eJ (v63)), none, some (eI (v68)), none]) (s2 := [eR a0]) rfl (s_an rfl (pos_g I66 gA0 (by decide))) rfl ?_
    refine w_gf (np := 94) (v := eR v55) rfl rfl (I66.kd gA0 (by decide) (n := 8) rfl) (by rw [(F67.k e56 gA0 (by decide) rfl)]; rfl) ?_
    refine w_t (np := 96) (l2 := [some (eR a0), some (eI (a1)), some (eI (a2)), some (eI (v12)), some (eI (v21)), some (eI (v30)), some (eI (v40)), some (eI (v43)), some (eI (v52)), some (eJ (v63)), none, some (eI (v68)), none]) (s2 := [eJ (v63), eR v55]) rfl rfl rfl ?_
    refine w_t (np := 98) (l2 := [some (eR a0), some (eI (a1)), some (eI (a2)), some (eI (v12)), some (eI (v21)), some (eI (v30)), some (eI (v40)), some (eI (v43)), some (eI (v52)), some (eJ (v63)), none, some (eI (v68)), none]) (s2 := [eI (v40), eJ (v63), eR v55]) rfl rfl rfl ?_
    refine w_t (np := 99) (l2 := [some (eR a0), some (eI (a1)), some (eI (a2)), some (eI (v12)), some (eI (v21)), some (eI (v30)), some (eI (v40)), some (eI (v43)), some (eI (v52)), some (eJ (v63)), none, some (eI (v68)), none]) (s2 := [eI (3), eI (v40), eJ (v63), eR v55]) rfl rfl rfl ?_
    refine w_t (np := 101) (l2 := [some (eR a0), some (eI (a1)), some (eI (a2)), some (eI (v12)), some (eI (v21)), some (eI (v30)), some (eI (v40)), some (eI (v43)), some (eI (v52)), some (eJ (v63)), none, some (eI (v68)), none]) (s2 := [eI (v43), eI (3), eI (v40), eJ (v63), eR v55]) rfl rfl rfl ?_
    obtain ⟨v72, e73⟩ : ∃ zz : Int, zz = (3) * (v43) := ⟨_, rfl⟩
    have b74 : -3 ≤ v72 ∧ v72 ≤ 3 := by omega
    refine w_t (np := 102) (l2 := [some (eR a0), some (eI (a1)), some (eI (a2)), some (eI (v12)), some (eI (v21)), some (eI (v30)), some (eI (v40)), some (eI (v43)), some (eI (v52)), some (eJ (v63)), none, some (eI (v68)), none]) (s2 := [eI (v72), eI (v40), eJ (v63), eR v55]) rfl (b_imul (by rw [← e73]; exact ev_w_in (by omega) (by omega))) rfl ?_
    obtain ⟨v75, e76⟩ : ∃ zz : Int, zz = (v40) + (v72) := ⟨_, rfl⟩
    have b77 : -3 ≤ v75 ∧ v75 ≤ 12 := by omega
    refine w_t (np := 103) (l2 := [some (eR a0), some (eI (a1)), some (eI (a2)), some (eI (v12)), some (eI (v21)), some (eI (v30)), some (eI (v40)), some (eI (v43)), some (eI (v52)), some (eJ (v63)), none, some (eI (v68)), none]) (s2 := [eI (v75), eJ (v63), eR v55]) rfl (b_iadd (by rw [← e76]; exact ev_w_in (by omega) (by omega))) rfl ?_
    refine w_cu (np := 106) (as := [eI (v75)]) (l2 := [some (eI (v75))]) (rest := [eJ (v63), eR v55]) rfl rfl rfl (Nat.ble_eq.mp rfl) rfl rfl rfl rfl ?_
    refine s_74 (a0 := v75) I66 (by omega) ?_
    intro v78 b79
    show ex_q (dt_fg L ρ) rc (d + 2, (33, 106, [some (eR a0), some (eI (a1)), some (eI (a2)), some (eI (v12)), some (eI (v21)), some (eI (v30)), some (eI (v40)), some (eI (v43)), some (eI (v52)), some (eJ (v63)), none, some (eI (v68)), none], [eJ (v78), eJ (v63), eR v55]), f :: F, m65)
    refine w_cu (np := 109) (as := [eJ (v63), eJ (v78)]) (l2 := [some (eJ (v63)), none, some (eJ (v78)), none]) (rest := [eR v55]) rfl rfl rfl (Nat.ble_eq.mp rfl) rfl rfl rfl rfl ?_
    refine s_75 I66 b64 b79 ?_
    intro v80 b81
    show ex_q (dt_fg L ρ) rc (d + 2, (33, 109, [some (eR a0), some (eI (a1)), some (eI (a2)), some (eI (v12)), some (eI (v21)), some (eI (v30)), some (eI (v40)), some (eI (v43)), some (eI (v52)), some (eJ (v63)), none, some (eI (v68)), none], [eJ (v80), eR v55]), f :: F, m65)
    refine w_cw (np := 112) (as := [eJ (v80)]) (l2 := [some (eR v55), some (eJ (v80)), none, none]) (rest := []) rfl rfl rfl (Nat.ble_eq.mp rfl) rfl rfl rfl (I66.kd b57 (by decide) (n := 3) rfl) rfl ?_
    refine s_46_2 I66 b57 b81 ?_
    intro m82 v85 I83 F84 b86
    have F87 : Fr l_33_2 0 0 g μ m82 := F70.t F84 rfl
    have q88 := kq_fr q71 F84 b3 (by decide) rfl rfl
    show ex_q (dt_fg L ρ) rc (d + 2, (33, 112, [some (eR a0), some (eI (a1)), some (eI (a2)), some (eI (v12)), some (eI (v21)), some (eI (v30)), some (eI (v40)), some (eI (v43)), some (eI (v52)), some (eJ (v63)), none, some (eI (v68)), none], [eI (v85)]), f :: F, m82)
    refine w_t (np := 114) (l2 := [some (eR a0), some (eI (a1)), some (eI (a2)), some (eI (v12)), some (eI (v21)), some (eI (v30)), some (eI (v40)), some (eI (v43)), some (eI (v52)), some (eJ (v63)), none, some (eI (v68)), some (eI (v85))]) (s2 := []) rfl rfl rfl ?_
    refine w_t (np := 115) (l2 := [some (eR a0), some (eI (a1)), some (eI (a2)), some (eI (v12)), some (eI (v21)), some (eI (v30)), some (eI (v40)), some (eI (v43)), some (eI (v52)), some (eJ (v63)), none, some (eI (v68)), some (eI (v85))]) (s2 := [eR a0]) rfl (s_an rfl (pos_g I83 gA0 (by decide))) rfl ?_
    refine w_t (np := 116) (l2 := [some (eR a0), some (eI (a1)), some (eI (a2)), some (eI (v12)), some (eI (v21)), some (eI (v30)), some (eI (v40)), some (eI (v43)), some (eI (v52)), some (eJ (v63)), none, some (eI (v68)), some (eI (v85))]) (s2 := [eI (a2), eR a0]) rfl rfl rfl ?_
    refine w_t (np := 117) (l2 := [some (eR a0), some (eI (a1)), some (eI (a2)), some (eI (v12)), some (eI (v21)), some (eI (v30)), some (eI (v40)), some (eI (v43)), some (eI (v52)), some (eJ (v63)), none, some (eI (v68)), some (eI (v85))]) (s2 := [eI (1), eI (a2), eR a0]) rfl rfl rfl ?_
    refine w_t (np := 119) (l2 := [some (eR a0), some (eI (a1)), some (eI (a2)), some (eI (v12)), some (eI (v21)), some (eI (v30)), some (eI (v40)), some (eI (v43)), some (eI (v52)), some (eJ (v63)), none, some (eI (v68)), some (eI (v85))]) (s2 := [eI (v52), eI (1), eI (a2), eR a0]) rfl rfl rfl ?_
    refine w_t (np := 121) (l2 := [some (eR a0), some (eI (a1)), some (eI (a2)), some (eI (v12)), some (eI (v21)), some (eI (v30)), some (eI (v40)), some (eI (v43)), some (eI (v52)), some (eJ (v63)), none, some (eI (v68)), some (eI (v85))]) (s2 := [eI (v40), eI (v52), eI (1), eI (a2), eR a0]) rfl rfl rfl ?_
    refine w_t (np := 122) (l2 := [some (eR a0), some (eI (a1)), some (eI (a2)), some (eI (v12)), some (eI (v21)), some (eI (v30)), some (eI (v40)), some (eI (v43)), some (eI (v52)), some (eJ (v63)), none, some (eI (v68)), some (eI (v85))]) (s2 := [eI (4), eI (v40), eI (v52), eI (1), eI (a2), eR a0]) rfl rfl rfl ?_
    refine w_t (np := 124) (l2 := [some (eR a0), some (eI (a1)), some (eI (a2)), some (eI (v12)), some (eI (v21)), some (eI (v30)), some (eI (v40)), some (eI (v43)), some (eI (v52)), some (eJ (v63)), none, some (eI (v68)), some (eI (v85))]) (s2 := [eI (v43), eI (4), eI (v40), eI (v52), eI (1), eI (a2), eR a0]) rfl rfl rfl ?_
    obtain ⟨v89, e90⟩ : ∃ zz : Int, zz = (4) * (v43) := ⟨_, rfl⟩
    have b91 : -4 ≤ v89 ∧ v89 ≤ 4 := by omega
    refine w_t (np := 125) (l2 := [some (eR a0), some (eI (a1)), some (eI (a2)), some (eI (v12)), some (eI (v21)), some (eI (v30)), some (eI (v40)), some (eI (v43)), some (eI (v52)), some (eJ (v63)), none, some (eI (v68)), some (eI (v85))]) (s2 := [eI (v89), eI (v40), eI (v52), eI (1), eI (a2), eR a0]) rfl (b_imul (by rw [← e90]; exact ev_w_in (by omega) (by omega))) rfl ?_
    obtain ⟨v92, e93⟩ : ∃ zz : Int, zz = (v40) + (v89) := ⟨_, rfl⟩
    have b94 : -4 ≤ v92 ∧ v92 ≤ 13 := by omega
    refine w_t (np := 126) (l2 := [some (eR a0), some (eI (a1)), some (eI (a2)), some (eI (v12)), some (eI (v21)), some (eI (v30)), some (eI (v40)), some (eI (v43)), some (eI (v52)), some (eJ (v63)), none, some (eI (v68)), some (eI (v85))]) (s2 := [eI (v92), eI (v52), eI (1), eI (a2), eR a0]) rfl (b_iadd (by rw [← e93]; exact ev_w_in (by omega) (by omega))) rfl ?_
    refine w_t (np := 128) (l2 := [some (eR a0), some (eI (a1)), some (eI (a2)), some (eI (v12)), some (eI (v21)), some (eI (v30)), some (eI (v40)), some (eI (v43)), some (eI (v52)), some (eJ (v63)), none, some (eI (v68)), some (eI (v85))]) (s2 := [eI (v40), eI (v92), eI (v52), eI (1), eI (a2), eR a0]) rfl rfl rfl ?_
    refine w_t (np := 130) (l2 := [some (eR a0), some (eI (a1)), some (eI (a2)), some (eI (v12)), some (eI (v21)), some (eI (v30)), some (eI (v40)), some (eI (v43)), some (eI (v52)), some (eJ (v63)), none, some (eI (v68)), some (eI (v85))]) (s2 := [eI (7), eI (v40), eI (v92), eI (v52), eI (1), eI (a2), eR a0]) rfl rfl rfl ?_
    refine w_t (np := 132) (l2 := [some (eR a0), some (eI (a1)), some (eI (a2)), some (eI (v12)), some (eI (v21)), some (eI (v30)), some (eI (v40)), some (eI (v43)), some (eI (v52)), some (eJ (v63)), none, some (eI (v68)), some (eI (v85))]) (s2 := [eI (v43), eI (7), eI (v40), eI (v92), eI (v52), eI (1), eI (a2), eR a0]) rfl rfl rfl ?_
    obtain ⟨v95, e96⟩ : ∃ zz : Int, zz = (7) * (v43) := ⟨_, rfl⟩
    have b97 : -7 ≤ v95 ∧ v95 ≤ 7 := by omega
    refine w_t (np := 133) (l2 := [some (eR a0), some (eI (a1)), some (eI (a2)), some (eI (v12)), some (eI (v21)), some (eI (v30)), some (eI (v40)), some (eI (v43)), some (eI (v52)), some (eJ (v63)), none, some (eI (v68)), some (eI (v85))]) (s2 := [eI (v95), eI (v40), eI (v92), eI (v52), eI (1), eI (a2), eR a0]) rfl (b_imul (by rw [← e96]; exact ev_w_in (by omega) (by omega))) rfl ?_
    obtain ⟨v98, e99⟩ : ∃ zz : Int, zz = (v40) + (v95) := ⟨_, rfl⟩
    have b100 : -7 ≤ v98 ∧ v98 ≤ 16 := by omega
    refine w_t (np := 134) (l2 := [some (eR a0), some (eI (a1)), some (eI (a2)), some (eI (v12)), some (eI (v21)), some (eI (v30)), some (eI (v40)), some (eI (v43)), some (eI (v52)), some (eJ (v63)), none, some (eI (v68)), some (eI (v85))]) (s2 := [eI (v98), eI (v92), eI (v52), eI (1), eI (a2), eR a0]) rfl (b_iadd (by rw [← e99]; exact ev_w_in (by omega) (by omega))) rfl ?_
    refine w_cw (np := 137) (as := [eI (a2), eI (1), eI (v52), eI (v92), eI (v98)]) (l2 := [some (eR a0), some (eI (a2)), some (eI (1)), some (eI (v52)), some (eI (v92)), some (eI (v98))]) (rest := []) rfl rfl rfl (Nat.ble_eq.mp rfl) rfl rfl rfl (I83.kd gA0 (by decide) (n := 8) rfl) rfl ?_
    refine s_28k_2 (a1 := a2) (a2 := 1) (a3 := v52) (a4 := v92) (a5 := v98) I83 gA0 (by omega) (by decide) (by omega) (by omega) (by omega) ?_
    intro m101 I102 F103 h104
    have F105 : Fr l_33_2 0 0 g μ m101 := F87.t F103 rfl
    have q106 := kq_sh q88 h104 (F84.k (F67.k e2 gA0 (by decide) rfl) gA0 (by decide) rfl) (by omega)
    show ex_q (dt_fg L ρ) rc (d + 2, (33, 137, [some (eR a0), some (eI (a1)), some (eI (a2)), some (eI (v12)), some (eI (v21)), some (eI (v30)), some (eI (v40)), some (eI (v43)), some (eI (v52)), some (eJ (v63)), none, some (eI (v68)), some (eI (v85))], []), f :: F, m101)
    refine w_t (np := 138) (l2 := [some (eR a0), some (eI (a1)), some (eI (a2)), some (eI (v12)), some (eI (v21)), some (eI (v30)), some (eI (v40)), some (eI (v43)), some (eI (v52)), some (eJ (v63)), none, some (eI (v68)), some (eI (v85))]) (s2 := [eR a0]) rfl (s_an rfl (pos_g I102 gA0 (by decide))) rfl ?_
    refine w_t (np := 139) (l2 := [some (eR a0), some (eI (a1)), some (eI (a2)), some (eI (v12)), some (eI (v21)), some (eI (v30)), some (eI (v40)), some (eI (v43)), some (eI (v52)), some (eJ (v63)), none, some (eI (v68)), some (eI (v85))]) (s2 := [eI (a2), eR a0]) rfl rfl rfl ?_
    refine w_t (np := 141) (l2 := [some (eR a0), some (eI (a1)), some (eI (a2)), some (eI (v12)), some (eI (v21)), some (eI (v30)), some (eI (v40)), some (eI (v43)), some (eI (v52)), some (eJ (v63)), none, some (eI (v68)), some (eI (v85))]) (s2 := [eI (v85), eI (a2), eR a0]) rfl rfl rfl ?_
    refine w_t (np := 143) (l2 := [some (eR a0), some (eI (a1)), some (eI (a2)), some (eI (v12)), some (eI (v21)), some (eI (v30)), some (eI (v40)), some (eI (v43)), some (eI (v52)), some (eJ (v63)), none, some (eI (v68)), some (eI (v85))]) (s2 := [eI (v30), eI (v85), eI (a2), eR a0]) rfl rfl rfl ?_
    refine w_t (np := 144) (l2 := [some (eR a0), some (eI (a1)), some (eI (a2)), some (eI (v12)), some (eI (v21)), some (eI (v30)), some (eI (v40)), some (eI (v43)), some (eI (v52)), some (eJ (v63)), none, some (eI (v68)), some (eI (v85))]) (s2 := [eI (v12), eI (v30), eI (v85), eI (a2), eR a0]) rfl rfl rfl ?_
    refine w_cw (np := 147) (as := [eI (a2), eI (v85), eI (v30), eI (v12)]) (l2 := [some (eR a0), some (eI (a2)), some (eI (v85)), some (eI (v30)), some (eI (v12))]) (rest := []) rfl rfl rfl (Nat.ble_eq.mp rfl) rfl rfl rfl (I102.kd gA0 (by decide) (n := 8) rfl) rfl ?_
    refine s_29_2 (a1 := a2) (a2 := v85) (a3 := v30) (a4 := v12) I102 gA0 (by omega) (by omega) (by omega) (by omega) ?_
    intro m107 I108 F109
    have F110 : Fr l_33_2 0 0 g μ m107 := F105.t F109 rfl
    have q111 := kq_fr q106 F109 b3 (by decide) rfl rfl
    show ex_q (dt_fg L ρ) rc (d + 2, (33, 147, [some (eR a0), some (eI (a1)), some (eI (a2)), some (eI (v12)), some (eI (v21)), some (eI (v30)), some (eI (v40)), some (eI (v43)), some (eI (v52)), some (eJ (v63)), none, some (eI (v68)), some (eI (v85))], []), f :: F, m107)
    refine w_t (np := 148) (l2 := [some (eR a0), some (eI (a1)), some (eI (a2)), some (eI (v12)), some (eI (v21)), some (eI (v30)), some (eI (v40)), some (eI (v43)), some (eI (v52)), some (eJ (v63)), none, some (eI (v68)), some (eI (v85))]) (s2 := [eR a0]) rfl (s_an rfl (pos_g I108 gA0 (by decide))) rfl ?_
    refine w_t (np := 149) (l2 := [some (eR a0), some (eI (a1)), some (eI (a2)), some (eI (v12)), some (eI (v21)), some (eI (v30)), some (eI (v40)), some (eI (v43)), some (eI (v52)), some (eJ (v63)), none, some (eI (v68)), some (eI (v85))]) (s2 := [eI (a2), eR a0]) rfl rfl rfl ?_
    refine w_t (np := 150) (l2 := [some (eR a0), some (eI (a1)), some (eI (a2)), some (eI (v12)), some (eI (v21)), some (eI (v30)), some (eI (v40)), some (eI (v43)), some (eI (v52)), some (eJ (v63)), none, some (eI (v68)), some (eI (v85))]) (s2 := [eI (1), eI (a2), eR a0]) rfl rfl rfl ?_
    obtain ⟨v112, e113⟩ : ∃ zz : Int, zz = (a2) + (1) := ⟨_, rfl⟩
    have b114 : 1 ≤ v112 ∧ v112 ≤ 888 := by omega
    refine w_t (np := 151) (l2 := [some (eR a0), some (eI (a1)), some (eI (a2)), some (eI (v12)), some (eI (v21)), some (eI (v30)), some (eI (v40)), some (eI (v43)), some (eI (v52)), some (eJ (v63)), none, some (eI (v68)), some (eI (v85))]) (s2 := [eI (v112), eR a0]) rfl (b_iadd (by rw [← e113]; exact ev_w_in (by omega) (by omega))) rfl ?_
    refine w_t (np := 152) (l2 := [some (eR a0), some (eI (a1)), some (eI (a2)), some (eI (v12)), some (eI (v21)), some (eI (v30)), some (eI (v40)), some (eI (v43)), some (eI (v52)), some (eJ (v63)), none, some (eI (v68)), some (eI (v85))]) (s2 := [eI (1), eI (v112), eR a0]) rfl rfl rfl ?_
    refine w_t (np := 154) (l2 := [some (eR a0), some (eI (a1)), some (eI (a2)), some (eI (v12)), some (eI (v21)), some (eI (v30)), some (eI (v40)), some (eI (v43)), some (eI (v52)), some (eJ (v63)), none, some (eI (v68)), some (eI (v85))]) (s2 := [eI (v52), eI (1), eI (v112), eR a0]) rfl rfl rfl ?_
    refine w_t (np := 155) (l2 := [some (eR a0), some (eI (a1)), some (eI (a2)), some (eI (v12)), some (eI (v21)), some (eI (v30)), some (eI (v40)), some (eI (v43)), some (eI (v52)), some (eJ (v63)), none, some (eI (v68)), some (eI (v85))]) (s2 := [eI (1), eI (v52), eI (1), eI (v112), eR a0]) rfl rfl rfl ?_
    obtain ⟨v115, e116, b117⟩ : ∃ zz : Int, ev_w ((v52) + (1)) = zz ∧ (-2147483648 ≤ zz ∧ zz ≤ 2147483647) := ⟨_, rfl, hw_bd _⟩
    refine w_t (np := 156) (l2 := [some (eR a0), some (eI (a1)), some (eI (a2)), some (eI (v12)), some (eI (v21)), some (eI (v30)), some (eI (v40)), some (eI (v43)), some (eI (v52)), some (eJ (v63)), none, some (eI (v68)), some (eI (v85))]) (s2 := [eI (v115), eI (1), eI (v112), eR a0]) rfl (b_iadd e116) rfl ?_
    refine w_t (np := 158) (l2 := [some (eR a0), some (eI (a1)), some (eI (a2)), some (eI (v12)), some (eI (v21)), some (eI (v30)), some (eI (v40)), some (eI (v43)), some (eI (v52)), some (eJ (v63)), none, some (eI (v68)), some (eI (v85))]) (s2 := [eI (v40), eI (v115), eI (1), eI (v112), eR a0]) rfl rfl rfl ?_
    refine w_t (np := 159) (l2 := [some (eR a0), some (eI (a1)), some (eI (a2)), some (eI (v12)), some (eI (v21)), some (eI (v30)), some (eI (v40)), some (eI (v43)), some (eI (v52)), some (eJ (v63)), none, some (eI (v68)), some (eI (v85))]) (s2 := [eI (3), eI (v40), eI (v115), eI (1), eI (v112), eR a0]) rfl rfl rfl ?_
    refine w_t (np := 161) (l2 := [some (eR a0), some (eI (a1)), some (eI (a2)), some (eI (v12)), some (eI (v21)), some (eI (v30)), some (eI (v40)), some (eI (v43)), some (eI (v52)), some (eJ (v63)), none, some (eI (v68)), some (eI (v85))]) (s2 := [eI (v43), eI (3), eI (v40), eI (v115), eI (1), eI (v112), eR a0]) rfl rfl rfl ?_
    obtain ⟨v118, e119⟩ : ∃ zz : Int, zz = (3) * (v43) := ⟨_, rfl⟩
    have b120 : -3 ≤ v118 ∧ v118 ≤ 3 := by omega
    refine w_t (np := 162) (l2 := [some (eR a0), some (eI (a1)), some (eI (a2)), some (eI (v12)), some (eI (v21)), some (eI (v30)), some (eI (v40)), some (eI (v43)), some (eI (v52)), some (eJ (v63)), none, some (eI (v68)), some (eI (v85))]) (s2 := [eI (v118), eI (v40), eI (v115), eI (1), eI (v112), eR a0]) rfl (b_imul (by rw [← e119]; exact ev_w_in (by omega) (by omega))) rfl ?_
    obtain ⟨v121, e122⟩ : ∃ zz : Int, zz = (v40) + (v118) := ⟨_, rfl⟩
    have b123 : -3 ≤ v121 ∧ v121 ≤ 12 := by omega
    refine w_t (np := 163) (l2 := [some (eR a0), some (eI (a1)), some (eI (a2)), some (eI (v12)), some (eI (v21)), some (eI (v30)), some (eI (v40)), some (eI (v43)), some (eI (v52)), some (eJ (v63)), none, some (eI (v68)), some (eI (v85))]) (s2 := [eI (v121), eI (v115), eI (1), eI (v112), eR a0]) rfl (b_iadd (by rw [← e122]; exact ev_w_in (by omega) (by omega))) rfl ?_
    refine w_t (np := 165) (l2 := [some (eR a0), some (eI (a1)), some (eI (a2)), some (eI (v12)), some (eI (v21)), some (eI (v30)), some (eI (v40)), some (eI (v43)), some (eI (v52)), some (eJ (v63)), none, some (eI (v68)), some (eI (v85))]) (s2 := [eI (v40), eI (v121), eI (v115), eI (1), eI (v112), eR a0]) rfl rfl rfl ?_
    refine w_cw (np := 168) (as := [eI (v112), eI (1), eI (v115), eI (v121), eI (v40)]) (l2 := [some (eR a0), some (eI (v112)), some (eI (1)), some (eI (v115)), some (eI (v121)), some (eI (v40))]) (rest := []) rfl rfl rfl (Nat.ble_eq.mp rfl) rfl rfl rfl (I108.kd gA0 (by decide) (n := 8) rfl) rfl ?_
    refine s_28k_2 (a1 := v112) (a2 := 1) (a3 := v115) (a4 := v121) (a5 := v40) I108 gA0 (by omega) (by decide) (by omega) (by omega) (by omega) ?_
    intro m124 I125 F126 h127
    have F128 : Fr l_33_2 0 0 g μ m124 := F110.t F126 rfl
    have q129 := kq_sh q111 h127 (F109.k (F103.k (F84.k (F67.k e2 gA0 (by decide) rfl) gA0 (by decide) rfl) gA0 (by decide) rfl) gA0 (by decide) rfl) (by omega)
    show ex_q (dt_fg L ρ) rc (d + 2, (33, 168, [some (eR a0), some (eI (a1)), some (eI (a2)), some (eI (v12)), some (eI (v21)), some (eI (v30)), some (eI (v40)), some (eI (v43)), some (eI (v52)), some (eJ (v63)), none, some (eI (v68)), some (eI (v85))], []), f :: F, m124)
    refine w_t (np := 169) (l2 := [some (eR a0), some (eI (a1)), some (eI (a2)), some (eI (v12)), some (eI (v21)), some (eI (v30)), some (eI (v40)), some (eI (v43)), some (eI (v52)), some (eJ (v63)), none, some (eI (v68)), some (eI (v85))]) (s2 := [eR a0]) rfl (s_an rfl (pos_g I125 gA0 (by decide))) rfl ?_
    refine w_t (np := 170) (l2 := [some (eR a0), some (eI (a1)), some (eI (a2)), some (eI (v12)), some (eI (v21)), some (eI (v30)), some (eI (v40)), some (eI (v43)), some (eI (v52)), some (eJ (v63)), none, some (eI (v68)), some (eI (v85))]) (s2 := [eI (a2), eR a0]) rfl rfl rfl ?_
    refine w_t (np := 171) (l2 := [some (eR a0), some (eI (a1)), some (eI (a2)), some (eI (v12)), some (eI (v21)), some (eI (v30)), some (eI (v40)), some (eI (v43)), some (eI (v52)), some (eJ (v63)), none, some (eI (v68)), some (eI (v85))]) (s2 := [eI (1), eI (a2), eR a0]) rfl rfl rfl ?_
    obtain ⟨v130, e131⟩ : ∃ zz : Int, zz = (a2) + (1) := ⟨_, rfl⟩
    have b132 : 1 ≤ v130 ∧ v130 ≤ 888 := by omega
    refine w_t (np := 172) (l2 := [some (eR a0), some (eI (a1)), some (eI (a2)), some (eI (v12)), some (eI (v21)), some (eI (v30)), some (eI (v40)), some (eI (v43)), some (eI (v52)), some (eJ (v63)), none, some (eI (v68)), some (eI (v85))]) (s2 := [eI (v130), eR a0]) rfl (b_iadd (by rw [← e131]; exact ev_w_in (by omega) (by omega))) rfl ?_
    refine w_t (np := 174) (l2 := [some (eR a0), some (eI (a1)), some (eI (a2)), some (eI (v12)), some (eI (v21)), some (eI (v30)), some (eI (v40)), some (eI (v43)), some (eI (v52)), some (eJ (v63)), none, some (eI (v68)), some (eI (v85))]) (s2 := [eI (v68), eI (v130), eR a0]) rfl rfl rfl ?_
    refine w_t (np := 176) (l2 := [some (eR a0), some (eI (a1)), some (eI (a2)), some (eI (v12)), some (eI (v21)), some (eI (v30)), some (eI (v40)), some (eI (v43)), some (eI (v52)), some (eJ (v63)), none, some (eI (v68)), some (eI (v85))]) (s2 := [eI (v85), eI (v68), eI (v130), eR a0]) rfl rfl rfl ?_
    refine w_t (np := 178) (l2 := [some (eR a0), some (eI (a1)), some (eI (a2)), some (eI (v12)), some (eI (v21)), some (eI (v30)), some (eI (v40)), some (eI (v43)), some (eI (v52)), some (eJ (v63)), none, some (eI (v68)), some (eI (v85))]) (s2 := [eI (v21), eI (v85), eI (v68), eI (v130), eR a0]) rfl rfl rfl ?_
    refine w_cw (np := 181) (as := [eI (v130), eI (v68), eI (v85), eI (v21)]) (l2 := [some (eR a0), some (eI (v130)), some (eI (v68)), some (eI (v85)), some (eI (v21))]) (rest := []) rfl rfl rfl (Nat.ble_eq.mp rfl) rfl rfl rfl (I125.kd gA0 (by decide) (n := 8) rfl) rfl ?_
    refine s_29_2 (a1 := v130) (a2 := v68) (a3 := v85) (a4 := v21) I125 gA0 (by omega) (by omega) (by omega) (by omega) ?_
    intro m133 I134 F135
    have F136 : Fr l_33_2 0 0 g μ m133 := F128.t F135 rfl
    have q137 := kq_fr q129 F135 b3 (by decide) rfl rfl
    show ex_q (dt_fg L ρ) rc (d + 2, (33, 181, [some (eR a0), some (eI (a1)), some (eI (a2)), some (eI (v12)), some (eI (v21)), some (eI (v30)), some (eI (v40)), some (eI (v43)), some (eI (v52)), some (eJ (v63)), none, some (eI (v68)), some (eI (v85))], []), f :: F, m133)
    refine w_t (np := 182) (l2 := [some (eR a0), some (eI (a1)), some (eI (a2)), some (eI (v12)), some (eI (v21)), some (eI (v30)), some (eI (v40)), some (eI (v43)), some (eI (v52)), some (eJ (v63)), none, some (eI (v68)), some (eI (v85))]) (s2 := [eR a0]) rfl (s_an rfl (pos_g I134 gA0 (by decide))) rfl ?_
    refine w_t (np := 183) (l2 := [some (eR a0), some (eI (a1)), some (eI (a2)), some (eI (v12)), some (eI (v21)), some (eI (v30)), some (eI (v40)), some (eI (v43)), some (eI (v52)), some (eJ (v63)), none, some (eI (v68)), some (eI (v85))]) (s2 := [eI (a2), eR a0]) rfl rfl rfl ?_
    refine w_t (np := 184) (l2 := [some (eR a0), some (eI (a1)), some (eI (a2)), some (eI (v12)), some (eI (v21)), some (eI (v30)), some (eI (v40)), some (eI (v43)), some (eI (v52)), some (eJ (v63)), none, some (eI (v68)), some (eI (v85))]) (s2 := [eI (2), eI (a2), eR a0]) rfl rfl rfl ?_
    obtain ⟨v138, e139⟩ : ∃ zz : Int, zz = (a2) + (2) := ⟨_, rfl⟩
    have b140 : 2 ≤ v138 ∧ v138 ≤ 889 := by omega
    refine w_t (np := 185) (l2 := [some (eR a0), some (eI (a1)), some (eI (a2)), some (eI (v12)), some (eI (v21)), some (eI (v30)), some (eI (v40)), some (eI (v43)), some (eI (v52)), some (eJ (v63)), none, some (eI (v68)), some (eI (v85))]) (s2 := [eI (v138), eR a0]) rfl (b_iadd (by rw [← e139]; exact ev_w_in (by omega) (by omega))) rfl ?_
    refine w_t (np := 186) (l2 := [some (eR a0), some (eI (a1)), some (eI (a2)), some (eI (v12)), some (eI (v21)), some (eI (v30)), some (eI (v40)), some (eI (v43)), some (eI (v52)), some (eJ (v63)), none, some (eI (v68)), some (eI (v85))]) (s2 := [eI (0), eI (v138), eR a0]) rfl rfl rfl ?_
    refine w_t (np := 188) (l2 := [some (eR a0), some (eI (a1)), some (eI (a2)), some (eI (v12)), some (eI (v21)), some (eI (v30)), some (eI (v40)), some (eI (v43)), some (eI (v52)), some (eJ (v63)), none, some (eI (v68)), some (eI (v85))]) (s2 := [eI (v52), eI (0), eI (v138), eR a0]) rfl rfl rfl ?_
    refine w_t (np := 189) (l2 := [some (eR a0), some (eI (a1)), some (eI (a2)), some (eI (v12)), some (eI (v21)), some (eI (v30)), some (eI (v40)), some (eI (v43)), some (eI (v52)), some (eJ (v63)), none, some (eI (v68)), some (eI (v85))]) (s2 := [eI (2), eI (v52), eI (0), eI (v138), eR a0]) rfl rfl rfl ?_
    obtain ⟨v141, e142, b143⟩ : ∃ zz : Int, ev_w ((v52) + (2)) = zz ∧ (-2147483648 ≤ zz ∧ zz ≤ 2147483647) := ⟨_, rfl, hw_bd _⟩
    refine w_t (np := 190) (l2 := [some (eR a0), some (eI (a1)), some (eI (a2)), some (eI (v12)), some (eI (v21)), some (eI (v30)), some (eI (v40)), some (eI (v43)), some (eI (v52)), some (eJ (v63)), none, some (eI (v68)), some (eI (v85))]) (s2 := [eI (v141), eI (0), eI (v138), eR a0]) rfl (b_iadd e142) rfl ?_
    refine w_t (np := 192) (l2 := [some (eR a0), some (eI (a1)), some (eI (a2)), some (eI (v12)), some (eI (v21)), some (eI (v30)), some (eI (v40)), some (eI (v43)), some (eI (v52)), some (eJ (v63)), none, some (eI (v68)), some (eI (v85))]) (s2 := [eI (v40), eI (v141), eI (0), eI (v138), eR a0]) rfl rfl rfl ?_
    refine w_t (np := 194) (l2 := [some (eR a0), some (eI (a1)), some (eI (a2)), some (eI (v12)), some (eI (v21)), some (eI (v30)), some (eI (v40)), some (eI (v43)), some (eI (v52)), some (eJ (v63)), none, some (eI (v68)), some (eI (v85))]) (s2 := [eI (8), eI (v40), eI (v141), eI (0), eI (v138), eR a0]) rfl rfl rfl ?_
    refine w_t (np := 196) (l2 := [some (eR a0), some (eI (a1)), some (eI (a2)), some (eI (v12)), some (eI (v21)), some (eI (v30)), some (eI (v40)), some (eI (v43)), some (eI (v52)), some (eJ (v63)), none, some (eI (v68)), some (eI (v85))]) (s2 := [eI (v43), eI (8), eI (v40), eI (v141), eI (0), eI (v138), eR a0]) rfl rfl rfl ?_
    obtain ⟨v144, e145⟩ : ∃ zz : Int, zz = (8) * (v43) := ⟨_, rfl⟩
    have b146 : -8 ≤ v144 ∧ v144 ≤ 8 := by omega
    refine w_t (np := 197) (l2 := [some (eR a0), some (eI (a1)), some (eI (a2)), some (eI (v12)), some (eI (v21)), some (eI (v30)), some (eI (v40)), some (eI (v43)), some (eI (v52)), some (eJ (v63)), none, some (eI (v68)), some (eI (v85))]) (s2 := [eI (v144), eI (v40), eI (v141), eI (0), eI (v138), eR a0]) rfl (b_imul (by rw [← e145]; exact ev_w_in (by omega) (by omega))) rfl ?_
    obtain ⟨v147, e148⟩ : ∃ zz : Int, zz = (v40) + (v144) := ⟨_, rfl⟩
    have b149 : -8 ≤ v147 ∧ v147 ≤ 17 := by omega
    refine w_t (np := 198) (l2 := [some (eR a0), some (eI (a1)), some (eI (a2)), some (eI (v12)), some (eI (v21)), some (eI (v30)), some (eI (v40)), some (eI (v43)), some (eI (v52)), some (eJ (v63)), none, some (eI (v68)), some (eI (v85))]) (s2 := [eI (v147), eI (v141), eI (0), eI (v138), eR a0]) rfl (b_iadd (by rw [← e148]; exact ev_w_in (by omega) (by omega))) rfl ?_
    refine w_t (np := 200) (l2 := [some (eR a0), some (eI (a1)), some (eI (a2)), some (eI (v12)), some (eI (v21)), some (eI (v30)), some (eI (v40)), some (eI (v43)), some (eI (v52)), some (eJ (v63)), none, some (eI (v68)), some (eI (v85))]) (s2 := [eI (v40), eI (v147), eI (v141), eI (0), eI (v138), eR a0]) rfl rfl rfl ?_
    refine w_t (np := 202) (l2 := [some (eR a0), some (eI (a1)), some (eI (a2)), some (eI (v12)), some (eI (v21)), some (eI (v30)), some (eI (v40)), some (eI (v43)), some (eI (v52)), some (eJ (v63)), none, some (eI (v68)), some (eI (v85))]) (s2 := [eI (7), eI (v40), eI (v147), eI (v141), eI (0), eI (v138), eR a0]) rfl rfl rfl ?_
    refine w_t (np := 204) (l2 := [some (eR a0), some (eI (a1)), some (eI (a2)), some (eI (v12)), some (eI (v21)), some (eI (v30)), some (eI (v40)), some (eI (v43)), some (eI (v52)), some (eJ (v63)), none, some (eI (v68)), some (eI (v85))]) (s2 := [eI (v43), eI (7), eI (v40), eI (v147), eI (v141), eI (0), eI (v138), eR a0]) rfl rfl rfl ?_
    obtain ⟨v150, e151⟩ : ∃ zz : Int, zz = (7) * (v43) := ⟨_, rfl⟩
    have b152 : -7 ≤ v150 ∧ v150 ≤ 7 := by omega
    refine w_t (np := 205) (l2 := [some (eR a0), some (eI (a1)), some (eI (a2)), some (eI (v12)), some (eI (v21)), some (eI (v30)), some (eI (v40)), some (eI (v43)), some (eI (v52)), some (eJ (v63)), none, some (eI (v68)), some (eI (v85))]) (s2 := [eI (v150), eI (v40), eI (v147), eI (v141), eI (0), eI (v138), eR a0]) rfl (b_imul (by rw [← e151]; exact ev_w_in (by omega) (by omega))) rfl ?_
    obtain ⟨v153, e154⟩ : ∃ zz : Int, zz = (v40) + (v150) := ⟨_, rfl⟩
    have b155 : -7 ≤ v153 ∧ v153 ≤ 16 := by omega
    refine w_t (np := 206) (l2 := [some (eR a0), some (eI (a1)), some (eI (a2)), some (eI (v12)), some (eI (v21)), some (eI (v30)), some (eI (v40)), some (eI (v43)), some (eI (v52)), some (eJ (v63)), none, some (eI (v68)), some (eI (v85))]) (s2 := [eI (v153), eI (v147), eI (v141), eI (0), eI (v138), eR a0]) rfl (b_iadd (by rw [← e154]; exact ev_w_in (by omega) (by omega))) rfl ?_
    refine w_cw (np := 209) (as := [eI (v138), eI (0), eI (v141), eI (v147), eI (v153)]) (l2 := [some (eR a0), some (eI (v138)), some (eI (0)), some (eI (v141)), some (eI (v147)), some (eI (v153))]) (rest := []) rfl rfl rfl (Nat.ble_eq.mp rfl) rfl rfl rfl (I134.kd gA0 (by decide) (n := 8) rfl) rfl ?_
    refine s_28k_2 (a1 := v138) (a2 := 0) (a3 := v141) (a4 := v147) (a5 := v153) I134 gA0 (by omega) (by decide) (by omega) (by omega) (by omega) ?_
    intro m156 I157 F158 h159
    have F160 : Fr l_33_2 0 0 g μ m156 := F136.t F158 rfl
    have q161 := kq_sh q137 h159 (F135.k (F126.k (F109.k (F103.k (F84.k (F67.k e2 gA0 (by decide) rfl) gA0 (by decide) rfl) gA0 (by decide) rfl) gA0 (by decide) rfl) gA0 (by decide) rfl) gA0 (by decide) rfl) (by omega)
    show ex_q (dt_fg L ρ) rc (d + 2, (33, 209, [some (eR a0), some (eI (a1)), some (eI (a2)), some (eI (v12)), some (eI (v21)), some (eI (v30)), some (eI (v40)), some (eI (v43)), some (eI (v52)), some (eJ (v63)), none, some (eI (v68)), some (eI (v85))], []), f :: F, m156)
    refine w_t (np := 210) (l2 := [some (eR a0), some (eI (a1)), some (eI (a2)), some (eI (v12)), some (eI (v21)), some (eI (v30)), some (eI (v40)), some (eI (v43)), some (eI (v52)), some (eJ (v63)), none, some (eI (v68)), some (eI (v85))]) (s2 := [eR a0]) rfl (s_an rfl (pos_g I157 gA0 (by decide))) rfl ?_
    refine w_t (np := 211) (l2 := [some (eR a0), some (eI (a1)), some (eI (a2)), some (eI (v12)), some (eI (v21)), some (eI (v30)), some (eI (v40)), some (eI (v43)), some (eI (v52)), some (eJ (v63)), none, some (eI (v68)), some (eI (v85))]) (s2 := [eI (a2), eR a0]) rfl rfl rfl ?_
    refine w_t (np := 212) (l2 := [some (eR a0), some (eI (a1)), some (eI (a2)), some (eI (v12)), some (eI (v21)), some (eI (v30)), some (eI (v40)), some (eI (v43)), some (eI (v52)), some (eJ (v63)), none, some (eI (v68)), some (eI (v85))]) (s2 := [eI (2), eI (a2), eR a0]) rfl rfl rfl ?_
    obtain ⟨v162, e163⟩ : ∃ zz : Int, zz = (a2) + (2) := ⟨_, rfl⟩
    have b164 : 2 ≤ v162 ∧ v162 ≤ 889 := by omega
    refine w_t (np := 213) (l2 := [some (eR a0), some (eI (a1)), some (eI (a2)), some (eI (v12)), some (eI (v21)), some (eI (v30)), some (eI (v40)), some (eI (v43)), some (eI (v52)), some (eJ (v63)), none, some (eI (v68)), some (eI (v85))]) (s2 := [eI (v162), eR a0]) rfl (b_iadd (by rw [← e163]; exact ev_w_in (by omega) (by omega))) rfl ?_
    refine w_t (np := 215) (l2 := [some (eR a0), some (eI (a1)), some (eI (a2)), some (eI (v12)), some (eI (v21)), some (eI (v30)), some (eI (v40)), some (eI (v43)), some (eI (v52)), some (eJ (v63)), none, some (eI (v68)), some (eI (v85))]) (s2 := [eI (v85), eI (v162), eR a0]) rfl rfl rfl ?_
    refine w_t (np := 217) (l2 := [some (eR a0), some (eI (a1)), some (eI (a2)), some (eI (v12)), some (eI (v21)), some (eI (v30)), some (eI (v40)), some (eI (v43)), some (eI (v52)), some (eJ (v63)), none, some (eI (v68)), some (eI (v85))]) (s2 := [eI (v68), eI (v85), eI (v162), eR a0]) rfl rfl rfl ?_
    refine w_t (np := 218) (l2 := [some (eR a0), some (eI (a1)), some (eI (a2)), some (eI (v12)), some (eI (v21)), some (eI (v30)), some (eI (v40)), some (eI (v43)), some (eI (v52)), some (eJ (v63)), none, some (eI (v68)), some (eI (v85))]) (s2 := [eI (v12), eI (v68), eI (v85), eI (v162), eR a0]) rfl rfl rfl ?_
    refine w_cw (np := 221) (as := [eI (v162), eI (v85), eI (v68), eI (v12)]) (l2 := [some (eR a0), some (eI (v162)), some (eI (v85)), some (eI (v68)), some (eI (v12))]) (rest := []) rfl rfl rfl (Nat.ble_eq.mp rfl) rfl rfl rfl (I157.kd gA0 (by decide) (n := 8) rfl) rfl ?_
    refine s_29_2 (a1 := v162) (a2 := v85) (a3 := v68) (a4 := v12) I157 gA0 (by omega) (by omega) (by omega) (by omega) ?_
    intro m165 I166 F167
    have F168 : Fr l_33_2 0 0 g μ m165 := F160.t F167 rfl
    have q169 := kq_fr q161 F167 b3 (by decide) rfl rfl
    show ex_q (dt_fg L ρ) rc (d + 2, (33, 221, [some (eR a0), some (eI (a1)), some (eI (a2)), some (eI (v12)), some (eI (v21)), some (eI (v30)), some (eI (v40)), some (eI (v43)), some (eI (v52)), some (eJ (v63)), none, some (eI (v68)), some (eI (v85))], []), f :: F, m165)
    exact v_rv rfl rfl (K m165 I166 F168 (kq_e q169 e2))
def l_31t : List Nat := [1024, 1280, 1536, 768, 519, 520, 4096, 3328, 4352, 3584, 3843, 3075]
theorem s_31t {L : Nat} {ρ : Nat → Int} {rc : eQ} {d : Nat} {f : eFr} {F : List eFr} {μ : eM} {g : Nat → Nat} {a0 : Nat} {a1 : Int} {co : Int} {de : Int} (hI : SI g μ) (gA0 : g a0 = 2) (bA1 : 0 ≤ a1 ∧ a1 ≤ 50) (h_co : μ.1 a0 7 = co) (h_de : μ.1 a0 6 = de) (hp0 : de ≤ 4) (hp1 : a1 = 2 * co + (fcnt (fun x => μ.1 (μ.1 a0 0).toNat x - 1) (co).toNat : Int)) (K : ∀ (μ2 : eM) (co2 : Int) (de2 : Int), SI g μ2 → Fr l_31t 0 0 g μ μ2 → μ2.1 a0 7 = co2 → μ2.1 a0 6 = de2 → (co2 = a1) → (de2 = de + 1) → ex_q (dt_fg L ρ) rc (d + 4, (f.1, f.2.1, f.2.2.1, f.2.2.2), F, μ2)) : ex_q (dt_fg L ρ) rc (d + 3, (31, 42, [some (eR a0), some (eI (a1)), none, none], []), f :: F, μ) := by
  have F0 : Fr l_31t 0 0 g μ μ := Fr.r
  have b_co : 0 ≤ co ∧ co ≤ 50 := by
    rw [← h_co]
    exact hI.int gA0 (by decide) (n := 8) rfl (by decide) rfl
  have b_de : 0 ≤ de ∧ de ≤ 5 := by
    rw [← h_de]
    exact hI.int gA0 (by decide) (n := 8) rfl (by decide) rfl
  obtain ⟨v1, e2, b3, z4⟩ := hI.ref (k := 0) gA0 (by decide) (n := 8) rfl (by decide) rfl
  have b3 : g v1 = 3 := Nat.eq_of_beq_eq_true b3
  refine w_t (np := 43) (l2 := [some (eR a0), some (eI (a1)), none, none]) (s2 := [eI (a1)]) rfl rfl rfl ?_
  refine w_t (np := 44) (l2 := [some (eR a0), some (eI (a1)), some (eI (a1)), none]) (s2 := []) rfl rfl rfl ?_
  refine w_t (np := 45) (l2 := [some (eR a0), some (eI (a1)), some (eI (a1)), none]) (s2 := [eR a0]) rfl (s_an rfl (pos_g hI gA0 (by decide))) rfl ?_
  refine w_gf (np := 48) (v := eI (co)) rfl rfl (hI.kd gA0 (by decide) (n := 8) rfl) (by rw [h_co]; rfl) ?_
  refine w_t (np := 49) (l2 := [some (eR a0), some (eI (a1)), some (eI (a1)), none]) (s2 := [eI (1), eI (co)]) rfl rfl rfl ?_
  obtain ⟨v5, e6⟩ : ∃ zz : Int, zz = (co) - (1) := ⟨_, rfl⟩
  have b7 : -1 ≤ v5 ∧ v5 ≤ 49 := by omega
  refine w_t (np := 50) (l2 := [some (eR a0), some (eI (a1)), some (eI (a1)), none]) (s2 := [eI (v5)]) rfl (b_isub (by rw [← e6]; exact ev_w_in (by omega) (by omega))) rfl ?_
  refine w_t (np := 51) (l2 := [some (eR a0), some (eI (a1)), some (eI (a1)), some (eI (v5))]) (s2 := []) rfl rfl rfl ?_
  have hL51 : ∀ (n8 : Nat) (m14 : eM) (i10 : Int) (i12 : Int), SI g m14 → Fr l_31t 0 0 g μ m14 → (0 ≤ i10 ∧ i10 ≤ 50) → (-1 ≤ i12 ∧ i12 ≤ 49) → m14.1 a0 7 = co → m14.1 a0 6 = de → m14.1 a0 0 = ((v1 : Nat) : Int) → i10 = 2 * (i12 + 1) + (fcnt (fun x => m14.1 v1 x - 1) (i12 + 1).toNat : Int) → i10 ≤ a1 → n8 = (i12 + 1).toNat → ex_q (dt_fg L ρ) rc (d + 3, (31, 51, [some (eR a0), some (eI (a1)), some (eI (i10)), some (eI (i12))], []), f :: F, m14) := by
    intro n8
    induction n8 using Nat.strongRecOn with
    | _ n8 ih9 =>
    intro m14 i10 i12 I15 F16 b11 b13 k17 k18 k19 r20 r21 hn22
    refine w_t (np := 52) (l2 := [some (eR a0), some (eI (a1)), some (eI (i10)), some (eI (i12))]) (s2 := [eI (i12)]) rfl rfl rfl ?_
    refine b_ilt (t1 := 96) (t2 := 55) rfl rfl rfl (ev_w_in (by omega) (by omega)) (fun g23 => ?_) (fun g23 => ?_)
    · have b24 : -1 ≤ i12 ∧ i12 ≤ -1 := by omega
      refine w_t (np := 97) (l2 := [some (eR a0), some (eI (a1)), some (eI (i10)), some (eI (i12))]) (s2 := [eR a0]) rfl (s_an rfl (pos_g I15 gA0 (by decide))) rfl ?_
      refine w_t (np := 98) (l2 := [some (eR a0), some (eI (a1)), some (eI (i10)), some (eI (i12))]) (s2 := [eI (a1), eR a0]) rfl rfl rfl ?_
      refine j_pf (np := 101) (w := a1) rfl rfl I15 gA0 (by decide) (n := 8) rfl rfl (hO_i (lo := 0) (hi := 50) rfl (by omega)) ?_
      intro m24 I25 W26
      have F27 : Fr l_31t 0 0 g μ m24 := F16.w W26 gA0 rfl
      refine w_t (np := 102) (l2 := [some (eR a0), some (eI (a1)), some (eI (i10)), some (eI (i12))]) (s2 := [eR a0]) rfl (s_an rfl (pos_g I25 gA0 (by decide))) rfl ?_
      refine w_t (np := 103) (l2 := [some (eR a0), some (eI (a1)), some (eI (i10)), some (eI (i12))]) (s2 := [eR a0, eR a0]) rfl rfl rfl ?_
      refine w_gf (np := 106) (v := eI (de)) rfl rfl (I25.kd gA0 (by decide) (n := 8) rfl) (by rw [(W26.slot k18 (by decide))]; rfl) ?_
      refine w_t (np := 107) (l2 := [some (eR a0), some (eI (a1)), some (eI (i10)), some (eI (i12))]) (s2 := [eI (1), eI (de), eR a0]) rfl rfl rfl ?_
      obtain ⟨v28, e29⟩ : ∃ zz : Int, zz = (de) + (1) := ⟨_, rfl⟩
      have b30 : 1 ≤ v28 ∧ v28 ≤ 6 := by omega
      refine w_t (np := 108) (l2 := [some (eR a0), some (eI (a1)), some (eI (i10)), some (eI (i12))]) (s2 := [eI (v28), eR a0]) rfl (b_iadd (by rw [← e29]; exact ev_w_in (by omega) (by omega))) rfl ?_
      refine j_pf (np := 111) (w := v28) rfl rfl I25 gA0 (by decide) (n := 8) rfl rfl (hO_i (lo := 0) (hi := 5) rfl (by omega)) ?_
      intro m31 I32 W33
      have F34 : Fr l_31t 0 0 g μ m31 := F27.w W33 gA0 rfl
      exact v_rv rfl rfl (K m31 (a1) (v28) I32 F34 (W33.slot W26.at (by decide)) W33.at (by omega) (by omega))
    · have b24 : 0 ≤ i12 ∧ i12 ≤ 49 := by omega
      refine w_t (np := 56) (l2 := [some (eR a0), some (eI (a1)), some (eI (i10)), some (eI (i12))]) (s2 := [eI (i10)]) rfl rfl rfl ?_
      refine w_t (np := 57) (l2 := [some (eR a0), some (eI (a1)), some (eI (i10)), some (eI (i12))]) (s2 := [eI (2), eI (i10)]) rfl rfl rfl ?_
      refine w_t (np := 58) (l2 := [some (eR a0), some (eI (a1)), some (eI (i10)), some (eI (i12))]) (s2 := [eR a0, eI (2), eI (i10)]) rfl (s_an rfl (pos_g I15 gA0 (by decide))) rfl ?_
      refine w_gf (np := 61) (v := eR v1) rfl rfl (I15.kd gA0 (by decide) (n := 8) rfl) (by rw [k19]; rfl) ?_
      refine w_t (np := 62) (l2 := [some (eR a0), some (eI (a1)), some (eI (i10)), some (eI (i12))]) (s2 := [eI (i12), eR v1, eI (2), eI (i10)]) rfl rfl rfl ?_
      refine j_al (np := 63) rfl rfl I15 b3 (by decide) (n := 50) rfl rfl (lo := 0) (hi := 1) (fun _ => rfl) (by omega) (by omega) ?_
      intro v24 e25 b26
      obtain ⟨v27, e28⟩ : ∃ zz : Int, zz = (2) + (v24) := ⟨_, rfl⟩
      have b29 : 2 ≤ v27 ∧ v27 ≤ 3 := by omega
      refine w_t (np := 64) (l2 := [some (eR a0), some (eI (a1)), some (eI (i10)), some (eI (i12))]) (s2 := [eI (v27), eI (i10)]) rfl (b_iadd (by rw [← e28]; exact ev_w_in (by omega) (by omega))) rfl ?_
      obtain ⟨v30, e31⟩ : ∃ zz : Int, zz = (i10) - (v27) := ⟨_, rfl⟩
      have b32 : -3 ≤ v30 ∧ v30 ≤ 48 := by omega
      refine w_t (np := 65) (l2 := [some (eR a0), some (eI (a1)), some (eI (i10)), some (eI (i12))]) (s2 := [eI (v30)]) rfl (b_isub (by rw [← e31]; exact ev_w_in (by omega) (by omega))) rfl ?_
      refine w_t (np := 66) (l2 := [some (eR a0), some (eI (a1)), some (eI (v30)), some (eI (i12))]) (s2 := []) rfl rfl rfl ?_
      have h33 := ca_p (by omega) r20 e25 (show 0 ≤ v24 ∧ v24 ≤ 1 by omega)
      refine w_t (np := 67) (l2 := [some (eR a0), some (eI (a1)), some (eI (v30)), some (eI (i12))]) (s2 := [eR a0]) rfl (s_an rfl (pos_g I15 gA0 (by decide))) rfl ?_
      refine w_gf (np := 70) (v := eR v1) rfl rfl (I15.kd gA0 (by decide) (n := 8) rfl) (by rw [k19]; rfl) ?_
      refine w_t (np := 71) (l2 := [some (eR a0), some (eI (a1)), some (eI (v30)), some (eI (i12))]) (s2 := [eI (i12), eR v1]) rfl rfl rfl ?_
      refine j_al (np := 72) rfl rfl I15 b3 (by decide) (n := 50) rfl rfl (lo := 0) (hi := 1) (fun _ => rfl) (by omega) (by omega) ?_
      intro v34 e35 b36
      have e35 := e35.symm.trans e25
      rw [e35]
      refine b_ine (t1 := 84) (t2 := 75) rfl rfl rfl (ev_w_in (by omega) (by omega)) (fun g37 => ?_) (fun g37 => ?_)
      · have b38 : 1 ≤ v24 ∧ v24 ≤ 1 := by omega
        refine w_t (np := 85) (l2 := [some (eR a0), some (eI (a1)), some (eI (v30)), some (eI (i12))]) (s2 := [eR a0]) rfl (s_an rfl (pos_g I15 gA0 (by decide))) rfl ?_
        refine w_t (np := 86) (l2 := [some (eR a0), some (eI (a1)), some (eI (v30)), some (eI (i12))]) (s2 := [eI (i12), eR a0]) rfl rfl rfl ?_
        refine w_t (np := 87) (l2 := [some (eR a0), some (eI (a1)), some (eI (v30)), some (eI (i12))]) (s2 := [eI (v30), eI (i12), eR a0]) rfl rfl rfl ?_
        refine w_cw (np := 90) (as := [eI (i12), eI (v30)]) (l2 := [some (eR a0), some (eI (i12)), some (eI (v30)), none, none, none, none, none, none, none, none, none, none]) (rest := []) rfl rfl rfl (Nat.ble_eq.mp rfl) rfl rfl rfl (I15.kd gA0 (by decide) (n := 8) rfl) rfl ?_
        refine s_33 (a1 := i12) (a2 := v30) I15 gA0 (by omega) (by omega) ?_
        intro m38 I39 F40 h41
        have F42 : Fr l_31t 0 0 g μ m38 := F16.t F40 rfl
        show ex_q (dt_fg L ρ) rc (d + 3, (31, 90, [some (eR a0), some (eI (a1)), some (eI (v30)), some (eI (i12))], []), f :: F, m38)
        obtain ⟨v43, e44⟩ : ∃ zz : Int, zz = (i12) + (-1) := ⟨_, rfl⟩
        have b45 : -1 ≤ v43 ∧ v43 ≤ 48 := by omega
        refine w_t (np := 93) (l2 := [some (eR a0), some (eI (a1)), some (eI (v30)), some (eI (v43))]) (s2 := []) rfl (b_iinc rfl (by rw [← e44]; exact ev_w_in (by omega) (by omega)) rfl) rfl ?_
        refine w_go (t1 := 51) rfl rfl ?_
        exact ih9 ((v43) + 1).toNat (by omega) m38 (v30) (v43) I39 F42 (by omega) (by omega) (F40.k k17 gA0 (by decide) rfl) (F40.k k18 gA0 (by decide) rfl) (F40.k k19 gA0 (by decide) rfl)   (ca_b (by omega) h33 (by omega) (kq_r h41 k19) (by omega)) (by omega) rfl
      · have b38 : 0 ≤ v24 ∧ v24 ≤ 0 := by omega
        refine w_t (np := 76) (l2 := [some (eR a0), some (eI (a1)), some (eI (v30)), some (eI (i12))]) (s2 := [eR a0]) rfl (s_an rfl (pos_g I15 gA0 (by decide))) rfl ?_
        refine w_t (np := 77) (l2 := [some (eR a0), some (eI (a1)), some (eI (v30)), some (eI (i12))]) (s2 := [eI (i12), eR a0]) rfl rfl rfl ?_
        refine w_t (np := 78) (l2 := [some (eR a0), some (eI (a1)), some (eI (v30)), some (eI (i12))]) (s2 := [eI (v30), eI (i12), eR a0]) rfl rfl rfl ?_
        refine w_cw (np := 81) (as := [eI (i12), eI (v30)]) (l2 := [some (eR a0), some (eI (i12)), some (eI (v30)), none, none, none, none, none, none, none]) (rest := []) rfl rfl rfl (Nat.ble_eq.mp rfl) rfl rfl rfl (I15.kd gA0 (by decide) (n := 8) rfl) rfl ?_
        refine s_32 (a1 := i12) (a2 := v30) I15 gA0 (by omega) (by omega) ?_
        intro m38 I39 F40 h41
        have F42 : Fr l_31t 0 0 g μ m38 := F16.t F40 rfl
        show ex_q (dt_fg L ρ) rc (d + 3, (31, 81, [some (eR a0), some (eI (a1)), some (eI (v30)), some (eI (i12))], []), f :: F, m38)
        refine w_go (t1 := 90) rfl rfl ?_
        obtain ⟨v43, e44⟩ : ∃ zz : Int, zz = (i12) + (-1) := ⟨_, rfl⟩
        have b45 : -1 ≤ v43 ∧ v43 ≤ 48 := by omega
        refine w_t (np := 93) (l2 := [some (eR a0), some (eI (a1)), some (eI (v30)), some (eI (v43))]) (s2 := []) rfl (b_iinc rfl (by rw [← e44]; exact ev_w_in (by omega) (by omega)) rfl) rfl ?_
        refine w_go (t1 := 51) rfl rfl ?_
        exact ih9 ((v43) + 1).toNat (by omega) m38 (v30) (v43) I39 F42 (by omega) (by omega) (F40.k k17 gA0 (by decide) rfl) (F40.k k18 gA0 (by decide) rfl) (F40.k k19 gA0 (by decide) rfl)   (ca_b (by omega) h33 (by omega) (kq_r h41 k19) (by omega)) (by omega) rfl
  exact hL51 _ μ (a1) (v5) hI F0 (by omega) (by omega) h_co h_de e2   (ca_0 hp1 e2 (by omega)) (by omega) rfl
def l_31u : List Nat := [2304, 2560, 2816, 2048, 1799, 1800, 4096, 3328, 4352, 3584, 3843, 3075]
theorem s_31u {L : Nat} {ρ : Nat → Int} {rc : eQ} {d : Nat} {f : eFr} {F : List eFr} {μ : eM} {g : Nat → Nat} {a0 : Nat} {a1 : Int} {co : Int} {de : Int} (hI : SI g μ) (gA0 : g a0 = 7) (bA1 : 0 ≤ a1 ∧ a1 ≤ 890) (h_co : μ.1 a0 7 = co) (h_de : μ.1 a0 6 = de) (hp0 : de ≤ 4) (hp1 : a1 = 2 * co + (fcnt (fun x => μ.1 (μ.1 a0 0).toNat x - 1) (co).toNat : Int)) (K : ∀ (μ2 : eM) (co2 : Int) (de2 : Int), SI g μ2 → Fr l_31u 0 0 g μ μ2 → μ2.1 a0 7 = co2 → μ2.1 a0 6 = de2 → (co2 = a1) → (de2 = de + 1) → ex_q (dt_fg L ρ) rc (d + 4, (f.1, f.2.1, f.2.2.1, f.2.2.2), F, μ2)) : ex_q (dt_fg L ρ) rc (d + 3, (31, 42, [some (eR a0), some (eI (a1)), none, none], []), f :: F, μ) := by
  have F0 : Fr l_31u 0 0 g μ μ := Fr.r
  have b_co : 0 ≤ co ∧ co ≤ 890 := by
    rw [← h_co]
    exact hI.int gA0 (by decide) (n := 8) rfl (by decide) rfl
  have b_de : 0 ≤ de ∧ de ≤ 5 := by
    rw [← h_de]
    exact hI.int gA0 (by decide) (n := 8) rfl (by decide) rfl
  obtain ⟨v1, e2, b3, z4⟩ := hI.ref (k := 0) gA0 (by decide) (n := 8) rfl (by decide) rfl
  have b3 : g v1 = 8 := Nat.eq_of_beq_eq_true b3
  refine w_t (np := 43) (l2 := [some (eR a0), some (eI (a1)), none, none]) (s2 := [eI (a1)]) rfl rfl rfl ?_
  refine w_t (np := 44) (l2 := [some (eR a0), some (eI (a1)), some (eI (a1)), none]) (s2 := []) rfl rfl rfl ?_
  refine w_t (np := 45) (l2 := [some (eR a0), some (eI (a1)), some (eI (a1)), none]) (s2 := [eR a0]) rfl (s_an rfl (pos_g hI gA0 (by decide))) rfl ?_
  refine w_gf (np := 48) (v := eI (co)) rfl rfl (hI.kd gA0 (by decide) (n := 8) rfl) (by rw [h_co]; rfl) ?_
  refine w_t (np := 49) (l2 := [some (eR a0), some (eI (a1)), some (eI (a1)), none]) (s2 := [eI (1), eI (co)]) rfl rfl rfl ?_
  obtain ⟨v5, e6⟩ : ∃ zz : Int, zz = (co) - (1) := ⟨_, rfl⟩
  have b7 : -1 ≤ v5 ∧ v5 ≤ 889 := by omega
  refine w_t (np := 50) (l2 := [some (eR a0), some (eI (a1)), some (eI (a1)), none]) (s2 := [eI (v5)]) rfl (b_isub (by rw [← e6]; exact ev_w_in (by omega) (by omega))) rfl ?_
  refine w_t (np := 51) (l2 := [some (eR a0), some (eI (a1)), some (eI (a1)), some (eI (v5))]) (s2 := []) rfl rfl rfl ?_
  have hL51 : ∀ (n8 : Nat) (m14 : eM) (i10 : Int) (i12 : Int), SI g m14 → Fr l_31u 0 0 g μ m14 → (0 ≤ i10 ∧ i10 ≤ 890) → (-1 ≤ i12 ∧ i12 ≤ 889) → m14.1 a0 7 = co → m14.1 a0 6 = de → m14.1 a0 0 = ((v1 : Nat) : Int) → i10 = 2 * (i12 + 1) + (fcnt (fun x => m14.1 v1 x - 1) (i12 + 1).toNat : Int) → i10 ≤ a1 → n8 = (i12 + 1).toNat → ex_q (dt_fg L ρ) rc (d + 3, (31, 51, [some (eR a0), some (eI (a1)), some (eI (i10)), some (eI (i12))], []), f :: F, m14) := by
    intro n8
    induction n8 using Nat.strongRecOn with
    | _ n8 ih9 =>
    intro m14 i10 i12 I15 F16 b11 b13 k17 k18 k19 r20 r21 hn22
    refine w_t (np := 52) (l2 := [some (eR a0), some (eI (a1)), some (eI (i10)), some (eI (i12))]) (s2 := [eI (i12)]) rfl rfl rfl ?_
    refine b_ilt (t1 := 96) (t2 := 55) rfl rfl rfl (ev_w_in (by omega) (by omega)) (fun g23 => ?_) (fun g23 => ?_)
    · have b24 : -1 ≤ i12 ∧ i12 ≤ -1 := by omega
      refine w_t (np := 97) (l2 := [some (eR a0), some (eI (a1)), some (eI (i10)), some (eI (i12))]) (s2 := [eR a0]) rfl (s_an rfl (pos_g I15 gA0 (by decide))) rfl ?_
      refine w_t (np := 98) (l2 := [some (eR a0), some (eI (a1)), some (eI (i10)), some (eI (i12))]) (s2 := [eI (a1), eR a0]) rfl rfl rfl ?_
      refine j_pf (np := 101) (w := a1) rfl rfl I15 gA0 (by decide) (n := 8) rfl rfl (hO_i (lo := 0) (hi := 890) rfl (by omega)) ?_
      intro m24 I25 W26
      have F27 : Fr l_31u 0 0 g μ m24 := F16.w W26 gA0 rfl
      refine w_t (np := 102) (l2 := [some (eR a0), some (eI (a1)), some (eI (i10)), some (eI (i12))]) (s2 := [eR a0]) rfl (s_an rfl (pos_g I25 gA0 (by decide))) rfl ?_
      refine w_t (np := 103) (l2 := [some (eR a0), some (eI (a1)), some (eI (i10)), some (eI (i12))]) (s2 := [eR a0, eR a0]) rfl rfl rfl ?_
      refine w_gf (np := 106) (v := eI (de)) rfl rfl (I25.kd gA0 (by decide) (n := 8) rfl) (by rw [(W26.slot k18 (by decide))]; rfl) ?_
      refine w_t (np := 107) (l2 := [some (eR a0), some (eI (a1)), some (eI (i10)), some (eI (i12))]) (s2 := [eI (1), eI (de), eR a0]) rfl rfl rfl ?_
      obtain ⟨v28, e29⟩ : ∃ zz : Int, zz = (de) + (1) := ⟨_, rfl⟩
      have b30 : 1 ≤ v28 ∧ v28 ≤ 6 := by omega
      refine w_t (np := 108) (l2 := [some (eR a0), some (eI (a1)), some (eI (i10)), some (eI (i12))]) (s2 := [eI (v28), eR a0]) rfl (b_iadd (by rw [← e29]; exact ev_w_in (by omega) (by omega))) rfl ?_
      refine j_pf (np := 111) (w := v28) rfl rfl I25 gA0 (by decide) (n := 8) rfl rfl (hO_i (lo := 0) (hi := 5) rfl (by omega)) ?_
      intro m31 I32 W33
      have F34 : Fr l_31u 0 0 g μ m31 := F27.w W33 gA0 rfl
      exact v_rv rfl rfl (K m31 (a1) (v28) I32 F34 (W33.slot W26.at (by decide)) W33.at (by omega) (by omega))
    · have b24 : 0 ≤ i12 ∧ i12 ≤ 889 := by omega
      refine w_t (np := 56) (l2 := [some (eR a0), some (eI (a1)), some (eI (i10)), some (eI (i12))]) (s2 := [eI (i10)]) rfl rfl rfl ?_
      refine w_t (np := 57) (l2 := [some (eR a0), some (eI (a1)), some (eI (i10)), some (eI (i12))]) (s2 := [eI (2), eI (i10)]) rfl rfl rfl ?_
      refine w_t (np := 58) (l2 := [some (eR a0), some (eI (a1)), some (eI (i10)), some (eI (i12))]) (s2 := [eR a0, eI (2), eI (i10)]) rfl (s_an rfl (pos_g I15 gA0 (by decide))) rfl ?_
      refine w_gf (np := 61) (v := eR v1) rfl rfl (I15.kd gA0 (by decide) (n := 8) rfl) (by rw [k19]; rfl) ?_
      refine w_t (np := 62) (l2 := [some (eR a0), some (eI (a1)), some (eI (i10)), some (eI (i12))]) (s2 := [eI (i12), eR v1, eI (2), eI (i10)]) rfl rfl rfl ?_
      refine j_al (np := 63) rfl rfl I15 b3 (by decide) (n := 890) rfl rfl (lo := 0) (hi := 1) (fun _ => rfl) (by omega) (by omega) ?_
      intro v24 e25 b26
      obtain ⟨v27, e28⟩ : ∃ zz : Int, zz = (2) + (v24) := ⟨_, rfl⟩
      have b29 : 2 ≤ v27 ∧ v27 ≤ 3 := by omega
      refine w_t (np := 64) (l2 := [some (eR a0), some (eI (a1)), some (eI (i10)), some (eI (i12))]) (s2 := [eI (v27), eI (i10)]) rfl (b_iadd (by rw [← e28]; exact ev_w_in (by omega) (by omega))) rfl ?_
      obtain ⟨v30, e31⟩ : ∃ zz : Int, zz = (i10) - (v27) := ⟨_, rfl⟩
      have b32 : -3 ≤ v30 ∧ v30 ≤ 888 := by omega
      refine w_t (np := 65) (l2 := [some (eR a0), some (eI (a1)), some (eI (i10)), some (eI (i12))]) (s2 := [eI (v30)]) rfl (b_isub (by rw [← e31]; exact ev_w_in (by omega) (by omega))) rfl ?_
      refine w_t (np := 66) (l2 := [some (eR a0), some (eI (a1)), some (eI (v30)), some (eI (i12))]) (s2 := []) rfl rfl rfl ?_
      have h33 := ca_p (by omega) r20 e25 (show 0 ≤ v24 ∧ v24 ≤ 1 by omega)
      refine w_t (np := 67) (l2 := [some (eR a0), some (eI (a1)), some (eI (v30)), some (eI (i12))]) (s2 := [eR a0]) rfl (s_an rfl (pos_g I15 gA0 (by decide))) rfl ?_
      refine w_gf (np := 70) (v := eR v1) rfl rfl (I15.kd gA0 (by decide) (n := 8) rfl) (by rw [k19]; rfl) ?_
      refine w_t (np := 71) (l2 := [some (eR a0), some (eI (a1)), some (eI (v30)), some (eI (i12))]) (s2 := [eI (i12), eR v1]) rfl rfl rfl ?_
      refine j_al (np := 72) rfl rfl I15 b3 (by decide) (n := 890) rfl rfl (lo := 0) (hi := 1) (fun _ => rfl) (by omega) (by omega) ?_
      intro v34 e35 b36
      have e35 := e35.symm.trans e25
      rw [e35]
      refine b_ine (t1 := 84) (t2 := 75) rfl rfl rfl (ev_w_in (by omega) (by omega)) (fun g37 => ?_) (fun g37 => ?_)
      · have b38 : 1 ≤ v24 ∧ v24 ≤ 1 := by omega
        refine w_t (np := 85) (l2 := [some (eR a0), some (eI (a1)), some (eI (v30)), some (eI (i12))]) (s2 := [eR a0]) rfl (s_an rfl (pos_g I15 gA0 (by decide))) rfl ?_
        refine w_t (np := 86) (l2 := [some (eR a0), some (eI (a1)), some (eI (v30)), some (eI (i12))]) (s2 := [eI (i12), eR a0]) rfl rfl rfl ?_
        refine w_t (np := 87) (l2 := [some (eR a0), some (eI (a1)), some (eI (v30)), some (eI (i12))]) (s2 := [eI (v30), eI (i12), eR a0]) rfl rfl rfl ?_
        refine w_cw (np := 90) (as := [eI (i12), eI (v30)]) (l2 := [some (eR a0), some (eI (i12)), some (eI (v30)), none, none, none, none, none, none, none, none, none, none]) (rest := []) rfl rfl rfl (Nat.ble_eq.mp rfl) rfl rfl rfl (I15.kd gA0 (by decide) (n := 8) rfl) rfl ?_
        refine s_33_2 (a1 := i12) (a2 := v30) I15 gA0 (by omega) (by omega) ?_
        intro m38 I39 F40 h41
        have F42 : Fr l_31u 0 0 g μ m38 := F16.t F40 rfl
        show ex_q (dt_fg L ρ) rc (d + 3, (31, 90, [some (eR a0), some (eI (a1)), some (eI (v30)), some (eI (i12))], []), f :: F, m38)
        obtain ⟨v43, e44⟩ : ∃ zz : Int, zz = (i12) + (-1) := ⟨_, rfl⟩
        have b45 : -1 ≤ v43 ∧ v43 ≤ 888 := by omega
        refine w_t (np := 93) (l2 := [some (eR a0), some (eI (a1)), some (eI (v30)), some (eI (v43))]) (s2 := []) rfl (b_iinc rfl (by rw [← e44]; exact ev_w_in (by omega) (by omega)) rfl) rfl ?_
        refine w_go (t1 := 51) rfl rfl ?_
        exact ih9 ((v43) + 1).toNat (by omega) m38 (v30) (v43) I39 F42 (by omega) (by omega) (F40.k k17 gA0 (by decide) rfl) (F40.k k18 gA0 (by decide) rfl) (F40.k k19 gA0 (by decide) rfl)   (ca_b (by omega) h33 (by omega) (kq_r h41 k19) (by omega)) (by omega) rfl
      · have b38 : 0 ≤ v24 ∧ v24 ≤ 0 := by omega
        refine w_t (np := 76) (l2 := [some (eR a0), some (eI (a1)), some (eI (v30)), some (eI (i12))]) (s2 := [eR a0]) rfl (s_an rfl (pos_g I15 gA0 (by decide))) rfl ?_
        refine w_t (np := 77) (l2 := [some (eR a0), some (eI (a1)), some (eI (v30)), some (eI (i12))]) (s2 := [eI (i12), eR a0]) rfl rfl rfl ?_
        refine w_t (np := 78) (l2 := [some (eR a0), some (eI (a1)), some (eI (v30)), some (eI (i12))]) (s2 := [eI (v30), eI (i12), eR a0]) rfl rfl rfl ?_
        refine w_cw (np := 81) (as := [eI (i12), eI (v30)]) (l2 := [some (eR a0), some (eI (i12)), some (eI (v30)), none, none, none, none, none, none, none]) (rest := []) rfl rfl rfl (Nat.ble_eq.mp rfl) rfl rfl rfl (I15.kd gA0 (by decide) (n := 8) rfl) rfl ?_
        refine s_32_2 (a1 := i12) (a2 := v30) I15 gA0 (by omega) (by omega) ?_
        intro m38 I39 F40 h41
        have F42 : Fr l_31u 0 0 g μ m38 := F16.t F40 rfl
        show ex_q (dt_fg L ρ) rc (d + 3, (31, 81, [some (eR a0), some (eI (a1)), some (eI (v30)), some (eI (i12))], []), f :: F, m38)
        refine w_go (t1 := 90) rfl rfl ?_
        obtain ⟨v43, e44⟩ : ∃ zz : Int, zz = (i12) + (-1) := ⟨_, rfl⟩
        have b45 : -1 ≤ v43 ∧ v43 ≤ 888 := by omega
        refine w_t (np := 93) (l2 := [some (eR a0), some (eI (a1)), some (eI (v30)), some (eI (v43))]) (s2 := []) rfl (b_iinc rfl (by rw [← e44]; exact ev_w_in (by omega) (by omega)) rfl) rfl ?_
        refine w_go (t1 := 51) rfl rfl ?_
        exact ih9 ((v43) + 1).toNat (by omega) m38 (v30) (v43) I39 F42 (by omega) (by omega) (F40.k k17 gA0 (by decide) rfl) (F40.k k18 gA0 (by decide) rfl) (F40.k k19 gA0 (by decide) rfl)   (ca_b (by omega) h33 (by omega) (kq_r h41 k19) (by omega)) (by omega) rfl
  exact hL51 _ μ (a1) (v5) hI F0 (by omega) (by omega) h_co h_de e2   (ca_0 hp1 e2 (by omega)) (by omega) rfl
