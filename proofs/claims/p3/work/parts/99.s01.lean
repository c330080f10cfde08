/-! methods, walked -/
def l_29 : List Nat := [1280]
theorem s_29 {L : Nat} {ρ : Nat → Int} {rc : eQ} {d : Nat} {f : eFr} {F : List eFr} {μ : eM} {g : Nat → Nat} {a0 : Nat} {a1 : Int} {a2 : Int} {a3 : Int} {a4 : Int} (hI : SI g μ) (gA0 : g a0 = 2) (bA1 : 0 ≤ a1 ∧ a1 ≤ 49) (bA2 : 0 ≤ a2 ∧ a2 ≤ 511) (bA3 : 0 ≤ a3 ∧ a3 ≤ 511) (bA4 : 0 ≤ a4 ∧ a4 ≤ 511) (K : ∀ (μ2 : eM), SI g μ2 → Fr l_29 0 0 g μ μ2 → ex_q (dt_fg L ρ) rc (d + 1, (f.1, f.2.1, f.2.2.1, f.2.2.2), F, μ2)) : ex_q (dt_fg L ρ) rc (d, (29, 0, [some (eR a0), some (eI (a1)), some (eI (a2)), some (eI (a3)), some (eI (a4))], []), f :: F, μ) := by
  have F0 : Fr l_29 0 0 g μ μ := Fr.r
  refine w_t (np := 1) (l2 := [some (eR a0), some (eI (a1)), some (eI (a2)), some (eI (a3)), some (eI (a4))]) (s2 := [eR a0]) rfl (s_an rfl (pos_g hI gA0 (by decide))) rfl ?_
  refine j_gr (np := 4) rfl rfl hI gA0 (by decide) (n := 8) rfl rfl rfl ?_
  intro v1 e2 b3 z4
  have b3 : g v1 = 5 := Nat.eq_of_beq_eq_true b3
  refine w_t (np := 5) (l2 := [some (eR a0), some (eI (a1)), some (eI (a2)), some (eI (a3)), some (eI (a4))]) (s2 := [eI (3), eR v1]) rfl rfl rfl ?_
  refine w_t (np := 6) (l2 := [some (eR a0), some (eI (a1)), some (eI (a2)), some (eI (a3)), some (eI (a4))]) (s2 := [eI (a1), eI (3), eR v1]) rfl rfl rfl ?_
  obtain ⟨v5, e6⟩ : ∃ zz : Int, zz = (3) * (a1) := ⟨_, rfl⟩
  have b7 : 0 ≤ v5 ∧ v5 ≤ 147 := by omega
  refine w_t (np := 7) (l2 := [some (eR a0), some (eI (a1)), some (eI (a2)), some (eI (a3)), some (eI (a4))]) (s2 := [eI (v5), eR v1]) rfl (b_imul (by rw [← e6]; exact ev_w_in (by omega) (by omega))) rfl ?_
  refine w_t (np := 8) (l2 := [some (eR a0), some (eI (a1)), some (eI (a2)), some (eI (a3)), some (eI (a4))]) (s2 := [eI (a2), eI (v5), eR v1]) rfl rfl rfl ?_
  refine j_as (np := 9) rfl rfl hI b3 (by decide) (n := 150) rfl rfl (lo := 0) (hi := 511) (fun _ => rfl) (by omega) (by omega) (by omega) ?_
  intro m8 I9 W10
  have F11 : Fr l_29 0 0 g μ m8 := F0.v W10 b3 rfl rfl
  refine w_t (np := 10) (l2 := [some (eR a0), some (eI (a1)), some (eI (a2)), some (eI (a3)), some (eI (a4))]) (s2 := [eR a0]) rfl (s_an rfl (pos_g I9 gA0 (by decide))) rfl ?_
  refine w_gf (np := 13) (v := eR v1) rfl rfl (I9.kd gA0 (by decide) (n := 8) rfl) (by rw [(W10.addr e2 b3 gA0 (by decide))]; rfl) ?_
  refine w_t (np := 14) (l2 := [some (eR a0), some (eI (a1)), some (eI (a2)), some (eI (a3)), some (eI (a4))]) (s2 := [eI (3), eR v1]) rfl rfl rfl ?_
  refine w_t (np := 15) (l2 := [some (eR a0), some (eI (a1)), some (eI (a2)), some (eI (a3)), some (eI (a4))]) (s2 := [eI (a1), eI (3), eR v1]) rfl rfl rfl ?_
  obtain ⟨v12, e13⟩ : ∃ zz : Int, zz = (3) * (a1) := ⟨_, rfl⟩
  have b14 : 0 ≤ v12 ∧ v12 ≤ 147 := by omega
  refine w_t (np := 16) (l2 := [some (eR a0), some (eI (a1)), some (eI (a2)), some (eI (a3)), some (eI (a4))]) (s2 := [eI (v12), eR v1]) rfl (b_imul (by rw [← e13]; exact ev_w_in (by omega) (by omega))) rfl ?_
  refine w_t (np := 17) (l2 := [some (eR a0), some (eI (a1)), some (eI (a2)), some (eI (a3)), some (eI (a4))]) (s2 := [eI (1), eI (v12), eR v1]) rfl rfl rfl ?_
  obtain ⟨v15, e16⟩ : ∃ zz : Int, zz = (v12) + (1) := ⟨_, rfl⟩
  have b17 : 1 ≤ v15 ∧ v15 ≤ 148 := by omega
  refine w_t (np := 18) (l2 := [some (eR a0), some (eI (a1)), some (eI (a2)), some (eI (a3)), some (eI (a4))]) (s2 := [eI (v15), eR v1]) rfl (b_iadd (by rw [← e16]; exact ev_w_in (by omega) (by omega))) rfl ?_
  refine w_t (np := 19) (l2 := [some (eR a0), some (eI (a1)), some (eI (a2)), some (eI (a3)), some (eI (a4))]) (s2 := [eI (a3), eI (v15), eR v1]) rfl rfl rfl ?_
  refine j_as (np := 20) rfl rfl I9 b3 (by decide) (n := 150) rfl rfl (lo := 0) (hi := 511) (fun _ => rfl) (by omega) (by omega) (by omega) ?_
  intro m18 I19 W20
  have F21 : Fr l_29 0 0 g μ m18 := F11.v W20 b3 rfl rfl
  refine w_t (np := 21) (l2 := [some (eR a0), some (eI (a1)), some (eI (a2)), some (eI (a3)), some (eI (a4))]) (s2 := [eR a0]) rfl (s_an rfl (pos_g I19 gA0 (by decide))) rfl ?_
  refine w_gf (np := 24) (v := eR v1) rfl rfl (I19.kd gA0 (by decide) (n := 8) rfl) (by rw [(W20.addr (W10.addr e2 b3 gA0 (by decide)) b3 gA0 (by decide))]; rfl) ?_
  refine w_t (np := 25) (l2 := [some (eR a0), some (eI (a1)), some (eI (a2)), some (eI (a3)), some (eI (a4))]) (s2 := [eI (3), eR v1]) rfl rfl rfl ?_
  refine w_t (np := 26) (l2 := [some (eR a0), some (eI (a1)), some (eI (a2)), some (eI (a3)), some (eI (a4))]) (s2 := [eI (a1), eI (3), eR v1]) rfl rfl rfl ?_
  obtain ⟨v22, e23⟩ : ∃ zz : Int, zz = (3) * (a1) := ⟨_, rfl⟩
  have b24 : 0 ≤ v22 ∧ v22 ≤ 147 := by omega
  refine w_t (np := 27) (l2 := [some (eR a0), some (eI (a1)), some (eI (a2)), some (eI (a3)), some (eI (a4))]) (s2 := [eI (v22), eR v1]) rfl (b_imul (by rw [← e23]; exact ev_w_in (by omega) (by omega))) rfl ?_
  refine w_t (np := 28) (l2 := [some (eR a0), some (eI (a1)), some (eI (a2)), some (eI (a3)), some (eI (a4))]) (s2 := [eI (2), eI (v22), eR v1]) rfl rfl rfl ?_
  obtain ⟨v25, e26⟩ : ∃ zz : Int, zz = (v22) + (2) := ⟨_, rfl⟩
  have b27 : 2 ≤ v25 ∧ v25 ≤ 149 := by omega
  refine w_t (np := 29) (l2 := [some (eR a0), some (eI (a1)), some (eI (a2)), some (eI (a3)), some (eI (a4))]) (s2 := [eI (v25), eR v1]) rfl (b_iadd (by rw [← e26]; exact ev_w_in (by omega) (by omega))) rfl ?_
  refine w_t (np := 31) (l2 := [some (eR a0), some (eI (a1)), some (eI (a2)), some (eI (a3)), some (eI (a4))]) (s2 := [eI (a4), eI (v25), eR v1]) rfl rfl rfl ?_
  refine j_as (np := 32) rfl rfl I19 b3 (by decide) (n := 150) rfl rfl (lo := 0) (hi := 511) (fun _ => rfl) (by omega) (by omega) (by omega) ?_
  intro m28 I29 W30
  have F31 : Fr l_29 0 0 g μ m28 := F21.v W30 b3 rfl rfl
  exact v_rv rfl rfl (K m28 I29 F31)
def l_29_2 : List Nat := [2560]
theorem s_29_2 {L : Nat} {ρ : Nat → Int} {rc : eQ} {d : Nat} {f : eFr} {F : List eFr} {μ : eM} {g : Nat → Nat} {a0 : Nat} {a1 : Int} {a2 : Int} {a3 : Int} {a4 : Int} (hI : SI g μ) (gA0 : g a0 = 7) (bA1 : 0 ≤ a1 ∧ a1 ≤ 889) (bA2 : 0 ≤ a2 ∧ a2 ≤ 511) (bA3 : 0 ≤ a3 ∧ a3 ≤ 511) (bA4 : 0 ≤ a4 ∧ a4 ≤ 511) (K : ∀ (μ2 : eM), SI g μ2 → Fr l_29_2 0 0 g μ μ2 → ex_q (dt_fg L ρ) rc (d + 1, (f.1, f.2.1, f.2.2.1, f.2.2.2), F, μ2)) : ex_q (dt_fg L ρ) rc (d, (29, 0, [some (eR a0), some (eI (a1)), some (eI (a2)), some (eI (a3)), some (eI (a4))], []), f :: F, μ) := by
  have F0 : Fr l_29_2 0 0 g μ μ := Fr.r
  refine w_t (np := 1) (l2 := [some (eR a0), some (eI (a1)), some (eI (a2)), some (eI (a3)), some (eI (a4))]) (s2 := [eR a0]) rfl (s_an rfl (pos_g hI gA0 (by decide))) rfl ?_
  refine j_gr (np := 4) rfl rfl hI gA0 (by decide) (n := 8) rfl rfl rfl ?_
  intro v1 e2 b3 z4
  have b3 : g v1 = 10 := Nat.eq_of_beq_eq_true b3
  refine w_t (np := 5) (l2 := [some (eR a0), some (eI (a1)), some (eI (a2)), some (eI (a3)), some (eI (a4))]) (s2 := [eI (3), eR v1]) rfl rfl rfl ?_
  refine w_t (np := 6) (l2 := [some (eR a0), some (eI (a1)), some (eI (a2)), some (eI (a3)), some (eI (a4))]) (s2 := [eI (a1), eI (3), eR v1]) rfl rfl rfl ?_
  obtain ⟨v5, e6⟩ : ∃ zz : Int, zz = (3) * (a1) := ⟨_, rfl⟩
  have b7 : 0 ≤ v5 ∧ v5 ≤ 2667 := by omega
  refine w_t (np := 7) (l2 := [some (eR a0), some (eI (a1)), some (eI (a2)), some (eI (a3)), some (eI (a4))]) (s2 := [eI (v5), eR v1]) rfl (b_imul (by rw [← e6]; exact ev_w_in (by omega) (by omega))) rfl ?_
  refine w_t (np := 8) (l2 := [some (eR a0), some (eI (a1)), some (eI (a2)), some (eI (a3)), some (eI (a4))]) (s2 := [eI (a2), eI (v5), eR v1]) rfl rfl rfl ?_
  refine j_as (np := 9) rfl rfl hI b3 (by decide) (n := 2670) rfl rfl (lo := 0) (hi := 511) (fun _ => rfl) (by omega) (by omega) (by omega) ?_
  intro m8 I9 W10
  have F11 : Fr l_29_2 0 0 g μ m8 := F0.v W10 b3 rfl rfl
  refine w_t (np := 10) (l2 := [some (eR a0), some (eI (a1)), some (eI (a2)), some (eI (a3)), some (eI (a4))]) (s2 := [eR a0]) rfl (s_an rfl (pos_g I9 gA0 (by decide))) rfl ?_
  refine w_gf (np := 13) (v := eR v1) rfl rfl (I9.kd gA0 (by decide) (n := 8) rfl) (by rw [(W10.addr e2 b3 gA0 (by decide))]; rfl) ?_
  refine w_t (np := 14) (l2 := [some (eR a0), some (eI (a1)), some (eI (a2)), some (eI (a3)), some (eI (a4))]) (s2 := [eI (3), eR v1]) rfl rfl rfl ?_
  refine w_t (np := 15) (l2 := [some (eR a0), some (eI (a1)), some (eI (a2)), some (eI (a3)), some (eI (a4))]) (s2 := [eI (a1), eI (3), eR v1]) rfl rfl rfl ?_
  obtain ⟨v12, e13⟩ : ∃ zz : Int, zz = (3) * (a1) := ⟨_, rfl⟩
  have b14 : 0 ≤ v12 ∧ v12 ≤ 2667 := by omega
  refine w_t (np := 16) (l2 := [some (eR a0), some (eI (a1)), some (eI (a2)), some (eI (a3)), some (eI (a4))]) (s2 := [eI (v12), eR v1]) rfl (b_imul (by rw [← e13]; exact ev_w_in (by omega) (by omega))) rfl ?_
  refine w_t (np := 17) (l2 := [some (eR a0), some (eI (a1)), some (eI (a2)), some (eI (a3)), some (eI (a4))]) (s2 := [eI (1), eI (v12), eR v1]) rfl rfl rfl ?_
  obtain ⟨v15, e16⟩ : ∃ zz : Int, zz = (v12) + (1) := ⟨_, rfl⟩
  have b17 : 1 ≤ v15 ∧ v15 ≤ 2668 := by omega
  refine w_t (np := 18) (l2 := [some (eR a0), some (eI (a1)), some (eI (a2)), some (eI (a3)), some (eI (a4))]) (s2 := [eI (v15), eR v1]) rfl (b_iadd (by rw [← e16]; exact ev_w_in (by omega) (by omega))) rfl ?_
  refine w_t (np := 19) (l2 := [some (eR a0), some (eI (a1)), some (eI (a2)), some (eI (a3)), some (eI (a4))]) (s2 := [eI (a3), eI (v15), eR v1]) rfl rfl rfl ?_
  refine j_as (np := 20) rfl rfl I9 b3 (by decide) (n := 2670) rfl rfl (lo := 0) (hi := 511) (fun _ => rfl) (by omega) (by omega) (by omega) ?_
  intro m18 I19 W20
  have F21 : Fr l_29_2 0 0 g μ m18 := F11.v W20 b3 rfl rfl
  refine w_t (np := 21) (l2 := [some (eR a0), some (eI (a1)), some (eI (a2)), some (eI (a3)), some (eI (a4))]) (s2 := [eR a0]) rfl (s_an rfl (pos_g I19 gA0 (by decide))) rfl ?_
  refine w_gf (np := 24) (v := eR v1) rfl rfl (I19.kd gA0 (by decide) (n := 8) rfl) (by rw [(W20.addr (W10.addr e2 b3 gA0 (by decide)) b3 gA0 (by decide))]; rfl) ?_
  refine w_t (np := 25) (l2 := [some (eR a0), some (eI (a1)), some (eI (a2)), some (eI (a3)), some (eI (a4))]) (s2 := [eI (3), eR v1]) rfl rfl rfl ?_
  refine w_t (np := 26) (l2 := [some (eR a0), some (eI (a1)), some (eI (a2)), some (eI (a3)), some (eI (a4))]) (s2 := [eI (a1), eI (3), eR v1]) rfl rfl rfl ?_
  obtain ⟨v22, e23⟩ : ∃ zz : Int, zz = (3) * (a1) := ⟨_, rfl⟩
  have b24 : 0 ≤ v22 ∧ v22 ≤ 2667 := by omega
  refine w_t (np := 27) (l2 := [some (eR a0), some (eI (a1)), some (eI (a2)), some (eI (a3)), some (eI (a4))]) (s2 := [eI (v22), eR v1]) rfl (b_imul (by rw [← e23]; exact ev_w_in (by omega) (by omega))) rfl ?_
  refine w_t (np := 28) (l2 := [some (eR a0), some (eI (a1)), some (eI (a2)), some (eI (a3)), some (eI (a4))]) (s2 := [eI (2), eI (v22), eR v1]) rfl rfl rfl ?_
  obtain ⟨v25, e26⟩ : ∃ zz : Int, zz = (v22) + (2) := ⟨_, rfl⟩
  have b27 : 2 ≤ v25 ∧ v25 ≤ 2669 := by omega
  refine w_t (np := 29) (l2 := [some (eR a0), some (eI (a1)), some (eI (a2)), some (eI (a3)), some (eI (a4))]) (s2 := [eI (v25), eR v1]) rfl (b_iadd (by rw [← e26]; exact ev_w_in (by omega) (by omega))) rfl ?_
  refine w_t (np := 31) (l2 := [some (eR a0), some (eI (a1)), some (eI (a2)), some (eI (a3)), some (eI (a4))]) (s2 := [eI (a4), eI (v25), eR v1]) rfl rfl rfl ?_
  refine j_as (np := 32) rfl rfl I19 b3 (by decide) (n := 2670) rfl rfl (lo := 0) (hi := 511) (fun _ => rfl) (by omega) (by omega) (by omega) ?_
  intro m28 I29 W30
  have F31 : Fr l_29_2 0 0 g μ m28 := F21.v W30 b3 rfl rfl
  exact v_rv rfl rfl (K m28 I29 F31)
theorem s_35 {L : Nat} {ρ : Nat → Int} {rc : eQ} {d : Nat} {f : eFr} {F : List eFr} {μ : eM} {g : Nat → Nat} {a0 : Int} {a1 : Int} (hI : SI g μ) (bA0 : -2147483648 ≤ a0 ∧ a0 ≤ 2147483647) (bA1 : -2147483648 ≤ a1 ∧ a1 ≤ 2147483647) (K : ∀ (v : Int), (-2147483648 ≤ v ∧ v ≤ 2147483647) → ex_q (dt_fg L ρ) rc (d + 1, (f.1, f.2.1, f.2.2.1, eI v :: f.2.2.2), F, μ)) : ex_q (dt_fg L ρ) rc (d, (35, 0, [some (eI (a0)), some (eI (a1)), none, none], []), f :: F, μ) := by
  refine w_t (np := 1) (l2 := [some (eI (a0)), some (eI (a1)), none, none]) (s2 := [eI (a0)]) rfl rfl rfl ?_
  refine w_t (np := 2) (l2 := [some (eI (a0)), some (eI (a1)), some (eI (a0)), none]) (s2 := []) rfl rfl rfl ?_
  refine w_t (np := 3) (l2 := [some (eI (a0)), some (eI (a1)), some (eI (a0)), none]) (s2 := [eI (0)]) rfl rfl rfl ?_
  refine w_t (np := 4) (l2 := [some (eI (a0)), some (eI (a1)), some (eI (a0)), some (eI (0))]) (s2 := []) rfl rfl rfl ?_
  have hL4 : ∀ (n1 : Nat) (i3 : Int) (i5 : Int), (-2147483648 ≤ i3 ∧ i3 ≤ 2147483647) → (0 ≤ i5 ∧ i5 ≤ 5) → n1 = (5 - i5).toNat → ex_q (dt_fg L ρ) rc (d, (35, 4, [some (eI (a0)), some (eI (a1)), some (eI (i3)), some (eI (i5))], []), f :: F, μ) := by
    intro n1
    induction n1 using Nat.strongRecOn with
    | _ n1 ih2 =>
    intro i3 i5 b4 b6 hn7
    refine w_t (np := 5) (l2 := [some (eI (a0)), some (eI (a1)), some (eI (i3)), some (eI (i5))]) (s2 := [eI (i5)]) rfl rfl rfl ?_
    refine w_t (np := 6) (l2 := [some (eI (a0)), some (eI (a1)), some (eI (i3)), some (eI (i5))]) (s2 := [eI (a1), eI (i5)]) rfl rfl rfl ?_
    refine b_cge (t1 := 24) (t2 := 9) rfl rfl rfl (ev_w_in (by omega) (by omega)) (ev_w_in (by omega) (by omega)) (fun g8 => ?_) (fun g8 => ?_)
    · have b9 : -2147483648 ≤ a1 ∧ a1 ≤ 5 := by omega
      refine w_t (np := 25) (l2 := [some (eI (a0)), some (eI (a1)), some (eI (i3)), some (eI (i5))]) (s2 := [eI (i3)]) rfl rfl rfl ?_
      exact b_ri rfl rfl (K (i3) (by omega))
    · have b9 : 1 ≤ a1 ∧ a1 ≤ 2147483647 := by omega
      refine w_t (np := 10) (l2 := [some (eI (a0)), some (eI (a1)), some (eI (i3)), some (eI (i5))]) (s2 := [eI (i5)]) rfl rfl rfl ?_
      refine w_t (np := 11) (l2 := [some (eI (a0)), some (eI (a1)), some (eI (i3)), some (eI (i5))]) (s2 := [eI (5), eI (i5)]) rfl rfl rfl ?_
      refine b_cge (t1 := 24) (t2 := 14) rfl rfl rfl (ev_w_in (by omega) (by omega)) rfl (fun g9 => ?_) (fun g9 => ?_)
      · have b10 : 5 ≤ i5 ∧ i5 ≤ 5 := by omega
        refine w_t (np := 25) (l2 := [some (eI (a0)), some (eI (a1)), some (eI (i3)), some (eI (i5))]) (s2 := [eI (i3)]) rfl rfl rfl ?_
        exact b_ri rfl rfl (K (i3) (by omega))
      · have b10 : 0 ≤ i5 ∧ i5 ≤ 4 := by omega
        refine w_t (np := 15) (l2 := [some (eI (a0)), some (eI (a1)), some (eI (i3)), some (eI (i5))]) (s2 := [eI (i3)]) rfl rfl rfl ?_
        refine w_t (np := 16) (l2 := [some (eI (a0)), some (eI (a1)), some (eI (i3)), some (eI (i5))]) (s2 := [eI (3), eI (i3)]) rfl rfl rfl ?_
        obtain ⟨v10, e11, b12⟩ := h_idiv (a := i3) (k := 3) (by decide) (by decide) b4
        have b13 : -715827882 ≤ v10 ∧ v10 ≤ 715827882 := by omega
        refine w_t (np := 17) (l2 := [some (eI (a0)), some (eI (a1)), some (eI (i3)), some (eI (i5))]) (s2 := [eI (v10)]) rfl (e11 _ _) rfl ?_
        refine w_t (np := 18) (l2 := [some (eI (a0)), some (eI (a1)), some (eI (v10)), some (eI (i5))]) (s2 := []) rfl rfl rfl ?_
        obtain ⟨v14, e15⟩ : ∃ zz : Int, zz = (i5) + (1) := ⟨_, rfl⟩
        have b16 : 1 ≤ v14 ∧ v14 ≤ 5 := by omega
        refine w_t (np := 21) (l2 := [some (eI (a0)), some (eI (a1)), some (eI (v10)), some (eI (v14))]) (s2 := []) rfl (b_iinc rfl (by rw [← e15]; exact ev_w_in (by omega) (by omega)) rfl) rfl ?_
        refine w_go (t1 := 4) rfl rfl ?_
        exact ih2 (5 - (v14)).toNat (by omega) (v10) (v14) (by omega) (by omega)     rfl
  exact hL4 _ (a0) (0) (by omega) (by decide)     rfl
theorem s_37 {L : Nat} {ρ : Nat → Int} {rc : eQ} {d : Nat} {f : eFr} {F : List eFr} {μ : eM} {g : Nat → Nat} {a0 : Int} {a1 : Int} (hI : SI g μ) (bA0 : -2147483648 ≤ a0 ∧ a0 ≤ 2147483647) (bA1 : -2147483648 ≤ a1 ∧ a1 ≤ 2147483647) (K : ∀ (v : Int), (0 ≤ v ∧ v ≤ 144) → ex_q (dt_fg L ρ) rc (d + 1, (f.1, f.2.1, f.2.2.1, eI v :: f.2.2.2), F, μ)) : ex_q (dt_fg L ρ) rc (d, (37, 0, [some (eI (a0)), some (eI (a1))], []), f :: F, μ) := by
  refine w_t (np := 1) (l2 := [some (eI (a0)), some (eI (a1))]) (s2 := [eI (a1)]) rfl rfl rfl ?_
  refine b_ilt (t1 := 9) (t2 := 4) rfl rfl rfl (ev_w_in (by omega) (by omega)) (fun g1 => ?_) (fun g1 => ?_)
  · have b2 : -2147483648 ≤ a1 ∧ a1 ≤ -1 := by omega
    refine w_t (np := 10) (l2 := [some (eI (a0)), some (eI (a1))]) (s2 := [eI (0)]) rfl rfl rfl ?_
    refine w_go (t1 := 33) rfl rfl ?_
    exact b_ri rfl rfl (K (0) (by decide))
  · have b2 : 0 ≤ a1 ∧ a1 ≤ 2147483647 := by omega
    refine w_t (np := 5) (l2 := [some (eI (a0)), some (eI (a1))]) (s2 := [eI (a1)]) rfl rfl rfl ?_
    refine w_t (np := 6) (l2 := [some (eI (a0)), some (eI (a1))]) (s2 := [eI (5), eI (a1)]) rfl rfl rfl ?_
    refine b_cle (t1 := 13) (t2 := 9) rfl rfl rfl (ev_w_in (by omega) (by omega)) rfl (fun g2 => ?_) (fun g2 => ?_)
    · have b3 : 0 ≤ a1 ∧ a1 ≤ 5 := by omega
      refine w_t (np := 14) (l2 := [some (eI (a0)), some (eI (a1))]) (s2 := [eI (a0)]) rfl rfl rfl ?_
      refine b_ine (t1 := 25) (t2 := 17) rfl rfl rfl (ev_w_in (by omega) (by omega)) (fun g3 => ?_) (fun g3 => ?_)
      · refine v_gs (np := 28) rfl rfl ?_
        refine w_t (np := 29) (l2 := [some (eI (a0)), some (eI (a1))]) (s2 := [eI (a1), eR 2]) rfl rfl rfl ?_
        refine w_t (np := 31) (l2 := [some (eI (a0)), some (eI (a1))]) (s2 := [eI (6), eI (a1), eR 2]) rfl rfl rfl ?_
        obtain ⟨v4, e5⟩ : ∃ zz : Int, zz = (a1) + (6) := ⟨_, rfl⟩
        have b6 : 6 ≤ v4 ∧ v4 ≤ 11 := by omega
        refine w_t (np := 32) (l2 := [some (eI (a0)), some (eI (a1))]) (s2 := [eI (v4), eR 2]) rfl (b_iadd (by rw [← e5]; exact ev_w_in (by omega) (by omega))) rfl ?_
        refine j_si (np := 33) (n := 12) (lo := 1) (hi := 144) rfl rfl rfl (by decide) (by decide) (by decide) rfl rfl (by decide) (by omega) (by omega) ?_
        intro v7 b9
        exact b_ri rfl rfl (K (v7) (by omega))
      · have b4 : 0 ≤ a0 ∧ a0 ≤ 0 := by omega
        refine v_gs (np := 20) rfl rfl ?_
        refine w_t (np := 21) (l2 := [some (eI (a0)), some (eI (a1))]) (s2 := [eI (a1), eR 2]) rfl rfl rfl ?_
        refine j_si (np := 22) (n := 12) (lo := 1) (hi := 144) rfl rfl rfl (by decide) (by decide) (by decide) rfl rfl (by decide) (by omega) (by omega) ?_
        intro v4 b6
        refine w_go (t1 := 33) rfl rfl ?_
        exact b_ri rfl rfl (K (v4) (by omega))
    · have b3 : 6 ≤ a1 ∧ a1 ≤ 2147483647 := by omega
      refine w_t (np := 10) (l2 := [some (eI (a0)), some (eI (a1))]) (s2 := [eI (0)]) rfl rfl rfl ?_
      refine w_go (t1 := 33) rfl rfl ?_
      exact b_ri rfl rfl (K (0) (by decide))
theorem s_39 {L : Nat} {ρ : Nat → Int} {rc : eQ} {d : Nat} {f : eFr} {F : List eFr} {μ : eM} {g : Nat → Nat} {a0 : Nat} {a1 : Int} {a2 : Int} (hI : SI g μ) (gA0 : g a0 = 2) (bA1 : -2147483648 ≤ a1 ∧ a1 ≤ 2147483647) (bA2 : -2147483648 ≤ a2 ∧ a2 ≤ 2147483647) (K : ∀ (v : Int), (-2147483648 ≤ v ∧ v ≤ 2147483647) → ex_q (dt_fg L ρ) rc (d + 2, (f.1, f.2.1, f.2.2.1, eI v :: f.2.2.2), F, μ)) : ex_q (dt_fg L ρ) rc (d + 1, (39, 0, [some (eR a0), some (eI (a1)), some (eI (a2)), none, none, none], []), f :: F, μ) := by
  refine w_t (np := 1) (l2 := [some (eR a0), some (eI (a1)), some (eI (a2)), none, none, none]) (s2 := [eR a0]) rfl (s_an rfl (pos_g hI gA0 (by decide))) rfl ?_
  refine w_t (np := 2) (l2 := [some (eR a0), some (eI (a1)), some (eI (a2)), none, none, none]) (s2 := [eI (a1), eR a0]) rfl rfl rfl ?_
  refine w_cw (np := 5) (as := [eI (a1)]) (l2 := [some (eR a0), some (eI (a1))]) (rest := []) rfl rfl rfl (Nat.ble_eq.mp rfl) rfl rfl rfl (hI.kd gA0 (by decide) (n := 8) rfl) rfl ?_
  refine s_20 (a1 := a1) hI gA0 (by omega) ?_
  intro v1 b2
  show ex_q (dt_fg L ρ) rc (d + 1, (39, 5, [some (eR a0), some (eI (a1)), some (eI (a2)), none, none, none], [eI (v1)]), f :: F, μ)
  refine w_t (np := 6) (l2 := [some (eR a0), some (eI (a1)), some (eI (a2)), some (eI (v1)), none, none]) (s2 := []) rfl rfl rfl ?_
  refine w_t (np := 7) (l2 := [some (eR a0), some (eI (a1)), some (eI (a2)), some (eI (v1)), none, none]) (s2 := [eR a0]) rfl (s_an rfl (pos_g hI gA0 (by decide))) rfl ?_
  refine w_t (np := 8) (l2 := [some (eR a0), some (eI (a1)), some (eI (a2)), some (eI (v1)), none, none]) (s2 := [eI (a2), eR a0]) rfl rfl rfl ?_
  refine w_cw (np := 11) (as := [eI (a2)]) (l2 := [some (eR a0), some (eI (a2))]) (rest := []) rfl rfl rfl (Nat.ble_eq.mp rfl) rfl rfl rfl (hI.kd gA0 (by decide) (n := 8) rfl) rfl ?_
  refine s_20 (a1 := a2) hI gA0 (by omega) ?_
  intro v3 b4
  show ex_q (dt_fg L ρ) rc (d + 1, (39, 11, [some (eR a0), some (eI (a1)), some (eI (a2)), some (eI (v1)), none, none], [eI (v3)]), f :: F, μ)
  refine w_t (np := 13) (l2 := [some (eR a0), some (eI (a1)), some (eI (a2)), some (eI (v1)), some (eI (v3)), none]) (s2 := []) rfl rfl rfl ?_
  refine w_t (np := 14) (l2 := [some (eR a0), some (eI (a1)), some (eI (a2)), some (eI (v1)), some (eI (v3)), none]) (s2 := [eR a0]) rfl (s_an rfl (pos_g hI gA0 (by decide))) rfl ?_
  refine j_gi (np := 17) rfl rfl rfl hI gA0 (by decide) (n := 8) rfl rfl (lo := 0) (hi := 5) rfl ?_
  intro v5 e6 b7
  refine w_t (np := 19) (l2 := [some (eR a0), some (eI (a1)), some (eI (a2)), some (eI (v1)), some (eI (v3)), some (eI (v5))]) (s2 := []) rfl rfl rfl ?_
  have hL19 : ∀ (n8 : Nat) (i10 : Int) (i12 : Int) (i14 : Int), (-2147483648 ≤ i10 ∧ i10 ≤ 2147483647) → (-2147483648 ≤ i12 ∧ i12 ≤ 2147483647) → (-1 ≤ i14 ∧ i14 ≤ 5) → n8 = (i14 - (-1)).toNat → ex_q (dt_fg L ρ) rc (d + 1, (39, 19, [some (eR a0), some (eI (a1)), some (eI (a2)), some (eI (i10)), some (eI (i12)), some (eI (i14))], []), f :: F, μ) := by
    intro n8
    induction n8 using Nat.strongRecOn with
    | _ n8 ih9 =>
    intro i10 i12 i14 b11 b13 b15 hn16
    refine w_t (np := 21) (l2 := [some (eR a0), some (eI (a1)), some (eI (a2)), some (eI (i10)), some (eI (i12)), some (eI (i14))]) (s2 := [eI (i14)]) rfl rfl rfl ?_
    refine b_ilt (t1 := 49) (t2 := 24) rfl rfl rfl (ev_w_in (by omega) (by omega)) (fun g17 => ?_) (fun g17 => ?_)
    · have b18 : -1 ≤ i14 ∧ i14 ≤ -1 := by omega
      refine w_t (np := 50) (l2 := [some (eR a0), some (eI (a1)), some (eI (a2)), some (eI (i10)), some (eI (i12)), some (eI (i14))]) (s2 := [eI (-1)]) rfl rfl rfl ?_
      exact b_ri rfl rfl (K (-1) (by decide))
    · have b18 : 0 ≤ i14 ∧ i14 ≤ 5 := by omega
      refine w_t (np := 25) (l2 := [some (eR a0), some (eI (a1)), some (eI (a2)), some (eI (i10)), some (eI (i12)), some (eI (i14))]) (s2 := [eI (i10)]) rfl rfl rfl ?_
      refine w_t (np := 27) (l2 := [some (eR a0), some (eI (a1)), some (eI (a2)), some (eI (i10)), some (eI (i12)), some (eI (i14))]) (s2 := [eI (i12), eI (i10)]) rfl rfl rfl ?_
      refine b_cne (t1 := 33) (t2 := 30) rfl rfl rfl (ev_w_in (by omega) (by omega)) (ev_w_in (by omega) (by omega)) (fun g18 => ?_) (fun g18 => ?_)
      · refine w_t (np := 34) (l2 := [some (eR a0), some (eI (a1)), some (eI (a2)), some (eI (i10)), some (eI (i12)), some (eI (i14))]) (s2 := [eI (i10)]) rfl rfl rfl ?_
        refine w_t (np := 35) (l2 := [some (eR a0), some (eI (a1)), some (eI (a2)), some (eI (i10)), some (eI (i12)), some (eI (i14))]) (s2 := [eI (3), eI (i10)]) rfl rfl rfl ?_
        obtain ⟨v19, e20, b21⟩ := h_idiv (a := i10) (k := 3) (by decide) (by decide) b11
        have b22 : -715827882 ≤ v19 ∧ v19 ≤ 715827882 := by omega
        refine w_t (np := 36) (l2 := [some (eR a0), some (eI (a1)), some (eI (a2)), some (eI (i10)), some (eI (i12)), some (eI (i14))]) (s2 := [eI (v19)]) rfl (e20 _ _) rfl ?_
        refine w_t (np := 37) (l2 := [some (eR a0), some (eI (a1)), some (eI (a2)), some (eI (v19)), some (eI (i12)), some (eI (i14))]) (s2 := []) rfl rfl rfl ?_
        refine w_t (np := 39) (l2 := [some (eR a0), some (eI (a1)), some (eI (a2)), some (eI (v19)), some (eI (i12)), some (eI (i14))]) (s2 := [eI (i12)]) rfl rfl rfl ?_
        refine w_t (np := 40) (l2 := [some (eR a0), some (eI (a1)), some (eI (a2)), some (eI (v19)), some (eI (i12)), some (eI (i14))]) (s2 := [eI (3), eI (i12)]) rfl rfl rfl ?_
        obtain ⟨v23, e24, b25⟩ := h_idiv (a := i12) (k := 3) (by decide) (by decide) b13
        have b26 : -715827882 ≤ v23 ∧ v23 ≤ 715827882 := by omega
        refine w_t (np := 41) (l2 := [some (eR a0), some (eI (a1)), some (eI (a2)), some (eI (v19)), some (eI (i12)), some (eI (i14))]) (s2 := [eI (v23)]) rfl (e24 _ _) rfl ?_
        refine w_t (np := 43) (l2 := [some (eR a0), some (eI (a1)), some (eI (a2)), some (eI (v19)), some (eI (v23)), some (eI (i14))]) (s2 := []) rfl rfl rfl ?_
        obtain ⟨v27, e28⟩ : ∃ zz : Int, zz = (i14) + (-1) := ⟨_, rfl⟩
        have b29 : -1 ≤ v27 ∧ v27 ≤ 4 := by omega
        refine w_t (np := 46) (l2 := [some (eR a0), some (eI (a1)), some (eI (a2)), some (eI (v19)), some (eI (v23)), some (eI (v27))]) (s2 := []) rfl (b_iinc rfl (by rw [← e28]; exact ev_w_in (by omega) (by omega)) rfl) rfl ?_
        refine w_go (t1 := 19) rfl rfl ?_
        exact ih9 ((v27) - (-1)).toNat (by omega) (v19) (v23) (v27) (by omega) (by omega) (by omega)     rfl
      · refine w_t (np := 32) (l2 := [some (eR a0), some (eI (a1)), some (eI (a2)), some (eI (i10)), some (eI (i12)), some (eI (i14))]) (s2 := [eI (i14)]) rfl rfl rfl ?_
        exact b_ri rfl rfl (K (i14) (by omega))
  exact hL19 _ (v1) (v3) (v5) (by omega) (by omega) (by omega)     rfl
theorem s_39_2 {L : Nat} {ρ : Nat → Int} {rc : eQ} {d : Nat} {f : eFr} {F : List eFr} {μ : eM} {g : Nat → Nat} {a0 : Nat} {a1 : Int} {a2 : Int} (hI : SI g μ) (gA0 : g a0 = 7) (bA1 : -2147483648 ≤ a1 ∧ a1 ≤ 2147483647) (bA2 : -2147483648 ≤ a2 ∧ a2 ≤ 2147483647) (K : ∀ (v : Int), (-2147483648 ≤ v ∧ v ≤ 2147483647) → ex_q (dt_fg L ρ) rc (d + 2, (f.1, f.2.1, f.2.2.1, eI v :: f.2.2.2), F, μ)) : ex_q (dt_fg L ρ) rc (d + 1, (39, 0, [some (eR a0), some (eI (a1)), some (eI (a2)), none, none, none], []), f :: F, μ) := by
  refine w_t (np := 1) (l2 := [some (eR a0), some (eI (a1)), some (eI (a2)), none, none, none]) (s2 := [eR a0]) rfl (s_an rfl (pos_g hI gA0 (by decide))) rfl ?_
  refine w_t (np := 2) (l2 := [some (eR a0), some (eI (a1)), some (eI (a2)), none, none, none]) (s2 := [eI (a1), eR a0]) rfl rfl rfl ?_
  refine w_cw (np := 5) (as := [eI (a1)]) (l2 := [some (eR a0), some (eI (a1))]) (rest := []) rfl rfl rfl (Nat.ble_eq.mp rfl) rfl rfl rfl (hI.kd gA0 (by decide) (n := 8) rfl) rfl ?_
  refine s_20_2 (a1 := a1) hI gA0 (by omega) ?_
  intro v1 b2
  show ex_q (dt_fg L ρ) rc (d + 1, (39, 5, [some (eR a0), some (eI (a1)), some (eI (a2)), none, none, none], [eI (v1)]), f :: F, μ)
  refine w_t (np := 6) (l2 := [some (eR a0), some (eI (a1)), some (eI (a2)), some (eI (v1)), none, none]) (s2 := []) rfl rfl rfl ?_
  refine w_t (np := 7) (l2 := [some (eR a0), some (eI (a1)), some (eI (a2)), some (eI (v1)), none, none]) (s2 := [eR a0]) rfl (s_an rfl (pos_g hI gA0 (by decide))) rfl ?_
  refine w_t (np := 8) (l2 := [some (eR a0), some (eI (a1)), some (eI (a2)), some (eI (v1)), none, none]) (s2 := [eI (a2), eR a0]) rfl rfl rfl ?_
  refine w_cw (np := 11) (as := [eI (a2)]) (l2 := [some (eR a0), some (eI (a2))]) (rest := []) rfl rfl rfl (Nat.ble_eq.mp rfl) rfl rfl rfl (hI.kd gA0 (by decide) (n := 8) rfl) rfl ?_
  refine s_20_2 (a1 := a2) hI gA0 (by omega) ?_
  intro v3 b4
  show ex_q (dt_fg L ρ) rc (d + 1, (39, 11, [some (eR a0), some (eI (a1)), some (eI (a2)), some (eI (v1)), none, none], [eI (v3)]), f :: F, μ)
  refine w_t (np := 13) (l2 := [some (eR a0), some (eI (a1)), some (eI (a2)), some (eI (v1)), some (eI (v3)), none]) (s2 := []) rfl rfl rfl ?_
  refine w_t (np := 14) (l2 := [some (eR a0), some (eI (a1)), some (eI (a2)), some (eI (v1)), some (eI (v3)), none]) (s2 := [eR a0]) rfl (s_an rfl (pos_g hI gA0 (by decide))) rfl ?_
  refine j_gi (np := 17) rfl rfl rfl hI gA0 (by decide) (n := 8) rfl rfl (lo := 0) (hi := 5) rfl ?_
  intro v5 e6 b7
  refine w_t (np := 19) (l2 := [some (eR a0), some (eI (a1)), some (eI (a2)), some (eI (v1)), some (eI (v3)), some (eI (v5))]) (s2 := []) rfl rfl rfl ?_
  have hL19 : ∀ (n8 : Nat) (i10 : Int) (i12 : Int) (i14 : Int), (-2147483648 ≤ i10 ∧ i10 ≤ 2147483647) → (-2147483648 ≤ i12 ∧ i12 ≤ 2147483647) → (-1 ≤ i14 ∧ i14 ≤ 5) → n8 = (i14 - (-1)).toNat → ex_q (dt_fg L ρ) rc (d + 1, (39, 19, [some (eR a0), some (eI (a1)), some (eI (a2)), some (eI (i10)), some (eI (i12)), some (eI (i14))], []), f :: F, μ) := by
    intro n8
    induction n8 using Nat.strongRecOn with
    | _ n8 ih9 =>
    intro i10 i12 i14 b11 b13 b15 hn16
    refine w_t (np := 21) (l2 := [some (eR a0), some (eI (a1)), some (eI (a2)), some (eI (i10)), some (eI (i12)), some (eI (i14))]) (s2 := [eI (i14)]) rfl rfl rfl ?_
    refine b_ilt (t1 := 49) (t2 := 24) rfl rfl rfl (ev_w_in (by omega) (by omega)) (fun g17 => ?_) (fun g17 => ?_)
    · have b18 : -1 ≤ i14 ∧ i14 ≤ -1 := by omega
      refine w_t (np := 50) (l2 := [some (eR a0), some (eI (a1)), some (eI (a2)), some (eI (i10)), some (eI (i12)), some (eI (i14))]) (s2 := [eI (-1)]) rfl rfl rfl ?_
      exact b_ri rfl rfl (K (-1) (by decide))
    · have b18 : 0 ≤ i14 ∧ i14 ≤ 5 := by omega
      refine w_t (np := 25) (l2 := [some (eR a0), some (eI (a1)), some (eI (a2)), some (eI (i10)), some (eI (i12)), some (eI (i14))]) (s2 := [eI (i10)]) rfl rfl rfl ?_
      refine w_t (np := 27) (l2 := [some (eR a0), some (eI (a1)), some (eI (a2)), some (eI (i10)), some (eI (i12)), some (eI (i14))]) (s2 := [eI (i12), eI (i10)]) rfl rfl rfl ?_
      refine b_cne (t1 := 33) (t2 := 30) rfl rfl rfl (ev_w_in (by omega) (by omega)) (ev_w_in (by omega) (by omega)) (fun g18 => ?_) (fun g18 => ?_)
      · refine w_t (np := 34) (l2 := [some (eR a0), some (eI (a1)), some (eI (a2)), some (eI (i10)), some (eI (i12)), some (eI (i14))]) (s2 := [eI (i10)]) rfl rfl rfl ?_
        refine w_t (np := 35) (l2 := [some (eR a0), some (eI (a1)), some (eI (a2)), some (eI (i10)), some (eI (i12)), some (eI (i14))]) (s2 := [eI (3), eI (i10)]) rfl rfl rfl ?_
        obtain ⟨v19, e20, b21⟩ := h_idiv (a := i10) (k := 3) (by decide) (by decide) b11
        have b22 : -715827882 ≤ v19 ∧ v19 ≤ 715827882 := by omega
        refine w_t (np := 36) (l2 := [some (eR a0), some (eI (a1)), some (eI (a2)), some (eI (i10)), some (eI (i12)), some (eI (i14))]) (s2 := [eI (v19)]) rfl (e20 _ _) rfl ?_
        refine w_t (np := 37) (l2 := [some (eR a0), some (eI (a1)), some (eI (a2)), some (eI (v19)), some (eI (i12)), some (eI (i14))]) (s2 := []) rfl rfl rfl ?_
        refine w_t (np := 39) (l2 := [some (eR a0), some (eI (a1)), some (eI (a2)), some (eI (v19)), some (eI (i12)), some (eI (i14))]) (s2 := [eI (i12)]) rfl rfl rfl ?_
        refine w_t (np := 40) (l2 := [some (eR a0), some (eI (a1)), some (eI (a2)), some (eI (v19)), some (eI (i12)), some (eI (i14))]) (s2 := [eI (3), eI (i12)]) rfl rfl rfl ?_
        obtain ⟨v23, e24, b25⟩ := h_idiv (a := i12) (k := 3) (by decide) (by decide) b13
        have b26 : -715827882 ≤ v23 ∧ v23 ≤ 715827882 := by omega
        refine w_t (np := 41) (l2 := [some (eR a0), some (eI (a1)), some (eI (a2)), some (eI (v19)), some (eI (i12)), some (eI (i14))]) (s2 := [eI (v23)]) rfl (e24 _ _) rfl ?_
        refine w_t (np := 43) (l2 := [some (eR a0), some (eI (a1)), some (eI (a2)), some (eI (v19)), some (eI (v23)), some (eI (i14))]) (s2 := []) rfl rfl rfl ?_
        obtain ⟨v27, e28⟩ : ∃ zz : Int, zz = (i14) + (-1) := ⟨_, rfl⟩
        have b29 : -1 ≤ v27 ∧ v27 ≤ 4 := by omega
        refine w_t (np := 46) (l2 := [some (eR a0), some (eI (a1)), some (eI (a2)), some (eI (v19)), some (eI (v23)), some (eI (v27))]) (s2 := []) rfl (b_iinc rfl (by rw [← e28]; exact ev_w_in (by omega) (by omega)) rfl) rfl ?_
        refine w_go (t1 := 19) rfl rfl ?_
        exact ih9 ((v27) - (-1)).toNat (by omega) (v19) (v23) (v27) (by omega) (by omega) (by omega)     rfl
      · refine w_t (np := 32) (l2 := [some (eR a0), some (eI (a1)), some (eI (a2)), some (eI (i10)), some (eI (i12)), some (eI (i14))]) (s2 := [eI (i14)]) rfl rfl rfl ?_
        exact b_ri rfl rfl (K (i14) (by omega))
  exact hL19 _ (v1) (v3) (v5) (by omega) (by omega) (by omega)     rfl
theorem s_44 {L : Nat} {ρ : Nat → Int} {rc : eQ} {d : Nat} {f : eFr} {F : List eFr} {μ : eM} {g : Nat → Nat} {a0 : Nat} {a1 : Int} (hI : SI g μ) (gA0 : g a0 = 12) (bA1 : -2147483648 ≤ a1 ∧ a1 ≤ 2147483647) (K : ∀ (v : Int), (-9223372036854775808 ≤ v ∧ v ≤ 9223372036854775807) → ex_q (dt_fg L ρ) rc (d + 1, (f.1, f.2.1, f.2.2.1, eJ v :: f.2.2.2), F, μ)) : ex_q (dt_fg L ρ) rc (d, (44, 0, [some (eR a0), some (eI (a1))], []), f :: F, μ) := by
  refine w_t (np := 1) (l2 := [some (eR a0), some (eI (a1))]) (s2 := [eI (a1)]) rfl rfl rfl ?_
  refine b_ilt (t1 := 21) (t2 := 4) rfl rfl rfl (ev_w_in (by omega) (by omega)) (fun g1 => ?_) (fun g1 => ?_)
  · have b2 : -2147483648 ≤ a1 ∧ a1 ≤ -1 := by omega
    refine w_t (np := 22) (l2 := [some (eR a0), some (eI (a1))]) (s2 := [eJ (0)]) rfl rfl rfl ?_
    exact b_rl rfl rfl (K (0) (by decide))
  · have b2 : 0 ≤ a1 ∧ a1 ≤ 2147483647 := by omega
    refine w_t (np := 5) (l2 := [some (eR a0), some (eI (a1))]) (s2 := [eI (a1)]) rfl rfl rfl ?_
    refine w_t (np := 6) (l2 := [some (eR a0), some (eI (a1))]) (s2 := [eR a0, eI (a1)]) rfl (s_an rfl (pos_g hI gA0 (by decide))) rfl ?_
    refine j_gi (np := 9) rfl rfl rfl hI gA0 (by decide) (n := 3) rfl rfl (lo := 0) (hi := 64) rfl ?_
    intro v2 e3 b4
    refine b_cge (t1 := 21) (t2 := 12) rfl rfl rfl (ev_w_in (by omega) (by omega)) (ev_w_in (by omega) (by omega)) (fun g5 => ?_) (fun g5 => ?_)
    · refine w_t (np := 22) (l2 := [some (eR a0), some (eI (a1))]) (s2 := [eJ (0)]) rfl rfl rfl ?_
      exact b_rl rfl rfl (K (0) (by decide))
    · have b6 : 0 ≤ a1 ∧ a1 ≤ 63 := by omega
      have b7 : 1 ≤ v2 ∧ v2 ≤ 64 := by omega
      refine w_t (np := 13) (l2 := [some (eR a0), some (eI (a1))]) (s2 := [eR a0]) rfl (s_an rfl (pos_g hI gA0 (by decide))) rfl ?_
      refine j_gr (np := 16) rfl rfl hI gA0 (by decide) (n := 3) rfl rfl rfl ?_
      intro v6 e7 b8 z9
      have b8 : g v6 = 13 := Nat.eq_of_beq_eq_true b8
      refine w_t (np := 17) (l2 := [some (eR a0), some (eI (a1))]) (s2 := [eI (a1), eR v6]) rfl rfl rfl ?_
      refine j_ll (np := 18) rfl rfl hI b8 (by decide) (n := 64) rfl rfl (lo := -9223372036854775808) (hi := 9223372036854775807) (fun _ => rfl) (by omega) (by omega) ?_
      intro v10 e11 b12
      refine w_go (t1 := 22) rfl rfl ?_
      exact b_rl rfl rfl (K (v10) (by omega))
theorem s_44_2 {L : Nat} {ρ : Nat → Int} {rc : eQ} {d : Nat} {f : eFr} {F : List eFr} {μ : eM} {g : Nat → Nat} {a0 : Nat} {a1 : Int} (hI : SI g μ) (gA0 : g a0 = 15) (bA1 : -2147483648 ≤ a1 ∧ a1 ≤ 2147483647) (K : ∀ (v : Int), (-9223372036854775808 ≤ v ∧ v ≤ 9223372036854775807) → ex_q (dt_fg L ρ) rc (d + 1, (f.1, f.2.1, f.2.2.1, eJ v :: f.2.2.2), F, μ)) : ex_q (dt_fg L ρ) rc (d, (44, 0, [some (eR a0), some (eI (a1))], []), f :: F, μ) := by
  refine w_t (np := 1) (l2 := [some (eR a0), some (eI (a1))]) (s2 := [eI (a1)]) rfl rfl rfl ?_
  refine b_ilt (t1 := 21) (t2 := 4) rfl rfl rfl (ev_w_in (by omega) (by omega)) (fun g1 => ?_) (fun g1 => ?_)
  · have b2 : -2147483648 ≤ a1 ∧ a1 ≤ -1 := by omega
    refine w_t (np := 22) (l2 := [some (eR a0), some (eI (a1))]) (s2 := [eJ (0)]) rfl rfl rfl ?_
    exact b_rl rfl rfl (K (0) (by decide))
  · have b2 : 0 ≤ a1 ∧ a1 ≤ 2147483647 := by omega
    refine w_t (np := 5) (l2 := [some (eR a0), some (eI (a1))]) (s2 := [eI (a1)]) rfl rfl rfl ?_
    refine w_t (np := 6) (l2 := [some (eR a0), some (eI (a1))]) (s2 := [eR a0, eI (a1)]) rfl (s_an rfl (pos_g hI gA0 (by decide))) rfl ?_
    refine j_gi (np := 9) rfl rfl rfl hI gA0 (by decide) (n := 3) rfl rfl (lo := 0) (hi := 512) rfl ?_
    intro v2 e3 b4
    refine b_cge (t1 := 21) (t2 := 12) rfl rfl rfl (ev_w_in (by omega) (by omega)) (ev_w_in (by omega) (by omega)) (fun g5 => ?_) (fun g5 => ?_)
    · refine w_t (np := 22) (l2 := [some (eR a0), some (eI (a1))]) (s2 := [eJ (0)]) rfl rfl rfl ?_
      exact b_rl rfl rfl (K (0) (by decide))
    · have b6 : 0 ≤ a1 ∧ a1 ≤ 511 := by omega
      have b7 : 1 ≤ v2 ∧ v2 ≤ 512 := by omega
      refine w_t (np := 13) (l2 := [some (eR a0), some (eI (a1))]) (s2 := [eR a0]) rfl (s_an rfl (pos_g hI gA0 (by decide))) rfl ?_
      refine j_gr (np := 16) rfl rfl hI gA0 (by decide) (n := 3) rfl rfl rfl ?_
      intro v6 e7 b8 z9
      have b8 : g v6 = 16 := Nat.eq_of_beq_eq_true b8
      refine w_t (np := 17) (l2 := [some (eR a0), some (eI (a1))]) (s2 := [eI (a1), eR v6]) rfl rfl rfl ?_
      refine j_ll (np := 18) rfl rfl hI b8 (by decide) (n := 512) rfl rfl (lo := -9223372036854775808) (hi := 9223372036854775807) (fun _ => rfl) (by omega) (by omega) ?_
      intro v10 e11 b12
      refine w_go (t1 := 22) rfl rfl ?_
      exact b_rl rfl rfl (K (v10) (by omega))
theorem s_48 {L : Nat} {ρ : Nat → Int} {rc : eQ} {d : Nat} {f : eFr} {F : List eFr} {μ : eM} {g : Nat → Nat} {a0 : Nat} {a1 : Int} (hI : SI g μ) (gA0 : g a0 = 12) (bA1 : -9223372036854775808 ≤ a1 ∧ a1 ≤ 9223372036854775807) (K : ∀ (v : Int), (0 ≤ v ∧ v ≤ 127) → ex_q (dt_fg L ρ) rc (d + 1, (f.1, f.2.1, f.2.2.1, eI v :: f.2.2.2), F, μ)) : ex_q (dt_fg L ρ) rc (d, (48, 0, [some (eR a0), some (eJ (a1)), none, none, none, none], []), f :: F, μ) := by
  refine w_t (np := 1) (l2 := [some (eR a0), some (eJ (a1)), none, none, none, none]) (s2 := [eJ (a1)]) rfl rfl rfl ?_
  refine v_l2 (np := 4) (c := 11400714819323198485) rfl rfl (by decide) ?_
  rw [show zJ 11400714819323198485 = -7046029254386353131 by decide]
  obtain ⟨v1, e2, b3⟩ : ∃ zz : Int, ev_W ((a1) * (-7046029254386353131)) = zz ∧ (-9223372036854775808 ≤ zz ∧ zz ≤ 9223372036854775807) := ⟨_, rfl, hW_bd _⟩
  refine w_t (np := 5) (l2 := [some (eR a0), some (eJ (a1)), none, none, none, none]) (s2 := [eJ (v1)]) rfl (b_lmul e2) rfl ?_
  refine w_t (np := 7) (l2 := [some (eR a0), some (eJ (a1)), none, none, none, none]) (s2 := [eI (48), eJ (v1)]) rfl rfl rfl ?_
  obtain ⟨v4, e5, b6⟩ := h_lushr (v1) (48)
  refine w_t (np := 8) (l2 := [some (eR a0), some (eJ (a1)), none, none, none, none]) (s2 := [eJ (v4)]) rfl (e5 _ _) rfl ?_
  obtain ⟨v7, e8, b9⟩ := h_l2i (v4)
  refine w_t (np := 9) (l2 := [some (eR a0), some (eJ (a1)), none, none, none, none]) (s2 := [eI (v7)]) rfl (e8 _ _) rfl ?_
  refine w_t (np := 10) (l2 := [some (eR a0), some (eJ (a1)), none, none, none, none]) (s2 := [eR a0, eI (v7)]) rfl (s_an rfl (pos_g hI gA0 (by decide))) rfl ?_
  refine j_gr (np := 13) rfl rfl hI gA0 (by decide) (n := 3) rfl rfl rfl ?_
  intro v10 e11 b12 z13
  have b12 : g v10 = 14 := Nat.eq_of_beq_eq_true b12
  refine j_len (np := 14) rfl rfl hI b12 (by decide) (c := 100) (n := 128) rfl rfl rfl ?_
  rw [show ((128 : Nat) : Int) = 128 from rfl]
  refine w_t (np := 15) (l2 := [some (eR a0), some (eJ (a1)), none, none, none, none]) (s2 := [eI (1), eI (128), eI (v7)]) rfl rfl rfl ?_
  refine w_t (np := 16) (l2 := [some (eR a0), some (eJ (a1)), none, none, none, none]) (s2 := [eI (127), eI (v7)]) rfl (b_isub rfl) rfl ?_
  obtain ⟨v14, e15, b16⟩ := h_iand (a := v7) (b := 127) (by decide) (by decide)
  have b17 : 0 ≤ v14 ∧ v14 ≤ 127 := by omega
  refine w_t (np := 17) (l2 := [some (eR a0), some (eJ (a1)), none, none, none, none]) (s2 := [eI (v14)]) rfl (e15 _ _) rfl ?_
  refine w_t (np := 18) (l2 := [some (eR a0), some (eJ (a1)), none, some (eI (v14)), none, none]) (s2 := []) rfl rfl rfl ?_
  refine w_t (np := 19) (l2 := [some (eR a0), some (eJ (a1)), none, some (eI (v14)), none, none]) (s2 := [eI (0)]) rfl rfl rfl ?_
  refine w_t (np := 21) (l2 := [some (eR a0), some (eJ (a1)), none, some (eI (v14)), some (eI (0)), none]) (s2 := []) rfl rfl rfl ?_
  have hL21 : ∀ (n18 : Nat) (i20 : Int) (i22 : Int) (o24 : Option eV), (0 ≤ i20 ∧ i20 ≤ 127) → (0 ≤ i22 ∧ i22 ≤ 128) → n18 = (128 - i22).toNat → ex_q (dt_fg L ρ) rc (d, (48, 21, [some (eR a0), some (eJ (a1)), none, some (eI (i20)), some (eI (i22)), o24], []), f :: F, μ) := by
    intro n18
    induction n18 using Nat.strongRecOn with
    | _ n18 ih19 =>
    intro i20 i22 o24 b21 b23 hn25
    refine w_t (np := 23) (l2 := [some (eR a0), some (eJ (a1)), none, some (eI (i20)), some (eI (i22)), o24]) (s2 := [eI (i22)]) rfl rfl rfl ?_
    refine w_t (np := 24) (l2 := [some (eR a0), some (eJ (a1)), none, some (eI (i20)), some (eI (i22)), o24]) (s2 := [eR a0, eI (i22)]) rfl (s_an rfl (pos_g hI gA0 (by decide))) rfl ?_
    refine w_gf (np := 27) (v := eR v10) rfl rfl (hI.kd gA0 (by decide) (n := 3) rfl) (by rw [e11]; rfl) ?_
    refine j_len (np := 28) rfl rfl hI b12 (by decide) (c := 100) (n := 128) rfl rfl rfl ?_
    rw [show ((128 : Nat) : Int) = 128 from rfl]
    refine b_cge (t1 := 78) (t2 := 31) rfl rfl rfl (ev_w_in (by omega) (by omega)) rfl (fun g26 => ?_) (fun g26 => ?_)
    · have b27 : 128 ≤ i22 ∧ i22 ≤ 128 := by omega
      refine w_t (np := 79) (l2 := [some (eR a0), some (eJ (a1)), none, some (eI (i20)), some (eI (i22)), o24]) (s2 := [eI (i20)]) rfl rfl rfl ?_
      exact b_ri rfl rfl (K (i20) (by omega))
    · have b27 : 0 ≤ i22 ∧ i22 ≤ 127 := by omega
      refine w_t (np := 32) (l2 := [some (eR a0), some (eJ (a1)), none, some (eI (i20)), some (eI (i22)), o24]) (s2 := [eR a0]) rfl (s_an rfl (pos_g hI gA0 (by decide))) rfl ?_
      refine w_gf (np := 35) (v := eR v10) rfl rfl (hI.kd gA0 (by decide) (n := 3) rfl) (by rw [e11]; rfl) ?_
      refine w_t (np := 36) (l2 := [some (eR a0), some (eJ (a1)), none, some (eI (i20)), some (eI (i22)), o24]) (s2 := [eI (i20), eR v10]) rfl rfl rfl ?_
      refine j_al (np := 37) rfl rfl hI b12 (by decide) (n := 128) rfl rfl (lo := 0) (hi := 64) (fun _ => rfl) (by omega) (by omega) ?_
      intro v27 e28 b29
      refine w_t (np := 39) (l2 := [some (eR a0), some (eJ (a1)), none, some (eI (i20)), some (eI (i22)), some (eI (v27))]) (s2 := []) rfl rfl rfl ?_
      refine w_t (np := 41) (l2 := [some (eR a0), some (eJ (a1)), none, some (eI (i20)), some (eI (i22)), some (eI (v27))]) (s2 := [eI (v27)]) rfl rfl rfl ?_
      refine b_ieq (t1 := 58) (t2 := 44) rfl rfl rfl (ev_w_in (by omega) (by omega)) (fun g30 => ?_) (fun g30 => ?_)
      · have b31 : 0 ≤ v27 ∧ v27 ≤ 0 := by omega
        refine w_t (np := 59) (l2 := [some (eR a0), some (eJ (a1)), none, some (eI (i20)), some (eI (i22)), some (eI (v27))]) (s2 := [eI (i20)]) rfl rfl rfl ?_
        exact b_ri rfl rfl (K (i20) (by omega))
      · have b31 : 1 ≤ v27 ∧ v27 ≤ 64 := by omega
        refine w_t (np := 45) (l2 := [some (eR a0), some (eJ (a1)), none, some (eI (i20)), some (eI (i22)), some (eI (v27))]) (s2 := [eR a0]) rfl (s_an rfl (pos_g hI gA0 (by decide))) rfl ?_
        refine j_gr (np := 48) rfl rfl hI gA0 (by decide) (n := 3) rfl rfl rfl ?_
        intro v31 e32 b33 z34
        have b33 : g v31 = 13 := Nat.eq_of_beq_eq_true b33
        refine w_t (np := 50) (l2 := [some (eR a0), some (eJ (a1)), none, some (eI (i20)), some (eI (i22)), some (eI (v27))]) (s2 := [eI (v27), eR v31]) rfl rfl rfl ?_
        refine w_t (np := 51) (l2 := [some (eR a0), some (eJ (a1)), none, some (eI (i20)), some (eI (i22)), some (eI (v27))]) (s2 := [eI (1), eI (v27), eR v31]) rfl rfl rfl ?_
        obtain ⟨v35, e36⟩ : ∃ zz : Int, zz = (v27) - (1) := ⟨_, rfl⟩
        have b37 : 0 ≤ v35 ∧ v35 ≤ 63 := by omega
        refine w_t (np := 52) (l2 := [some (eR a0), some (eJ (a1)), none, some (eI (i20)), some (eI (i22)), some (eI (v27))]) (s2 := [eI (v35), eR v31]) rfl (b_isub (by rw [← e36]; exact ev_w_in (by omega) (by omega))) rfl ?_
        refine j_ll (np := 53) rfl rfl hI b33 (by decide) (n := 64) rfl rfl (lo := -9223372036854775808) (hi := 9223372036854775807) (fun _ => rfl) (by omega) (by omega) ?_
        intro v38 e39 b40
        refine w_t (np := 54) (l2 := [some (eR a0), some (eJ (a1)), none, some (eI (i20)), some (eI (i22)), some (eI (v27))]) (s2 := [eJ (a1), eJ (v38)]) rfl rfl rfl ?_
        obtain ⟨v41, e42, b43⟩ := h_lcmp (v38) (a1)
        refine w_t (np := 55) (l2 := [some (eR a0), some (eJ (a1)), none, some (eI (i20)), some (eI (i22)), some (eI (v27))]) (s2 := [eI (v41)]) rfl (e42 _ _) rfl ?_
        refine b_ine (t1 := 60) (t2 := 58) rfl rfl rfl (ev_w_in (by omega) (by omega)) (fun g44 => ?_) (fun g44 => ?_)
        · refine w_t (np := 61) (l2 := [some (eR a0), some (eJ (a1)), none, some (eI (i20)), some (eI (i22)), some (eI (v27))]) (s2 := [eI (i20)]) rfl rfl rfl ?_
          refine w_t (np := 62) (l2 := [some (eR a0), some (eJ (a1)), none, some (eI (i20)), some (eI (i22)), some (eI (v27))]) (s2 := [eI (1), eI (i20)]) rfl rfl rfl ?_
          obtain ⟨v45, e46⟩ : ∃ zz : Int, zz = (i20) + (1) := ⟨_, rfl⟩
          have b47 : 1 ≤ v45 ∧ v45 ≤ 128 := by omega
          refine w_t (np := 63) (l2 := [some (eR a0), some (eJ (a1)), none, some (eI (i20)), some (eI (i22)), some (eI (v27))]) (s2 := [eI (v45)]) rfl (b_iadd (by rw [← e46]; exact ev_w_in (by omega) (by omega))) rfl ?_
          refine w_t (np := 64) (l2 := [some (eR a0), some (eJ (a1)), none, some (eI (i20)), some (eI (i22)), some (eI (v27))]) (s2 := [eR a0, eI (v45)]) rfl (s_an rfl (pos_g hI gA0 (by decide))) rfl ?_
          refine w_gf (np := 67) (v := eR v10) rfl rfl (hI.kd gA0 (by decide) (n := 3) rfl) (by rw [e11]; rfl) ?_
          refine j_len (np := 68) rfl rfl hI b12 (by decide) (c := 100) (n := 128) rfl rfl rfl ?_
          rw [show ((128 : Nat) : Int) = 128 from rfl]
          refine w_t (np := 69) (l2 := [some (eR a0), some (eJ (a1)), none, some (eI (i20)), some (eI (i22)), some (eI (v27))]) (s2 := [eI (1), eI (128), eI (v45)]) rfl rfl rfl ?_
          refine w_t (np := 70) (l2 := [some (eR a0), some (eJ (a1)), none, some (eI (i20)), some (eI (i22)), some (eI (v27))]) (s2 := [eI (127), eI (v45)]) rfl (b_isub rfl) rfl ?_
          obtain ⟨v48, e49, b50⟩ := h_iand (a := v45) (b := 127) (by decide) (by decide)
          have b51 : 0 ≤ v48 ∧ v48 ≤ 127 := by omega
          refine w_t (np := 71) (l2 := [some (eR a0), some (eJ (a1)), none, some (eI (i20)), some (eI (i22)), some (eI (v27))]) (s2 := [eI (v48)]) rfl (e49 _ _) rfl ?_
          refine w_t (np := 72) (l2 := [some (eR a0), some (eJ (a1)), none, some (eI (v48)), some (eI (i22)), some (eI (v27))]) (s2 := []) rfl rfl rfl ?_
          obtain ⟨v52, e53⟩ : ∃ zz : Int, zz = (i22) + (1) := ⟨_, rfl⟩
          have b54 : 1 ≤ v52 ∧ v52 ≤ 128 := by omega
          refine w_t (np := 75) (l2 := [some (eR a0), some (eJ (a1)), none, some (eI (v48)), some (eI (v52)), some (eI (v27))]) (s2 := []) rfl (b_iinc rfl (by rw [← e53]; exact ev_w_in (by omega) (by omega)) rfl) rfl ?_
          refine w_go (t1 := 21) rfl rfl ?_
          exact ih19 (128 - (v52)).toNat (by omega) (v48) (v52) (some (eI (v27))) (by omega) (by omega)     rfl
        · have b45 : 0 ≤ v41 ∧ v41 ≤ 0 := by omega
          refine w_t (np := 59) (l2 := [some (eR a0), some (eJ (a1)), none, some (eI (i20)), some (eI (i22)), some (eI (v27))]) (s2 := [eI (i20)]) rfl rfl rfl ?_
          exact b_ri rfl rfl (K (i20) (by omega))
  exact hL21 _ (v14) (0) (none) (by omega) (by decide)     rfl
theorem s_48_2 {L : Nat} {ρ : Nat → Int} {rc : eQ} {d : Nat} {f : eFr} {F : List eFr} {μ : eM} {g : Nat → Nat} {a0 : Nat} {a1 : Int} (hI : SI g μ) (gA0 : g a0 = 15) (bA1 : -9223372036854775808 ≤ a1 ∧ a1 ≤ 9223372036854775807) (K : ∀ (v : Int), (0 ≤ v ∧ v ≤ 1023) → ex_q (dt_fg L ρ) rc (d + 1, (f.1, f.2.1, f.2.2.1, eI v :: f.2.2.2), F, μ)) : ex_q (dt_fg L ρ) rc (d, (48, 0, [some (eR a0), some (eJ (a1)), none, none, none, none], []), f :: F, μ) := by
  refine w_t (np := 1) (l2 := [some (eR a0), some (eJ (a1)), none, none, none, none]) (s2 := [eJ (a1)]) rfl rfl rfl ?_
  refine v_l2 (np := 4) (c := 11400714819323198485) rfl rfl (by decide) ?_
  rw [show zJ 11400714819323198485 = -7046029254386353131 by decide]
  obtain ⟨v1, e2, b3⟩ : ∃ zz : Int, ev_W ((a1) * (-7046029254386353131)) = zz ∧ (-9223372036854775808 ≤ zz ∧ zz ≤ 9223372036854775807) := ⟨_, rfl, hW_bd _⟩
  refine w_t (np := 5) (l2 := [some (eR a0), some (eJ (a1)), none, none, none, none]) (s2 := [eJ (v1)]) rfl (b_lmul e2) rfl ?_
  refine w_t (np := 7) (l2 := [some (eR a0), some (eJ (a1)), none, none, none, none]) (s2 := [eI (48), eJ (v1)]) rfl rfl rfl ?_
  obtain ⟨v4, e5, b6⟩ := h_lushr (v1) (48)
  refine w_t (np := 8) (l2 := [some (eR a0), some (eJ (a1)), none, none, none, none]) (s2 := [eJ (v4)]) rfl (e5 _ _) rfl ?_
  obtain ⟨v7, e8, b9⟩ := h_l2i (v4)
  refine w_t (np := 9) (l2 := [some (eR a0), some (eJ (a1)), none, none, none, none]) (s2 := [eI (v7)]) rfl (e8 _ _) rfl ?_
  refine w_t (np := 10) (l2 := [some (eR a0), some (eJ (a1)), none, none, none, none]) (s2 := [eR a0, eI (v7)]) rfl (s_an rfl (pos_g hI gA0 (by decide))) rfl ?_
  refine j_gr (np := 13) rfl rfl hI gA0 (by decide) (n := 3) rfl rfl rfl ?_
  intro v10 e11 b12 z13
  have b12 : g v10 = 17 := Nat.eq_of_beq_eq_true b12
  refine j_len (np := 14) rfl rfl hI b12 (by decide) (c := 100) (n := 1024) rfl rfl rfl ?_
  rw [show ((1024 : Nat) : Int) = 1024 from rfl]
  refine w_t (np := 15) (l2 := [some (eR a0), some (eJ (a1)), none, none, none, none]) (s2 := [eI (1), eI (1024), eI (v7)]) rfl rfl rfl ?_
  refine w_t (np := 16) (l2 := [some (eR a0), some (eJ (a1)), none, none, none, none]) (s2 := [eI (1023), eI (v7)]) rfl (b_isub rfl) rfl ?_
  obtain ⟨v14, e15, b16⟩ := h_iand (a := v7) (b := 1023) (by decide) (by decide)
  have b17 : 0 ≤ v14 ∧ v14 ≤ 1023 := by omega
  refine w_t (np := 17) (l2 := [some (eR a0), some (eJ (a1)), none, none, none, none]) (s2 := [eI (v14)]) rfl (e15 _ _) rfl ?_
  refine w_t (np := 18) (l2 := [some (eR a0), some (eJ (a1)), none, some (eI (v14)), none, none]) (s2 := []) rfl rfl rfl ?_
  refine w_t (np := 19) (l2 := [some (eR a0), some (eJ (a1)), none, some (eI (v14)), none, none]) (s2 := [eI (0)]) rfl rfl rfl ?_
  refine w_t (np := 21) (l2 := [some (eR a0), some (eJ (a1)), none, some (eI (v14)), some (eI (0)), none]) (s2 := []) rfl rfl rfl ?_
  have hL21 : ∀ (n18 : Nat) (i20 : Int) (i22 : Int) (o24 : Option eV), (0 ≤ i20 ∧ i20 ≤ 1023) → (0 ≤ i22 ∧ i22 ≤ 1024) → n18 = (1024 - i22).toNat → ex_q (dt_fg L ρ) rc (d, (48, 21, [some (eR a0), some (eJ (a1)), none, some (eI (i20)), some (eI (i22)), o24], []), f :: F, μ) := by
    intro n18
    induction n18 using Nat.strongRecOn with
    | _ n18 ih19 =>
    intro i20 i22 o24 b21 b23 hn25
    refine w_t (np := 23) (l2 := [some (eR a0), some (eJ (a1)), none, some (eI (i20)), some (eI (i22)), o24]) (s2 := [eI (i22)]) rfl rfl rfl ?_
    refine w_t (np := 24) (l2 := [some (eR a0), some (eJ (a1)), none, some (eI (i20)), some (eI (i22)), o24]) (s2 := [eR a0, eI (i22)]) rfl (s_an rfl (pos_g hI gA0 (by decide))) rfl ?_
    refine w_gf (np := 27) (v := eR v10) rfl rfl (hI.kd gA0 (by decide) (n := 3) rfl) (by rw [e11]; rfl) ?_
    refine j_len (np := 28) rfl rfl hI b12 (by decide) (c := 100) (n := 1024) rfl rfl rfl ?_
    rw [show ((1024 : Nat) : Int) = 1024 from rfl]
    refine b_cge (t1 := 78) (t2 := 31) rfl rfl rfl (ev_w_in (by omega) (by omega)) rfl (fun g26 => ?_) (fun g26 => ?_)
    · have b27 : 1024 ≤ i22 ∧ i22 ≤ 1024 := by omega
      refine w_t (np := 79) (l2 := [some (eR a0), some (eJ (a1)), none, some (eI (i20)), some (eI (i22)), o24]) (s2 := [eI (i20)]) rfl rfl rfl ?_
      exact b_ri rfl rfl (K (i20) (by omega))
    · have b27 : 0 ≤ i22 ∧ i22 ≤ 1023 := by omega
      refine w_t (np := 32) (l2 := [some (eR a0), some (eJ (a1)), none, some (eI (i20)), some (eI (i22)), o24]) (s2 := [eR a0]) rfl (s_an rfl (pos_g hI gA0 (by decide))) rfl ?_
      refine w_gf (np := 35) (v := eR v10) rfl rfl (hI.kd gA0 (by decide) (n := 3) rfl) (by rw [e11]; rfl) ?_
      refine w_t (np := 36) (l2 := [some (eR a0), some (eJ (a1)), none, some (eI (i20)), some (eI (i22)), o24]) (s2 := [eI (i20), eR v10]) rfl rfl rfl ?_
      refine j_al (np := 37) rfl rfl hI b12 (by decide) (n := 1024) rfl rfl (lo := 0) (hi := 512) (fun _ => rfl) (by omega) (by omega) ?_
      intro v27 e28 b29
      refine w_t (np := 39) (l2 := [some (eR a0), some (eJ (a1)), none, some (eI (i20)), some (eI (i22)), some (eI (v27))]) (s2 := []) rfl rfl rfl ?_
      refine w_t (np := 41) (l2 := [some (eR a0), some (eJ (a1)), none, some (eI (i20)), some (eI (i22)), some (eI (v27))]) (s2 := [eI (v27)]) rfl rfl rfl ?_
      refine b_ieq (t1 := 58) (t2 := 44) rfl rfl rfl (ev_w_in (by omega) (by omega)) (fun g30 => ?_) (fun g30 => ?_)
      · have b31 : 0 ≤ v27 ∧ v27 ≤ 0 := by omega
        refine w_t (np := 59) (l2 := [some (eR a0), some (eJ (a1)), none, some (eI (i20)), some (eI (i22)), some (eI (v27))]) (s2 := [eI (i20)]) rfl rfl rfl ?_
        exact b_ri rfl rfl (K (i20) (by omega))
      · have b31 : 1 ≤ v27 ∧ v27 ≤ 512 := by omega
        refine w_t (np := 45) (l2 := [some (eR a0), some (eJ (a1)), none, some (eI (i20)), some (eI (i22)), some (eI (v27))]) (s2 := [eR a0]) rfl (s_an rfl (pos_g hI gA0 (by decide))) rfl ?_
        refine j_gr (np := 48) rfl rfl hI gA0 (by decide) (n := 3) rfl rfl rfl ?_
        intro v31 e32 b33 z34
        have b33 : g v31 = 16 := Nat.eq_of_beq_eq_true b33
        refine w_t (np := 50) (l2 := [some (eR a0), some (eJ (a1)), none, some (eI (i20)), some (eI (i22)), some (eI (v27))]) (s2 := [eI (v27), eR v31]) rfl rfl rfl ?_
        refine w_t (np := 51) (l2 := [some (eR a0), some (eJ (a1)), none, some (eI (i20)), some (eI (i22)), some (eI (v27))]) (s2 := [eI (1), eI (v27), eR v31]) rfl rfl rfl ?_
        obtain ⟨v35, e36⟩ : ∃ zz : Int, zz = (v27) - (1) := ⟨_, rfl⟩
        have b37 : 0 ≤ v35 ∧ v35 ≤ 511 := by omega
        refine w_t (np := 52) (l2 := [some (eR a0), some (eJ (a1)), none, some (eI (i20)), some (eI (i22)), some (eI (v27))]) (s2 := [eI (v35), eR v31]) rfl (b_isub (by rw [← e36]; exact ev_w_in (by omega) (by omega))) rfl ?_
        refine j_ll (np := 53) rfl rfl hI b33 (by decide) (n := 512) rfl rfl (lo := -9223372036854775808) (hi := 9223372036854775807) (fun _ => rfl) (by omega) (by omega) ?_
        intro v38 e39 b40
        refine w_t (np := 54) (l2 := [some (eR a0), some (eJ (a1)), none, some (eI (i20)), some (eI (i22)), some (eI (v27))]) (s2 := [eJ (a1), eJ (v38)]) rfl rfl rfl ?_
        obtain ⟨v41, e42, b43⟩ := h_lcmp (v38) (a1)
        refine w_t (np := 55) (l2 := [some (eR a0), some (eJ (a1)), none, some (eI (i20)), some (eI (i22)), some (eI (v27))]) (s2 := [eI (v41)]) rfl (e42 _ _) rfl ?_
        refine b_ine (t1 := 60) (t2 := 58) rfl rfl rfl (ev_w_in (by omega) (by omega)) (fun g44 => ?_) (fun g44 => ?_)
        · refine w_t (np := 61) (l2 := [some (eR a0), some (eJ (a1)), none, some (eI (i20)), some (eI (i22)), some (eI (v27))]) (s2 := [eI (i20)]) rfl rfl rfl ?_
          refine w_t (np := 62) (l2 := [some (eR a0), some (eJ (a1)), none, some (eI (i20)), some (eI (i22)), some (eI (v27))]) (s2 := [eI (1), eI (i20)]) rfl rfl rfl ?_
          obtain ⟨v45, e46⟩ : ∃ zz : Int, zz = (i20) + (1) := ⟨_, rfl⟩
          have b47 : 1 ≤ v45 ∧ v45 ≤ 1024 := by omega
          refine w_t (np := 63) (l2 := [some (eR a0), some (eJ (a1)), none, some (eI (i20)), some (eI (i22)), some (eI (v27))]) (s2 := [eI (v45)]) rfl (b_iadd (by rw [← e46]; exact ev_w_in (by omega) (by omega))) rfl ?_
          refine w_t (np := 64) (l2 := [some (eR a0), some (eJ (a1)), none, some (eI (i20)), some (eI (i22)), some (eI (v27))]) (s2 := [eR a0, eI (v45)]) rfl (s_an rfl (pos_g hI gA0 (by decide))) rfl ?_
          refine w_gf (np := 67) (v := eR v10) rfl rfl (hI.kd gA0 (by decide) (n := 3) rfl) (by rw [e11]; rfl) ?_
          refine j_len (np := 68) rfl rfl hI b12 (by decide) (c := 100) (n := 1024) rfl rfl rfl ?_
          rw [show ((1024 : Nat) : Int) = 1024 from rfl]
          refine w_t (np := 69) (l2 := [some (eR a0), some (eJ (a1)), none, some (eI (i20)), some (eI (i22)), some (eI (v27))]) (s2 := [eI (1), eI (1024), eI (v45)]) rfl rfl rfl ?_
          refine w_t (np := 70) (l2 := [some (eR a0), some (eJ (a1)), none, some (eI (i20)), some (eI (i22)), some (eI (v27))]) (s2 := [eI (1023), eI (v45)]) rfl (b_isub rfl) rfl ?_
          obtain ⟨v48, e49, b50⟩ := h_iand (a := v45) (b := 1023) (by decide) (by decide)
          have b51 : 0 ≤ v48 ∧ v48 ≤ 1023 := by omega
          refine w_t (np := 71) (l2 := [some (eR a0), some (eJ (a1)), none, some (eI (i20)), some (eI (i22)), some (eI (v27))]) (s2 := [eI (v48)]) rfl (e49 _ _) rfl ?_
          refine w_t (np := 72) (l2 := [some (eR a0), some (eJ (a1)), none, some (eI (v48)), some (eI (i22)), some (eI (v27))]) (s2 := []) rfl rfl rfl ?_
          obtain ⟨v52, e53⟩ : ∃ zz : Int, zz = (i22) + (1) := ⟨_, rfl⟩
          have b54 : 1 ≤ v52 ∧ v52 ≤ 1024 := by omega
          refine w_t (np := 75) (l2 := [some (eR a0), some (eJ (a1)), none, some (eI (v48)), some (eI (v52)), some (eI (v27))]) (s2 := []) rfl (b_iinc rfl (by rw [← e53]; exact ev_w_in (by omega) (by omega)) rfl) rfl ?_
          refine w_go (t1 := 21) rfl rfl ?_
          exact ih19 (1024 - (v52)).toNat (by omega) (v48) (v52) (some (eI (v27))) (by omega) (by omega)     rfl
        · have b45 : 0 ≤ v41 ∧ v41 ≤ 0 := by omega
          refine w_t (np := 59) (l2 := [some (eR a0), some (eJ (a1)), none, some (eI (i20)), some (eI (i22)), some (eI (v27))]) (s2 := [eI (i20)]) rfl rfl rfl ?_
          exact b_ri rfl rfl (K (i20) (by omega))
  exact hL21 _ (v14) (0) (none) (by omega) (by decide)     rfl
theorem s_50 {L : Nat} {ρ : Nat → Int} {rc : eQ} {d : Nat} {f : eFr} {F : List eFr} {μ : eM} {g : Nat → Nat} {a0 : Nat} {a1 : Int} (hI : SI g μ) (gA0 : g a0 = 27) (bA1 : -2147483648 ≤ a1 ∧ a1 ≤ 2147483647) (K : ∀ (v : Int), (-2147483648 ≤ v ∧ v ≤ 2147483647) → ex_q (dt_fg L ρ) rc (d + 1, (f.1, f.2.1, f.2.2.1, eI v :: f.2.2.2), F, μ)) : ex_q (dt_fg L ρ) rc (d, (50, 0, [some (eR a0), some (eI (a1))], []), f :: F, μ) := by
  refine w_t (np := 1) (l2 := [some (eR a0), some (eI (a1))]) (s2 := [eI (a1)]) rfl rfl rfl ?_
  refine b_ilt (t1 := 12) (t2 := 4) rfl rfl rfl (ev_w_in (by omega) (by omega)) (fun g1 => ?_) (fun g1 => ?_)
  · have b2 : -2147483648 ≤ a1 ∧ a1 ≤ -1 := by omega
    refine w_t (np := 13) (l2 := [some (eR a0), some (eI (a1))]) (s2 := [eI (-1)]) rfl rfl rfl ?_
    refine w_go (t1 := 22) rfl rfl ?_
    exact b_ri rfl rfl (K (-1) (by decide))
  · have b2 : 0 ≤ a1 ∧ a1 ≤ 2147483647 := by omega
    refine w_t (np := 5) (l2 := [some (eR a0), some (eI (a1))]) (s2 := [eI (a1)]) rfl rfl rfl ?_
    refine w_t (np := 6) (l2 := [some (eR a0), some (eI (a1))]) (s2 := [eR a0, eI (a1)]) rfl (s_an rfl (pos_g hI gA0 (by decide))) rfl ?_
    refine j_gi (np := 9) rfl rfl rfl hI gA0 (by decide) (n := 2) rfl rfl (lo := 0) (hi := 1056) rfl ?_
    intro v2 e3 b4
    refine b_clt (t1 := 16) (t2 := 12) rfl rfl rfl (ev_w_in (by omega) (by omega)) (ev_w_in (by omega) (by omega)) (fun g5 => ?_) (fun g5 => ?_)
    · have b6 : 0 ≤ a1 ∧ a1 ≤ 1055 := by omega
      have b7 : 1 ≤ v2 ∧ v2 ≤ 1056 := by omega
      refine w_t (np := 17) (l2 := [some (eR a0), some (eI (a1))]) (s2 := [eR a0]) rfl (s_an rfl (pos_g hI gA0 (by decide))) rfl ?_
      refine j_gr (np := 20) rfl rfl hI gA0 (by decide) (n := 2) rfl rfl rfl ?_
      intro v6 e7 b8 z9
      have b8 : g v6 = 28 := Nat.eq_of_beq_eq_true b8
      refine w_t (np := 21) (l2 := [some (eR a0), some (eI (a1))]) (s2 := [eI (a1), eR v6]) rfl rfl rfl ?_
      refine j_b2 (np := 22) rfl rfl hI b8 (by decide) (n := 1056) rfl rfl (lo := -128) (hi := 127) (fun _ => rfl) (by omega) (by omega) ?_
      intro v10 e11 b12
      exact b_ri rfl rfl (K (v10) (by omega))
    · refine w_t (np := 13) (l2 := [some (eR a0), some (eI (a1))]) (s2 := [eI (-1)]) rfl rfl rfl ?_
      refine w_go (t1 := 22) rfl rfl ?_
      exact b_ri rfl rfl (K (-1) (by decide))
def l_52 : List Nat := [6914, 7168]
theorem s_52 {L : Nat} {ρ : Nat → Int} {rc : eQ} {d : Nat} {f : eFr} {F : List eFr} {μ : eM} {g : Nat → Nat} {a0 : Nat} {a1 : Int} (hI : SI g μ) (gA0 : g a0 = 27) (bA1 : -2147483648 ≤ a1 ∧ a1 ≤ 2147483647) (K : ∀ (μ2 : eM), SI g μ2 → Fr l_52 0 0 g μ μ2 → ex_q (dt_fg L ρ) rc (d + 1, (f.1, f.2.1, f.2.2.1, f.2.2.2), F, μ2)) : ex_q (dt_fg L ρ) rc (d, (52, 0, [some (eR a0), some (eI (a1))], []), f :: F, μ) := by
  have F0 : Fr l_52 0 0 g μ μ := Fr.r
  refine w_t (np := 1) (l2 := [some (eR a0), some (eI (a1))]) (s2 := [eR a0]) rfl (s_an rfl (pos_g hI gA0 (by decide))) rfl ?_
  refine j_gi (np := 4) rfl rfl rfl hI gA0 (by decide) (n := 2) rfl rfl (lo := 0) (hi := 1056) rfl ?_
  intro v1 e2 b3
  refine w_t (np := 7) (l2 := [some (eR a0), some (eI (a1))]) (s2 := [eI (1056), eI (v1)]) rfl rfl rfl ?_
  refine b_cge (t1 := 31) (t2 := 10) rfl rfl rfl (ev_w_in (by omega) (by omega)) rfl (fun g4 => ?_) (fun g4 => ?_)
  · have b5 : 1056 ≤ v1 ∧ v1 ≤ 1056 := by omega
    exact v_rv rfl rfl (K μ hI F0)
  · have b5 : 0 ≤ v1 ∧ v1 ≤ 1055 := by omega
    refine w_t (np := 11) (l2 := [some (eR a0), some (eI (a1))]) (s2 := [eR a0]) rfl (s_an rfl (pos_g hI gA0 (by decide))) rfl ?_
    refine j_gr (np := 14) rfl rfl hI gA0 (by decide) (n := 2) rfl rfl rfl ?_
    intro v5 e6 b7 z8
    have b7 : g v5 = 28 := Nat.eq_of_beq_eq_true b7
    refine w_t (np := 15) (l2 := [some (eR a0), some (eI (a1))]) (s2 := [eR a0, eR v5]) rfl (s_an rfl (pos_g hI gA0 (by decide))) rfl ?_
    refine w_gf (np := 18) (v := eI (v1)) rfl rfl (hI.kd gA0 (by decide) (n := 2) rfl) (by rw [e2]; rfl) ?_
    refine w_t (np := 19) (l2 := [some (eR a0), some (eI (a1))]) (s2 := [eI (a1), eI (v1), eR v5]) rfl rfl rfl ?_
    obtain ⟨v9, e10, b11⟩ := h_i2b (a1)
    refine w_t (np := 20) (l2 := [some (eR a0), some (eI (a1))]) (s2 := [eI (v9), eI (v1), eR v5]) rfl (e10 _ _) rfl ?_
    refine j_sb2 (np := 21) rfl rfl hI b7 (by decide) (n := 1056) rfl rfl (lo := -128) (hi := 127) (fun _ => rfl) (by omega) (by omega) (by omega) ?_
    intro m12 I13 W14
    have F15 : Fr l_52 0 0 g μ m12 := F0.v W14 b7 rfl rfl
    refine w_t (np := 22) (l2 := [some (eR a0), some (eI (a1))]) (s2 := [eR a0]) rfl (s_an rfl (pos_g I13 gA0 (by decide))) rfl ?_
    refine w_t (np := 23) (l2 := [some (eR a0), some (eI (a1))]) (s2 := [eR a0, eR a0]) rfl rfl rfl ?_
    refine w_gf (np := 26) (v := eI (v1)) rfl rfl (I13.kd gA0 (by decide) (n := 2) rfl) (by rw [(W14.addr e2 b7 gA0 (by decide))]; rfl) ?_
    refine w_t (np := 27) (l2 := [some (eR a0), some (eI (a1))]) (s2 := [eI (1), eI (v1), eR a0]) rfl rfl rfl ?_
    obtain ⟨v16, e17⟩ : ∃ zz : Int, zz = (v1) + (1) := ⟨_, rfl⟩
    have b18 : 1 ≤ v16 ∧ v16 ≤ 1056 := by omega
    refine w_t (np := 28) (l2 := [some (eR a0), some (eI (a1))]) (s2 := [eI (v16), eR a0]) rfl (b_iadd (by rw [← e17]; exact ev_w_in (by omega) (by omega))) rfl ?_
    refine j_pf (np := 31) (w := v16) rfl rfl I13 gA0 (by decide) (n := 2) rfl rfl (hO_i (lo := 0) (hi := 1056) rfl (by omega)) ?_
    intro m19 I20 W21
    have F22 : Fr l_52 0 0 g μ m19 := F15.w W21 gA0 rfl
    exact v_rv rfl rfl (K m19 I20 F22)
def l_54 : List Nat := [6914, 7168]
theorem s_54 {L : Nat} {ρ : Nat → Int} {rc : eQ} {d : Nat} {f : eFr} {F : List eFr} {μ : eM} {g : Nat → Nat} {a0 : Nat} {a1 : Int} (hI : SI g μ) (gA0 : g a0 = 27) (bA1 : -2147483648 ≤ a1 ∧ a1 ≤ 2147483647) (K : ∀ (μ2 : eM), SI g μ2 → Fr l_54 0 0 g μ μ2 → ex_q (dt_fg L ρ) rc (d + 2, (f.1, f.2.1, f.2.2.1, f.2.2.2), F, μ2)) : ex_q (dt_fg L ρ) rc (d + 1, (54, 0, [some (eR a0), some (eI (a1))], []), f :: F, μ) := by
  have F0 : Fr l_54 0 0 g μ μ := Fr.r
  refine w_t (np := 1) (l2 := [some (eR a0), some (eI (a1))]) (s2 := [eR a0]) rfl (s_an rfl (pos_g hI gA0 (by decide))) rfl ?_
  refine w_t (np := 3) (l2 := [some (eR a0), some (eI (a1))]) (s2 := [eI (32), eR a0]) rfl rfl rfl ?_
  refine w_cw (np := 6) (as := [eI (32)]) (l2 := [some (eR a0), some (eI (32))]) (rest := []) rfl rfl rfl (Nat.ble_eq.mp rfl) rfl rfl rfl (hI.kd gA0 (by decide) (n := 2) rfl) rfl ?_
  refine s_52 (a1 := 32) hI gA0 (by decide) ?_
  intro m1 I2 F3
  have F4 : Fr l_54 0 0 g μ m1 := F0.t F3 rfl
  show ex_q (dt_fg L ρ) rc (d + 1, (54, 6, [some (eR a0), some (eI (a1))], []), f :: F, m1)
  refine w_t (np := 7) (l2 := [some (eR a0), some (eI (a1))]) (s2 := [eI (a1)]) rfl rfl rfl ?_
  refine w_t (np := 9) (l2 := [some (eR a0), some (eI (a1))]) (s2 := [eI (100), eI (a1)]) rfl rfl rfl ?_
  refine b_clt (t1 := 26) (t2 := 12) rfl rfl rfl (ev_w_in (by omega) (by omega)) rfl (fun g5 => ?_) (fun g5 => ?_)
  · have b6 : -2147483648 ≤ a1 ∧ a1 ≤ 99 := by omega
    refine w_t (np := 27) (l2 := [some (eR a0), some (eI (a1))]) (s2 := [eI (a1)]) rfl rfl rfl ?_
    refine w_t (np := 29) (l2 := [some (eR a0), some (eI (a1))]) (s2 := [eI (10), eI (a1)]) rfl rfl rfl ?_
    refine b_clt (t1 := 46) (t2 := 32) rfl rfl rfl (ev_w_in (by omega) (by omega)) rfl (fun g6 => ?_) (fun g6 => ?_)
    · have b7 : -2147483648 ≤ a1 ∧ a1 ≤ 9 := by omega
      refine w_t (np := 47) (l2 := [some (eR a0), some (eI (a1))]) (s2 := [eR a0]) rfl (s_an rfl (pos_g I2 gA0 (by decide))) rfl ?_
      refine w_t (np := 49) (l2 := [some (eR a0), some (eI (a1))]) (s2 := [eI (48), eR a0]) rfl rfl rfl ?_
      refine w_t (np := 50) (l2 := [some (eR a0), some (eI (a1))]) (s2 := [eI (a1), eI (48), eR a0]) rfl rfl rfl ?_
      refine w_t (np := 52) (l2 := [some (eR a0), some (eI (a1))]) (s2 := [eI (10), eI (a1), eI (48), eR a0]) rfl rfl rfl ?_
      obtain ⟨v7, e8, b9⟩ := h_irem (a := a1) (k := 10) (by decide) (by decide) (show (-2147483648 : Int) ≤ a1 ∧ (a1 : Int) ≤ 2147483647 by omega)
      have b10 : -9 ≤ v7 ∧ v7 ≤ 9 := by omega
      refine w_t (np := 53) (l2 := [some (eR a0), some (eI (a1))]) (s2 := [eI (v7), eI (48), eR a0]) rfl (e8 _ _) rfl ?_
      obtain ⟨v11, e12⟩ : ∃ zz : Int, zz = (48) + (v7) := ⟨_, rfl⟩
      have b13 : 39 ≤ v11 ∧ v11 ≤ 57 := by omega
      refine w_t (np := 54) (l2 := [some (eR a0), some (eI (a1))]) (s2 := [eI (v11), eR a0]) rfl (b_iadd (by rw [← e12]; exact ev_w_in (by omega) (by omega))) rfl ?_
      refine w_cw (np := 57) (as := [eI (v11)]) (l2 := [some (eR a0), some (eI (v11))]) (rest := []) rfl rfl rfl (Nat.ble_eq.mp rfl) rfl rfl rfl (I2.kd gA0 (by decide) (n := 2) rfl) rfl ?_
      refine s_52 (a1 := v11) I2 gA0 (by omega) ?_
      intro m14 I15 F16
      have F17 : Fr l_54 0 0 g μ m14 := F4.t F16 rfl
      show ex_q (dt_fg L ρ) rc (d + 1, (54, 57, [some (eR a0), some (eI (a1))], []), f :: F, m14)
      exact v_rv rfl rfl (K m14 I15 F17)
    · have b7 : 10 ≤ a1 ∧ a1 ≤ 99 := by omega
      refine w_t (np := 33) (l2 := [some (eR a0), some (eI (a1))]) (s2 := [eR a0]) rfl (s_an rfl (pos_g I2 gA0 (by decide))) rfl ?_
      refine w_t (np := 35) (l2 := [some (eR a0), some (eI (a1))]) (s2 := [eI (48), eR a0]) rfl rfl rfl ?_
      refine w_t (np := 36) (l2 := [some (eR a0), some (eI (a1))]) (s2 := [eI (a1), eI (48), eR a0]) rfl rfl rfl ?_
      refine w_t (np := 38) (l2 := [some (eR a0), some (eI (a1))]) (s2 := [eI (10), eI (a1), eI (48), eR a0]) rfl rfl rfl ?_
      obtain ⟨v7, e8, b9⟩ := h_idiv (a := a1) (k := 10) (by decide) (by decide) (show (-2147483648 : Int) ≤ a1 ∧ (a1 : Int) ≤ 2147483647 by omega)
      have b10 : 1 ≤ v7 ∧ v7 ≤ 9 := by omega
      refine w_t (np := 39) (l2 := [some (eR a0), some (eI (a1))]) (s2 := [eI (v7), eI (48), eR a0]) rfl (e8 _ _) rfl ?_
      refine w_t (np := 41) (l2 := [some (eR a0), some (eI (a1))]) (s2 := [eI (10), eI (v7), eI (48), eR a0]) rfl rfl rfl ?_
      obtain ⟨v11, e12, b13⟩ := h_irem (a := v7) (k := 10) (by decide) (by decide) (show (-2147483648 : Int) ≤ v7 ∧ (v7 : Int) ≤ 2147483647 by omega)
      have b14 : 0 ≤ v11 ∧ v11 ≤ 9 := by omega
      refine w_t (np := 42) (l2 := [some (eR a0), some (eI (a1))]) (s2 := [eI (v11), eI (48), eR a0]) rfl (e12 _ _) rfl ?_
      obtain ⟨v15, e16⟩ : ∃ zz : Int, zz = (48) + (v11) := ⟨_, rfl⟩
      have b17 : 48 ≤ v15 ∧ v15 ≤ 57 := by omega
      refine w_t (np := 43) (l2 := [some (eR a0), some (eI (a1))]) (s2 := [eI (v15), eR a0]) rfl (b_iadd (by rw [← e16]; exact ev_w_in (by omega) (by omega))) rfl ?_
      refine w_cw (np := 46) (as := [eI (v15)]) (l2 := [some (eR a0), some (eI (v15))]) (rest := []) rfl rfl rfl (Nat.ble_eq.mp rfl) rfl rfl rfl (I2.kd gA0 (by decide) (n := 2) rfl) rfl ?_
      refine s_52 (a1 := v15) I2 gA0 (by omega) ?_
      intro m18 I19 F20
      have F21 : Fr l_54 0 0 g μ m18 := F4.t F20 rfl
      show ex_q (dt_fg L ρ) rc (d + 1, (54, 46, [some (eR a0), some (eI (a1))], []), f :: F, m18)
      refine w_t (np := 47) (l2 := [some (eR a0), some (eI (a1))]) (s2 := [eR a0]) rfl (s_an rfl (pos_g I19 gA0 (by decide))) rfl ?_
      refine w_t (np := 49) (l2 := [some (eR a0), some (eI (a1))]) (s2 := [eI (48), eR a0]) rfl rfl rfl ?_
      refine w_t (np := 50) (l2 := [some (eR a0), some (eI (a1))]) (s2 := [eI (a1), eI (48), eR a0]) rfl rfl rfl ?_
      refine w_t (np := 52) (l2 := [some (eR a0), some (eI (a1))]) (s2 := [eI (10), eI (a1), eI (48), eR a0]) rfl rfl rfl ?_
      obtain ⟨v22, e23, b24⟩ := h_irem (a := a1) (k := 10) (by decide) (by decide) (show (-2147483648 : Int) ≤ a1 ∧ (a1 : Int) ≤ 2147483647 by omega)
      have b25 : 0 ≤ v22 ∧ v22 ≤ 9 := by omega
      refine w_t (np := 53) (l2 := [some (eR a0), some (eI (a1))]) (s2 := [eI (v22), eI (48), eR a0]) rfl (e23 _ _) rfl ?_
      obtain ⟨v26, e27⟩ : ∃ zz : Int, zz = (48) + (v22) := ⟨_, rfl⟩
      have b28 : 48 ≤ v26 ∧ v26 ≤ 57 := by omega
      refine w_t (np := 54) (l2 := [some (eR a0), some (eI (a1))]) (s2 := [eI (v26), eR a0]) rfl (b_iadd (by rw [← e27]; exact ev_w_in (by omega) (by omega))) rfl ?_
      refine w_cw (np := 57) (as := [eI (v26)]) (l2 := [some (eR a0), some (eI (v26))]) (rest := []) rfl rfl rfl (Nat.ble_eq.mp rfl) rfl rfl rfl (I19.kd gA0 (by decide) (n := 2) rfl) rfl ?_
      refine s_52 (a1 := v26) I19 gA0 (by omega) ?_
      intro m29 I30 F31
      have F32 : Fr l_54 0 0 g μ m29 := F21.t F31 rfl
      show ex_q (dt_fg L ρ) rc (d + 1, (54, 57, [some (eR a0), some (eI (a1))], []), f :: F, m29)
      exact v_rv rfl rfl (K m29 I30 F32)
  · have b6 : 100 ≤ a1 ∧ a1 ≤ 2147483647 := by omega
    refine w_t (np := 13) (l2 := [some (eR a0), some (eI (a1))]) (s2 := [eR a0]) rfl (s_an rfl (pos_g I2 gA0 (by decide))) rfl ?_
    refine w_t (np := 15) (l2 := [some (eR a0), some (eI (a1))]) (s2 := [eI (48), eR a0]) rfl rfl rfl ?_
    refine w_t (np := 16) (l2 := [some (eR a0), some (eI (a1))]) (s2 := [eI (a1), eI (48), eR a0]) rfl rfl rfl ?_
    refine w_t (np := 18) (l2 := [some (eR a0), some (eI (a1))]) (s2 := [eI (100), eI (a1), eI (48), eR a0]) rfl rfl rfl ?_
    obtain ⟨v6, e7, b8⟩ := h_idiv (a := a1) (k := 100) (by decide) (by decide) (show (-2147483648 : Int) ≤ a1 ∧ (a1 : Int) ≤ 2147483647 by omega)
    have b9 : 1 ≤ v6 ∧ v6 ≤ 21474836 := by omega
    refine w_t (np := 19) (l2 := [some (eR a0), some (eI (a1))]) (s2 := [eI (v6), eI (48), eR a0]) rfl (e7 _ _) rfl ?_
    refine w_t (np := 21) (l2 := [some (eR a0), some (eI (a1))]) (s2 := [eI (10), eI (v6), eI (48), eR a0]) rfl rfl rfl ?_
    obtain ⟨v10, e11, b12⟩ := h_irem (a := v6) (k := 10) (by decide) (by decide) (show (-2147483648 : Int) ≤ v6 ∧ (v6 : Int) ≤ 2147483647 by omega)
    have b13 : 0 ≤ v10 ∧ v10 ≤ 9 := by omega
    refine w_t (np := 22) (l2 := [some (eR a0), some (eI (a1))]) (s2 := [eI (v10), eI (48), eR a0]) rfl (e11 _ _) rfl ?_
    obtain ⟨v14, e15⟩ : ∃ zz : Int, zz = (48) + (v10) := ⟨_, rfl⟩
    have b16 : 48 ≤ v14 ∧ v14 ≤ 57 := by omega
    refine w_t (np := 23) (l2 := [some (eR a0), some (eI (a1))]) (s2 := [eI (v14), eR a0]) rfl (b_iadd (by rw [← e15]; exact ev_w_in (by omega) (by omega))) rfl ?_
    refine w_cw (np := 26) (as := [eI (v14)]) (l2 := [some (eR a0), some (eI (v14))]) (rest := []) rfl rfl rfl (Nat.ble_eq.mp rfl) rfl rfl rfl (I2.kd gA0 (by decide) (n := 2) rfl) rfl ?_
    refine s_52 (a1 := v14) I2 gA0 (by omega) ?_
    intro m17 I18 F19
    have F20 : Fr l_54 0 0 g μ m17 := F4.t F19 rfl
    show ex_q (dt_fg L ρ) rc (d + 1, (54, 26, [some (eR a0), some (eI (a1))], []), f :: F, m17)
    refine w_t (np := 27) (l2 := [some (eR a0), some (eI (a1))]) (s2 := [eI (a1)]) rfl rfl rfl ?_
    refine w_t (np := 29) (l2 := [some (eR a0), some (eI (a1))]) (s2 := [eI (10), eI (a1)]) rfl rfl rfl ?_
    refine b_clt (t1 := 46) (t2 := 32) rfl rfl rfl (ev_w_in (by omega) (by omega)) rfl (fun g21 => False.elim (by omega)) (fun g21 => ?_)
    refine w_t (np := 33) (l2 := [some (eR a0), some (eI (a1))]) (s2 := [eR a0]) rfl (s_an rfl (pos_g I18 gA0 (by decide))) rfl ?_
    refine w_t (np := 35) (l2 := [some (eR a0), some (eI (a1))]) (s2 := [eI (48), eR a0]) rfl rfl rfl ?_
    refine w_t (np := 36) (l2 := [some (eR a0), some (eI (a1))]) (s2 := [eI (a1), eI (48), eR a0]) rfl rfl rfl ?_
    refine w_t (np := 38) (l2 := [some (eR a0), some (eI (a1))]) (s2 := [eI (10), eI (a1), eI (48), eR a0]) rfl rfl rfl ?_
    obtain ⟨v22, e23, b24⟩ := h_idiv (a := a1) (k := 10) (by decide) (by decide) (show (-2147483648 : Int) ≤ a1 ∧ (a1 : Int) ≤ 2147483647 by omega)
    have b25 : 10 ≤ v22 ∧ v22 ≤ 214748364 := by omega
    refine w_t (np := 39) (l2 := [some (eR a0), some (eI (a1))]) (s2 := [eI (v22), eI (48), eR a0]) rfl (e23 _ _) rfl ?_
    refine w_t (np := 41) (l2 := [some (eR a0), some (eI (a1))]) (s2 := [eI (10), eI (v22), eI (48), eR a0]) rfl rfl rfl ?_
    obtain ⟨v26, e27, b28⟩ := h_irem (a := v22) (k := 10) (by decide) (by decide) (show (-2147483648 : Int) ≤ v22 ∧ (v22 : Int) ≤ 2147483647 by omega)
    have b29 : 0 ≤ v26 ∧ v26 ≤ 9 := by omega
    refine w_t (np := 42) (l2 := [some (eR a0), some (eI (a1))]) (s2 := [eI (v26), eI (48), eR a0]) rfl (e27 _ _) rfl ?_
    obtain ⟨v30, e31⟩ : ∃ zz : Int, zz = (48) + (v26) := ⟨_, rfl⟩
    have b32 : 48 ≤ v30 ∧ v30 ≤ 57 := by omega
    refine w_t (np := 43) (l2 := [some (eR a0), some (eI (a1))]) (s2 := [eI (v30), eR a0]) rfl (b_iadd (by rw [← e31]; exact ev_w_in (by omega) (by omega))) rfl ?_
    refine w_cw (np := 46) (as := [eI (v30)]) (l2 := [some (eR a0), some (eI (v30))]) (rest := []) rfl rfl rfl (Nat.ble_eq.mp rfl) rfl rfl rfl (I18.kd gA0 (by decide) (n := 2) rfl) rfl ?_
    refine s_52 (a1 := v30) I18 gA0 (by omega) ?_
    intro m33 I34 F35
    have F36 : Fr l_54 0 0 g μ m33 := F20.t F35 rfl
    show ex_q (dt_fg L ρ) rc (d + 1, (54, 46, [some (eR a0), some (eI (a1))], []), f :: F, m33)
    refine w_t (np := 47) (l2 := [some (eR a0), some (eI (a1))]) (s2 := [eR a0]) rfl (s_an rfl (pos_g I34 gA0 (by decide))) rfl ?_
    refine w_t (np := 49) (l2 := [some (eR a0), some (eI (a1))]) (s2 := [eI (48), eR a0]) rfl rfl rfl ?_
    refine w_t (np := 50) (l2 := [some (eR a0), some (eI (a1))]) (s2 := [eI (a1), eI (48), eR a0]) rfl rfl rfl ?_
    refine w_t (np := 52) (l2 := [some (eR a0), some (eI (a1))]) (s2 := [eI (10), eI (a1), eI (48), eR a0]) rfl rfl rfl ?_
    obtain ⟨v37, e38, b39⟩ := h_irem (a := a1) (k := 10) (by decide) (by decide) (show (-2147483648 : Int) ≤ a1 ∧ (a1 : Int) ≤ 2147483647 by omega)
    have b40 : 0 ≤ v37 ∧ v37 ≤ 9 := by omega
    refine w_t (np := 53) (l2 := [some (eR a0), some (eI (a1))]) (s2 := [eI (v37), eI (48), eR a0]) rfl (e38 _ _) rfl ?_
    obtain ⟨v41, e42⟩ : ∃ zz : Int, zz = (48) + (v37) := ⟨_, rfl⟩
    have b43 : 48 ≤ v41 ∧ v41 ≤ 57 := by omega
    refine w_t (np := 54) (l2 := [some (eR a0), some (eI (a1))]) (s2 := [eI (v41), eR a0]) rfl (b_iadd (by rw [← e42]; exact ev_w_in (by omega) (by omega))) rfl ?_
    refine w_cw (np := 57) (as := [eI (v41)]) (l2 := [some (eR a0), some (eI (v41))]) (rest := []) rfl rfl rfl (Nat.ble_eq.mp rfl) rfl rfl rfl (I34.kd gA0 (by decide) (n := 2) rfl) rfl ?_
    refine s_52 (a1 := v41) I34 gA0 (by omega) ?_
    intro m44 I45 F46
    have F47 : Fr l_54 0 0 g μ m44 := F36.t F46 rfl
    show ex_q (dt_fg L ρ) rc (d + 1, (54, 57, [some (eR a0), some (eI (a1))], []), f :: F, m44)
    exact v_rv rfl rfl (K m44 I45 F47)
def l_57 : List Nat := [6147, 6400]
theorem s_57 {L : Nat} {ρ : Nat → Int} {rc : eQ} {d : Nat} {f : eFr} {F : List eFr} {μ : eM} {g : Nat → Nat} {a0 : Nat} {a1 : Int} (hI : SI g μ) (gA0 : g a0 = 24) (bA1 : -2147483648 ≤ a1 ∧ a1 ≤ 2147483647) (K : ∀ (μ2 : eM), SI g μ2 → Fr l_57 0 0 g μ μ2 → ex_q (dt_fg L ρ) rc (d + 1, (f.1, f.2.1, f.2.2.1, f.2.2.2), F, μ2)) : ex_q (dt_fg L ρ) rc (d, (57, 0, [some (eR a0), some (eI (a1)), none], []), f :: F, μ) := by
  have F0 : Fr l_57 0 0 g μ μ := Fr.r
  refine w_t (np := 2) (l2 := [some (eR a0), some (eI (a1)), none]) (s2 := [eI (24)]) rfl rfl rfl ?_
  refine w_t (np := 3) (l2 := [some (eR a0), some (eI (a1)), some (eI (24))]) (s2 := []) rfl rfl rfl ?_
  have hL3 : ∀ (n1 : Nat) (m5 : eM) (i3 : Int), SI g m5 → Fr l_57 0 0 g μ m5 → (-10 ≤ i3 ∧ i3 ≤ 24) → n1 = (i3 - (-10)).toNat → ex_q (dt_fg L ρ) rc (d, (57, 3, [some (eR a0), some (eI (a1)), some (eI (i3))], []), f :: F, m5) := by
    intro n1
    induction n1 using Nat.strongRecOn with
    | _ n1 ih2 =>
    intro m5 i3 I6 F7 b4 hn8
    refine w_t (np := 4) (l2 := [some (eR a0), some (eI (a1)), some (eI (i3))]) (s2 := [eI (i3)]) rfl rfl rfl ?_
    refine b_ilt (t1 := 46) (t2 := 7) rfl rfl rfl (ev_w_in (by omega) (by omega)) (fun g9 => ?_) (fun g9 => ?_)
    · have b10 : -10 ≤ i3 ∧ i3 ≤ -1 := by omega
      exact v_rv rfl rfl (K m5 I6 F7)
    · have b10 : 0 ≤ i3 ∧ i3 ≤ 24 := by omega
      refine w_t (np := 8) (l2 := [some (eR a0), some (eI (a1)), some (eI (i3))]) (s2 := [eR a0]) rfl (s_an rfl (pos_g I6 gA0 (by decide))) rfl ?_
      refine j_gi (np := 11) rfl rfl rfl I6 gA0 (by decide) (n := 11) rfl rfl (lo := 0) (hi := 900) rfl ?_
      intro v10 e11 b12
      refine w_t (np := 14) (l2 := [some (eR a0), some (eI (a1)), some (eI (i3))]) (s2 := [eI (900), eI (v10)]) rfl rfl rfl ?_
      refine b_cge (t1 := 46) (t2 := 17) rfl rfl rfl (ev_w_in (by omega) (by omega)) rfl (fun g13 => ?_) (fun g13 => ?_)
      · have b14 : 900 ≤ v10 ∧ v10 ≤ 900 := by omega
        exact v_rv rfl rfl (K m5 I6 F7)
      · have b14 : 0 ≤ v10 ∧ v10 ≤ 899 := by omega
        refine w_t (np := 18) (l2 := [some (eR a0), some (eI (a1)), some (eI (i3))]) (s2 := [eR a0]) rfl (s_an rfl (pos_g I6 gA0 (by decide))) rfl ?_
        refine j_gr (np := 21) rfl rfl I6 gA0 (by decide) (n := 11) rfl rfl rfl ?_
        intro v14 e15 b16 z17
        have b16 : g v14 = 25 := Nat.eq_of_beq_eq_true b16
        refine w_t (np := 22) (l2 := [some (eR a0), some (eI (a1)), some (eI (i3))]) (s2 := [eR a0, eR v14]) rfl (s_an rfl (pos_g I6 gA0 (by decide))) rfl ?_
        refine w_gf (np := 25) (v := eI (v10)) rfl rfl (I6.kd gA0 (by decide) (n := 11) rfl) (by rw [e11]; rfl) ?_
        refine w_t (np := 26) (l2 := [some (eR a0), some (eI (a1)), some (eI (i3))]) (s2 := [eI (a1), eI (v10), eR v14]) rfl rfl rfl ?_
        refine w_t (np := 27) (l2 := [some (eR a0), some (eI (a1)), some (eI (i3))]) (s2 := [eI (i3), eI (a1), eI (v10), eR v14]) rfl rfl rfl ?_
        obtain ⟨v18, e19, b20⟩ := h_ishr (a1) (i3)
        refine w_t (np := 28) (l2 := [some (eR a0), some (eI (a1)), some (eI (i3))]) (s2 := [eI (v18), eI (v10), eR v14]) rfl (e19 _ _) rfl ?_
        obtain ⟨v21, e22, b23⟩ := h_i2b (v18)
        refine w_t (np := 29) (l2 := [some (eR a0), some (eI (a1)), some (eI (i3))]) (s2 := [eI (v21), eI (v10), eR v14]) rfl (e22 _ _) rfl ?_
        refine j_sb2 (np := 30) rfl rfl I6 b16 (by decide) (n := 900) rfl rfl (lo := -128) (hi := 127) (fun _ => rfl) (by omega) (by omega) (by omega) ?_
        intro m24 I25 W26
        have F27 : Fr l_57 0 0 g μ m24 := F7.v W26 b16 rfl rfl
        refine w_t (np := 31) (l2 := [some (eR a0), some (eI (a1)), some (eI (i3))]) (s2 := [eR a0]) rfl (s_an rfl (pos_g I25 gA0 (by decide))) rfl ?_
        refine w_t (np := 32) (l2 := [some (eR a0), some (eI (a1)), some (eI (i3))]) (s2 := [eR a0, eR a0]) rfl rfl rfl ?_
        refine w_gf (np := 35) (v := eI (v10)) rfl rfl (I25.kd gA0 (by decide) (n := 11) rfl) (by rw [(W26.addr e11 b16 gA0 (by decide))]; rfl) ?_
        refine w_t (np := 36) (l2 := [some (eR a0), some (eI (a1)), some (eI (i3))]) (s2 := [eI (1), eI (v10), eR a0]) rfl rfl rfl ?_
        obtain ⟨v28, e29⟩ : ∃ zz : Int, zz = (v10) + (1) := ⟨_, rfl⟩
        have b30 : 1 ≤ v28 ∧ v28 ≤ 900 := by omega
        refine w_t (np := 37) (l2 := [some (eR a0), some (eI (a1)), some (eI (i3))]) (s2 := [eI (v28), eR a0]) rfl (b_iadd (by rw [← e29]; exact ev_w_in (by omega) (by omega))) rfl ?_
        refine j_pf (np := 40) (w := v28) rfl rfl I25 gA0 (by decide) (n := 11) rfl rfl (hO_i (lo := 0) (hi := 900) rfl (by omega)) ?_
        intro m31 I32 W33
        have F34 : Fr l_57 0 0 g μ m31 := F27.w W33 gA0 rfl
        obtain ⟨v35, e36⟩ : ∃ zz : Int, zz = (i3) + (-8) := ⟨_, rfl⟩
        have b37 : -8 ≤ v35 ∧ v35 ≤ 16 := by omega
        refine w_t (np := 43) (l2 := [some (eR a0), some (eI (a1)), some (eI (v35))]) (s2 := []) rfl (b_iinc rfl (by rw [← e36]; exact ev_w_in (by omega) (by omega)) rfl) rfl ?_
        refine w_go (t1 := 3) rfl rfl ?_
        exact ih2 ((v35) - (-10)).toNat (by omega) m31 (v35) I32 F34 (by omega)     rfl
  exact hL3 _ μ (24) hI F0 (by decide)     rfl
theorem s_64 {L : Nat} {ρ : Nat → Int} {rc : eQ} {d : Nat} {f : eFr} {F : List eFr} {μ : eM} {g : Nat → Nat} {a0 : Nat} {a1 : Int} {le : Int} (hI : SI g μ) (gA0 : g a0 = 24) (bA1 : -2147483648 ≤ a1 ∧ a1 ≤ 2147483647) (h_le : μ.1 a0 3 = le) (K : ∀ (v : Int), (-1 ≤ v ∧ v ≤ 255) → (v = -1 ∨ (0 ≤ a1 ∧ a1 < le)) → ex_q (dt_fg L ρ) rc (d + 1, (f.1, f.2.1, f.2.2.1, eI v :: f.2.2.2), F, μ)) : ex_q (dt_fg L ρ) rc (d, (64, 0, [some (eR a0), some (eI (a1))], []), f :: F, μ) := by
  have b_le : 0 ≤ le ∧ le ≤ 900 := by
    rw [← h_le]
    exact hI.int gA0 (by decide) (n := 11) rfl (by decide) rfl
  refine w_t (np := 1) (l2 := [some (eR a0), some (eI (a1))]) (s2 := [eI (a1)]) rfl rfl rfl ?_
  refine b_ilt (t1 := 19) (t2 := 4) rfl rfl rfl (ev_w_in (by omega) (by omega)) (fun g1 => ?_) (fun g1 => ?_)
  · have b2 : -2147483648 ≤ a1 ∧ a1 ≤ -1 := by omega
    refine w_t (np := 20) (l2 := [some (eR a0), some (eI (a1))]) (s2 := [eI (-1)]) rfl rfl rfl ?_
    refine w_go (t1 := 33) rfl rfl ?_
    exact b_ri rfl rfl (K (-1) (by decide) (by omega))
  · have b2 : 0 ≤ a1 ∧ a1 ≤ 2147483647 := by omega
    refine w_t (np := 5) (l2 := [some (eR a0), some (eI (a1))]) (s2 := [eI (a1)]) rfl rfl rfl ?_
    refine w_t (np := 6) (l2 := [some (eR a0), some (eI (a1))]) (s2 := [eR a0, eI (a1)]) rfl (s_an rfl (pos_g hI gA0 (by decide))) rfl ?_
    refine w_gf (np := 9) (v := eI (le)) rfl rfl (hI.kd gA0 (by decide) (n := 11) rfl) (by rw [h_le]; rfl) ?_
    refine b_cge (t1 := 19) (t2 := 12) rfl rfl rfl (ev_w_in (by omega) (by omega)) (ev_w_in (by omega) (by omega)) (fun g2 => ?_) (fun g2 => ?_)
    · refine w_t (np := 20) (l2 := [some (eR a0), some (eI (a1))]) (s2 := [eI (-1)]) rfl rfl rfl ?_
      refine w_go (t1 := 33) rfl rfl ?_
      exact b_ri rfl rfl (K (-1) (by decide) (by omega))
    · have b3 : 0 ≤ a1 ∧ a1 ≤ 899 := by omega
      have b4 : 1 ≤ le ∧ le ≤ 900 := by omega
      refine w_t (np := 13) (l2 := [some (eR a0), some (eI (a1))]) (s2 := [eI (a1)]) rfl rfl rfl ?_
      refine w_t (np := 16) (l2 := [some (eR a0), some (eI (a1))]) (s2 := [eI (900), eI (a1)]) rfl rfl rfl ?_
      refine b_clt (t1 := 23) (t2 := 19) rfl rfl rfl (ev_w_in (by omega) (by omega)) rfl (fun g3 => ?_) (fun g3 => False.elim (by omega))
      refine w_t (np := 24) (l2 := [some (eR a0), some (eI (a1))]) (s2 := [eR a0]) rfl (s_an rfl (pos_g hI gA0 (by decide))) rfl ?_
      refine j_gr (np := 27) rfl rfl hI gA0 (by decide) (n := 11) rfl rfl rfl ?_
      intro v4 e5 b6 z7
      have b6 : g v4 = 25 := Nat.eq_of_beq_eq_true b6
      refine w_t (np := 28) (l2 := [some (eR a0), some (eI (a1))]) (s2 := [eI (a1), eR v4]) rfl rfl rfl ?_
      refine j_b2 (np := 29) rfl rfl hI b6 (by decide) (n := 900) rfl rfl (lo := -128) (hi := 127) (fun _ => rfl) (by omega) (by omega) ?_
      intro v8 e9 b10
      refine w_t (np := 32) (l2 := [some (eR a0), some (eI (a1))]) (s2 := [eI (255), eI (v8)]) rfl rfl rfl ?_
      obtain ⟨v11, e12, b13⟩ := h_iand (a := v8) (b := 255) (by decide) (by decide)
      have b14 : 0 ≤ v11 ∧ v11 ≤ 255 := by omega
      refine w_t (np := 33) (l2 := [some (eR a0), some (eI (a1))]) (s2 := [eI (v11)]) rfl (e12 _ _) rfl ?_
      exact b_ri rfl rfl (K (v11) (by omega) (by omega))
def l_68 : List Nat := [6149, 6152]
theorem s_68 {L : Nat} {ρ : Nat → Int} {rc : eQ} {d : Nat} {f : eFr} {F : List eFr} {μ : eM} {g : Nat → Nat} {a0 : Nat} {a1 : Int} (hI : SI g μ) (gA0 : g a0 = 24) (bA1 : 0 ≤ a1 ∧ a1 ≤ 900) (K : ∀ (μ2 : eM) (v : Int), SI g μ2 → Fr l_68 0 0 g μ μ2 → (0 ≤ v ∧ v ≤ 900) → ex_q (dt_fg L ρ) rc (d + 2, (f.1, f.2.1, f.2.2.1, eI v :: f.2.2.2), F, μ2)) : ex_q (dt_fg L ρ) rc (d + 1, (68, 0, [some (eR a0), some (eI (a1)), none], []), f :: F, μ) := by
  have F0 : Fr l_68 0 0 g μ μ := Fr.r
  refine w_t (np := 1) (l2 := [some (eR a0), some (eI (a1)), none]) (s2 := [eI (a1)]) rfl rfl rfl ?_
  refine w_t (np := 2) (l2 := [some (eR a0), some (eI (a1)), some (eI (a1))]) (s2 := []) rfl rfl rfl ?_
  refine w_t (np := 3) (l2 := [some (eR a0), some (eI (a1)), some (eI (a1))]) (s2 := [eR a0]) rfl (s_an rfl (pos_g hI gA0 (by decide))) rfl ?_
  refine w_t (np := 4) (l2 := [some (eR a0), some (eI (a1)), some (eI (a1))]) (s2 := [eI (0), eR a0]) rfl rfl rfl ?_
  refine j_pf (np := 7) (w := 0) rfl rfl hI gA0 (by decide) (n := 11) rfl rfl (hO_i (lo := -2147483648) (hi := 2147483647) rfl (by decide)) ?_
  intro m1 I2 W3
  have F4 : Fr l_68 0 0 g μ m1 := F0.w W3 gA0 rfl
  have hL7 : ∀ (n5 : Nat) (m9 : eM) (i7 : Int), SI g m9 → Fr l_68 0 0 g μ m9 → (0 ≤ i7 ∧ i7 ≤ 900) → n5 = (900 - i7).toNat → ex_q (dt_fg L ρ) rc (d + 1, (68, 7, [some (eR a0), some (eI (a1)), some (eI (i7))], []), f :: F, m9) := by
    intro n5
    induction n5 using Nat.strongRecOn with
    | _ n5 ih6 =>
    intro m9 i7 I10 F11 b8 hn12
    refine w_t (np := 8) (l2 := [some (eR a0), some (eI (a1)), some (eI (i7))]) (s2 := [eI (i7)]) rfl rfl rfl ?_
    refine w_t (np := 9) (l2 := [some (eR a0), some (eI (a1)), some (eI (i7))]) (s2 := [eR a0, eI (i7)]) rfl (s_an rfl (pos_g I10 gA0 (by decide))) rfl ?_
    refine j_gi (np := 12) rfl rfl rfl I10 gA0 (by decide) (n := 11) rfl rfl (lo := 0) (hi := 900) rfl ?_
    intro v13 e14 b15
    refine b_cge (t1 := 58) (t2 := 15) rfl rfl rfl (ev_w_in (by omega) (by omega)) (ev_w_in (by omega) (by omega)) (fun g16 => ?_) (fun g16 => ?_)
    · refine w_t (np := 59) (l2 := [some (eR a0), some (eI (a1)), some (eI (i7))]) (s2 := [eR a0]) rfl (s_an rfl (pos_g I10 gA0 (by decide))) rfl ?_
      refine w_t (np := 60) (l2 := [some (eR a0), some (eI (a1)), some (eI (i7))]) (s2 := [eI (i7), eR a0]) rfl rfl rfl ?_
      refine w_t (np := 61) (l2 := [some (eR a0), some (eI (a1)), some (eI (i7))]) (s2 := [eI (a1), eI (i7), eR a0]) rfl rfl rfl ?_
      obtain ⟨v17, e18⟩ : ∃ zz : Int, zz = (i7) - (a1) := ⟨_, rfl⟩
      have b19 : -900 ≤ v17 ∧ v17 ≤ 900 := by omega
      refine w_t (np := 62) (l2 := [some (eR a0), some (eI (a1)), some (eI (i7))]) (s2 := [eI (v17), eR a0]) rfl (b_isub (by rw [← e18]; exact ev_w_in (by omega) (by omega))) rfl ?_
      refine w_t (np := 63) (l2 := [some (eR a0), some (eI (a1)), some (eI (i7))]) (s2 := [eI (3), eI (v17), eR a0]) rfl rfl rfl ?_
      refine b_cle (t1 := 70) (t2 := 66) rfl rfl rfl (ev_w_in (by omega) (by omega)) rfl (fun g20 => ?_) (fun g20 => ?_)
      · have b21 : -900 ≤ v17 ∧ v17 ≤ 3 := by omega
        refine w_t (np := 71) (l2 := [some (eR a0), some (eI (a1)), some (eI (i7))]) (s2 := [eI (2), eR a0]) rfl rfl rfl ?_
        refine j_pf (np := 74) (w := 2) rfl rfl I10 gA0 (by decide) (n := 11) rfl rfl (hO_i (lo := -2147483648) (hi := 2147483647) rfl (by decide)) ?_
        intro m21 I22 W23
        have F24 : Fr l_68 0 0 g μ m21 := F11.w W23 gA0 rfl
        refine w_t (np := 75) (l2 := [some (eR a0), some (eI (a1)), some (eI (i7))]) (s2 := [eI (i7)]) rfl rfl rfl ?_
        exact b_ri rfl rfl (K m21 (i7) I22 F24 (by omega))
      · have b21 : 4 ≤ v17 ∧ v17 ≤ 900 := by omega
        refine w_t (np := 67) (l2 := [some (eR a0), some (eI (a1)), some (eI (i7))]) (s2 := [eI (4), eR a0]) rfl rfl rfl ?_
        refine w_go (t1 := 71) rfl rfl ?_
        refine j_pf (np := 74) (w := 4) rfl rfl I10 gA0 (by decide) (n := 11) rfl rfl (hO_i (lo := -2147483648) (hi := 2147483647) rfl (by decide)) ?_
        intro m21 I22 W23
        have F24 : Fr l_68 0 0 g μ m21 := F11.w W23 gA0 rfl
        refine w_t (np := 75) (l2 := [some (eR a0), some (eI (a1)), some (eI (i7))]) (s2 := [eI (i7)]) rfl rfl rfl ?_
        exact b_ri rfl rfl (K m21 (i7) I22 F24 (by omega))
    · have b17 : 0 ≤ i7 ∧ i7 ≤ 899 := by omega
      have b18 : 1 ≤ v13 ∧ v13 ≤ 900 := by omega
      refine w_t (np := 16) (l2 := [some (eR a0), some (eI (a1)), some (eI (i7))]) (s2 := [eR a0]) rfl (s_an rfl (pos_g I10 gA0 (by decide))) rfl ?_
      refine w_t (np := 17) (l2 := [some (eR a0), some (eI (a1)), some (eI (i7))]) (s2 := [eI (i7), eR a0]) rfl rfl rfl ?_
      refine w_cw (np := 20) (as := [eI (i7)]) (l2 := [some (eR a0), some (eI (i7))]) (rest := []) rfl rfl rfl (Nat.ble_eq.mp rfl) rfl rfl rfl (I10.kd gA0 (by decide) (n := 11) rfl) rfl ?_
      refine s_64 (a1 := i7) I10 gA0 (by omega) e14 ?_
      intro v17 b18 h19
      show ex_q (dt_fg L ρ) rc (d + 1, (68, 20, [some (eR a0), some (eI (a1)), some (eI (i7))], [eI (v17)]), f :: F, m9)
      refine w_cu (np := 23) (as := [eI (v17)]) (l2 := [some (eI (v17))]) (rest := []) rfl rfl rfl (Nat.ble_eq.mp rfl) rfl rfl rfl rfl ?_
      refine w_t (np := 1) (l2 := [some (eI (v17))]) (s2 := [eI (v17)]) rfl rfl rfl ?_
      refine w_t (np := 3) (l2 := [some (eI (v17))]) (s2 := [eI (48), eI (v17)]) rfl rfl rfl ?_
      refine b_clt (t1 := 16) (t2 := 6) rfl rfl rfl (ev_w_in (by omega) (by omega)) rfl (fun g20 => ?_) (fun g20 => ?_)
      · have b21 : -1 ≤ v17 ∧ v17 ≤ 47 := by omega
        refine w_t (np := 17) (l2 := [some (eI (v17))]) (s2 := [eI (0)]) rfl rfl rfl ?_
        refine b_rz rfl rfl (Or.inl rfl) ?_
        show ex_q (dt_fg L ρ) rc (d + 1, (68, 23, [some (eR a0), some (eI (a1)), some (eI (i7))], [eI (0)]), f :: F, m9)
        refine b_ieq (t1 := 58) (t2 := 26) rfl rfl rfl rfl (fun g21 => ?_) (fun g21 => absurd g21 (by decide))
        refine w_t (np := 59) (l2 := [some (eR a0), some (eI (a1)), some (eI (i7))]) (s2 := [eR a0]) rfl (s_an rfl (pos_g I10 gA0 (by decide))) rfl ?_
        refine w_t (np := 60) (l2 := [some (eR a0), some (eI (a1)), some (eI (i7))]) (s2 := [eI (i7), eR a0]) rfl rfl rfl ?_
        refine w_t (np := 61) (l2 := [some (eR a0), some (eI (a1)), some (eI (i7))]) (s2 := [eI (a1), eI (i7), eR a0]) rfl rfl rfl ?_
        obtain ⟨v22, e23⟩ : ∃ zz : Int, zz = (i7) - (a1) := ⟨_, rfl⟩
        have b24 : -900 ≤ v22 ∧ v22 ≤ 899 := by omega
        refine w_t (np := 62) (l2 := [some (eR a0), some (eI (a1)), some (eI (i7))]) (s2 := [eI (v22), eR a0]) rfl (b_isub (by rw [← e23]; exact ev_w_in (by omega) (by omega))) rfl ?_
        refine w_t (np := 63) (l2 := [some (eR a0), some (eI (a1)), some (eI (i7))]) (s2 := [eI (3), eI (v22), eR a0]) rfl rfl rfl ?_
        refine b_cle (t1 := 70) (t2 := 66) rfl rfl rfl (ev_w_in (by omega) (by omega)) rfl (fun g25 => ?_) (fun g25 => ?_)
        · have b26 : -900 ≤ v22 ∧ v22 ≤ 3 := by omega
          refine w_t (np := 71) (l2 := [some (eR a0), some (eI (a1)), some (eI (i7))]) (s2 := [eI (2), eR a0]) rfl rfl rfl ?_
          refine j_pf (np := 74) (w := 2) rfl rfl I10 gA0 (by decide) (n := 11) rfl rfl (hO_i (lo := -2147483648) (hi := 2147483647) rfl (by decide)) ?_
          intro m26 I27 W28
          have F29 : Fr l_68 0 0 g μ m26 := F11.w W28 gA0 rfl
          refine w_t (np := 75) (l2 := [some (eR a0), some (eI (a1)), some (eI (i7))]) (s2 := [eI (i7)]) rfl rfl rfl ?_
          exact b_ri rfl rfl (K m26 (i7) I27 F29 (by omega))
        · have b26 : 4 ≤ v22 ∧ v22 ≤ 899 := by omega
          refine w_t (np := 67) (l2 := [some (eR a0), some (eI (a1)), some (eI (i7))]) (s2 := [eI (4), eR a0]) rfl rfl rfl ?_
          refine w_go (t1 := 71) rfl rfl ?_
          refine j_pf (np := 74) (w := 4) rfl rfl I10 gA0 (by decide) (n := 11) rfl rfl (hO_i (lo := -2147483648) (hi := 2147483647) rfl (by decide)) ?_
          intro m26 I27 W28
          have F29 : Fr l_68 0 0 g μ m26 := F11.w W28 gA0 rfl
          refine w_t (np := 75) (l2 := [some (eR a0), some (eI (a1)), some (eI (i7))]) (s2 := [eI (i7)]) rfl rfl rfl ?_
          exact b_ri rfl rfl (K m26 (i7) I27 F29 (by omega))
      · have b21 : 48 ≤ v17 ∧ v17 ≤ 255 := by omega
        refine w_t (np := 7) (l2 := [some (eI (v17))]) (s2 := [eI (v17)]) rfl rfl rfl ?_
        refine w_t (np := 9) (l2 := [some (eI (v17))]) (s2 := [eI (57), eI (v17)]) rfl rfl rfl ?_
        refine b_cgt (t1 := 16) (t2 := 12) rfl rfl rfl (ev_w_in (by omega) (by omega)) rfl (fun g21 => ?_) (fun g21 => ?_)
        · have b22 : 58 ≤ v17 ∧ v17 ≤ 255 := by omega
          refine w_t (np := 17) (l2 := [some (eI (v17))]) (s2 := [eI (0)]) rfl rfl rfl ?_
          refine b_rz rfl rfl (Or.inl rfl) ?_
          show ex_q (dt_fg L ρ) rc (d + 1, (68, 23, [some (eR a0), some (eI (a1)), some (eI (i7))], [eI (0)]), f :: F, m9)
          refine b_ieq (t1 := 58) (t2 := 26) rfl rfl rfl rfl (fun g22 => ?_) (fun g22 => absurd g22 (by decide))
          refine w_t (np := 59) (l2 := [some (eR a0), some (eI (a1)), some (eI (i7))]) (s2 := [eR a0]) rfl (s_an rfl (pos_g I10 gA0 (by decide))) rfl ?_
          refine w_t (np := 60) (l2 := [some (eR a0), some (eI (a1)), some (eI (i7))]) (s2 := [eI (i7), eR a0]) rfl rfl rfl ?_
          refine w_t (np := 61) (l2 := [some (eR a0), some (eI (a1)), some (eI (i7))]) (s2 := [eI (a1), eI (i7), eR a0]) rfl rfl rfl ?_
          obtain ⟨v23, e24⟩ : ∃ zz : Int, zz = (i7) - (a1) := ⟨_, rfl⟩
          have b25 : -900 ≤ v23 ∧ v23 ≤ 899 := by omega
          refine w_t (np := 62) (l2 := [some (eR a0), some (eI (a1)), some (eI (i7))]) (s2 := [eI (v23), eR a0]) rfl (b_isub (by rw [← e24]; exact ev_w_in (by omega) (by omega))) rfl ?_
          refine w_t (np := 63) (l2 := [some (eR a0), some (eI (a1)), some (eI (i7))]) (s2 := [eI (3), eI (v23), eR a0]) rfl rfl rfl ?_
          refine b_cle (t1 := 70) (t2 := 66) rfl rfl rfl (ev_w_in (by omega) (by omega)) rfl (fun g26 => ?_) (fun g26 => ?_)
          · have b27 : -900 ≤ v23 ∧ v23 ≤ 3 := by omega
            refine w_t (np := 71) (l2 := [some (eR a0), some (eI (a1)), some (eI (i7))]) (s2 := [eI (2), eR a0]) rfl rfl rfl ?_
            refine j_pf (np := 74) (w := 2) rfl rfl I10 gA0 (by decide) (n := 11) rfl rfl (hO_i (lo := -2147483648) (hi := 2147483647) rfl (by decide)) ?_
            intro m27 I28 W29
            have F30 : Fr l_68 0 0 g μ m27 := F11.w W29 gA0 rfl
            refine w_t (np := 75) (l2 := [some (eR a0), some (eI (a1)), some (eI (i7))]) (s2 := [eI (i7)]) rfl rfl rfl ?_
            exact b_ri rfl rfl (K m27 (i7) I28 F30 (by omega))
          · have b27 : 4 ≤ v23 ∧ v23 ≤ 899 := by omega
            refine w_t (np := 67) (l2 := [some (eR a0), some (eI (a1)), some (eI (i7))]) (s2 := [eI (4), eR a0]) rfl rfl rfl ?_
            refine w_go (t1 := 71) rfl rfl ?_
            refine j_pf (np := 74) (w := 4) rfl rfl I10 gA0 (by decide) (n := 11) rfl rfl (hO_i (lo := -2147483648) (hi := 2147483647) rfl (by decide)) ?_
            intro m27 I28 W29
            have F30 : Fr l_68 0 0 g μ m27 := F11.w W29 gA0 rfl
            refine w_t (np := 75) (l2 := [some (eR a0), some (eI (a1)), some (eI (i7))]) (s2 := [eI (i7)]) rfl rfl rfl ?_
            exact b_ri rfl rfl (K m27 (i7) I28 F30 (by omega))
        · have b22 : 48 ≤ v17 ∧ v17 ≤ 57 := by omega
          refine w_t (np := 13) (l2 := [some (eI (v17))]) (s2 := [eI (1)]) rfl rfl rfl ?_
          refine w_go (t1 := 17) rfl rfl ?_
          refine b_rz rfl rfl (Or.inr rfl) ?_
          show ex_q (dt_fg L ρ) rc (d + 1, (68, 23, [some (eR a0), some (eI (a1)), some (eI (i7))], [eI (1)]), f :: F, m9)
          refine b_ieq (t1 := 58) (t2 := 26) rfl rfl rfl rfl (fun g22 => absurd g22 (by decide)) (fun g22 => ?_)
          refine w_t (np := 27) (l2 := [some (eR a0), some (eI (a1)), some (eI (i7))]) (s2 := [eR a0]) rfl (s_an rfl (pos_g I10 gA0 (by decide))) rfl ?_
          refine w_t (np := 29) (l2 := [some (eR a0), some (eI (a1)), some (eI (i7))]) (s2 := [eI (10), eR a0]) rfl rfl rfl ?_
          refine w_t (np := 30) (l2 := [some (eR a0), some (eI (a1)), some (eI (i7))]) (s2 := [eR a0, eI (10), eR a0]) rfl (s_an rfl (pos_g I10 gA0 (by decide))) rfl ?_
          refine j_gi (np := 33) rfl rfl rfl I10 gA0 (by decide) (n := 11) rfl rfl (lo := -2147483648) (hi := 2147483647) rfl ?_
          intro v23 e24 b25
          obtain ⟨v26, e27, b28⟩ : ∃ zz : Int, ev_w ((10) * (v23)) = zz ∧ (-2147483648 ≤ zz ∧ zz ≤ 2147483647) := ⟨_, rfl, hw_bd _⟩
          refine w_t (np := 34) (l2 := [some (eR a0), some (eI (a1)), some (eI (i7))]) (s2 := [eI (v26), eR a0]) rfl (b_imul e27) rfl ?_
          refine w_t (np := 35) (l2 := [some (eR a0), some (eI (a1)), some (eI (i7))]) (s2 := [eR a0, eI (v26), eR a0]) rfl (s_an rfl (pos_g I10 gA0 (by decide))) rfl ?_
          refine w_t (np := 36) (l2 := [some (eR a0), some (eI (a1)), some (eI (i7))]) (s2 := [eI (i7), eR a0, eI (v26), eR a0]) rfl rfl rfl ?_
          refine w_cw (np := 39) (as := [eI (i7)]) (l2 := [some (eR a0), some (eI (i7))]) (rest := [eI (v26), eR a0]) rfl rfl rfl (Nat.ble_eq.mp rfl) rfl rfl rfl (I10.kd gA0 (by decide) (n := 11) rfl) rfl ?_
          refine s_64 (a1 := i7) I10 gA0 (by omega) e14 ?_
          intro v29 b30 h31
          show ex_q (dt_fg L ρ) rc (d + 1, (68, 39, [some (eR a0), some (eI (a1)), some (eI (i7))], [eI (v29), eI (v26), eR a0]), f :: F, m9)
          obtain ⟨v32, e33, b34⟩ : ∃ zz : Int, ev_w ((v26) + (v29)) = zz ∧ (-2147483648 ≤ zz ∧ zz ≤ 2147483647) := ⟨_, rfl, hw_bd _⟩
          refine w_t (np := 40) (l2 := [some (eR a0), some (eI (a1)), some (eI (i7))]) (s2 := [eI (v32), eR a0]) rfl (b_iadd e33) rfl ?_
          refine w_t (np := 42) (l2 := [some (eR a0), some (eI (a1)), some (eI (i7))]) (s2 := [eI (48), eI (v32), eR a0]) rfl rfl rfl ?_
          obtain ⟨v35, e36, b37⟩ : ∃ zz : Int, ev_w ((v32) - (48)) = zz ∧ (-2147483648 ≤ zz ∧ zz ≤ 2147483647) := ⟨_, rfl, hw_bd _⟩
          refine w_t (np := 43) (l2 := [some (eR a0), some (eI (a1)), some (eI (i7))]) (s2 := [eI (v35), eR a0]) rfl (b_isub e36) rfl ?_
          refine w_t (np := 46) (l2 := [some (eR a0), some (eI (a1)), some (eI (i7))]) (s2 := [eI (9999), eI (v35), eR a0]) rfl rfl rfl ?_
          refine w_cu (np := 49) (as := [eI (v35), eI (9999)]) (l2 := [some (eI (v35)), some (eI (9999))]) (rest := [eR a0]) rfl rfl rfl (Nat.ble_eq.mp rfl) rfl rfl rfl rfl ?_
          refine w_t (np := 1) (l2 := [some (eI (v35)), some (eI (9999))]) (s2 := [eI (v35)]) rfl rfl rfl ?_
          refine w_t (np := 2) (l2 := [some (eI (v35)), some (eI (9999))]) (s2 := [eI (9999), eI (v35)]) rfl rfl rfl ?_
          refine b_cgt (t1 := 9) (t2 := 5) rfl rfl rfl (ev_w_in (by omega) (by omega)) rfl (fun g38 => ?_) (fun g38 => ?_)
          · have b39 : 10000 ≤ v35 ∧ v35 ≤ 2147483647 := by omega
            refine w_t (np := 10) (l2 := [some (eI (v35)), some (eI (9999))]) (s2 := [eI (9999)]) rfl rfl rfl ?_
            refine b_ri rfl rfl ?_
            show ex_q (dt_fg L ρ) rc (d + 1, (68, 49, [some (eR a0), some (eI (a1)), some (eI (i7))], [eI (9999), eR a0]), f :: F, m9)
            refine j_pf (np := 52) (w := 9999) rfl rfl I10 gA0 (by decide) (n := 11) rfl rfl (hO_i (lo := -2147483648) (hi := 2147483647) rfl (by decide)) ?_
            intro m39 I40 W41
            have F42 : Fr l_68 0 0 g μ m39 := F11.w W41 gA0 rfl
            obtain ⟨v43, e44⟩ : ∃ zz : Int, zz = (i7) + (1) := ⟨_, rfl⟩
            have b45 : 1 ≤ v43 ∧ v43 ≤ 900 := by omega
            refine w_t (np := 55) (l2 := [some (eR a0), some (eI (a1)), some (eI (v43))]) (s2 := []) rfl (b_iinc rfl (by rw [← e44]; exact ev_w_in (by omega) (by omega)) rfl) rfl ?_
            refine w_go (t1 := 7) rfl rfl ?_
            exact ih6 (900 - (v43)).toNat (by omega) m39 (v43) I40 F42 (by omega)     rfl
          · have b39 : -2147483648 ≤ v35 ∧ v35 ≤ 9999 := by omega
            refine w_t (np := 6) (l2 := [some (eI (v35)), some (eI (9999))]) (s2 := [eI (v35)]) rfl rfl rfl ?_
            refine w_go (t1 := 10) rfl rfl ?_
            refine b_ri rfl rfl ?_
            show ex_q (dt_fg L ρ) rc (d + 1, (68, 49, [some (eR a0), some (eI (a1)), some (eI (i7))], [eI (v35), eR a0]), f :: F, m9)
            refine j_pf (np := 52) (w := v35) rfl rfl I10 gA0 (by decide) (n := 11) rfl rfl (hO_i (lo := -2147483648) (hi := 2147483647) rfl (by omega)) ?_
            intro m39 I40 W41
            have F42 : Fr l_68 0 0 g μ m39 := F11.w W41 gA0 rfl
            obtain ⟨v43, e44⟩ : ∃ zz : Int, zz = (i7) + (1) := ⟨_, rfl⟩
            have b45 : 1 ≤ v43 ∧ v43 ≤ 900 := by omega
            refine w_t (np := 55) (l2 := [some (eR a0), some (eI (a1)), some (eI (v43))]) (s2 := []) rfl (b_iinc rfl (by rw [← e44]; exact ev_w_in (by omega) (by omega)) rfl) rfl ?_
            refine w_go (t1 := 7) rfl rfl ?_
            exact ih6 (900 - (v43)).toNat (by omega) m39 (v43) I40 F42 (by omega)     rfl
  exact hL7 _ m1 (a1) I2 F4 (by omega)     rfl
theorem s_69 {L : Nat} {ρ : Nat → Int} {rc : eQ} {d : Nat} {f : eFr} {F : List eFr} {μ : eM} {g : Nat → Nat} {a0 : Nat} {a1 : Int} (hI : SI g μ) (gA0 : g a0 = 24) (bA1 : -2147483648 ≤ a1 ∧ a1 ≤ 2147483647) (K : ∀ (v : Int), (0 ≤ v ∧ v ≤ 1) → ex_q (dt_fg L ρ) rc (d + 2, (f.1, f.2.1, f.2.2.1, eI v :: f.2.2.2), F, μ)) : ex_q (dt_fg L ρ) rc (d + 1, (69, 0, [some (eR a0), some (eI (a1))], []), f :: F, μ) := by
  refine w_t (np := 1) (l2 := [some (eR a0), some (eI (a1))]) (s2 := [eR a0]) rfl (s_an rfl (pos_g hI gA0 (by decide))) rfl ?_
  refine j_gi (np := 4) rfl rfl rfl hI gA0 (by decide) (n := 11) rfl rfl (lo := -2147483648) (hi := 2147483647) rfl ?_
  intro v1 e2 b3
  refine w_t (np := 5) (l2 := [some (eR a0), some (eI (a1))]) (s2 := [eI (3), eI (v1)]) rfl rfl rfl ?_
  refine b_cne (t1 := 24) (t2 := 8) rfl rfl rfl (ev_w_in (by omega) (by omega)) rfl (fun g4 => ?_) (fun g4 => ?_)
  · refine w_t (np := 25) (l2 := [some (eR a0), some (eI (a1))]) (s2 := [eI (0)]) rfl rfl rfl ?_
    exact b_rz rfl rfl (Or.inl rfl) (K (0) (by decide))
  · have b5 : 3 ≤ v1 ∧ v1 ≤ 3 := by omega
    refine w_t (np := 9) (l2 := [some (eR a0), some (eI (a1))]) (s2 := [eR a0]) rfl (s_an rfl (pos_g hI gA0 (by decide))) rfl ?_
    refine w_t (np := 10) (l2 := [some (eR a0), some (eI (a1))]) (s2 := [eR a0, eR a0]) rfl (s_an rfl (pos_g hI gA0 (by decide))) rfl ?_
    refine j_gi (np := 13) rfl rfl rfl hI gA0 (by decide) (n := 11) rfl rfl (lo := 0) (hi := 900) rfl ?_
    intro v5 e6 b7
    refine w_cw (np := 16) (as := [eI (v5)]) (l2 := [some (eR a0), some (eI (v5))]) (rest := []) rfl rfl rfl (Nat.ble_eq.mp rfl) rfl rfl rfl (hI.kd gA0 (by decide) (n := 11) rfl) rfl ?_
    obtain ⟨v8, e9, b10⟩ := hI.pk (k := 3) gA0 (by decide) (n := 11) rfl rfl (lo := 0) (hi := 900) rfl
    refine s_64 (a1 := v5) hI gA0 (by omega) e9 ?_
    intro v11 b12 h13
    show ex_q (dt_fg L ρ) rc (d + 1, (69, 16, [some (eR a0), some (eI (a1))], [eI (v11)]), f :: F, μ)
    refine w_t (np := 17) (l2 := [some (eR a0), some (eI (a1))]) (s2 := [eI (a1), eI (v11)]) rfl rfl rfl ?_
    refine b_cne (t1 := 24) (t2 := 20) rfl rfl rfl (ev_w_in (by omega) (by omega)) (ev_w_in (by omega) (by omega)) (fun g14 => ?_) (fun g14 => ?_)
    · refine w_t (np := 25) (l2 := [some (eR a0), some (eI (a1))]) (s2 := [eI (0)]) rfl rfl rfl ?_
      exact b_rz rfl rfl (Or.inl rfl) (K (0) (by decide))
    · have b15 : -1 ≤ a1 ∧ a1 ≤ 255 := by omega
      refine w_t (np := 21) (l2 := [some (eR a0), some (eI (a1))]) (s2 := [eI (1)]) rfl rfl rfl ?_
      refine w_go (t1 := 25) rfl rfl ?_
      exact b_rz rfl rfl (Or.inr rfl) (K (1) (by decide))
theorem s_71 {L : Nat} {ρ : Nat → Int} {rc : eQ} {d : Nat} {f : eFr} {F : List eFr} {μ : eM} {g : Nat → Nat} {a0 : Int} {a1 : Int} {a2 : Int} {a3 : Int} (hI : SI g μ) (bA0 : -2147483648 ≤ a0 ∧ a0 ≤ 2147483647) (bA1 : -2147483648 ≤ a1 ∧ a1 ≤ 2147483647) (bA2 : -2147483648 ≤ a2 ∧ a2 ≤ 2147483647) (bA3 : -2147483648 ≤ a3 ∧ a3 ≤ 2147483647) (K : ∀ (v : Int), (-9223372036854775808 ≤ v ∧ v ≤ 9223372036854775807) → ex_q (dt_fg L ρ) rc (d + 1, (f.1, f.2.1, f.2.2.1, eJ v :: f.2.2.2), F, μ)) : ex_q (dt_fg L ρ) rc (d, (71, 0, [some (eI (a0)), some (eI (a1)), some (eI (a2)), some (eI (a3))], []), f :: F, μ) := by
  refine w_t (np := 1) (l2 := [some (eI (a0)), some (eI (a1)), some (eI (a2)), some (eI (a3))]) (s2 := [eI (a0)]) rfl rfl rfl ?_
  refine w_t (np := 2) (l2 := [some (eI (a0)), some (eI (a1)), some (eI (a2)), some (eI (a3))]) (s2 := [eJ (a0)]) rfl (b_i2l (ev_w_in (by omega) (by omega))) rfl ?_
  refine v_l2 (np := 5) (c := 65535) rfl rfl (by decide) ?_
  rw [show zJ 65535 = 65535 by decide]
  obtain ⟨v1, e2, b3⟩ := h_land (a0) (65535)
  refine w_t (np := 6) (l2 := [some (eI (a0)), some (eI (a1)), some (eI (a2)), some (eI (a3))]) (s2 := [eJ (v1)]) rfl (e2 _ _) rfl ?_
  refine w_t (np := 8) (l2 := [some (eI (a0)), some (eI (a1)), some (eI (a2)), some (eI (a3))]) (s2 := [eI (48), eJ (v1)]) rfl rfl rfl ?_
  obtain ⟨v4, e5, b6⟩ := h_lshl (v1) (48)
  refine w_t (np := 9) (l2 := [some (eI (a0)), some (eI (a1)), some (eI (a2)), some (eI (a3))]) (s2 := [eJ (v4)]) rfl (e5 _ _) rfl ?_
  refine w_t (np := 10) (l2 := [some (eI (a0)), some (eI (a1)), some (eI (a2)), some (eI (a3))]) (s2 := [eI (a1), eJ (v4)]) rfl rfl rfl ?_
  refine w_t (np := 11) (l2 := [some (eI (a0)), some (eI (a1)), some (eI (a2)), some (eI (a3))]) (s2 := [eJ (a1), eJ (v4)]) rfl (b_i2l (ev_w_in (by omega) (by omega))) rfl ?_
  refine v_l2 (np := 14) (c := 65535) rfl rfl (by decide) ?_
  rw [show zJ 65535 = 65535 by decide]
  obtain ⟨v7, e8, b9⟩ := h_land (a1) (65535)
  refine w_t (np := 15) (l2 := [some (eI (a0)), some (eI (a1)), some (eI (a2)), some (eI (a3))]) (s2 := [eJ (v7), eJ (v4)]) rfl (e8 _ _) rfl ?_
  refine w_t (np := 17) (l2 := [some (eI (a0)), some (eI (a1)), some (eI (a2)), some (eI (a3))]) (s2 := [eI (32), eJ (v7), eJ (v4)]) rfl rfl rfl ?_
  obtain ⟨v10, e11, b12⟩ := h_lshl (v7) (32)
  refine w_t (np := 18) (l2 := [some (eI (a0)), some (eI (a1)), some (eI (a2)), some (eI (a3))]) (s2 := [eJ (v10), eJ (v4)]) rfl (e11 _ _) rfl ?_
  obtain ⟨v13, e14, b15⟩ := h_lor (v4) (v10)
  refine w_t (np := 19) (l2 := [some (eI (a0)), some (eI (a1)), some (eI (a2)), some (eI (a3))]) (s2 := [eJ (v13)]) rfl (e14 _ _) rfl ?_
  refine w_t (np := 20) (l2 := [some (eI (a0)), some (eI (a1)), some (eI (a2)), some (eI (a3))]) (s2 := [eI (a2), eJ (v13)]) rfl rfl rfl ?_
  refine w_t (np := 21) (l2 := [some (eI (a0)), some (eI (a1)), some (eI (a2)), some (eI (a3))]) (s2 := [eJ (a2), eJ (v13)]) rfl (b_i2l (ev_w_in (by omega) (by omega))) rfl ?_
  refine v_l2 (np := 24) (c := 65535) rfl rfl (by decide) ?_
  rw [show zJ 65535 = 65535 by decide]
  obtain ⟨v16, e17, b18⟩ := h_land (a2) (65535)
  refine w_t (np := 25) (l2 := [some (eI (a0)), some (eI (a1)), some (eI (a2)), some (eI (a3))]) (s2 := [eJ (v16), eJ (v13)]) rfl (e17 _ _) rfl ?_
  refine w_t (np := 27) (l2 := [some (eI (a0)), some (eI (a1)), some (eI (a2)), some (eI (a3))]) (s2 := [eI (16), eJ (v16), eJ (v13)]) rfl rfl rfl ?_
  obtain ⟨v19, e20, b21⟩ := h_lshl (v16) (16)
  refine w_t (np := 28) (l2 := [some (eI (a0)), some (eI (a1)), some (eI (a2)), some (eI (a3))]) (s2 := [eJ (v19), eJ (v13)]) rfl (e20 _ _) rfl ?_
  obtain ⟨v22, e23, b24⟩ := h_lor (v13) (v19)
  refine w_t (np := 29) (l2 := [some (eI (a0)), some (eI (a1)), some (eI (a2)), some (eI (a3))]) (s2 := [eJ (v22)]) rfl (e23 _ _) rfl ?_
  refine w_t (np := 30) (l2 := [some (eI (a0)), some (eI (a1)), some (eI (a2)), some (eI (a3))]) (s2 := [eI (a3), eJ (v22)]) rfl rfl rfl ?_
  refine w_t (np := 31) (l2 := [some (eI (a0)), some (eI (a1)), some (eI (a2)), some (eI (a3))]) (s2 := [eJ (a3), eJ (v22)]) rfl (b_i2l (ev_w_in (by omega) (by omega))) rfl ?_
  refine v_l2 (np := 34) (c := 65535) rfl rfl (by decide) ?_
  rw [show zJ 65535 = 65535 by decide]
  obtain ⟨v25, e26, b27⟩ := h_land (a3) (65535)
  refine w_t (np := 35) (l2 := [some (eI (a0)), some (eI (a1)), some (eI (a2)), some (eI (a3))]) (s2 := [eJ (v25), eJ (v22)]) rfl (e26 _ _) rfl ?_
  obtain ⟨v28, e29, b30⟩ := h_lor (v22) (v25)
  refine w_t (np := 36) (l2 := [some (eI (a0)), some (eI (a1)), some (eI (a2)), some (eI (a3))]) (s2 := [eJ (v28)]) rfl (e29 _ _) rfl ?_
  exact b_rl rfl rfl (K (v28) (by omega))
theorem s_72 {L : Nat} {ρ : Nat → Int} {rc : eQ} {d : Nat} {f : eFr} {F : List eFr} {μ : eM} {g : Nat → Nat} {a0 : Int} {a1 : Int} {a2 : Int} {a3 : Int} {a4 : Int} (hI : SI g μ) (bA0 : -2147483648 ≤ a0 ∧ a0 ≤ 2147483647) (bA1 : -2147483648 ≤ a1 ∧ a1 ≤ 2147483647) (bA2 : -2147483648 ≤ a2 ∧ a2 ≤ 2147483647) (bA3 : -2147483648 ≤ a3 ∧ a3 ≤ 2147483647) (bA4 : 0 ≤ a4 ∧ a4 ≤ 9999) (K : ∀ (v : Int), (0 ≤ v ∧ v ≤ 1) → ex_q (dt_fg L ρ) rc (d + 1, (f.1, f.2.1, f.2.2.1, eI v :: f.2.2.2), F, μ)) : ex_q (dt_fg L ρ) rc (d, (72, 0, [some (eI (a0)), some (eI (a1)), some (eI (a2)), some (eI (a3)), some (eI (a4))], []), f :: F, μ) := by
  refine w_t (np := 1) (l2 := [some (eI (a0)), some (eI (a1)), some (eI (a2)), some (eI (a3)), some (eI (a4))]) (s2 := [eI (a0)]) rfl rfl rfl ?_
  refine w_t (np := 3) (l2 := [some (eI (a0)), some (eI (a1)), some (eI (a2)), some (eI (a3)), some (eI (a4))]) (s2 := [eI (a4), eI (a0)]) rfl rfl rfl ?_
  obtain ⟨v1, e2⟩ : ∃ zz : Int, zz = -(a4) := ⟨_, rfl⟩
  have b3 : -9999 ≤ v1 ∧ v1 ≤ 0 := by omega
  refine w_t (np := 4) (l2 := [some (eI (a0)), some (eI (a1)), some (eI (a2)), some (eI (a3)), some (eI (a4))]) (s2 := [eI (v1), eI (a0)]) rfl (b_ineg (by rw [← e2]; exact ev_w_in (by omega) (by omega))) rfl ?_
  refine b_clt (t1 := 56) (t2 := 7) rfl rfl rfl (ev_w_in (by omega) (by omega)) (ev_w_in (by omega) (by omega)) (fun g4 => ?_) (fun g4 => ?_)
  · have b5 : -2147483648 ≤ a0 ∧ a0 ≤ -1 := by omega
    refine w_t (np := 57) (l2 := [some (eI (a0)), some (eI (a1)), some (eI (a2)), some (eI (a3)), some (eI (a4))]) (s2 := [eI (0)]) rfl rfl rfl ?_
    exact b_rz rfl rfl (Or.inl rfl) (K (0) (by decide))
  · have b5 : -9999 ≤ a0 ∧ a0 ≤ 2147483647 := by omega
    refine w_t (np := 8) (l2 := [some (eI (a0)), some (eI (a1)), some (eI (a2)), some (eI (a3)), some (eI (a4))]) (s2 := [eI (a0)]) rfl rfl rfl ?_
    refine w_t (np := 10) (l2 := [some (eI (a0)), some (eI (a1)), some (eI (a2)), some (eI (a3)), some (eI (a4))]) (s2 := [eI (a4), eI (a0)]) rfl rfl rfl ?_
    refine b_cgt (t1 := 56) (t2 := 13) rfl rfl rfl (ev_w_in (by omega) (by omega)) (ev_w_in (by omega) (by omega)) (fun g5 => ?_) (fun g5 => ?_)
    · have b6 : 1 ≤ a0 ∧ a0 ≤ 2147483647 := by omega
      refine w_t (np := 57) (l2 := [some (eI (a0)), some (eI (a1)), some (eI (a2)), some (eI (a3)), some (eI (a4))]) (s2 := [eI (0)]) rfl rfl rfl ?_
      exact b_rz rfl rfl (Or.inl rfl) (K (0) (by decide))
    · have b6 : -9999 ≤ a0 ∧ a0 ≤ 9999 := by omega
      refine w_t (np := 14) (l2 := [some (eI (a0)), some (eI (a1)), some (eI (a2)), some (eI (a3)), some (eI (a4))]) (s2 := [eI (a1)]) rfl rfl rfl ?_
      refine w_t (np := 16) (l2 := [some (eI (a0)), some (eI (a1)), some (eI (a2)), some (eI (a3)), some (eI (a4))]) (s2 := [eI (a4), eI (a1)]) rfl rfl rfl ?_
      obtain ⟨v6, e7⟩ : ∃ zz : Int, zz = -(a4) := ⟨_, rfl⟩
      have b8 : -9999 ≤ v6 ∧ v6 ≤ 0 := by omega
      refine w_t (np := 17) (l2 := [some (eI (a0)), some (eI (a1)), some (eI (a2)), some (eI (a3)), some (eI (a4))]) (s2 := [eI (v6), eI (a1)]) rfl (b_ineg (by rw [← e7]; exact ev_w_in (by omega) (by omega))) rfl ?_
      refine b_clt (t1 := 56) (t2 := 20) rfl rfl rfl (ev_w_in (by omega) (by omega)) (ev_w_in (by omega) (by omega)) (fun g9 => ?_) (fun g9 => ?_)
      · have b10 : -2147483648 ≤ a1 ∧ a1 ≤ -1 := by omega
        refine w_t (np := 57) (l2 := [some (eI (a0)), some (eI (a1)), some (eI (a2)), some (eI (a3)), some (eI (a4))]) (s2 := [eI (0)]) rfl rfl rfl ?_
        exact b_rz rfl rfl (Or.inl rfl) (K (0) (by decide))
      · have b10 : -9999 ≤ a1 ∧ a1 ≤ 2147483647 := by omega
        refine w_t (np := 21) (l2 := [some (eI (a0)), some (eI (a1)), some (eI (a2)), some (eI (a3)), some (eI (a4))]) (s2 := [eI (a1)]) rfl rfl rfl ?_
        refine w_t (np := 23) (l2 := [some (eI (a0)), some (eI (a1)), some (eI (a2)), some (eI (a3)), some (eI (a4))]) (s2 := [eI (a4), eI (a1)]) rfl rfl rfl ?_
        refine b_cgt (t1 := 56) (t2 := 26) rfl rfl rfl (ev_w_in (by omega) (by omega)) (ev_w_in (by omega) (by omega)) (fun g10 => ?_) (fun g10 => ?_)
        · have b11 : 1 ≤ a1 ∧ a1 ≤ 2147483647 := by omega
          refine w_t (np := 57) (l2 := [some (eI (a0)), some (eI (a1)), some (eI (a2)), some (eI (a3)), some (eI (a4))]) (s2 := [eI (0)]) rfl rfl rfl ?_
          exact b_rz rfl rfl (Or.inl rfl) (K (0) (by decide))
        · have b11 : -9999 ≤ a1 ∧ a1 ≤ 9999 := by omega
          refine w_t (np := 27) (l2 := [some (eI (a0)), some (eI (a1)), some (eI (a2)), some (eI (a3)), some (eI (a4))]) (s2 := [eI (a2)]) rfl rfl rfl ?_
          refine w_t (np := 29) (l2 := [some (eI (a0)), some (eI (a1)), some (eI (a2)), some (eI (a3)), some (eI (a4))]) (s2 := [eI (a4), eI (a2)]) rfl rfl rfl ?_
          obtain ⟨v11, e12⟩ : ∃ zz : Int, zz = -(a4) := ⟨_, rfl⟩
          have b13 : -9999 ≤ v11 ∧ v11 ≤ 0 := by omega
          refine w_t (np := 30) (l2 := [some (eI (a0)), some (eI (a1)), some (eI (a2)), some (eI (a3)), some (eI (a4))]) (s2 := [eI (v11), eI (a2)]) rfl (b_ineg (by rw [← e12]; exact ev_w_in (by omega) (by omega))) rfl ?_
          refine b_clt (t1 := 56) (t2 := 33) rfl rfl rfl (ev_w_in (by omega) (by omega)) (ev_w_in (by omega) (by omega)) (fun g14 => ?_) (fun g14 => ?_)
          · have b15 : -2147483648 ≤ a2 ∧ a2 ≤ -1 := by omega
            refine w_t (np := 57) (l2 := [some (eI (a0)), some (eI (a1)), some (eI (a2)), some (eI (a3)), some (eI (a4))]) (s2 := [eI (0)]) rfl rfl rfl ?_
            exact b_rz rfl rfl (Or.inl rfl) (K (0) (by decide))
          · have b15 : -9999 ≤ a2 ∧ a2 ≤ 2147483647 := by omega
            refine w_t (np := 34) (l2 := [some (eI (a0)), some (eI (a1)), some (eI (a2)), some (eI (a3)), some (eI (a4))]) (s2 := [eI (a2)]) rfl rfl rfl ?_
            refine w_t (np := 36) (l2 := [some (eI (a0)), some (eI (a1)), some (eI (a2)), some (eI (a3)), some (eI (a4))]) (s2 := [eI (a4), eI (a2)]) rfl rfl rfl ?_
            refine b_cgt (t1 := 56) (t2 := 39) rfl rfl rfl (ev_w_in (by omega) (by omega)) (ev_w_in (by omega) (by omega)) (fun g15 => ?_) (fun g15 => ?_)
            · have b16 : 1 ≤ a2 ∧ a2 ≤ 2147483647 := by omega
              refine w_t (np := 57) (l2 := [some (eI (a0)), some (eI (a1)), some (eI (a2)), some (eI (a3)), some (eI (a4))]) (s2 := [eI (0)]) rfl rfl rfl ?_
              exact b_rz rfl rfl (Or.inl rfl) (K (0) (by decide))
            · have b16 : -9999 ≤ a2 ∧ a2 ≤ 9999 := by omega
              refine w_t (np := 40) (l2 := [some (eI (a0)), some (eI (a1)), some (eI (a2)), some (eI (a3)), some (eI (a4))]) (s2 := [eI (a3)]) rfl rfl rfl ?_
              refine w_t (np := 42) (l2 := [some (eI (a0)), some (eI (a1)), some (eI (a2)), some (eI (a3)), some (eI (a4))]) (s2 := [eI (a4), eI (a3)]) rfl rfl rfl ?_
              obtain ⟨v16, e17⟩ : ∃ zz : Int, zz = -(a4) := ⟨_, rfl⟩
              have b18 : -9999 ≤ v16 ∧ v16 ≤ 0 := by omega
              refine w_t (np := 43) (l2 := [some (eI (a0)), some (eI (a1)), some (eI (a2)), some (eI (a3)), some (eI (a4))]) (s2 := [eI (v16), eI (a3)]) rfl (b_ineg (by rw [← e17]; exact ev_w_in (by omega) (by omega))) rfl ?_
              refine b_clt (t1 := 56) (t2 := 46) rfl rfl rfl (ev_w_in (by omega) (by omega)) (ev_w_in (by omega) (by omega)) (fun g19 => ?_) (fun g19 => ?_)
              · have b20 : -2147483648 ≤ a3 ∧ a3 ≤ -1 := by omega
                refine w_t (np := 57) (l2 := [some (eI (a0)), some (eI (a1)), some (eI (a2)), some (eI (a3)), some (eI (a4))]) (s2 := [eI (0)]) rfl rfl rfl ?_
                exact b_rz rfl rfl (Or.inl rfl) (K (0) (by decide))
              · have b20 : -9999 ≤ a3 ∧ a3 ≤ 2147483647 := by omega
                refine w_t (np := 47) (l2 := [some (eI (a0)), some (eI (a1)), some (eI (a2)), some (eI (a3)), some (eI (a4))]) (s2 := [eI (a3)]) rfl rfl rfl ?_
                refine w_t (np := 49) (l2 := [some (eI (a0)), some (eI (a1)), some (eI (a2)), some (eI (a3)), some (eI (a4))]) (s2 := [eI (a4), eI (a3)]) rfl rfl rfl ?_
                refine b_cgt (t1 := 56) (t2 := 52) rfl rfl rfl (ev_w_in (by omega) (by omega)) (ev_w_in (by omega) (by omega)) (fun g20 => ?_) (fun g20 => ?_)
                · have b21 : 1 ≤ a3 ∧ a3 ≤ 2147483647 := by omega
                  refine w_t (np := 57) (l2 := [some (eI (a0)), some (eI (a1)), some (eI (a2)), some (eI (a3)), some (eI (a4))]) (s2 := [eI (0)]) rfl rfl rfl ?_
                  exact b_rz rfl rfl (Or.inl rfl) (K (0) (by decide))
                · have b21 : -9999 ≤ a3 ∧ a3 ≤ 9999 := by omega
                  refine w_t (np := 53) (l2 := [some (eI (a0)), some (eI (a1)), some (eI (a2)), some (eI (a3)), some (eI (a4))]) (s2 := [eI (1)]) rfl rfl rfl ?_
                  refine w_go (t1 := 57) rfl rfl ?_
                  exact b_rz rfl rfl (Or.inr rfl) (K (1) (by decide))
theorem s_73 {L : Nat} {ρ : Nat → Int} {rc : eQ} {d : Nat} {f : eFr} {F : List eFr} {μ : eM} {g : Nat → Nat} {a0 : Int} {a2 : Int} (hI : SI g μ) (bA0 : -9223372036854775808 ≤ a0 ∧ a0 ≤ 9223372036854775807) (bA2 : 0 ≤ a2 ∧ a2 ≤ 3) (K : ∀ (v : Int), (-32768 ≤ v ∧ v ≤ 32767) → ex_q (dt_fg L ρ) rc (d + 1, (f.1, f.2.1, f.2.2.1, eI v :: f.2.2.2), F, μ)) : ex_q (dt_fg L ρ) rc (d, (73, 0, [some (eJ (a0)), none, some (eI (a2))], []), f :: F, μ) := by
  refine w_t (np := 1) (l2 := [some (eJ (a0)), none, some (eI (a2))]) (s2 := [eJ (a0)]) rfl rfl rfl ?_
  refine w_t (np := 3) (l2 := [some (eJ (a0)), none, some (eI (a2))]) (s2 := [eI (48), eJ (a0)]) rfl rfl rfl ?_
  refine w_t (np := 5) (l2 := [some (eJ (a0)), none, some (eI (a2))]) (s2 := [eI (16), eI (48), eJ (a0)]) rfl rfl rfl ?_
  refine w_t (np := 6) (l2 := [some (eJ (a0)), none, some (eI (a2))]) (s2 := [eI (a2), eI (16), eI (48), eJ (a0)]) rfl rfl rfl ?_
  obtain ⟨v1, e2⟩ : ∃ zz : Int, zz = (16) * (a2) := ⟨_, rfl⟩
  have b3 : 0 ≤ v1 ∧ v1 ≤ 48 := by omega
  refine w_t (np := 7) (l2 := [some (eJ (a0)), none, some (eI (a2))]) (s2 := [eI (v1), eI (48), eJ (a0)]) rfl (b_imul (by rw [← e2]; exact ev_w_in (by omega) (by omega))) rfl ?_
  obtain ⟨v4, e5⟩ : ∃ zz : Int, zz = (48) - (v1) := ⟨_, rfl⟩
  have b6 : 0 ≤ v4 ∧ v4 ≤ 48 := by omega
  refine w_t (np := 8) (l2 := [some (eJ (a0)), none, some (eI (a2))]) (s2 := [eI (v4), eJ (a0)]) rfl (b_isub (by rw [← e5]; exact ev_w_in (by omega) (by omega))) rfl ?_
  obtain ⟨v7, e8, b9⟩ := h_lshr (a0) (v4)
  refine w_t (np := 9) (l2 := [some (eJ (a0)), none, some (eI (a2))]) (s2 := [eJ (v7)]) rfl (e8 _ _) rfl ?_
  obtain ⟨v10, e11, b12⟩ := h_l2i (v7)
  refine w_t (np := 10) (l2 := [some (eJ (a0)), none, some (eI (a2))]) (s2 := [eI (v10)]) rfl (e11 _ _) rfl ?_
  obtain ⟨v13, e14, b15⟩ := h_i2s (v10)
  refine w_t (np := 11) (l2 := [some (eJ (a0)), none, some (eI (a2))]) (s2 := [eI (v13)]) rfl (e14 _ _) rfl ?_
  exact b_ri rfl rfl (K (v13) (by omega))
theorem s_74 {L : Nat} {ρ : Nat → Int} {rc : eQ} {d : Nat} {f : eFr} {F : List eFr} {μ : eM} {g : Nat → Nat} {a0 : Int} (hI : SI g μ) (bA0 : -2147483648 ≤ a0 ∧ a0 ≤ 2147483647) (K : ∀ (v : Int), (-9223372036854775808 ≤ v ∧ v ≤ 9223372036854775807) → ex_q (dt_fg L ρ) rc (d + 2, (f.1, f.2.1, f.2.2.1, eJ v :: f.2.2.2), F, μ)) : ex_q (dt_fg L ρ) rc (d + 1, (74, 0, [some (eI (a0))], []), f :: F, μ) := by
  refine v_gs (np := 3) rfl rfl ?_
  refine w_t (np := 4) (l2 := [some (eI (a0))]) (s2 := [eI (a0), eR 13]) rfl rfl rfl ?_
  refine w_t (np := 6) (l2 := [some (eI (a0))]) (s2 := [eI (10), eI (a0), eR 13]) rfl rfl rfl ?_
  refine w_cu (np := 9) (as := [eI (a0), eI (10)]) (l2 := [some (eI (a0)), some (eI (10)), none]) (rest := [eR 13]) rfl rfl rfl (Nat.ble_eq.mp rfl) rfl rfl rfl rfl ?_
  refine w_t (np := 1) (l2 := [some (eI (a0)), some (eI (10)), none]) (s2 := [eI (a0)]) rfl rfl rfl ?_
  refine w_t (np := 2) (l2 := [some (eI (a0)), some (eI (10)), none]) (s2 := [eI (10), eI (a0)]) rfl rfl rfl ?_
  obtain ⟨v1, e2, b3⟩ := h_irem (a := a0) (k := 10) (by decide) (by decide) bA0
  have b4 : -9 ≤ v1 ∧ v1 ≤ 9 := by omega
  refine w_t (np := 3) (l2 := [some (eI (a0)), some (eI (10)), none]) (s2 := [eI (v1)]) rfl (e2 _ _) rfl ?_
  refine w_t (np := 4) (l2 := [some (eI (a0)), some (eI (10)), some (eI (v1))]) (s2 := []) rfl rfl rfl ?_
  refine w_t (np := 5) (l2 := [some (eI (a0)), some (eI (10)), some (eI (v1))]) (s2 := [eI (a0)]) rfl rfl rfl ?_
  refine w_t (np := 6) (l2 := [some (eI (a0)), some (eI (10)), some (eI (v1))]) (s2 := [eI (10), eI (a0)]) rfl rfl rfl ?_
  obtain ⟨v5, e6, b7, h8⟩ := h_ixor2 (a := a0) (b := 10) (by omega) (by decide) (by decide)
  refine w_t (np := 7) (l2 := [some (eI (a0)), some (eI (10)), some (eI (v1))]) (s2 := [eI (v5)]) rfl (e6 _ _) rfl ?_
  refine b_ige (t1 := 18) (t2 := 10) rfl rfl rfl (ev_w_in (by omega) (by omega)) (fun g9 => ?_) (fun g9 => ?_)
  · have b10 : 0 ≤ v5 ∧ v5 ≤ 2147483647 := by omega
    refine w_t (np := 19) (l2 := [some (eI (a0)), some (eI (10)), some (eI (v1))]) (s2 := [eI (v1)]) rfl rfl rfl ?_
    refine b_ri rfl rfl ?_
    show ex_q (dt_fg L ρ) rc (d + 1, (74, 9, [some (eI (a0))], [eI (v1), eR 13]), f :: F, μ)
    refine j_sj (np := 10) (n := 10) (lo := -281474976710656) (hi := 562945658585087) rfl rfl rfl (by decide) (by decide) (by decide) rfl rfl (by decide) (by omega) (by omega) ?_
    intro v10 b12
    exact b_rl rfl rfl (K (v10) (by omega))
  · have b10 : -2147483648 ≤ v5 ∧ v5 ≤ -1 := by omega
    refine w_t (np := 11) (l2 := [some (eI (a0)), some (eI (10)), some (eI (v1))]) (s2 := [eI (v1)]) rfl rfl rfl ?_
    refine b_ieq (t1 := 18) (t2 := 14) rfl rfl rfl (ev_w_in (by omega) (by omega)) (fun g10 => ?_) (fun g10 => ?_)
    · have b11 : 0 ≤ v1 ∧ v1 ≤ 0 := by omega
      refine w_t (np := 19) (l2 := [some (eI (a0)), some (eI (10)), some (eI (v1))]) (s2 := [eI (v1)]) rfl rfl rfl ?_
      refine b_ri rfl rfl ?_
      show ex_q (dt_fg L ρ) rc (d + 1, (74, 9, [some (eI (a0))], [eI (v1), eR 13]), f :: F, μ)
      refine j_sj (np := 10) (n := 10) (lo := -281474976710656) (hi := 562945658585087) rfl rfl rfl (by decide) (by decide) (by decide) rfl rfl (by decide) (by omega) (by omega) ?_
      intro v11 b13
      exact b_rl rfl rfl (K (v11) (by omega))
    · refine w_t (np := 15) (l2 := [some (eI (a0)), some (eI (10)), some (eI (v1))]) (s2 := [eI (v1)]) rfl rfl rfl ?_
      refine w_t (np := 16) (l2 := [some (eI (a0)), some (eI (10)), some (eI (v1))]) (s2 := [eI (10), eI (v1)]) rfl rfl rfl ?_
      obtain ⟨v11, e12⟩ : ∃ zz : Int, zz = (v1) + (10) := ⟨_, rfl⟩
      have b13 : 1 ≤ v11 ∧ v11 ≤ 19 := by omega
      refine w_t (np := 17) (l2 := [some (eI (a0)), some (eI (10)), some (eI (v1))]) (s2 := [eI (v11)]) rfl (b_iadd (by rw [← e12]; exact ev_w_in (by omega) (by omega))) rfl ?_
      refine b_ri rfl rfl ?_
      show ex_q (dt_fg L ρ) rc (d + 1, (74, 9, [some (eI (a0))], [eI (v11), eR 13]), f :: F, μ)
      refine j_sj (np := 10) (n := 10) (lo := -281474976710656) (hi := 562945658585087) rfl rfl rfl (by decide) (by decide) (by decide) rfl rfl (by decide) (by omega) (by omega) ?_
      intro v14 b16
      exact b_rl rfl rfl (K (v14) (by omega))
theorem s_75 {L : Nat} {ρ : Nat → Int} {rc : eQ} {d : Nat} {f : eFr} {F : List eFr} {μ : eM} {g : Nat → Nat} {a0 : Int} {a2 : Int} (hI : SI g μ) (bA0 : -9223372036854775808 ≤ a0 ∧ a0 ≤ 9223372036854775807) (bA2 : -9223372036854775808 ≤ a2 ∧ a2 ≤ 9223372036854775807) (K : ∀ (v : Int), (-9223372036854775808 ≤ v ∧ v ≤ 9223372036854775807) → ex_q (dt_fg L ρ) rc (d + 1, (f.1, f.2.1, f.2.2.1, eJ v :: f.2.2.2), F, μ)) : ex_q (dt_fg L ρ) rc (d, (75, 0, [some (eJ (a0)), none, some (eJ (a2)), none], []), f :: F, μ) := by
  refine w_t (np := 1) (l2 := [some (eJ (a0)), none, some (eJ (a2)), none]) (s2 := [eJ (a0)]) rfl rfl rfl ?_
  refine v_l2 (np := 4) (c := 9223231297218904063) rfl rfl (by decide) ?_
  rw [show zJ 9223231297218904063 = 9223231297218904063 by decide]
  obtain ⟨v1, e2, b3⟩ := h_land (a0) (9223231297218904063)
  refine w_t (np := 5) (l2 := [some (eJ (a0)), none, some (eJ (a2)), none]) (s2 := [eJ (v1)]) rfl (e2 _ _) rfl ?_
  refine w_t (np := 6) (l2 := [some (eJ (a0)), none, some (eJ (a2)), none]) (s2 := [eJ (a2), eJ (v1)]) rfl rfl rfl ?_
  refine v_l2 (np := 9) (c := 9223231297218904063) rfl rfl (by decide) ?_
  rw [show zJ 9223231297218904063 = 9223231297218904063 by decide]
  obtain ⟨v4, e5, b6⟩ := h_land (a2) (9223231297218904063)
  refine w_t (np := 10) (l2 := [some (eJ (a0)), none, some (eJ (a2)), none]) (s2 := [eJ (v4), eJ (v1)]) rfl (e5 _ _) rfl ?_
  obtain ⟨v7, e8, b9⟩ : ∃ zz : Int, ev_W ((v1) + (v4)) = zz ∧ (-9223372036854775808 ≤ zz ∧ zz ≤ 9223372036854775807) := ⟨_, rfl, hW_bd _⟩
  refine w_t (np := 11) (l2 := [some (eJ (a0)), none, some (eJ (a2)), none]) (s2 := [eJ (v7)]) rfl (b_ladd e8) rfl ?_
  refine w_t (np := 12) (l2 := [some (eJ (a0)), none, some (eJ (a2)), none]) (s2 := [eJ (a0), eJ (v7)]) rfl rfl rfl ?_
  refine w_t (np := 13) (l2 := [some (eJ (a0)), none, some (eJ (a2)), none]) (s2 := [eJ (a2), eJ (a0), eJ (v7)]) rfl rfl rfl ?_
  obtain ⟨v10, e11, b12⟩ := h_lxor (a0) (a2)
  refine w_t (np := 14) (l2 := [some (eJ (a0)), none, some (eJ (a2)), none]) (s2 := [eJ (v10), eJ (v7)]) rfl (e11 _ _) rfl ?_
  refine v_l2 (np := 17) (c := 9223512776490647552) rfl rfl (by decide) ?_
  rw [show zJ 9223512776490647552 = -9223231297218904064 by decide]
  obtain ⟨v13, e14, b15⟩ := h_land (v10) (-9223231297218904064)
  refine w_t (np := 18) (l2 := [some (eJ (a0)), none, some (eJ (a2)), none]) (s2 := [eJ (v13), eJ (v7)]) rfl (e14 _ _) rfl ?_
  obtain ⟨v16, e17, b18⟩ := h_lxor (v7) (v13)
  refine w_t (np := 19) (l2 := [some (eJ (a0)), none, some (eJ (a2)), none]) (s2 := [eJ (v16)]) rfl (e17 _ _) rfl ?_
  exact b_rl rfl rfl (K (v16) (by omega))
theorem s_76 {L : Nat} {ρ : Nat → Int} {rc : eQ} {d : Nat} {f : eFr} {F : List eFr} {μ : eM} {g : Nat → Nat} {a0 : Int} {a2 : Int} (hI : SI g μ) (bA0 : -9223372036854775808 ≤ a0 ∧ a0 ≤ 9223372036854775807) (bA2 : -9223372036854775808 ≤ a2 ∧ a2 ≤ 9223372036854775807) (K : ∀ (v : Int), (-9223372036854775808 ≤ v ∧ v ≤ 9223372036854775807) → ex_q (dt_fg L ρ) rc (d + 1, (f.1, f.2.1, f.2.2.1, eJ v :: f.2.2.2), F, μ)) : ex_q (dt_fg L ρ) rc (d, (76, 0, [some (eJ (a0)), none, some (eJ (a2)), none], []), f :: F, μ) := by
  refine w_t (np := 1) (l2 := [some (eJ (a0)), none, some (eJ (a2)), none]) (s2 := [eJ (a0)]) rfl rfl rfl ?_
  refine v_l2 (np := 4) (c := 9223512776490647552) rfl rfl (by decide) ?_
  rw [show zJ 9223512776490647552 = -9223231297218904064 by decide]
  obtain ⟨v1, e2, b3⟩ := h_lor (a0) (-9223231297218904064)
  refine w_t (np := 5) (l2 := [some (eJ (a0)), none, some (eJ (a2)), none]) (s2 := [eJ (v1)]) rfl (e2 _ _) rfl ?_
  refine w_t (np := 6) (l2 := [some (eJ (a0)), none, some (eJ (a2)), none]) (s2 := [eJ (a2), eJ (v1)]) rfl rfl rfl ?_
  refine v_l2 (np := 9) (c := 9223231297218904063) rfl rfl (by decide) ?_
  rw [show zJ 9223231297218904063 = 9223231297218904063 by decide]
  obtain ⟨v4, e5, b6⟩ := h_land (a2) (9223231297218904063)
  refine w_t (np := 10) (l2 := [some (eJ (a0)), none, some (eJ (a2)), none]) (s2 := [eJ (v4), eJ (v1)]) rfl (e5 _ _) rfl ?_
  obtain ⟨v7, e8, b9⟩ : ∃ zz : Int, ev_W ((v1) - (v4)) = zz ∧ (-9223372036854775808 ≤ zz ∧ zz ≤ 9223372036854775807) := ⟨_, rfl, hW_bd _⟩
  refine w_t (np := 11) (l2 := [some (eJ (a0)), none, some (eJ (a2)), none]) (s2 := [eJ (v7)]) rfl (b_lsub e8) rfl ?_
  refine w_t (np := 12) (l2 := [some (eJ (a0)), none, some (eJ (a2)), none]) (s2 := [eJ (a0), eJ (v7)]) rfl rfl rfl ?_
  refine w_t (np := 13) (l2 := [some (eJ (a0)), none, some (eJ (a2)), none]) (s2 := [eJ (a2), eJ (a0), eJ (v7)]) rfl rfl rfl ?_
  refine v_l2 (np := 16) (c := 18446744073709551615) rfl rfl (by decide) ?_
  rw [show zJ 18446744073709551615 = -1 by decide]
  obtain ⟨v10, e11, b12⟩ := h_lxor (a2) (-1)
  refine w_t (np := 17) (l2 := [some (eJ (a0)), none, some (eJ (a2)), none]) (s2 := [eJ (v10), eJ (a0), eJ (v7)]) rfl (e11 _ _) rfl ?_
  obtain ⟨v13, e14, b15⟩ := h_lxor (a0) (v10)
  refine w_t (np := 18) (l2 := [some (eJ (a0)), none, some (eJ (a2)), none]) (s2 := [eJ (v13), eJ (v7)]) rfl (e14 _ _) rfl ?_
  refine v_l2 (np := 21) (c := 9223512776490647552) rfl rfl (by decide) ?_
  rw [show zJ 9223512776490647552 = -9223231297218904064 by decide]
  obtain ⟨v16, e17, b18⟩ := h_land (v13) (-9223231297218904064)
  refine w_t (np := 22) (l2 := [some (eJ (a0)), none, some (eJ (a2)), none]) (s2 := [eJ (v16), eJ (v7)]) rfl (e17 _ _) rfl ?_
  obtain ⟨v19, e20, b21⟩ := h_lxor (v7) (v16)
  refine w_t (np := 23) (l2 := [some (eJ (a0)), none, some (eJ (a2)), none]) (s2 := [eJ (v19)]) rfl (e20 _ _) rfl ?_
  exact b_rl rfl rfl (K (v19) (by omega))
theorem s_77 {L : Nat} {ρ : Nat → Int} {rc : eQ} {d : Nat} {f : eFr} {F : List eFr} {μ : eM} {g : Nat → Nat} {a0 : Int} (hI : SI g μ) (bA0 : -9223372036854775808 ≤ a0 ∧ a0 ≤ 9223372036854775807) (K : ∀ (v : Int), (-9223372036854775808 ≤ v ∧ v ≤ 9223372036854775807) → ex_q (dt_fg L ρ) rc (d + 2, (f.1, f.2.1, f.2.2.1, eJ v :: f.2.2.2), F, μ)) : ex_q (dt_fg L ρ) rc (d + 1, (77, 0, [some (eJ (a0)), none, none], []), f :: F, μ) := by
  refine w_t (np := 1) (l2 := [some (eJ (a0)), none, none]) (s2 := [eJ (a0)]) rfl rfl rfl ?_
  refine w_t (np := 2) (l2 := [some (eJ (a0)), none, none]) (s2 := [eI (3), eJ (a0)]) rfl rfl rfl ?_
  refine w_cu (np := 5) (as := [eJ (a0), eI (3)]) (l2 := [some (eJ (a0)), none, some (eI (3))]) (rest := []) rfl rfl rfl (Nat.ble_eq.mp rfl) rfl rfl rfl rfl ?_
  refine s_73 (a2 := 3) hI bA0 (by decide) ?_
  intro v1 b2
  show ex_q (dt_fg L ρ) rc (d + 1, (77, 5, [some (eJ (a0)), none, none], [eI (v1)]), f :: F, μ)
  refine w_t (np := 6) (l2 := [some (eJ (a0)), none, some (eI (v1))]) (s2 := []) rfl rfl rfl ?_
  refine w_t (np := 7) (l2 := [some (eJ (a0)), none, some (eI (v1))]) (s2 := [eI (v1)]) rfl rfl rfl ?_
  obtain ⟨v3, e4⟩ : ∃ zz : Int, zz = -(v1) := ⟨_, rfl⟩
  have b5 : -32767 ≤ v3 ∧ v3 ≤ 32768 := by omega
  refine w_t (np := 8) (l2 := [some (eJ (a0)), none, some (eI (v1))]) (s2 := [eI (v3)]) rfl (b_ineg (by rw [← e4]; exact ev_w_in (by omega) (by omega))) rfl ?_
  refine w_t (np := 9) (l2 := [some (eJ (a0)), none, some (eI (v1))]) (s2 := [eJ (a0), eI (v3)]) rfl rfl rfl ?_
  refine w_t (np := 10) (l2 := [some (eJ (a0)), none, some (eI (v1))]) (s2 := [eI (0), eJ (a0), eI (v3)]) rfl rfl rfl ?_
  refine w_cu (np := 13) (as := [eJ (a0), eI (0)]) (l2 := [some (eJ (a0)), none, some (eI (0))]) (rest := [eI (v3)]) rfl rfl rfl (Nat.ble_eq.mp rfl) rfl rfl rfl rfl ?_
  refine s_73 (a2 := 0) hI bA0 (by decide) ?_
  intro v6 b7
  show ex_q (dt_fg L ρ) rc (d + 1, (77, 13, [some (eJ (a0)), none, some (eI (v1))], [eI (v6), eI (v3)]), f :: F, μ)
  refine w_t (np := 14) (l2 := [some (eJ (a0)), none, some (eI (v1))]) (s2 := [eI (v1), eI (v6), eI (v3)]) rfl rfl rfl ?_
  obtain ⟨v8, e9⟩ : ∃ zz : Int, zz = (v6) + (v1) := ⟨_, rfl⟩
  have b10 : -65536 ≤ v8 ∧ v8 ≤ 65534 := by omega
  refine w_t (np := 15) (l2 := [some (eJ (a0)), none, some (eI (v1))]) (s2 := [eI (v8), eI (v3)]) rfl (b_iadd (by rw [← e9]; exact ev_w_in (by omega) (by omega))) rfl ?_
  refine w_t (np := 16) (l2 := [some (eJ (a0)), none, some (eI (v1))]) (s2 := [eJ (a0), eI (v8), eI (v3)]) rfl rfl rfl ?_
  refine w_t (np := 17) (l2 := [some (eJ (a0)), none, some (eI (v1))]) (s2 := [eI (1), eJ (a0), eI (v8), eI (v3)]) rfl rfl rfl ?_
  refine w_cu (np := 20) (as := [eJ (a0), eI (1)]) (l2 := [some (eJ (a0)), none, some (eI (1))]) (rest := [eI (v8), eI (v3)]) rfl rfl rfl (Nat.ble_eq.mp rfl) rfl rfl rfl rfl ?_
  refine s_73 (a2 := 1) hI bA0 (by decide) ?_
  intro v11 b12
  show ex_q (dt_fg L ρ) rc (d + 1, (77, 20, [some (eJ (a0)), none, some (eI (v1))], [eI (v11), eI (v8), eI (v3)]), f :: F, μ)
  refine w_t (np := 21) (l2 := [some (eJ (a0)), none, some (eI (v1))]) (s2 := [eI (v1), eI (v11), eI (v8), eI (v3)]) rfl rfl rfl ?_
  obtain ⟨v13, e14⟩ : ∃ zz : Int, zz = (v11) - (v1) := ⟨_, rfl⟩
  have b15 : -65535 ≤ v13 ∧ v13 ≤ 65535 := by omega
  refine w_t (np := 22) (l2 := [some (eJ (a0)), none, some (eI (v1))]) (s2 := [eI (v13), eI (v8), eI (v3)]) rfl (b_isub (by rw [← e14]; exact ev_w_in (by omega) (by omega))) rfl ?_
  refine w_t (np := 23) (l2 := [some (eJ (a0)), none, some (eI (v1))]) (s2 := [eJ (a0), eI (v13), eI (v8), eI (v3)]) rfl rfl rfl ?_
  refine w_t (np := 24) (l2 := [some (eJ (a0)), none, some (eI (v1))]) (s2 := [eI (2), eJ (a0), eI (v13), eI (v8), eI (v3)]) rfl rfl rfl ?_
  refine w_cu (np := 27) (as := [eJ (a0), eI (2)]) (l2 := [some (eJ (a0)), none, some (eI (2))]) (rest := [eI (v13), eI (v8), eI (v3)]) rfl rfl rfl (Nat.ble_eq.mp rfl) rfl rfl rfl rfl ?_
  refine s_73 (a2 := 2) hI bA0 (by decide) ?_
  intro v16 b17
  show ex_q (dt_fg L ρ) rc (d + 1, (77, 27, [some (eJ (a0)), none, some (eI (v1))], [eI (v16), eI (v13), eI (v8), eI (v3)]), f :: F, μ)
  refine w_t (np := 28) (l2 := [some (eJ (a0)), none, some (eI (v1))]) (s2 := [eI (v1), eI (v16), eI (v13), eI (v8), eI (v3)]) rfl rfl rfl ?_
  obtain ⟨v18, e19⟩ : ∃ zz : Int, zz = (v16) + (v1) := ⟨_, rfl⟩
  have b20 : -65536 ≤ v18 ∧ v18 ≤ 65534 := by omega
  refine w_t (np := 29) (l2 := [some (eJ (a0)), none, some (eI (v1))]) (s2 := [eI (v18), eI (v13), eI (v8), eI (v3)]) rfl (b_iadd (by rw [← e19]; exact ev_w_in (by omega) (by omega))) rfl ?_
  refine w_cu (np := 32) (as := [eI (v3), eI (v8), eI (v13), eI (v18)]) (l2 := [some (eI (v3)), some (eI (v8)), some (eI (v13)), some (eI (v18))]) (rest := []) rfl rfl rfl (Nat.ble_eq.mp rfl) rfl rfl rfl rfl ?_
  refine s_71 (a0 := v3) (a1 := v8) (a2 := v13) (a3 := v18) hI (by omega) (by omega) (by omega) (by omega) ?_
  intro v21 b22
  show ex_q (dt_fg L ρ) rc (d + 1, (77, 32, [some (eJ (a0)), none, some (eI (v1))], [eJ (v21)]), f :: F, μ)
  exact b_rl rfl rfl (K (v21) (by omega))
theorem s_78 {L : Nat} {ρ : Nat → Int} {rc : eQ} {d : Nat} {f : eFr} {F : List eFr} {μ : eM} {g : Nat → Nat} {a0 : Int} (hI : SI g μ) (bA0 : -9223372036854775808 ≤ a0 ∧ a0 ≤ 9223372036854775807) (K : ∀ (v : Int), (-9223372036854775808 ≤ v ∧ v ≤ 9223372036854775807) → ex_q (dt_fg L ρ) rc (d + 2, (f.1, f.2.1, f.2.2.1, eJ v :: f.2.2.2), F, μ)) : ex_q (dt_fg L ρ) rc (d + 1, (78, 0, [some (eJ (a0)), none, none], []), f :: F, μ) := by
  refine w_t (np := 1) (l2 := [some (eJ (a0)), none, none]) (s2 := [eJ (a0)]) rfl rfl rfl ?_
  refine w_t (np := 2) (l2 := [some (eJ (a0)), none, none]) (s2 := [eI (1), eJ (a0)]) rfl rfl rfl ?_
  refine w_cu (np := 5) (as := [eJ (a0), eI (1)]) (l2 := [some (eJ (a0)), none, some (eI (1))]) (rest := []) rfl rfl rfl (Nat.ble_eq.mp rfl) rfl rfl rfl rfl ?_
  refine s_73 (a2 := 1) hI bA0 (by decide) ?_
  intro v1 b2
  show ex_q (dt_fg L ρ) rc (d + 1, (78, 5, [some (eJ (a0)), none, none], [eI (v1)]), f :: F, μ)
  refine w_t (np := 6) (l2 := [some (eJ (a0)), none, some (eI (v1))]) (s2 := []) rfl rfl rfl ?_
  refine w_t (np := 7) (l2 := [some (eJ (a0)), none, some (eI (v1))]) (s2 := [eJ (a0)]) rfl rfl rfl ?_
  refine w_t (np := 8) (l2 := [some (eJ (a0)), none, some (eI (v1))]) (s2 := [eI (0), eJ (a0)]) rfl rfl rfl ?_
  refine w_cu (np := 11) (as := [eJ (a0), eI (0)]) (l2 := [some (eJ (a0)), none, some (eI (0))]) (rest := []) rfl rfl rfl (Nat.ble_eq.mp rfl) rfl rfl rfl rfl ?_
  refine s_73 (a2 := 0) hI bA0 (by decide) ?_
  intro v3 b4
  show ex_q (dt_fg L ρ) rc (d + 1, (78, 11, [some (eJ (a0)), none, some (eI (v1))], [eI (v3)]), f :: F, μ)
  refine w_t (np := 12) (l2 := [some (eJ (a0)), none, some (eI (v1))]) (s2 := [eI (v1), eI (v3)]) rfl rfl rfl ?_
  obtain ⟨v5, e6⟩ : ∃ zz : Int, zz = (v3) + (v1) := ⟨_, rfl⟩
  have b7 : -65536 ≤ v5 ∧ v5 ≤ 65534 := by omega
  refine w_t (np := 13) (l2 := [some (eJ (a0)), none, some (eI (v1))]) (s2 := [eI (v5)]) rfl (b_iadd (by rw [← e6]; exact ev_w_in (by omega) (by omega))) rfl ?_
  refine w_t (np := 14) (l2 := [some (eJ (a0)), none, some (eI (v1))]) (s2 := [eI (v1), eI (v5)]) rfl rfl rfl ?_
  obtain ⟨v8, e9⟩ : ∃ zz : Int, zz = -(v1) := ⟨_, rfl⟩
  have b10 : -32767 ≤ v8 ∧ v8 ≤ 32768 := by omega
  refine w_t (np := 15) (l2 := [some (eJ (a0)), none, some (eI (v1))]) (s2 := [eI (v8), eI (v5)]) rfl (b_ineg (by rw [← e9]; exact ev_w_in (by omega) (by omega))) rfl ?_
  refine w_t (np := 16) (l2 := [some (eJ (a0)), none, some (eI (v1))]) (s2 := [eI (v1), eI (v8), eI (v5)]) rfl rfl rfl ?_
  refine w_t (np := 17) (l2 := [some (eJ (a0)), none, some (eI (v1))]) (s2 := [eJ (a0), eI (v1), eI (v8), eI (v5)]) rfl rfl rfl ?_
  refine w_t (np := 18) (l2 := [some (eJ (a0)), none, some (eI (v1))]) (s2 := [eI (3), eJ (a0), eI (v1), eI (v8), eI (v5)]) rfl rfl rfl ?_
  refine w_cu (np := 21) (as := [eJ (a0), eI (3)]) (l2 := [some (eJ (a0)), none, some (eI (3))]) (rest := [eI (v1), eI (v8), eI (v5)]) rfl rfl rfl (Nat.ble_eq.mp rfl) rfl rfl rfl rfl ?_
  refine s_73 (a2 := 3) hI bA0 (by decide) ?_
  intro v11 b12
  show ex_q (dt_fg L ρ) rc (d + 1, (78, 21, [some (eJ (a0)), none, some (eI (v1))], [eI (v11), eI (v1), eI (v8), eI (v5)]), f :: F, μ)
  obtain ⟨v13, e14⟩ : ∃ zz : Int, zz = (v1) - (v11) := ⟨_, rfl⟩
  have b15 : -65535 ≤ v13 ∧ v13 ≤ 65535 := by omega
  refine w_t (np := 22) (l2 := [some (eJ (a0)), none, some (eI (v1))]) (s2 := [eI (v13), eI (v8), eI (v5)]) rfl (b_isub (by rw [← e14]; exact ev_w_in (by omega) (by omega))) rfl ?_
  refine w_t (np := 23) (l2 := [some (eJ (a0)), none, some (eI (v1))]) (s2 := [eI (v1), eI (v13), eI (v8), eI (v5)]) rfl rfl rfl ?_
  obtain ⟨v16, e17⟩ : ∃ zz : Int, zz = -(v1) := ⟨_, rfl⟩
  have b18 : -32767 ≤ v16 ∧ v16 ≤ 32768 := by omega
  refine w_t (np := 24) (l2 := [some (eJ (a0)), none, some (eI (v1))]) (s2 := [eI (v16), eI (v13), eI (v8), eI (v5)]) rfl (b_ineg (by rw [← e17]; exact ev_w_in (by omega) (by omega))) rfl ?_
  refine w_t (np := 25) (l2 := [some (eJ (a0)), none, some (eI (v1))]) (s2 := [eJ (a0), eI (v16), eI (v13), eI (v8), eI (v5)]) rfl rfl rfl ?_
  refine w_t (np := 26) (l2 := [some (eJ (a0)), none, some (eI (v1))]) (s2 := [eI (2), eJ (a0), eI (v16), eI (v13), eI (v8), eI (v5)]) rfl rfl rfl ?_
  refine w_cu (np := 29) (as := [eJ (a0), eI (2)]) (l2 := [some (eJ (a0)), none, some (eI (2))]) (rest := [eI (v16), eI (v13), eI (v8), eI (v5)]) rfl rfl rfl (Nat.ble_eq.mp rfl) rfl rfl rfl rfl ?_
  refine s_73 (a2 := 2) hI bA0 (by decide) ?_
  intro v19 b20
  show ex_q (dt_fg L ρ) rc (d + 1, (78, 29, [some (eJ (a0)), none, some (eI (v1))], [eI (v19), eI (v16), eI (v13), eI (v8), eI (v5)]), f :: F, μ)
  obtain ⟨v21, e22⟩ : ∃ zz : Int, zz = (v16) - (v19) := ⟨_, rfl⟩
  have b23 : -65534 ≤ v21 ∧ v21 ≤ 65536 := by omega
  refine w_t (np := 30) (l2 := [some (eJ (a0)), none, some (eI (v1))]) (s2 := [eI (v21), eI (v13), eI (v8), eI (v5)]) rfl (b_isub (by rw [← e22]; exact ev_w_in (by omega) (by omega))) rfl ?_
  refine w_cu (np := 33) (as := [eI (v5), eI (v8), eI (v13), eI (v21)]) (l2 := [some (eI (v5)), some (eI (v8)), some (eI (v13)), some (eI (v21))]) (rest := []) rfl rfl rfl (Nat.ble_eq.mp rfl) rfl rfl rfl rfl ?_
  refine s_71 (a0 := v5) (a1 := v8) (a2 := v13) (a3 := v21) hI (by omega) (by omega) (by omega) (by omega) ?_
  intro v24 b25
  show ex_q (dt_fg L ρ) rc (d + 1, (78, 33, [some (eJ (a0)), none, some (eI (v1))], [eJ (v24)]), f :: F, μ)
  exact b_rl rfl rfl (K (v24) (by omega))
theorem s_79 {L : Nat} {ρ : Nat → Int} {rc : eQ} {d : Nat} {f : eFr} {F : List eFr} {μ : eM} {g : Nat → Nat} {a0 : Int} (hI : SI g μ) (bA0 : -9223372036854775808 ≤ a0 ∧ a0 ≤ 9223372036854775807) (K : ∀ (v : Int), (-9223372036854775808 ≤ v ∧ v ≤ 9223372036854775807) → ex_q (dt_fg L ρ) rc (d + 2, (f.1, f.2.1, f.2.2.1, eJ v :: f.2.2.2), F, μ)) : ex_q (dt_fg L ρ) rc (d + 1, (79, 0, [some (eJ (a0)), none, none, none, none, none], []), f :: F, μ) := by
  refine w_t (np := 1) (l2 := [some (eJ (a0)), none, none, none, none, none]) (s2 := [eJ (a0)]) rfl rfl rfl ?_
  refine w_t (np := 2) (l2 := [some (eJ (a0)), none, none, none, none, none]) (s2 := [eI (0), eJ (a0)]) rfl rfl rfl ?_
  refine w_cu (np := 5) (as := [eJ (a0), eI (0)]) (l2 := [some (eJ (a0)), none, some (eI (0))]) (rest := []) rfl rfl rfl (Nat.ble_eq.mp rfl) rfl rfl rfl rfl ?_
  refine s_73 (a2 := 0) hI bA0 (by decide) ?_
  intro v1 b2
  show ex_q (dt_fg L ρ) rc (d + 1, (79, 5, [some (eJ (a0)), none, none, none, none, none], [eI (v1)]), f :: F, μ)
  refine w_t (np := 6) (l2 := [some (eJ (a0)), none, some (eI (v1)), none, none, none]) (s2 := []) rfl rfl rfl ?_
  refine w_t (np := 7) (l2 := [some (eJ (a0)), none, some (eI (v1)), none, none, none]) (s2 := [eJ (a0)]) rfl rfl rfl ?_
  refine w_t (np := 8) (l2 := [some (eJ (a0)), none, some (eI (v1)), none, none, none]) (s2 := [eI (1), eJ (a0)]) rfl rfl rfl ?_
  refine w_cu (np := 11) (as := [eJ (a0), eI (1)]) (l2 := [some (eJ (a0)), none, some (eI (1))]) (rest := []) rfl rfl rfl (Nat.ble_eq.mp rfl) rfl rfl rfl rfl ?_
  refine s_73 (a2 := 1) hI bA0 (by decide) ?_
  intro v3 b4
  show ex_q (dt_fg L ρ) rc (d + 1, (79, 11, [some (eJ (a0)), none, some (eI (v1)), none, none, none], [eI (v3)]), f :: F, μ)
  refine w_t (np := 12) (l2 := [some (eJ (a0)), none, some (eI (v1)), some (eI (v3)), none, none]) (s2 := []) rfl rfl rfl ?_
  refine w_t (np := 13) (l2 := [some (eJ (a0)), none, some (eI (v1)), some (eI (v3)), none, none]) (s2 := [eJ (a0)]) rfl rfl rfl ?_
  refine w_t (np := 14) (l2 := [some (eJ (a0)), none, some (eI (v1)), some (eI (v3)), none, none]) (s2 := [eI (2), eJ (a0)]) rfl rfl rfl ?_
  refine w_cu (np := 17) (as := [eJ (a0), eI (2)]) (l2 := [some (eJ (a0)), none, some (eI (2))]) (rest := []) rfl rfl rfl (Nat.ble_eq.mp rfl) rfl rfl rfl rfl ?_
  refine s_73 (a2 := 2) hI bA0 (by decide) ?_
  intro v5 b6
  show ex_q (dt_fg L ρ) rc (d + 1, (79, 17, [some (eJ (a0)), none, some (eI (v1)), some (eI (v3)), none, none], [eI (v5)]), f :: F, μ)
  refine w_t (np := 19) (l2 := [some (eJ (a0)), none, some (eI (v1)), some (eI (v3)), some (eI (v5)), none]) (s2 := []) rfl rfl rfl ?_
  refine w_t (np := 20) (l2 := [some (eJ (a0)), none, some (eI (v1)), some (eI (v3)), some (eI (v5)), none]) (s2 := [eJ (a0)]) rfl rfl rfl ?_
  refine w_t (np := 21) (l2 := [some (eJ (a0)), none, some (eI (v1)), some (eI (v3)), some (eI (v5)), none]) (s2 := [eI (3), eJ (a0)]) rfl rfl rfl ?_
  refine w_cu (np := 24) (as := [eJ (a0), eI (3)]) (l2 := [some (eJ (a0)), none, some (eI (3))]) (rest := []) rfl rfl rfl (Nat.ble_eq.mp rfl) rfl rfl rfl rfl ?_
  refine s_73 (a2 := 3) hI bA0 (by decide) ?_
  intro v7 b8
  show ex_q (dt_fg L ρ) rc (d + 1, (79, 24, [some (eJ (a0)), none, some (eI (v1)), some (eI (v3)), some (eI (v5)), none], [eI (v7)]), f :: F, μ)
  refine w_t (np := 26) (l2 := [some (eJ (a0)), none, some (eI (v1)), some (eI (v3)), some (eI (v5)), some (eI (v7))]) (s2 := []) rfl rfl rfl ?_
  refine w_t (np := 27) (l2 := [some (eJ (a0)), none, some (eI (v1)), some (eI (v3)), some (eI (v5)), some (eI (v7))]) (s2 := [eI (v1)]) rfl rfl rfl ?_
  refine w_t (np := 28) (l2 := [some (eJ (a0)), none, some (eI (v1)), some (eI (v3)), some (eI (v5)), some (eI (v7))]) (s2 := [eI (v3), eI (v1)]) rfl rfl rfl ?_
  obtain ⟨v9, e10⟩ : ∃ zz : Int, zz = (v1) + (v3) := ⟨_, rfl⟩
  have b11 : -65536 ≤ v9 ∧ v9 ≤ 65534 := by omega
  refine w_t (np := 29) (l2 := [some (eJ (a0)), none, some (eI (v1)), some (eI (v3)), some (eI (v5)), some (eI (v7))]) (s2 := [eI (v9)]) rfl (b_iadd (by rw [← e10]; exact ev_w_in (by omega) (by omega))) rfl ?_
  refine w_t (np := 31) (l2 := [some (eJ (a0)), none, some (eI (v1)), some (eI (v3)), some (eI (v5)), some (eI (v7))]) (s2 := [eI (v7), eI (v9)]) rfl rfl rfl ?_
  obtain ⟨v12, e13⟩ : ∃ zz : Int, zz = (v9) - (v7) := ⟨_, rfl⟩
  have b14 : -98303 ≤ v12 ∧ v12 ≤ 98302 := by omega
  refine w_t (np := 32) (l2 := [some (eJ (a0)), none, some (eI (v1)), some (eI (v3)), some (eI (v5)), some (eI (v7))]) (s2 := [eI (v12)]) rfl (b_isub (by rw [← e13]; exact ev_w_in (by omega) (by omega))) rfl ?_
  refine w_t (np := 34) (l2 := [some (eJ (a0)), none, some (eI (v1)), some (eI (v3)), some (eI (v5)), some (eI (v7))]) (s2 := [eI (v5), eI (v12)]) rfl rfl rfl ?_
  refine w_t (np := 36) (l2 := [some (eJ (a0)), none, some (eI (v1)), some (eI (v3)), some (eI (v5)), some (eI (v7))]) (s2 := [eI (v7), eI (v5), eI (v12)]) rfl rfl rfl ?_
  obtain ⟨v15, e16⟩ : ∃ zz : Int, zz = (v5) + (v7) := ⟨_, rfl⟩
  have b17 : -65536 ≤ v15 ∧ v15 ≤ 65534 := by omega
  refine w_t (np := 37) (l2 := [some (eJ (a0)), none, some (eI (v1)), some (eI (v3)), some (eI (v5)), some (eI (v7))]) (s2 := [eI (v15), eI (v12)]) rfl (b_iadd (by rw [← e16]; exact ev_w_in (by omega) (by omega))) rfl ?_
  refine w_t (np := 38) (l2 := [some (eJ (a0)), none, some (eI (v1)), some (eI (v3)), some (eI (v5)), some (eI (v7))]) (s2 := [eI (v1), eI (v15), eI (v12)]) rfl rfl rfl ?_
  refine w_t (np := 39) (l2 := [some (eJ (a0)), none, some (eI (v1)), some (eI (v3)), some (eI (v5)), some (eI (v7))]) (s2 := [eI (v3), eI (v1), eI (v15), eI (v12)]) rfl rfl rfl ?_
  obtain ⟨v18, e19⟩ : ∃ zz : Int, zz = (v1) + (v3) := ⟨_, rfl⟩
  have b20 : -65536 ≤ v18 ∧ v18 ≤ 65534 := by omega
  refine w_t (np := 40) (l2 := [some (eJ (a0)), none, some (eI (v1)), some (eI (v3)), some (eI (v5)), some (eI (v7))]) (s2 := [eI (v18), eI (v15), eI (v12)]) rfl (b_iadd (by rw [← e19]; exact ev_w_in (by omega) (by omega))) rfl ?_
  refine w_t (np := 42) (l2 := [some (eJ (a0)), none, some (eI (v1)), some (eI (v3)), some (eI (v5)), some (eI (v7))]) (s2 := [eI (v5), eI (v18), eI (v15), eI (v12)]) rfl rfl rfl ?_
  refine w_t (np := 44) (l2 := [some (eJ (a0)), none, some (eI (v1)), some (eI (v3)), some (eI (v5)), some (eI (v7))]) (s2 := [eI (v7), eI (v5), eI (v18), eI (v15), eI (v12)]) rfl rfl rfl ?_
  obtain ⟨v21, e22⟩ : ∃ zz : Int, zz = (v5) + (v7) := ⟨_, rfl⟩
  have b23 : -65536 ≤ v21 ∧ v21 ≤ 65534 := by omega
  refine w_t (np := 45) (l2 := [some (eJ (a0)), none, some (eI (v1)), some (eI (v3)), some (eI (v5)), some (eI (v7))]) (s2 := [eI (v21), eI (v18), eI (v15), eI (v12)]) rfl (b_iadd (by rw [← e22]; exact ev_w_in (by omega) (by omega))) rfl ?_
  refine w_t (np := 46) (l2 := [some (eJ (a0)), none, some (eI (v1)), some (eI (v3)), some (eI (v5)), some (eI (v7))]) (s2 := [eI (v1), eI (v21), eI (v18), eI (v15), eI (v12)]) rfl rfl rfl ?_
  obtain ⟨v24, e25⟩ : ∃ zz : Int, zz = (v21) - (v1) := ⟨_, rfl⟩
  have b26 : -98303 ≤ v24 ∧ v24 ≤ 98302 := by omega
  refine w_t (np := 47) (l2 := [some (eJ (a0)), none, some (eI (v1)), some (eI (v3)), some (eI (v5)), some (eI (v7))]) (s2 := [eI (v24), eI (v18), eI (v15), eI (v12)]) rfl (b_isub (by rw [← e25]; exact ev_w_in (by omega) (by omega))) rfl ?_
  refine w_cu (np := 50) (as := [eI (v12), eI (v15), eI (v18), eI (v24)]) (l2 := [some (eI (v12)), some (eI (v15)), some (eI (v18)), some (eI (v24))]) (rest := []) rfl rfl rfl (Nat.ble_eq.mp rfl) rfl rfl rfl rfl ?_
  refine s_71 (a0 := v12) (a1 := v15) (a2 := v18) (a3 := v24) hI (by omega) (by omega) (by omega) (by omega) ?_
  intro v27 b28
  show ex_q (dt_fg L ρ) rc (d + 1, (79, 50, [some (eJ (a0)), none, some (eI (v1)), some (eI (v3)), some (eI (v5)), some (eI (v7))], [eJ (v27)]), f :: F, μ)
  exact b_rl rfl rfl (K (v27) (by omega))
theorem s_80 {L : Nat} {ρ : Nat → Int} {rc : eQ} {d : Nat} {f : eFr} {F : List eFr} {μ : eM} {g : Nat → Nat} {a0 : Int} {a2 : Int} (hI : SI g μ) (bA0 : -9223372036854775808 ≤ a0 ∧ a0 ≤ 9223372036854775807) (bA2 : -2147483648 ≤ a2 ∧ a2 ≤ 2147483647) (K : ∀ (v : Int), (-2147483648 ≤ v ∧ v ≤ 2147483647) → ex_q (dt_fg L ρ) rc (d + 1, (f.1, f.2.1, f.2.2.1, eI v :: f.2.2.2), F, μ)) : ex_q (dt_fg L ρ) rc (d, (80, 0, [some (eJ (a0)), none, some (eI (a2)), some (eR 14), none, none, none], []), f :: F, μ) := by
  refine w_t (np := 2) (l2 := [some (eJ (a0)), none, some (eI (a2)), some (eR 14), none, none, none]) (s2 := [eI (10)]) rfl rfl rfl ?_
  refine w_t (np := 3) (l2 := [some (eJ (a0)), none, some (eI (a2)), some (eR 14), none, none, none]) (s2 := [eI (a2), eI (10)]) rfl rfl rfl ?_
  refine w_t (np := 5) (l2 := [some (eJ (a0)), none, some (eI (a2)), some (eR 14), none, none, none]) (s2 := [eI (10), eI (a2), eI (10)]) rfl rfl rfl ?_
  obtain ⟨v1, e2, b3⟩ := h_irem (a := a2) (k := 10) (by decide) (by decide) bA2
  have b4 : -9 ≤ v1 ∧ v1 ≤ 9 := by omega
  refine w_t (np := 6) (l2 := [some (eJ (a0)), none, some (eI (a2)), some (eR 14), none, none, none]) (s2 := [eI (v1), eI (10)]) rfl (e2 _ _) rfl ?_
  obtain ⟨v5, e6⟩ : ∃ zz : Int, zz = (10) - (v1) := ⟨_, rfl⟩
  have b7 : 1 ≤ v5 ∧ v5 ≤ 19 := by omega
  refine w_t (np := 7) (l2 := [some (eJ (a0)), none, some (eI (a2)), some (eR 14), none, none, none]) (s2 := [eI (v5)]) rfl (b_isub (by rw [← e6]; exact ev_w_in (by omega) (by omega))) rfl ?_
  refine w_t (np := 9) (l2 := [some (eJ (a0)), none, some (eI (a2)), some (eR 14), none, none, none]) (s2 := [eI (10), eI (v5)]) rfl rfl rfl ?_
  obtain ⟨v8, e9, b10⟩ := h_irem (a := v5) (k := 10) (by decide) (by decide) (show (-2147483648 : Int) ≤ v5 ∧ (v5 : Int) ≤ 2147483647 by omega)
  have b11 : 0 ≤ v8 ∧ v8 ≤ 9 := by omega
  refine w_t (np := 10) (l2 := [some (eJ (a0)), none, some (eI (a2)), some (eR 14), none, none, none]) (s2 := [eI (v8)]) rfl (e9 _ _) rfl ?_
  refine w_t (np := 12) (l2 := [some (eJ (a0)), none, some (eI (a2)), some (eR 14), some (eI (v8)), none, none]) (s2 := []) rfl rfl rfl ?_
  refine w_t (np := 13) (l2 := [some (eJ (a0)), none, some (eI (a2)), some (eR 14), some (eI (v8)), none, none]) (s2 := [eI (0)]) rfl rfl rfl ?_
  refine w_t (np := 15) (l2 := [some (eJ (a0)), none, some (eI (a2)), some (eR 14), some (eI (v8)), some (eI (0)), none]) (s2 := []) rfl rfl rfl ?_
  refine w_t (np := 16) (l2 := [some (eJ (a0)), none, some (eI (a2)), some (eR 14), some (eI (v8)), some (eI (0)), none]) (s2 := [eI (0)]) rfl rfl rfl ?_
  refine w_t (np := 18) (l2 := [some (eJ (a0)), none, some (eI (a2)), some (eR 14), some (eI (v8)), some (eI (0)), some (eI (0))]) (s2 := []) rfl rfl rfl ?_
  have hL18 : ∀ (n12 : Nat) (i14 : Int) (i16 : Int), (-2147483648 ≤ i14 ∧ i14 ≤ 2147483647) → (0 ≤ i16 ∧ i16 ≤ 4) → n12 = (4 - i16).toNat → ex_q (dt_fg L ρ) rc (d, (80, 18, [some (eJ (a0)), none, some (eI (a2)), some (eR 14), some (eI (v8)), some (eI (i14)), some (eI (i16))], []), f :: F, μ) := by
    intro n12
    induction n12 using Nat.strongRecOn with
    | _ n12 ih13 =>
    intro i14 i16 b15 b17 hn18
    refine w_t (np := 20) (l2 := [some (eJ (a0)), none, some (eI (a2)), some (eR 14), some (eI (v8)), some (eI (i14)), some (eI (i16))]) (s2 := [eI (i16)]) rfl rfl rfl ?_
    refine w_t (np := 21) (l2 := [some (eJ (a0)), none, some (eI (a2)), some (eR 14), some (eI (v8)), some (eI (i14)), some (eI (i16))]) (s2 := [eI (4), eI (i16)]) rfl rfl rfl ?_
    refine b_cge (t1 := 65) (t2 := 24) rfl rfl rfl (ev_w_in (by omega) (by omega)) rfl (fun g19 => ?_) (fun g19 => ?_)
    · have b20 : 4 ≤ i16 ∧ i16 ≤ 4 := by omega
      refine w_t (np := 67) (l2 := [some (eJ (a0)), none, some (eI (a2)), some (eR 14), some (eI (v8)), some (eI (i14)), some (eI (i16))]) (s2 := [eI (i14)]) rfl rfl rfl ?_
      exact b_ri rfl rfl (K (i14) (by omega))
    · have b20 : 0 ≤ i16 ∧ i16 ≤ 3 := by omega
      refine w_t (np := 26) (l2 := [some (eJ (a0)), none, some (eI (a2)), some (eR 14), some (eI (v8)), some (eI (i14)), some (eI (i16))]) (s2 := [eI (v8)]) rfl rfl rfl ?_
      refine w_t (np := 28) (l2 := [some (eJ (a0)), none, some (eI (a2)), some (eR 14), some (eI (v8)), some (eI (i14)), some (eI (i16))]) (s2 := [eI (i16), eI (v8)]) rfl rfl rfl ?_
      obtain ⟨v20, e21⟩ : ∃ zz : Int, zz = (v8) + (i16) := ⟨_, rfl⟩
      have b22 : 0 ≤ v20 ∧ v20 ≤ 12 := by omega
      refine w_t (np := 29) (l2 := [some (eJ (a0)), none, some (eI (a2)), some (eR 14), some (eI (v8)), some (eI (i14)), some (eI (i16))]) (s2 := [eI (v20)]) rfl (b_iadd (by rw [← e21]; exact ev_w_in (by omega) (by omega))) rfl ?_
      refine w_t (np := 30) (l2 := [some (eJ (a0)), none, some (eI (a2)), some (eR 14), some (eI (v8)), some (eI (i14)), some (eI (i16))]) (s2 := [eR 14, eI (v20)]) rfl (s_an rfl (by decide)) rfl ?_
      refine v_ln (np := 31) (v := 13) (n := 13) rfl rfl ⟨rfl, zI_lit (by decide)⟩ ?_
      rw [show zI 13 = 13 by decide]
      refine b_cge (t1 := 65) (t2 := 34) rfl rfl rfl (ev_w_in (by omega) (by omega)) rfl (fun g23 => False.elim (by omega)) (fun g23 => ?_)
      refine w_t (np := 36) (l2 := [some (eJ (a0)), none, some (eI (a2)), some (eR 14), some (eI (v8)), some (eI (i14)), some (eI (i16))]) (s2 := [eI (i14)]) rfl rfl rfl ?_
      refine w_t (np := 37) (l2 := [some (eJ (a0)), none, some (eI (a2)), some (eR 14), some (eI (v8)), some (eI (i14)), some (eI (i16))]) (s2 := [eJ (a0), eI (i14)]) rfl rfl rfl ?_
      refine w_t (np := 39) (l2 := [some (eJ (a0)), none, some (eI (a2)), some (eR 14), some (eI (v8)), some (eI (i14)), some (eI (i16))]) (s2 := [eI (48), eJ (a0), eI (i14)]) rfl rfl rfl ?_
      refine w_t (np := 41) (l2 := [some (eJ (a0)), none, some (eI (a2)), some (eR 14), some (eI (v8)), some (eI (i14)), some (eI (i16))]) (s2 := [eI (16), eI (48), eJ (a0), eI (i14)]) rfl rfl rfl ?_
      refine w_t (np := 43) (l2 := [some (eJ (a0)), none, some (eI (a2)), some (eR 14), some (eI (v8)), some (eI (i14)), some (eI (i16))]) (s2 := [eI (i16), eI (16), eI (48), eJ (a0), eI (i14)]) rfl rfl rfl ?_
      obtain ⟨v24, e25⟩ : ∃ zz : Int, zz = (16) * (i16) := ⟨_, rfl⟩
      have b26 : 0 ≤ v24 ∧ v24 ≤ 48 := by omega
      refine w_t (np := 44) (l2 := [some (eJ (a0)), none, some (eI (a2)), some (eR 14), some (eI (v8)), some (eI (i14)), some (eI (i16))]) (s2 := [eI (v24), eI (48), eJ (a0), eI (i14)]) rfl (b_imul (by rw [← e25]; exact ev_w_in (by omega) (by omega))) rfl ?_
      obtain ⟨v27, e28⟩ : ∃ zz : Int, zz = (48) - (v24) := ⟨_, rfl⟩
      have b29 : 0 ≤ v27 ∧ v27 ≤ 48 := by omega
      refine w_t (np := 45) (l2 := [some (eJ (a0)), none, some (eI (a2)), some (eR 14), some (eI (v8)), some (eI (i14)), some (eI (i16))]) (s2 := [eI (v27), eJ (a0), eI (i14)]) rfl (b_isub (by rw [← e28]; exact ev_w_in (by omega) (by omega))) rfl ?_
      obtain ⟨v30, e31, b32⟩ := h_lshr (a0) (v27)
      refine w_t (np := 46) (l2 := [some (eJ (a0)), none, some (eI (a2)), some (eR 14), some (eI (v8)), some (eI (i14)), some (eI (i16))]) (s2 := [eJ (v30), eI (i14)]) rfl (e31 _ _) rfl ?_
      obtain ⟨v33, e34, b35⟩ := h_l2i (v30)
      refine w_t (np := 47) (l2 := [some (eJ (a0)), none, some (eI (a2)), some (eR 14), some (eI (v8)), some (eI (i14)), some (eI (i16))]) (s2 := [eI (v33), eI (i14)]) rfl (e34 _ _) rfl ?_
      obtain ⟨v36, e37, b38⟩ := h_i2s (v33)
      refine w_t (np := 48) (l2 := [some (eJ (a0)), none, some (eI (a2)), some (eR 14), some (eI (v8)), some (eI (i14)), some (eI (i16))]) (s2 := [eI (v36), eI (i14)]) rfl (e37 _ _) rfl ?_
      refine w_t (np := 49) (l2 := [some (eJ (a0)), none, some (eI (a2)), some (eR 14), some (eI (v8)), some (eI (i14)), some (eI (i16))]) (s2 := [eR 14, eI (v36), eI (i14)]) rfl (s_an rfl (by decide)) rfl ?_
      refine w_t (np := 51) (l2 := [some (eJ (a0)), none, some (eI (a2)), some (eR 14), some (eI (v8)), some (eI (i14)), some (eI (i16))]) (s2 := [eI (v8), eR 14, eI (v36), eI (i14)]) rfl rfl rfl ?_
      refine w_t (np := 53) (l2 := [some (eJ (a0)), none, some (eI (a2)), some (eR 14), some (eI (v8)), some (eI (i14)), some (eI (i16))]) (s2 := [eI (i16), eI (v8), eR 14, eI (v36), eI (i14)]) rfl rfl rfl ?_
      obtain ⟨v39, e40⟩ : ∃ zz : Int, zz = (v8) + (i16) := ⟨_, rfl⟩
      have b41 : 0 ≤ v39 ∧ v39 ≤ 12 := by omega
      refine w_t (np := 54) (l2 := [some (eJ (a0)), none, some (eI (a2)), some (eR 14), some (eI (v8)), some (eI (i14)), some (eI (i16))]) (s2 := [eI (v39), eR 14, eI (v36), eI (i14)]) rfl (b_iadd (by rw [← e40]; exact ev_w_in (by omega) (by omega))) rfl ?_
      refine j_si (np := 55) (n := 13) (lo := -1) (hi := 1) rfl rfl rfl (by decide) (by decide) (by decide) rfl rfl (by decide) (by omega) (by omega) ?_
      intro v42 b44
      obtain ⟨v45, e46⟩ : ∃ zz : Int, zz = (v36) * (v42) := ⟨_, rfl⟩
      have b47 : -32768 ≤ v45 ∧ v45 ≤ 32768 := by
        have hm := i_mulb (a := v36) (b := v42) (A := 32768) (B := 1) (by omega) (by omega)
        rw [e46]
        omega
      refine w_t (np := 56) (l2 := [some (eJ (a0)), none, some (eI (a2)), some (eR 14), some (eI (v8)), some (eI (i14)), some (eI (i16))]) (s2 := [eI (v45), eI (i14)]) rfl (b_imul (by rw [← e46]; exact ev_w_in (by omega) (by omega))) rfl ?_
      obtain ⟨v48, e49, b50⟩ : ∃ zz : Int, ev_w ((i14) + (v45)) = zz ∧ (-2147483648 ≤ zz ∧ zz ≤ 2147483647) := ⟨_, rfl, hw_bd _⟩
      refine w_t (np := 57) (l2 := [some (eJ (a0)), none, some (eI (a2)), some (eR 14), some (eI (v8)), some (eI (i14)), some (eI (i16))]) (s2 := [eI (v48)]) rfl (b_iadd e49) rfl ?_
      refine w_t (np := 59) (l2 := [some (eJ (a0)), none, some (eI (a2)), some (eR 14), some (eI (v8)), some (eI (v48)), some (eI (i16))]) (s2 := []) rfl rfl rfl ?_
      obtain ⟨v51, e52⟩ : ∃ zz : Int, zz = (i16) + (1) := ⟨_, rfl⟩
      have b53 : 1 ≤ v51 ∧ v51 ≤ 4 := by omega
      refine w_t (np := 62) (l2 := [some (eJ (a0)), none, some (eI (a2)), some (eR 14), some (eI (v8)), some (eI (v48)), some (eI (v51))]) (s2 := []) rfl (b_iinc rfl (by rw [← e52]; exact ev_w_in (by omega) (by omega)) rfl) rfl ?_
      refine w_go (t1 := 18) rfl rfl ?_
      exact ih13 (4 - (v51)).toNat (by omega) (v48) (v51) (by omega) (by omega)     rfl
  exact hL18 _ (0) (0) (by decide) (by decide)     rfl
