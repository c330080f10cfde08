/-! growAll: walked -/
def l_47t : List Nat := [3328, 3584]
theorem s_47t {L : Nat} {ρ : Nat → Int} {rc : eQ} {d : Nat} {f : eFr} {F : List eFr} {μ : eM} {g : Nat → Nat} {a0 : Nat} {a1 : Int} (hI : SI g μ) (gA0 : g a0 = 12) (bA1 : -2147483648 ≤ a1 ∧ a1 ≤ 2147483647) (K : ∀ (μ2 : eM), SI g μ2 → Fr l_47t 0 0 g μ μ2 → ex_q (dt_fg L ρ) rc (d + 3, (f.1, f.2.1, f.2.2.1, f.2.2.2), F, μ2)) : ex_q (dt_fg L ρ) rc (d + 2, (47, 56, [some (eR a0), some (eI (a1)), none], []), f :: F, μ) := by
  have F0 : Fr l_47t 0 0 g μ μ := Fr.r
  refine w_t (np := 57) (l2 := [some (eR a0), some (eI (a1)), none]) (s2 := [eI (0)]) rfl rfl rfl ?_
  refine w_t (np := 58) (l2 := [some (eR a0), some (eI (a1)), some (eI (0))]) (s2 := []) rfl rfl rfl ?_
  have hL58 : ∀ (n1 : Nat) (m5 : eM) (i3 : Int), SI g m5 → Fr l_47t 0 0 g μ m5 → (0 ≤ i3 ∧ i3 ≤ 64) → n1 = (64 - i3).toNat → ex_q (dt_fg L ρ) rc (d + 2, (47, 58, [some (eR a0), some (eI (a1)), some (eI (i3))], []), f :: F, m5) := by
    intro n1
    induction n1 using Nat.strongRecOn with
    | _ n1 ih2 =>
    intro m5 i3 I6 F7 b4 hn8
    refine w_t (np := 59) (l2 := [some (eR a0), some (eI (a1)), some (eI (i3))]) (s2 := [eI (i3)]) rfl rfl rfl ?_
    refine w_t (np := 60) (l2 := [some (eR a0), some (eI (a1)), some (eI (i3))]) (s2 := [eR a0, eI (i3)]) rfl (s_an rfl (pos_g I6 gA0 (by decide))) rfl ?_
    refine j_gi (np := 63) rfl rfl rfl I6 gA0 (by decide) (n := 3) rfl rfl (lo := 0) (hi := 64) rfl ?_
    intro v9 e10 b11
    refine b_cge (t1 := 105) (t2 := 66) rfl rfl rfl (ev_w_in (by omega) (by omega)) (ev_w_in (by omega) (by omega)) (fun g12 => ?_) (fun g12 => ?_)
    · exact v_rv rfl rfl (K m5 I6 F7)
    · have b13 : 0 ≤ i3 ∧ i3 ≤ 63 := by omega
      have b14 : 1 ≤ v9 ∧ v9 ≤ 64 := by omega
      refine w_t (np := 67) (l2 := [some (eR a0), some (eI (a1)), some (eI (i3))]) (s2 := [eR a0]) rfl (s_an rfl (pos_g I6 gA0 (by decide))) rfl ?_
      refine j_gr (np := 70) rfl rfl I6 gA0 (by decide) (n := 3) rfl rfl rfl ?_
      intro v13 e14 b15 z16
      have b15 : g v13 = 13 := Nat.eq_of_beq_eq_true b15
      refine w_t (np := 71) (l2 := [some (eR a0), some (eI (a1)), some (eI (i3))]) (s2 := [eI (i3), eR v13]) rfl rfl rfl ?_
      refine w_t (np := 72) (l2 := [some (eR a0), some (eI (a1)), some (eI (i3))]) (s2 := [eR a0, eI (i3), eR v13]) rfl (s_an rfl (pos_g I6 gA0 (by decide))) rfl ?_
      refine w_gf (np := 75) (v := eR v13) rfl rfl (I6.kd gA0 (by decide) (n := 3) rfl) (by rw [e14]; rfl) ?_
      refine w_t (np := 76) (l2 := [some (eR a0), some (eI (a1)), some (eI (i3))]) (s2 := [eI (i3), eR v13, eI (i3), eR v13]) rfl rfl rfl ?_
      refine j_ll (np := 77) rfl rfl I6 b15 (by decide) (n := 64) rfl rfl (lo := -9223372036854775808) (hi := 9223372036854775807) (fun _ => rfl) (by omega) (by omega) ?_
      intro v17 e18 b19
      refine w_cu (np := 80) (as := [eJ (v17)]) (l2 := [some (eJ (v17)), none, none, none, none, none]) (rest := [eI (i3), eR v13]) rfl rfl rfl (Nat.ble_eq.mp rfl) rfl rfl rfl rfl ?_
      refine s_79 I6 b19 ?_
      intro v20 b21
      show ex_q (dt_fg L ρ) rc (d + 2, (47, 80, [some (eR a0), some (eI (a1)), some (eI (i3))], [eJ (v20), eI (i3), eR v13]), f :: F, m5)
      refine j_sl (np := 81) rfl rfl I6 b15 (by decide) (n := 64) rfl rfl (lo := -9223372036854775808) (hi := 9223372036854775807) (fun _ => rfl) (by omega) (by omega) (by omega) ?_
      intro m22 I23 W24
      have F25 : Fr l_47t 0 0 g μ m22 := F7.v W24 b15 rfl rfl
      refine w_t (np := 82) (l2 := [some (eR a0), some (eI (a1)), some (eI (i3))]) (s2 := [eR a0]) rfl (s_an rfl (pos_g I23 gA0 (by decide))) rfl ?_
      refine j_gr (np := 85) rfl rfl I23 gA0 (by decide) (n := 3) rfl rfl rfl ?_
      intro v26 e27 b28 z29
      have b28 : g v26 = 14 := Nat.eq_of_beq_eq_true b28
      refine w_t (np := 86) (l2 := [some (eR a0), some (eI (a1)), some (eI (i3))]) (s2 := [eR a0, eR v26]) rfl (s_an rfl (pos_g I23 gA0 (by decide))) rfl ?_
      refine w_t (np := 87) (l2 := [some (eR a0), some (eI (a1)), some (eI (i3))]) (s2 := [eR a0, eR a0, eR v26]) rfl (s_an rfl (pos_g I23 gA0 (by decide))) rfl ?_
      refine w_gf (np := 90) (v := eR v13) rfl rfl (I23.kd gA0 (by decide) (n := 3) rfl) (by rw [(W24.addr e14 b15 gA0 (by decide))]; rfl) ?_
      refine w_t (np := 91) (l2 := [some (eR a0), some (eI (a1)), some (eI (i3))]) (s2 := [eI (i3), eR v13, eR a0, eR v26]) rfl rfl rfl ?_
      refine j_ll (np := 92) rfl rfl I23 b15 (by decide) (n := 64) rfl rfl (lo := -9223372036854775808) (hi := 9223372036854775807) (fun _ => rfl) (by omega) (by omega) ?_
      intro v30 e31 b32
      refine w_cw (np := 95) (as := [eJ (v30)]) (l2 := [some (eR a0), some (eJ (v30)), none, none, none, none]) (rest := [eR v26]) rfl rfl rfl (Nat.ble_eq.mp rfl) rfl rfl rfl (I23.kd gA0 (by decide) (n := 3) rfl) rfl ?_
      refine s_48 I23 gA0 b32 ?_
      intro v33 b34
      show ex_q (dt_fg L ρ) rc (d + 2, (47, 95, [some (eR a0), some (eI (a1)), some (eI (i3))], [eI (v33), eR v26]), f :: F, m22)
      refine w_t (np := 96) (l2 := [some (eR a0), some (eI (a1)), some (eI (i3))]) (s2 := [eI (i3), eI (v33), eR v26]) rfl rfl rfl ?_
      refine w_t (np := 97) (l2 := [some (eR a0), some (eI (a1)), some (eI (i3))]) (s2 := [eI (1), eI (i3), eI (v33), eR v26]) rfl rfl rfl ?_
      obtain ⟨v35, e36⟩ : ∃ zz : Int, zz = (i3) + (1) := ⟨_, rfl⟩
      have b37 : 1 ≤ v35 ∧ v35 ≤ 64 := by omega
      refine w_t (np := 98) (l2 := [some (eR a0), some (eI (a1)), some (eI (i3))]) (s2 := [eI (v35), eI (v33), eR v26]) rfl (b_iadd (by rw [← e36]; exact ev_w_in (by omega) (by omega))) rfl ?_
      refine j_as (np := 99) rfl rfl I23 b28 (by decide) (n := 128) rfl rfl (lo := 0) (hi := 64) (fun _ => rfl) (by omega) (by omega) (by omega) ?_
      intro m38 I39 W40
      have F41 : Fr l_47t 0 0 g μ m38 := F25.v W40 b28 rfl rfl
      obtain ⟨v42, e43⟩ : ∃ zz : Int, zz = (i3) + (1) := ⟨_, rfl⟩
      have b44 : 1 ≤ v42 ∧ v42 ≤ 64 := by omega
      refine w_t (np := 102) (l2 := [some (eR a0), some (eI (a1)), some (eI (v42))]) (s2 := []) rfl (b_iinc rfl (by rw [← e43]; exact ev_w_in (by omega) (by omega)) rfl) rfl ?_
      refine w_go (t1 := 58) rfl rfl ?_
      exact ih2 (64 - (v42)).toNat (by omega) m38 (v42) I39 F41 (by omega)     rfl
  exact hL58 _ μ (0) hI F0 (by decide)     rfl
def l_47u : List Nat := [4096, 4352]
theorem s_47u {L : Nat} {ρ : Nat → Int} {rc : eQ} {d : Nat} {f : eFr} {F : List eFr} {μ : eM} {g : Nat → Nat} {a0 : Nat} {a1 : Int} (hI : SI g μ) (gA0 : g a0 = 15) (bA1 : -2147483648 ≤ a1 ∧ a1 ≤ 2147483647) (K : ∀ (μ2 : eM), SI g μ2 → Fr l_47u 0 0 g μ μ2 → ex_q (dt_fg L ρ) rc (d + 3, (f.1, f.2.1, f.2.2.1, f.2.2.2), F, μ2)) : ex_q (dt_fg L ρ) rc (d + 2, (47, 56, [some (eR a0), some (eI (a1)), none], []), f :: F, μ) := by
  have F0 : Fr l_47u 0 0 g μ μ := Fr.r
  refine w_t (np := 57) (l2 := [some (eR a0), some (eI (a1)), none]) (s2 := [eI (0)]) rfl rfl rfl ?_
  refine w_t (np := 58) (l2 := [some (eR a0), some (eI (a1)), some (eI (0))]) (s2 := []) rfl rfl rfl ?_
  have hL58 : ∀ (n1 : Nat) (m5 : eM) (i3 : Int), SI g m5 → Fr l_47u 0 0 g μ m5 → (0 ≤ i3 ∧ i3 ≤ 512) → n1 = (512 - i3).toNat → ex_q (dt_fg L ρ) rc (d + 2, (47, 58, [some (eR a0), some (eI (a1)), some (eI (i3))], []), f :: F, m5) := by
    intro n1
    induction n1 using Nat.strongRecOn with
    | _ n1 ih2 =>
    intro m5 i3 I6 F7 b4 hn8
    refine w_t (np := 59) (l2 := [some (eR a0), some (eI (a1)), some (eI (i3))]) (s2 := [eI (i3)]) rfl rfl rfl ?_
    refine w_t (np := 60) (l2 := [some (eR a0), some (eI (a1)), some (eI (i3))]) (s2 := [eR a0, eI (i3)]) rfl (s_an rfl (pos_g I6 gA0 (by decide))) rfl ?_
    refine j_gi (np := 63) rfl rfl rfl I6 gA0 (by decide) (n := 3) rfl rfl (lo := 0) (hi := 512) rfl ?_
    intro v9 e10 b11
    refine b_cge (t1 := 105) (t2 := 66) rfl rfl rfl (ev_w_in (by omega) (by omega)) (ev_w_in (by omega) (by omega)) (fun g12 => ?_) (fun g12 => ?_)
    · exact v_rv rfl rfl (K m5 I6 F7)
    · have b13 : 0 ≤ i3 ∧ i3 ≤ 511 := by omega
      have b14 : 1 ≤ v9 ∧ v9 ≤ 512 := by omega
      refine w_t (np := 67) (l2 := [some (eR a0), some (eI (a1)), some (eI (i3))]) (s2 := [eR a0]) rfl (s_an rfl (pos_g I6 gA0 (by decide))) rfl ?_
      refine j_gr (np := 70) rfl rfl I6 gA0 (by decide) (n := 3) rfl rfl rfl ?_
      intro v13 e14 b15 z16
      have b15 : g v13 = 16 := Nat.eq_of_beq_eq_true b15
      refine w_t (np := 71) (l2 := [some (eR a0), some (eI (a1)), some (eI (i3))]) (s2 := [eI (i3), eR v13]) rfl rfl rfl ?_
      refine w_t (np := 72) (l2 := [some (eR a0), some (eI (a1)), some (eI (i3))]) (s2 := [eR a0, eI (i3), eR v13]) rfl (s_an rfl (pos_g I6 gA0 (by decide))) rfl ?_
      refine w_gf (np := 75) (v := eR v13) rfl rfl (I6.kd gA0 (by decide) (n := 3) rfl) (by rw [e14]; rfl) ?_
      refine w_t (np := 76) (l2 := [some (eR a0), some (eI (a1)), some (eI (i3))]) (s2 := [eI (i3), eR v13, eI (i3), eR v13]) rfl rfl rfl ?_
      refine j_ll (np := 77) rfl rfl I6 b15 (by decide) (n := 512) rfl rfl (lo := -9223372036854775808) (hi := 9223372036854775807) (fun _ => rfl) (by omega) (by omega) ?_
      intro v17 e18 b19
      refine w_cu (np := 80) (as := [eJ (v17)]) (l2 := [some (eJ (v17)), none, none, none, none, none]) (rest := [eI (i3), eR v13]) rfl rfl rfl (Nat.ble_eq.mp rfl) rfl rfl rfl rfl ?_
      refine s_79 I6 b19 ?_
      intro v20 b21
      show ex_q (dt_fg L ρ) rc (d + 2, (47, 80, [some (eR a0), some (eI (a1)), some (eI (i3))], [eJ (v20), eI (i3), eR v13]), f :: F, m5)
      refine j_sl (np := 81) rfl rfl I6 b15 (by decide) (n := 512) rfl rfl (lo := -9223372036854775808) (hi := 9223372036854775807) (fun _ => rfl) (by omega) (by omega) (by omega) ?_
      intro m22 I23 W24
      have F25 : Fr l_47u 0 0 g μ m22 := F7.v W24 b15 rfl rfl
      refine w_t (np := 82) (l2 := [some (eR a0), some (eI (a1)), some (eI (i3))]) (s2 := [eR a0]) rfl (s_an rfl (pos_g I23 gA0 (by decide))) rfl ?_
      refine j_gr (np := 85) rfl rfl I23 gA0 (by decide) (n := 3) rfl rfl rfl ?_
      intro v26 e27 b28 z29
      have b28 : g v26 = 17 := Nat.eq_of_beq_eq_true b28
      refine w_t (np := 86) (l2 := [some (eR a0), some (eI (a1)), some (eI (i3))]) (s2 := [eR a0, eR v26]) rfl (s_an rfl (pos_g I23 gA0 (by decide))) rfl ?_
      refine w_t (np := 87) (l2 := [some (eR a0), some (eI (a1)), some (eI (i3))]) (s2 := [eR a0, eR a0, eR v26]) rfl (s_an rfl (pos_g I23 gA0 (by decide))) rfl ?_
      refine w_gf (np := 90) (v := eR v13) rfl rfl (I23.kd gA0 (by decide) (n := 3) rfl) (by rw [(W24.addr e14 b15 gA0 (by decide))]; rfl) ?_
      refine w_t (np := 91) (l2 := [some (eR a0), some (eI (a1)), some (eI (i3))]) (s2 := [eI (i3), eR v13, eR a0, eR v26]) rfl rfl rfl ?_
      refine j_ll (np := 92) rfl rfl I23 b15 (by decide) (n := 512) rfl rfl (lo := -9223372036854775808) (hi := 9223372036854775807) (fun _ => rfl) (by omega) (by omega) ?_
      intro v30 e31 b32
      refine w_cw (np := 95) (as := [eJ (v30)]) (l2 := [some (eR a0), some (eJ (v30)), none, none, none, none]) (rest := [eR v26]) rfl rfl rfl (Nat.ble_eq.mp rfl) rfl rfl rfl (I23.kd gA0 (by decide) (n := 3) rfl) rfl ?_
      refine s_48_2 I23 gA0 b32 ?_
      intro v33 b34
      show ex_q (dt_fg L ρ) rc (d + 2, (47, 95, [some (eR a0), some (eI (a1)), some (eI (i3))], [eI (v33), eR v26]), f :: F, m22)
      refine w_t (np := 96) (l2 := [some (eR a0), some (eI (a1)), some (eI (i3))]) (s2 := [eI (i3), eI (v33), eR v26]) rfl rfl rfl ?_
      refine w_t (np := 97) (l2 := [some (eR a0), some (eI (a1)), some (eI (i3))]) (s2 := [eI (1), eI (i3), eI (v33), eR v26]) rfl rfl rfl ?_
      obtain ⟨v35, e36⟩ : ∃ zz : Int, zz = (i3) + (1) := ⟨_, rfl⟩
      have b37 : 1 ≤ v35 ∧ v35 ≤ 512 := by omega
      refine w_t (np := 98) (l2 := [some (eR a0), some (eI (a1)), some (eI (i3))]) (s2 := [eI (v35), eI (v33), eR v26]) rfl (b_iadd (by rw [← e36]; exact ev_w_in (by omega) (by omega))) rfl ?_
      refine j_as (np := 99) rfl rfl I23 b28 (by decide) (n := 1024) rfl rfl (lo := 0) (hi := 512) (fun _ => rfl) (by omega) (by omega) (by omega) ?_
      intro m38 I39 W40
      have F41 : Fr l_47u 0 0 g μ m38 := F25.v W40 b28 rfl rfl
      obtain ⟨v42, e43⟩ : ∃ zz : Int, zz = (i3) + (1) := ⟨_, rfl⟩
      have b44 : 1 ≤ v42 ∧ v42 ≤ 512 := by omega
      refine w_t (np := 102) (l2 := [some (eR a0), some (eI (a1)), some (eI (v42))]) (s2 := []) rfl (b_iinc rfl (by rw [← e43]; exact ev_w_in (by omega) (by omega)) rfl) rfl ?_
      refine w_go (t1 := 58) rfl rfl ?_
      exact ih2 (512 - (v42)).toNat (by omega) m38 (v42) I39 F41 (by omega)     rfl
  exact hL58 _ μ (0) hI F0 (by decide)     rfl
def l_47b : List Nat := [4096, 4352]
theorem s_47b {L : Nat} {ρ : Nat → Int} {rc : eQ} {d : Nat} {f : eFr} {F : List eFr} {μ : eM} {g : Nat → Nat} {a0 : Nat} {a1 : Int} (hI : SI g μ) (gA0 : g a0 = 15) (bA1 : -2147483648 ≤ a1 ∧ a1 ≤ 2147483647) (K : ∀ (μ2 : eM), SI g μ2 → Fr l_47b 0 0 g μ μ2 → ex_q (dt_fg L ρ) rc (d + 3, (f.1, f.2.1, f.2.2.1, f.2.2.2), F, μ2)) : ex_q (dt_fg L ρ) rc (d + 2, (47, 0, [some (eR a0), some (eI (a1)), none], []), f :: F, μ) := by
  have F0 : Fr l_47b 0 0 g μ μ := Fr.r
  refine w_t (np := 1) (l2 := [some (eR a0), some (eI (a1)), none]) (s2 := [eI (a1)]) rfl rfl rfl ?_
  refine w_t (np := 2) (l2 := [some (eR a0), some (eI (a1)), none]) (s2 := [eI (2), eI (a1)]) rfl rfl rfl ?_
  obtain ⟨v1, e2, b3⟩ : ∃ zz : Int, ev_w ((a1) + (2)) = zz ∧ (-2147483648 ≤ zz ∧ zz ≤ 2147483647) := ⟨_, rfl, hw_bd _⟩
  refine w_t (np := 3) (l2 := [some (eR a0), some (eI (a1)), none]) (s2 := [eI (v1)]) rfl (b_iadd e2) rfl ?_
  refine w_t (np := 4) (l2 := [some (eR a0), some (eI (a1)), none]) (s2 := [eR a0, eI (v1)]) rfl (s_an rfl (pos_g hI gA0 (by decide))) rfl ?_
  refine j_gr (np := 7) rfl rfl hI gA0 (by decide) (n := 3) rfl rfl rfl ?_
  intro v4 e5 b6 z7
  have b6 : g v4 = 16 := Nat.eq_of_beq_eq_true b6
  refine j_len (np := 8) rfl rfl hI b6 (by decide) (c := 101) (n := 512) rfl rfl rfl ?_
  rw [show ((512 : Nat) : Int) = 512 from rfl]
  refine b_cle (t1 := 48) (t2 := 11) rfl rfl rfl (ev_w_in (by omega) (by omega)) rfl (fun g8 => ?_) (fun g8 => ?_)
  · have b9 : -2147483648 ≤ v1 ∧ v1 ≤ 512 := by omega
    refine w_t (np := 49) (l2 := [some (eR a0), some (eI (a1)), none]) (s2 := [eR a0]) rfl (s_an rfl (pos_g hI gA0 (by decide))) rfl ?_
    refine j_gr (np := 52) rfl rfl hI gA0 (by decide) (n := 3) rfl rfl rfl ?_
    intro v9 e10 b11 z12
    have b11 : g v9 = 17 := Nat.eq_of_beq_eq_true b11
    refine w_t (np := 53) (l2 := [some (eR a0), some (eI (a1)), none]) (s2 := [eI (0), eR v9]) rfl rfl rfl ?_
    refine w_cu (np := 56) (as := [eR v9, eI (0)]) (l2 := [some (eR v9), some (eI (0)), none, none]) (rest := []) rfl rfl rfl (Nat.ble_eq.mp rfl) rfl rfl rfl rfl ?_
    refine s_365_2 (a1 := 0) hI b11 (by decide) ?_
    intro m13 I14 F15
    have F16 : Fr l_47b 0 0 g μ m13 := F0.t F15 rfl
    show ex_q (dt_fg L ρ) rc (d + 2, (47, 56, [some (eR a0), some (eI (a1)), none], []), f :: F, m13)
    refine w_t (np := 57) (l2 := [some (eR a0), some (eI (a1)), none]) (s2 := [eI (0)]) rfl rfl rfl ?_
    refine w_t (np := 58) (l2 := [some (eR a0), some (eI (a1)), some (eI (0))]) (s2 := []) rfl rfl rfl ?_
    have hL58 : ∀ (n17 : Nat) (m21 : eM) (i19 : Int), SI g m21 → Fr l_47b 0 0 g μ m21 → (0 ≤ i19 ∧ i19 ≤ 512) → m21.1 a0 0 = ((v4 : Nat) : Int) → m21.1 a0 1 = ((v9 : Nat) : Int) → n17 = (512 - i19).toNat → ex_q (dt_fg L ρ) rc (d + 2, (47, 58, [some (eR a0), some (eI (a1)), some (eI (i19))], []), f :: F, m21) := by
      intro n17
      induction n17 using Nat.strongRecOn with
      | _ n17 ih18 =>
      intro m21 i19 I22 F23 b20 k24 k25 hn26
      refine w_t (np := 59) (l2 := [some (eR a0), some (eI (a1)), some (eI (i19))]) (s2 := [eI (i19)]) rfl rfl rfl ?_
      refine w_t (np := 60) (l2 := [some (eR a0), some (eI (a1)), some (eI (i19))]) (s2 := [eR a0, eI (i19)]) rfl (s_an rfl (pos_g I22 gA0 (by decide))) rfl ?_
      refine j_gi (np := 63) rfl rfl rfl I22 gA0 (by decide) (n := 3) rfl rfl (lo := 0) (hi := 512) rfl ?_
      intro v27 e28 b29
      refine b_cge (t1 := 105) (t2 := 66) rfl rfl rfl (ev_w_in (by omega) (by omega)) (ev_w_in (by omega) (by omega)) (fun g30 => ?_) (fun g30 => ?_)
      · exact v_rv rfl rfl (K m21 I22 F23)
      · have b31 : 0 ≤ i19 ∧ i19 ≤ 511 := by omega
        have b32 : 1 ≤ v27 ∧ v27 ≤ 512 := by omega
        refine w_t (np := 67) (l2 := [some (eR a0), some (eI (a1)), some (eI (i19))]) (s2 := [eR a0]) rfl (s_an rfl (pos_g I22 gA0 (by decide))) rfl ?_
        refine w_gf (np := 70) (v := eR v4) rfl rfl (I22.kd gA0 (by decide) (n := 3) rfl) (by rw [k24]; rfl) ?_
        refine w_t (np := 71) (l2 := [some (eR a0), some (eI (a1)), some (eI (i19))]) (s2 := [eI (i19), eR v4]) rfl rfl rfl ?_
        refine w_t (np := 72) (l2 := [some (eR a0), some (eI (a1)), some (eI (i19))]) (s2 := [eR a0, eI (i19), eR v4]) rfl (s_an rfl (pos_g I22 gA0 (by decide))) rfl ?_
        refine w_gf (np := 75) (v := eR v4) rfl rfl (I22.kd gA0 (by decide) (n := 3) rfl) (by rw [k24]; rfl) ?_
        refine w_t (np := 76) (l2 := [some (eR a0), some (eI (a1)), some (eI (i19))]) (s2 := [eI (i19), eR v4, eI (i19), eR v4]) rfl rfl rfl ?_
        refine j_ll (np := 77) rfl rfl I22 b6 (by decide) (n := 512) rfl rfl (lo := -9223372036854775808) (hi := 9223372036854775807) (fun _ => rfl) (by omega) (by omega) ?_
        intro v31 e32 b33
        refine w_cu (np := 80) (as := [eJ (v31)]) (l2 := [some (eJ (v31)), none, none, none, none, none]) (rest := [eI (i19), eR v4]) rfl rfl rfl (Nat.ble_eq.mp rfl) rfl rfl rfl rfl ?_
        refine s_79 I22 b33 ?_
        intro v34 b35
        show ex_q (dt_fg L ρ) rc (d + 2, (47, 80, [some (eR a0), some (eI (a1)), some (eI (i19))], [eJ (v34), eI (i19), eR v4]), f :: F, m21)
        refine j_sl (np := 81) rfl rfl I22 b6 (by decide) (n := 512) rfl rfl (lo := -9223372036854775808) (hi := 9223372036854775807) (fun _ => rfl) (by omega) (by omega) (by omega) ?_
        intro m36 I37 W38
        have F39 : Fr l_47b 0 0 g μ m36 := F23.v W38 b6 rfl rfl
        refine w_t (np := 82) (l2 := [some (eR a0), some (eI (a1)), some (eI (i19))]) (s2 := [eR a0]) rfl (s_an rfl (pos_g I37 gA0 (by decide))) rfl ?_
        refine w_gf (np := 85) (v := eR v9) rfl rfl (I37.kd gA0 (by decide) (n := 3) rfl) (by rw [(W38.addr k25 b6 gA0 (by decide))]; rfl) ?_
        refine w_t (np := 86) (l2 := [some (eR a0), some (eI (a1)), some (eI (i19))]) (s2 := [eR a0, eR v9]) rfl (s_an rfl (pos_g I37 gA0 (by decide))) rfl ?_
        refine w_t (np := 87) (l2 := [some (eR a0), some (eI (a1)), some (eI (i19))]) (s2 := [eR a0, eR a0, eR v9]) rfl (s_an rfl (pos_g I37 gA0 (by decide))) rfl ?_
        refine w_gf (np := 90) (v := eR v4) rfl rfl (I37.kd gA0 (by decide) (n := 3) rfl) (by rw [(W38.addr k24 b6 gA0 (by decide))]; rfl) ?_
        refine w_t (np := 91) (l2 := [some (eR a0), some (eI (a1)), some (eI (i19))]) (s2 := [eI (i19), eR v4, eR a0, eR v9]) rfl rfl rfl ?_
        refine j_ll (np := 92) rfl rfl I37 b6 (by decide) (n := 512) rfl rfl (lo := -9223372036854775808) (hi := 9223372036854775807) (fun _ => rfl) (by omega) (by omega) ?_
        intro v40 e41 b42
        refine w_cw (np := 95) (as := [eJ (v40)]) (l2 := [some (eR a0), some (eJ (v40)), none, none, none, none]) (rest := [eR v9]) rfl rfl rfl (Nat.ble_eq.mp rfl) rfl rfl rfl (I37.kd gA0 (by decide) (n := 3) rfl) rfl ?_
        refine s_48_2 I37 gA0 b42 ?_
        intro v43 b44
        show ex_q (dt_fg L ρ) rc (d + 2, (47, 95, [some (eR a0), some (eI (a1)), some (eI (i19))], [eI (v43), eR v9]), f :: F, m36)
        refine w_t (np := 96) (l2 := [some (eR a0), some (eI (a1)), some (eI (i19))]) (s2 := [eI (i19), eI (v43), eR v9]) rfl rfl rfl ?_
        refine w_t (np := 97) (l2 := [some (eR a0), some (eI (a1)), some (eI (i19))]) (s2 := [eI (1), eI (i19), eI (v43), eR v9]) rfl rfl rfl ?_
        obtain ⟨v45, e46⟩ : ∃ zz : Int, zz = (i19) + (1) := ⟨_, rfl⟩
        have b47 : 1 ≤ v45 ∧ v45 ≤ 512 := by omega
        refine w_t (np := 98) (l2 := [some (eR a0), some (eI (a1)), some (eI (i19))]) (s2 := [eI (v45), eI (v43), eR v9]) rfl (b_iadd (by rw [← e46]; exact ev_w_in (by omega) (by omega))) rfl ?_
        refine j_as (np := 99) rfl rfl I37 b11 (by decide) (n := 1024) rfl rfl (lo := 0) (hi := 512) (fun _ => rfl) (by omega) (by omega) (by omega) ?_
        intro m48 I49 W50
        have F51 : Fr l_47b 0 0 g μ m48 := F39.v W50 b11 rfl rfl
        obtain ⟨v52, e53⟩ : ∃ zz : Int, zz = (i19) + (1) := ⟨_, rfl⟩
        have b54 : 1 ≤ v52 ∧ v52 ≤ 512 := by omega
        refine w_t (np := 102) (l2 := [some (eR a0), some (eI (a1)), some (eI (v52))]) (s2 := []) rfl (b_iinc rfl (by rw [← e53]; exact ev_w_in (by omega) (by omega)) rfl) rfl ?_
        refine w_go (t1 := 58) rfl rfl ?_
        exact ih18 (512 - (v52)).toNat (by omega) m48 (v52) I49 F51 (by omega) (W50.addr (W38.addr k24 b6 gA0 (by decide)) b11 gA0 (by decide)) (W50.addr (W38.addr k25 b6 gA0 (by decide)) b11 gA0 (by decide))    rfl
    exact hL58 _ m13 (0) I14 F16 (by decide) (F15.k e5 gA0 (by decide) rfl) (F15.k e10 gA0 (by decide) rfl)    rfl
  · have b9 : 513 ≤ v1 ∧ v1 ≤ 2147483647 := by omega
    refine w_t (np := 12) (l2 := [some (eR a0), some (eI (a1)), none]) (s2 := [eR a0]) rfl (s_an rfl (pos_g hI gA0 (by decide))) rfl ?_
    refine w_gf (np := 15) (v := eR v4) rfl rfl (hI.kd gA0 (by decide) (n := 3) rfl) (by rw [e5]; rfl) ?_
    refine j_len (np := 16) rfl rfl hI b6 (by decide) (c := 101) (n := 512) rfl rfl rfl ?_
    rw [show ((512 : Nat) : Int) = 512 from rfl]
    refine w_t (np := 19) (l2 := [some (eR a0), some (eI (a1)), none]) (s2 := [eI (512), eI (512)]) rfl rfl rfl ?_
    refine b_cge (t1 := 48) (t2 := 22) rfl rfl rfl rfl rfl (fun g9 => ?_) (fun g9 => absurd g9 (by decide))
    refine w_t (np := 49) (l2 := [some (eR a0), some (eI (a1)), none]) (s2 := [eR a0]) rfl (s_an rfl (pos_g hI gA0 (by decide))) rfl ?_
    refine j_gr (np := 52) rfl rfl hI gA0 (by decide) (n := 3) rfl rfl rfl ?_
    intro v10 e11 b12 z13
    have b12 : g v10 = 17 := Nat.eq_of_beq_eq_true b12
    refine w_t (np := 53) (l2 := [some (eR a0), some (eI (a1)), none]) (s2 := [eI (0), eR v10]) rfl rfl rfl ?_
    refine w_cu (np := 56) (as := [eR v10, eI (0)]) (l2 := [some (eR v10), some (eI (0)), none, none]) (rest := []) rfl rfl rfl (Nat.ble_eq.mp rfl) rfl rfl rfl rfl ?_
    refine s_365_2 (a1 := 0) hI b12 (by decide) ?_
    intro m14 I15 F16
    have F17 : Fr l_47b 0 0 g μ m14 := F0.t F16 rfl
    show ex_q (dt_fg L ρ) rc (d + 2, (47, 56, [some (eR a0), some (eI (a1)), none], []), f :: F, m14)
    refine w_t (np := 57) (l2 := [some (eR a0), some (eI (a1)), none]) (s2 := [eI (0)]) rfl rfl rfl ?_
    refine w_t (np := 58) (l2 := [some (eR a0), some (eI (a1)), some (eI (0))]) (s2 := []) rfl rfl rfl ?_
    have hL58 : ∀ (n18 : Nat) (m22 : eM) (i20 : Int), SI g m22 → Fr l_47b 0 0 g μ m22 → (0 ≤ i20 ∧ i20 ≤ 512) → m22.1 a0 0 = ((v4 : Nat) : Int) → m22.1 a0 1 = ((v10 : Nat) : Int) → n18 = (512 - i20).toNat → ex_q (dt_fg L ρ) rc (d + 2, (47, 58, [some (eR a0), some (eI (a1)), some (eI (i20))], []), f :: F, m22) := by
      intro n18
      induction n18 using Nat.strongRecOn with
      | _ n18 ih19 =>
      intro m22 i20 I23 F24 b21 k25 k26 hn27
      refine w_t (np := 59) (l2 := [some (eR a0), some (eI (a1)), some (eI (i20))]) (s2 := [eI (i20)]) rfl rfl rfl ?_
      refine w_t (np := 60) (l2 := [some (eR a0), some (eI (a1)), some (eI (i20))]) (s2 := [eR a0, eI (i20)]) rfl (s_an rfl (pos_g I23 gA0 (by decide))) rfl ?_
      refine j_gi (np := 63) rfl rfl rfl I23 gA0 (by decide) (n := 3) rfl rfl (lo := 0) (hi := 512) rfl ?_
      intro v28 e29 b30
      refine b_cge (t1 := 105) (t2 := 66) rfl rfl rfl (ev_w_in (by omega) (by omega)) (ev_w_in (by omega) (by omega)) (fun g31 => ?_) (fun g31 => ?_)
      · exact v_rv rfl rfl (K m22 I23 F24)
      · have b32 : 0 ≤ i20 ∧ i20 ≤ 511 := by omega
        have b33 : 1 ≤ v28 ∧ v28 ≤ 512 := by omega
        refine w_t (np := 67) (l2 := [some (eR a0), some (eI (a1)), some (eI (i20))]) (s2 := [eR a0]) rfl (s_an rfl (pos_g I23 gA0 (by decide))) rfl ?_
        refine w_gf (np := 70) (v := eR v4) rfl rfl (I23.kd gA0 (by decide) (n := 3) rfl) (by rw [k25]; rfl) ?_
        refine w_t (np := 71) (l2 := [some (eR a0), some (eI (a1)), some (eI (i20))]) (s2 := [eI (i20), eR v4]) rfl rfl rfl ?_
        refine w_t (np := 72) (l2 := [some (eR a0), some (eI (a1)), some (eI (i20))]) (s2 := [eR a0, eI (i20), eR v4]) rfl (s_an rfl (pos_g I23 gA0 (by decide))) rfl ?_
        refine w_gf (np := 75) (v := eR v4) rfl rfl (I23.kd gA0 (by decide) (n := 3) rfl) (by rw [k25]; rfl) ?_
        refine w_t (np := 76) (l2 := [some (eR a0), some (eI (a1)), some (eI (i20))]) (s2 := [eI (i20), eR v4, eI (i20), eR v4]) rfl rfl rfl ?_
        refine j_ll (np := 77) rfl rfl I23 b6 (by decide) (n := 512) rfl rfl (lo := -9223372036854775808) (hi := 9223372036854775807) (fun _ => rfl) (by omega) (by omega) ?_
        intro v32 e33 b34
        refine w_cu (np := 80) (as := [eJ (v32)]) (l2 := [some (eJ (v32)), none, none, none, none, none]) (rest := [eI (i20), eR v4]) rfl rfl rfl (Nat.ble_eq.mp rfl) rfl rfl rfl rfl ?_
        refine s_79 I23 b34 ?_
        intro v35 b36
        show ex_q (dt_fg L ρ) rc (d + 2, (47, 80, [some (eR a0), some (eI (a1)), some (eI (i20))], [eJ (v35), eI (i20), eR v4]), f :: F, m22)
        refine j_sl (np := 81) rfl rfl I23 b6 (by decide) (n := 512) rfl rfl (lo := -9223372036854775808) (hi := 9223372036854775807) (fun _ => rfl) (by omega) (by omega) (by omega) ?_
        intro m37 I38 W39
        have F40 : Fr l_47b 0 0 g μ m37 := F24.v W39 b6 rfl rfl
        refine w_t (np := 82) (l2 := [some (eR a0), some (eI (a1)), some (eI (i20))]) (s2 := [eR a0]) rfl (s_an rfl (pos_g I38 gA0 (by decide))) rfl ?_
        refine w_gf (np := 85) (v := eR v10) rfl rfl (I38.kd gA0 (by decide) (n := 3) rfl) (by rw [(W39.addr k26 b6 gA0 (by decide))]; rfl) ?_
        refine w_t (np := 86) (l2 := [some (eR a0), some (eI (a1)), some (eI (i20))]) (s2 := [eR a0, eR v10]) rfl (s_an rfl (pos_g I38 gA0 (by decide))) rfl ?_
        refine w_t (np := 87) (l2 := [some (eR a0), some (eI (a1)), some (eI (i20))]) (s2 := [eR a0, eR a0, eR v10]) rfl (s_an rfl (pos_g I38 gA0 (by decide))) rfl ?_
        refine w_gf (np := 90) (v := eR v4) rfl rfl (I38.kd gA0 (by decide) (n := 3) rfl) (by rw [(W39.addr k25 b6 gA0 (by decide))]; rfl) ?_
        refine w_t (np := 91) (l2 := [some (eR a0), some (eI (a1)), some (eI (i20))]) (s2 := [eI (i20), eR v4, eR a0, eR v10]) rfl rfl rfl ?_
        refine j_ll (np := 92) rfl rfl I38 b6 (by decide) (n := 512) rfl rfl (lo := -9223372036854775808) (hi := 9223372036854775807) (fun _ => rfl) (by omega) (by omega) ?_
        intro v41 e42 b43
        refine w_cw (np := 95) (as := [eJ (v41)]) (l2 := [some (eR a0), some (eJ (v41)), none, none, none, none]) (rest := [eR v10]) rfl rfl rfl (Nat.ble_eq.mp rfl) rfl rfl rfl (I38.kd gA0 (by decide) (n := 3) rfl) rfl ?_
        refine s_48_2 I38 gA0 b43 ?_
        intro v44 b45
        show ex_q (dt_fg L ρ) rc (d + 2, (47, 95, [some (eR a0), some (eI (a1)), some (eI (i20))], [eI (v44), eR v10]), f :: F, m37)
        refine w_t (np := 96) (l2 := [some (eR a0), some (eI (a1)), some (eI (i20))]) (s2 := [eI (i20), eI (v44), eR v10]) rfl rfl rfl ?_
        refine w_t (np := 97) (l2 := [some (eR a0), some (eI (a1)), some (eI (i20))]) (s2 := [eI (1), eI (i20), eI (v44), eR v10]) rfl rfl rfl ?_
        obtain ⟨v46, e47⟩ : ∃ zz : Int, zz = (i20) + (1) := ⟨_, rfl⟩
        have b48 : 1 ≤ v46 ∧ v46 ≤ 512 := by omega
        refine w_t (np := 98) (l2 := [some (eR a0), some (eI (a1)), some (eI (i20))]) (s2 := [eI (v46), eI (v44), eR v10]) rfl (b_iadd (by rw [← e47]; exact ev_w_in (by omega) (by omega))) rfl ?_
        refine j_as (np := 99) rfl rfl I38 b12 (by decide) (n := 1024) rfl rfl (lo := 0) (hi := 512) (fun _ => rfl) (by omega) (by omega) (by omega) ?_
        intro m49 I50 W51
        have F52 : Fr l_47b 0 0 g μ m49 := F40.v W51 b12 rfl rfl
        obtain ⟨v53, e54⟩ : ∃ zz : Int, zz = (i20) + (1) := ⟨_, rfl⟩
        have b55 : 1 ≤ v53 ∧ v53 ≤ 512 := by omega
        refine w_t (np := 102) (l2 := [some (eR a0), some (eI (a1)), some (eI (v53))]) (s2 := []) rfl (b_iinc rfl (by rw [← e54]; exact ev_w_in (by omega) (by omega)) rfl) rfl ?_
        refine w_go (t1 := 58) rfl rfl ?_
        exact ih19 (512 - (v53)).toNat (by omega) m49 (v53) I50 F52 (by omega) (W51.addr (W39.addr k25 b6 gA0 (by decide)) b12 gA0 (by decide)) (W51.addr (W39.addr k26 b6 gA0 (by decide)) b12 gA0 (by decide))    rfl
    exact hL58 _ m14 (0) I15 F17 (by decide) (F16.k e5 gA0 (by decide) rfl) (F16.k e11 gA0 (by decide) rfl)    rfl
