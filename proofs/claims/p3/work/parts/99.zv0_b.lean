/-! THE REFERENCE: open -/
def l_340n : List Nat := [13313, 13314, 21504, 21248]
theorem s_340n {L : Nat} {ρ : Nat → Int} {rc : eQ} {d : Nat} {f : eFr} {F : List eFr} {μ : eM} {g : Nat → Nat} {a0 : Nat} (hI : SI g μ) (gA0 : g a0 = 52) (K : ∀ (μ2 : eM) (v : Int), SI g μ2 → Fr l_340n 0 0 g μ μ2 → (-2147483648 ≤ v ∧ v ≤ 2147483647) → ex_q (dt_fg L ρ) rc (d + 5, (f.1, f.2.1, f.2.2.1, eI v :: f.2.2.2), F, μ2)) : ex_q (dt_fg L ρ) rc (d + 4, (340, 0, [some (eR a0), none, none], []), f :: F, μ) := by
  have F0 : Fr l_340n 0 0 g μ μ := Fr.r
  refine w_t (np := 1) (l2 := [some (eR a0), none, none]) (s2 := [eR a0]) rfl (s_an rfl (pos_g hI gA0 (by decide))) rfl ?_
  refine w_t (np := 2) (l2 := [some (eR a0), none, none]) (s2 := [eI (0), eR a0]) rfl rfl rfl ?_
  refine w_cw (np := 5) (as := [eI (0)]) (l2 := [some (eR a0), some (eI (0))]) (rest := []) rfl rfl rfl (Nat.ble_eq.mp rfl) rfl rfl rfl (hI.kd gA0 (by decide) (n := 69) rfl) rfl ?_
  refine w_t (np := 1) (l2 := [some (eR a0), some (eI (0))]) (s2 := [eR a0]) rfl (s_an rfl (pos_g hI gA0 (by decide))) rfl ?_
  refine w_t (np := 2) (l2 := [some (eR a0), some (eI (0))]) (s2 := [eI (0), eR a0]) rfl rfl rfl ?_
  refine j_pf (np := 5) (w := 0) rfl rfl hI gA0 (by decide) (n := 69) rfl rfl (hO_i (lo := -2147483648) (hi := 2147483647) rfl (by decide)) ?_
  intro m1 I2 W3
  have F4 : Fr l_340n 0 0 g μ m1 := F0.w W3 gA0 rfl
  refine w_t (np := 6) (l2 := [some (eR a0), some (eI (0))]) (s2 := [eR a0]) rfl (s_an rfl (pos_g I2 gA0 (by decide))) rfl ?_
  refine w_t (np := 7) (l2 := [some (eR a0), some (eI (0))]) (s2 := [eI (0), eR a0]) rfl rfl rfl ?_
  refine j_pf (np := 10) (w := 0) rfl rfl I2 gA0 (by decide) (n := 69) rfl rfl (hO_i (lo := -2147483648) (hi := 2147483647) rfl (by decide)) ?_
  intro m5 I6 W7
  have F8 : Fr l_340n 0 0 g μ m5 := F4.w W7 gA0 rfl
  refine w_t (np := 11) (l2 := [some (eR a0), some (eI (0))]) (s2 := [eI (0)]) rfl rfl rfl ?_
  refine b_ine (t1 := 18) (t2 := 14) rfl rfl rfl rfl (fun g9 => absurd g9 (by decide)) (fun g9 => ?_)
  refine w_t (np := 15) (l2 := [some (eR a0), some (eI (0))]) (s2 := [eI (1)]) rfl rfl rfl ?_
  refine w_go (t1 := 19) rfl rfl ?_
  refine b_rz rfl rfl (Or.inr rfl) ?_
  show ex_q (dt_fg L ρ) rc (d + 4, (340, 5, [some (eR a0), none, none], [eI (1)]), f :: F, m5)
  refine w_t (np := 6) (l2 := [some (eR a0), none, none]) (s2 := []) rfl rfl rfl ?_
  refine w_t (np := 7) (l2 := [some (eR a0), none, none]) (s2 := [eI (0)]) rfl rfl rfl ?_
  refine w_t (np := 8) (l2 := [some (eR a0), some (eI (0)), none]) (s2 := []) rfl rfl rfl ?_
  refine w_t (np := 9) (l2 := [some (eR a0), some (eI (0)), none]) (s2 := [eI (0)]) rfl rfl rfl ?_
  refine w_t (np := 10) (l2 := [some (eR a0), some (eI (0)), some (eI (0))]) (s2 := []) rfl rfl rfl ?_
  have hL10 : ∀ (n10 : Nat) (m16 : eM) (i12 : Int) (i14 : Int), SI g m16 → Fr l_340n 0 0 g μ m16 → (-2147483648 ≤ i12 ∧ i12 ≤ 2147483647) → (0 ≤ i14 ∧ i14 ≤ 24) → m16.1 a0 1 = 0 → m16.1 a0 0 = 0 → n10 = (24 - i14).toNat → ex_q (dt_fg L ρ) rc (d + 4, (340, 10, [some (eR a0), some (eI (i12)), some (eI (i14))], []), f :: F, m16) := by
    intro n10
    induction n10 using Nat.strongRecOn with
    | _ n10 ih11 =>
    intro m16 i12 i14 I17 F18 b13 b15 k19 k20 hn21
    refine w_t (np := 11) (l2 := [some (eR a0), some (eI (i12)), some (eI (i14))]) (s2 := [eI (i14)]) rfl rfl rfl ?_
    refine w_t (np := 12) (l2 := [some (eR a0), some (eI (i12)), some (eI (i14))]) (s2 := [eR a0, eI (i14)]) rfl (s_an rfl (pos_g I17 gA0 (by decide))) rfl ?_
    refine j_gi (np := 15) rfl rfl rfl I17 gA0 (by decide) (n := 69) rfl rfl (lo := 0) (hi := 24) rfl ?_
    intro v22 e23 b24
    refine b_cge (t1 := 34) (t2 := 18) rfl rfl rfl (ev_w_in (by omega) (by omega)) (ev_w_in (by omega) (by omega)) (fun g25 => ?_) (fun g25 => ?_)
    · refine w_t (np := 35) (l2 := [some (eR a0), some (eI (i12)), some (eI (i14))]) (s2 := [eI (i12)]) rfl rfl rfl ?_
      exact b_ri rfl rfl (K m16 (i12) I17 F18 (by omega))
    · have b26 : 0 ≤ i14 ∧ i14 ≤ 23 := by omega
      have b27 : 1 ≤ v22 ∧ v22 ≤ 24 := by omega
      refine w_t (np := 19) (l2 := [some (eR a0), some (eI (i12)), some (eI (i14))]) (s2 := [eI (i12)]) rfl rfl rfl ?_
      refine w_t (np := 20) (l2 := [some (eR a0), some (eI (i12)), some (eI (i14))]) (s2 := [eI (4), eI (i12)]) rfl rfl rfl ?_
      refine w_t (np := 21) (l2 := [some (eR a0), some (eI (i12)), some (eI (i14))]) (s2 := [eR a0, eI (4), eI (i12)]) rfl (s_an rfl (pos_g I17 gA0 (by decide))) rfl ?_
      refine w_t (np := 22) (l2 := [some (eR a0), some (eI (i12)), some (eI (i14))]) (s2 := [eI (i14), eR a0, eI (4), eI (i12)]) rfl rfl rfl ?_
      refine w_cw (np := 25) (as := [eI (i14)]) (l2 := [some (eR a0), some (eI (i14)), none, none, none, none]) (rest := [eI (4), eI (i12)]) rfl rfl rfl (Nat.ble_eq.mp rfl) rfl rfl rfl (I17.kd gA0 (by decide) (n := 69) rfl) rfl ?_
      refine s_338 (a1 := i14) I17 gA0 (by omega) ?_
      intro m26 v29 I27 F28 b30
      have F31 : Fr l_340n 0 0 g μ m26 := F18.t F28 rfl
      show ex_q (dt_fg L ρ) rc (d + 4, (340, 25, [some (eR a0), some (eI (i12)), some (eI (i14))], [eI (v29), eI (4), eI (i12)]), f :: F, m26)
      obtain ⟨v32, e33, b34⟩ : ∃ zz : Int, ev_w ((4) - (v29)) = zz ∧ (-2147483648 ≤ zz ∧ zz ≤ 2147483647) := ⟨_, rfl, hw_bd _⟩
      refine w_t (np := 26) (l2 := [some (eR a0), some (eI (i12)), some (eI (i14))]) (s2 := [eI (v32), eI (i12)]) rfl (b_isub e33) rfl ?_
      obtain ⟨v35, e36, b37⟩ : ∃ zz : Int, ev_w ((i12) + (v32)) = zz ∧ (-2147483648 ≤ zz ∧ zz ≤ 2147483647) := ⟨_, rfl, hw_bd _⟩
      refine w_t (np := 27) (l2 := [some (eR a0), some (eI (i12)), some (eI (i14))]) (s2 := [eI (v35)]) rfl (b_iadd e36) rfl ?_
      refine w_t (np := 28) (l2 := [some (eR a0), some (eI (v35)), some (eI (i14))]) (s2 := []) rfl rfl rfl ?_
      obtain ⟨v38, e39⟩ : ∃ zz : Int, zz = (i14) + (1) := ⟨_, rfl⟩
      have b40 : 1 ≤ v38 ∧ v38 ≤ 24 := by omega
      refine w_t (np := 31) (l2 := [some (eR a0), some (eI (v35)), some (eI (v38))]) (s2 := []) rfl (b_iinc rfl (by rw [← e39]; exact ev_w_in (by omega) (by omega)) rfl) rfl ?_
      refine w_go (t1 := 10) rfl rfl ?_
      exact ih11 (24 - (v38)).toNat (by omega) m26 (v35) (v38) I27 F31 (by omega) (by omega) (F28.k k19 gA0 (by decide) rfl) (F28.k k20 gA0 (by decide) rfl)    rfl
  exact hL10 _ m5 (0) (0) I6 F8 (by decide) (by decide) (W7.slot W3.at (by decide)) W7.at    rfl
