/-! methods, walked -/
def l_53_3 : List Nat := [6914, 7168]
theorem s_53_3 {L : Nat} {ρ : Nat → Int} {rc : eQ} {d : Nat} {f : eFr} {F : List eFr} {μ : eM} {g : Nat → Nat} {a0 : Nat} (hI : SI g μ) (gA0 : g a0 = 27) (K : ∀ (μ2 : eM), SI g μ2 → Fr l_53_3 0 0 g μ μ2 → ex_q (dt_fg L ρ) rc (d + 5, (f.1, f.2.1, f.2.2.1, f.2.2.2), F, μ2)) : ex_q (dt_fg L ρ) rc (d + 4, (53, 0, [some (eR a0), some (eR 3), none], []), f :: F, μ) := by
  have F0 : Fr l_53_3 0 0 g μ μ := Fr.r
  refine w_t (np := 1) (l2 := [some (eR a0), some (eR 3), none]) (s2 := [eI (0)]) rfl rfl rfl ?_
  refine w_t (np := 2) (l2 := [some (eR a0), some (eR 3), some (eI (0))]) (s2 := []) rfl rfl rfl ?_
  have hL2 : ∀ (n1 : Nat) (m5 : eM) (i3 : Int), SI g m5 → Fr l_53_3 0 0 g μ m5 → (0 ≤ i3 ∧ i3 ≤ 4) → n1 = (4 - i3).toNat → ex_q (dt_fg L ρ) rc (d + 4, (53, 2, [some (eR a0), some (eR 3), some (eI (i3))], []), f :: F, m5) := by
    intro n1
    induction n1 using Nat.strongRecOn with
    | _ n1 ih2 =>
    intro m5 i3 I6 F7 b4 hn8
    refine w_t (np := 3) (l2 := [some (eR a0), some (eR 3), some (eI (i3))]) (s2 := [eI (i3)]) rfl rfl rfl ?_
    refine w_t (np := 4) (l2 := [some (eR a0), some (eR 3), some (eI (i3))]) (s2 := [eR 3, eI (i3)]) rfl (s_an rfl (by decide)) rfl ?_
    refine j_sn (np := 7) (n := 4) rfl rfl (by omega) rfl rfl rfl rfl ?_
    rw [show ((4 : Nat) : Int) = 4 from rfl]
    refine b_cge (t1 := 25) (t2 := 10) rfl rfl rfl (ev_w_in (by omega) (by omega)) rfl (fun g9 => ?_) (fun g9 => ?_)
    · have b10 : 4 ≤ i3 ∧ i3 ≤ 4 := by omega
      exact v_rv rfl rfl (K m5 I6 F7)
    · have b10 : 0 ≤ i3 ∧ i3 ≤ 3 := by omega
      refine w_t (np := 11) (l2 := [some (eR a0), some (eR 3), some (eI (i3))]) (s2 := [eR a0]) rfl (s_an rfl (pos_g I6 gA0 (by decide))) rfl ?_
      refine w_t (np := 12) (l2 := [some (eR a0), some (eR 3), some (eI (i3))]) (s2 := [eR 3, eR a0]) rfl (s_an rfl (by decide)) rfl ?_
      refine w_t (np := 13) (l2 := [some (eR a0), some (eR 3), some (eI (i3))]) (s2 := [eI (i3), eR 3, eR a0]) rfl rfl rfl ?_
      refine j_sc (np := 16) (n := 4) (lo := 104) (hi := 116) rfl rfl (by omega) rfl rfl (by omega) (by omega) rfl rfl ?_
      intro v10 b11
      refine w_cw (np := 19) (as := [eI (v10)]) (l2 := [some (eR a0), some (eI (v10))]) (rest := []) rfl rfl rfl (Nat.ble_eq.mp rfl) rfl rfl rfl (I6.kd gA0 (by decide) (n := 2) rfl) rfl ?_
      refine s_52 (a1 := v10) I6 gA0 (by omega) ?_
      intro m12 I13 F14
      have F15 : Fr l_53_3 0 0 g μ m12 := F7.t F14 rfl
      show ex_q (dt_fg L ρ) rc (d + 4, (53, 19, [some (eR a0), some (eR 3), some (eI (i3))], []), f :: F, m12)
      obtain ⟨v16, e17⟩ : ∃ zz : Int, zz = (i3) + (1) := ⟨_, rfl⟩
      have b18 : 1 ≤ v16 ∧ v16 ≤ 4 := by omega
      refine w_t (np := 22) (l2 := [some (eR a0), some (eR 3), some (eI (v16))]) (s2 := []) rfl (b_iinc rfl (by rw [← e17]; exact ev_w_in (by omega) (by omega)) rfl) rfl ?_
      refine w_go (t1 := 2) rfl rfl ?_
      exact ih2 (4 - (v16)).toNat (by omega) m12 (v16) I13 F15 (by omega)     rfl
  exact hL2 _ μ (0) hI F0 (by decide)     rfl
def l_53_4 : List Nat := [6914, 7168]
theorem s_53_4 {L : Nat} {ρ : Nat → Int} {rc : eQ} {d : Nat} {f : eFr} {F : List eFr} {μ : eM} {g : Nat → Nat} {a0 : Nat} (hI : SI g μ) (gA0 : g a0 = 27) (K : ∀ (μ2 : eM), SI g μ2 → Fr l_53_4 0 0 g μ μ2 → ex_q (dt_fg L ρ) rc (d + 5, (f.1, f.2.1, f.2.2.1, f.2.2.2), F, μ2)) : ex_q (dt_fg L ρ) rc (d + 4, (53, 0, [some (eR a0), some (eR 4), none], []), f :: F, μ) := by
  have F0 : Fr l_53_4 0 0 g μ μ := Fr.r
  refine w_t (np := 1) (l2 := [some (eR a0), some (eR 4), none]) (s2 := [eI (0)]) rfl rfl rfl ?_
  refine w_t (np := 2) (l2 := [some (eR a0), some (eR 4), some (eI (0))]) (s2 := []) rfl rfl rfl ?_
  have hL2 : ∀ (n1 : Nat) (m5 : eM) (i3 : Int), SI g m5 → Fr l_53_4 0 0 g μ m5 → (0 ≤ i3 ∧ i3 ≤ 5) → n1 = (5 - i3).toNat → ex_q (dt_fg L ρ) rc (d + 4, (53, 2, [some (eR a0), some (eR 4), some (eI (i3))], []), f :: F, m5) := by
    intro n1
    induction n1 using Nat.strongRecOn with
    | _ n1 ih2 =>
    intro m5 i3 I6 F7 b4 hn8
    refine w_t (np := 3) (l2 := [some (eR a0), some (eR 4), some (eI (i3))]) (s2 := [eI (i3)]) rfl rfl rfl ?_
    refine w_t (np := 4) (l2 := [some (eR a0), some (eR 4), some (eI (i3))]) (s2 := [eR 4, eI (i3)]) rfl (s_an rfl (by decide)) rfl ?_
    refine j_sn (np := 7) (n := 5) rfl rfl (by omega) rfl rfl rfl rfl ?_
    rw [show ((5 : Nat) : Int) = 5 from rfl]
    refine b_cge (t1 := 25) (t2 := 10) rfl rfl rfl (ev_w_in (by omega) (by omega)) rfl (fun g9 => ?_) (fun g9 => ?_)
    · have b10 : 5 ≤ i3 ∧ i3 ≤ 5 := by omega
      exact v_rv rfl rfl (K m5 I6 F7)
    · have b10 : 0 ≤ i3 ∧ i3 ≤ 4 := by omega
      refine w_t (np := 11) (l2 := [some (eR a0), some (eR 4), some (eI (i3))]) (s2 := [eR a0]) rfl (s_an rfl (pos_g I6 gA0 (by decide))) rfl ?_
      refine w_t (np := 12) (l2 := [some (eR a0), some (eR 4), some (eI (i3))]) (s2 := [eR 4, eR a0]) rfl (s_an rfl (by decide)) rfl ?_
      refine w_t (np := 13) (l2 := [some (eR a0), some (eR 4), some (eI (i3))]) (s2 := [eI (i3), eR 4, eR a0]) rfl rfl rfl ?_
      refine j_sc (np := 16) (n := 5) (lo := 99) (hi := 116) rfl rfl (by omega) rfl rfl (by omega) (by omega) rfl rfl ?_
      intro v10 b11
      refine w_cw (np := 19) (as := [eI (v10)]) (l2 := [some (eR a0), some (eI (v10))]) (rest := []) rfl rfl rfl (Nat.ble_eq.mp rfl) rfl rfl rfl (I6.kd gA0 (by decide) (n := 2) rfl) rfl ?_
      refine s_52 (a1 := v10) I6 gA0 (by omega) ?_
      intro m12 I13 F14
      have F15 : Fr l_53_4 0 0 g μ m12 := F7.t F14 rfl
      show ex_q (dt_fg L ρ) rc (d + 4, (53, 19, [some (eR a0), some (eR 4), some (eI (i3))], []), f :: F, m12)
      obtain ⟨v16, e17⟩ : ∃ zz : Int, zz = (i3) + (1) := ⟨_, rfl⟩
      have b18 : 1 ≤ v16 ∧ v16 ≤ 5 := by omega
      refine w_t (np := 22) (l2 := [some (eR a0), some (eR 4), some (eI (v16))]) (s2 := []) rfl (b_iinc rfl (by rw [← e17]; exact ev_w_in (by omega) (by omega)) rfl) rfl ?_
      refine w_go (t1 := 2) rfl rfl ?_
      exact ih2 (5 - (v16)).toNat (by omega) m12 (v16) I13 F15 (by omega)     rfl
  exact hL2 _ μ (0) hI F0 (by decide)     rfl
def l_53_5 : List Nat := [6914, 7168]
theorem s_53_5 {L : Nat} {ρ : Nat → Int} {rc : eQ} {d : Nat} {f : eFr} {F : List eFr} {μ : eM} {g : Nat → Nat} {a0 : Nat} (hI : SI g μ) (gA0 : g a0 = 27) (K : ∀ (μ2 : eM), SI g μ2 → Fr l_53_5 0 0 g μ μ2 → ex_q (dt_fg L ρ) rc (d + 5, (f.1, f.2.1, f.2.2.1, f.2.2.2), F, μ2)) : ex_q (dt_fg L ρ) rc (d + 4, (53, 0, [some (eR a0), some (eR 5), none], []), f :: F, μ) := by
  have F0 : Fr l_53_5 0 0 g μ μ := Fr.r
  refine w_t (np := 1) (l2 := [some (eR a0), some (eR 5), none]) (s2 := [eI (0)]) rfl rfl rfl ?_
  refine w_t (np := 2) (l2 := [some (eR a0), some (eR 5), some (eI (0))]) (s2 := []) rfl rfl rfl ?_
  have hL2 : ∀ (n1 : Nat) (m5 : eM) (i3 : Int), SI g m5 → Fr l_53_5 0 0 g μ m5 → (0 ≤ i3 ∧ i3 ≤ 2) → n1 = (2 - i3).toNat → ex_q (dt_fg L ρ) rc (d + 4, (53, 2, [some (eR a0), some (eR 5), some (eI (i3))], []), f :: F, m5) := by
    intro n1
    induction n1 using Nat.strongRecOn with
    | _ n1 ih2 =>
    intro m5 i3 I6 F7 b4 hn8
    refine w_t (np := 3) (l2 := [some (eR a0), some (eR 5), some (eI (i3))]) (s2 := [eI (i3)]) rfl rfl rfl ?_
    refine w_t (np := 4) (l2 := [some (eR a0), some (eR 5), some (eI (i3))]) (s2 := [eR 5, eI (i3)]) rfl (s_an rfl (by decide)) rfl ?_
    refine j_sn (np := 7) (n := 2) rfl rfl (by omega) rfl rfl rfl rfl ?_
    rw [show ((2 : Nat) : Int) = 2 from rfl]
    refine b_cge (t1 := 25) (t2 := 10) rfl rfl rfl (ev_w_in (by omega) (by omega)) rfl (fun g9 => ?_) (fun g9 => ?_)
    · have b10 : 2 ≤ i3 ∧ i3 ≤ 2 := by omega
      exact v_rv rfl rfl (K m5 I6 F7)
    · have b10 : 0 ≤ i3 ∧ i3 ≤ 1 := by omega
      refine w_t (np := 11) (l2 := [some (eR a0), some (eR 5), some (eI (i3))]) (s2 := [eR a0]) rfl (s_an rfl (pos_g I6 gA0 (by decide))) rfl ?_
      refine w_t (np := 12) (l2 := [some (eR a0), some (eR 5), some (eI (i3))]) (s2 := [eR 5, eR a0]) rfl (s_an rfl (by decide)) rfl ?_
      refine w_t (np := 13) (l2 := [some (eR a0), some (eR 5), some (eI (i3))]) (s2 := [eI (i3), eR 5, eR a0]) rfl rfl rfl ?_
      refine j_sc (np := 16) (n := 2) (lo := 32) (hi := 45) rfl rfl (by omega) rfl rfl (by omega) (by omega) rfl rfl ?_
      intro v10 b11
      refine w_cw (np := 19) (as := [eI (v10)]) (l2 := [some (eR a0), some (eI (v10))]) (rest := []) rfl rfl rfl (Nat.ble_eq.mp rfl) rfl rfl rfl (I6.kd gA0 (by decide) (n := 2) rfl) rfl ?_
      refine s_52 (a1 := v10) I6 gA0 (by omega) ?_
      intro m12 I13 F14
      have F15 : Fr l_53_5 0 0 g μ m12 := F7.t F14 rfl
      show ex_q (dt_fg L ρ) rc (d + 4, (53, 19, [some (eR a0), some (eR 5), some (eI (i3))], []), f :: F, m12)
      obtain ⟨v16, e17⟩ : ∃ zz : Int, zz = (i3) + (1) := ⟨_, rfl⟩
      have b18 : 1 ≤ v16 ∧ v16 ≤ 2 := by omega
      refine w_t (np := 22) (l2 := [some (eR a0), some (eR 5), some (eI (v16))]) (s2 := []) rfl (b_iinc rfl (by rw [← e17]; exact ev_w_in (by omega) (by omega)) rfl) rfl ?_
      refine w_go (t1 := 2) rfl rfl ?_
      exact ih2 (2 - (v16)).toNat (by omega) m12 (v16) I13 F15 (by omega)     rfl
  exact hL2 _ μ (0) hI F0 (by decide)     rfl
def l_53_6 : List Nat := [6914, 7168]
theorem s_53_6 {L : Nat} {ρ : Nat → Int} {rc : eQ} {d : Nat} {f : eFr} {F : List eFr} {μ : eM} {g : Nat → Nat} {a0 : Nat} (hI : SI g μ) (gA0 : g a0 = 27) (K : ∀ (μ2 : eM), SI g μ2 → Fr l_53_6 0 0 g μ μ2 → ex_q (dt_fg L ρ) rc (d + 5, (f.1, f.2.1, f.2.2.1, f.2.2.2), F, μ2)) : ex_q (dt_fg L ρ) rc (d + 4, (53, 0, [some (eR a0), some (eR 6), none], []), f :: F, μ) := by
  have F0 : Fr l_53_6 0 0 g μ μ := Fr.r
  refine w_t (np := 1) (l2 := [some (eR a0), some (eR 6), none]) (s2 := [eI (0)]) rfl rfl rfl ?_
  refine w_t (np := 2) (l2 := [some (eR a0), some (eR 6), some (eI (0))]) (s2 := []) rfl rfl rfl ?_
  have hL2 : ∀ (n1 : Nat) (m5 : eM) (i3 : Int), SI g m5 → Fr l_53_6 0 0 g μ m5 → (0 ≤ i3 ∧ i3 ≤ 5) → n1 = (5 - i3).toNat → ex_q (dt_fg L ρ) rc (d + 4, (53, 2, [some (eR a0), some (eR 6), some (eI (i3))], []), f :: F, m5) := by
    intro n1
    induction n1 using Nat.strongRecOn with
    | _ n1 ih2 =>
    intro m5 i3 I6 F7 b4 hn8
    refine w_t (np := 3) (l2 := [some (eR a0), some (eR 6), some (eI (i3))]) (s2 := [eI (i3)]) rfl rfl rfl ?_
    refine w_t (np := 4) (l2 := [some (eR a0), some (eR 6), some (eI (i3))]) (s2 := [eR 6, eI (i3)]) rfl (s_an rfl (by decide)) rfl ?_
    refine j_sn (np := 7) (n := 5) rfl rfl (by omega) rfl rfl rfl rfl ?_
    rw [show ((5 : Nat) : Int) = 5 from rfl]
    refine b_cge (t1 := 25) (t2 := 10) rfl rfl rfl (ev_w_in (by omega) (by omega)) rfl (fun g9 => ?_) (fun g9 => ?_)
    · have b10 : 5 ≤ i3 ∧ i3 ≤ 5 := by omega
      exact v_rv rfl rfl (K m5 I6 F7)
    · have b10 : 0 ≤ i3 ∧ i3 ≤ 4 := by omega
      refine w_t (np := 11) (l2 := [some (eR a0), some (eR 6), some (eI (i3))]) (s2 := [eR a0]) rfl (s_an rfl (pos_g I6 gA0 (by decide))) rfl ?_
      refine w_t (np := 12) (l2 := [some (eR a0), some (eR 6), some (eI (i3))]) (s2 := [eR 6, eR a0]) rfl (s_an rfl (by decide)) rfl ?_
      refine w_t (np := 13) (l2 := [some (eR a0), some (eR 6), some (eI (i3))]) (s2 := [eI (i3), eR 6, eR a0]) rfl rfl rfl ?_
      refine j_sc (np := 16) (n := 5) (lo := 32) (hi := 117) rfl rfl (by omega) rfl rfl (by omega) (by omega) rfl rfl ?_
      intro v10 b11
      refine w_cw (np := 19) (as := [eI (v10)]) (l2 := [some (eR a0), some (eI (v10))]) (rest := []) rfl rfl rfl (Nat.ble_eq.mp rfl) rfl rfl rfl (I6.kd gA0 (by decide) (n := 2) rfl) rfl ?_
      refine s_52 (a1 := v10) I6 gA0 (by omega) ?_
      intro m12 I13 F14
      have F15 : Fr l_53_6 0 0 g μ m12 := F7.t F14 rfl
      show ex_q (dt_fg L ρ) rc (d + 4, (53, 19, [some (eR a0), some (eR 6), some (eI (i3))], []), f :: F, m12)
      obtain ⟨v16, e17⟩ : ∃ zz : Int, zz = (i3) + (1) := ⟨_, rfl⟩
      have b18 : 1 ≤ v16 ∧ v16 ≤ 5 := by omega
      refine w_t (np := 22) (l2 := [some (eR a0), some (eR 6), some (eI (v16))]) (s2 := []) rfl (b_iinc rfl (by rw [← e17]; exact ev_w_in (by omega) (by omega)) rfl) rfl ?_
      refine w_go (t1 := 2) rfl rfl ?_
      exact ih2 (5 - (v16)).toNat (by omega) m12 (v16) I13 F15 (by omega)     rfl
  exact hL2 _ μ (0) hI F0 (by decide)     rfl
def l_53_7 : List Nat := [6914, 7168]
theorem s_53_7 {L : Nat} {ρ : Nat → Int} {rc : eQ} {d : Nat} {f : eFr} {F : List eFr} {μ : eM} {g : Nat → Nat} {a0 : Nat} (hI : SI g μ) (gA0 : g a0 = 27) (K : ∀ (μ2 : eM), SI g μ2 → Fr l_53_7 0 0 g μ μ2 → ex_q (dt_fg L ρ) rc (d + 5, (f.1, f.2.1, f.2.2.1, f.2.2.2), F, μ2)) : ex_q (dt_fg L ρ) rc (d + 4, (53, 0, [some (eR a0), some (eR 7), none], []), f :: F, μ) := by
  have F0 : Fr l_53_7 0 0 g μ μ := Fr.r
  refine w_t (np := 1) (l2 := [some (eR a0), some (eR 7), none]) (s2 := [eI (0)]) rfl rfl rfl ?_
  refine w_t (np := 2) (l2 := [some (eR a0), some (eR 7), some (eI (0))]) (s2 := []) rfl rfl rfl ?_
  have hL2 : ∀ (n1 : Nat) (m5 : eM) (i3 : Int), SI g m5 → Fr l_53_7 0 0 g μ m5 → (0 ≤ i3 ∧ i3 ≤ 5) → n1 = (5 - i3).toNat → ex_q (dt_fg L ρ) rc (d + 4, (53, 2, [some (eR a0), some (eR 7), some (eI (i3))], []), f :: F, m5) := by
    intro n1
    induction n1 using Nat.strongRecOn with
    | _ n1 ih2 =>
    intro m5 i3 I6 F7 b4 hn8
    refine w_t (np := 3) (l2 := [some (eR a0), some (eR 7), some (eI (i3))]) (s2 := [eI (i3)]) rfl rfl rfl ?_
    refine w_t (np := 4) (l2 := [some (eR a0), some (eR 7), some (eI (i3))]) (s2 := [eR 7, eI (i3)]) rfl (s_an rfl (by decide)) rfl ?_
    refine j_sn (np := 7) (n := 5) rfl rfl (by omega) rfl rfl rfl rfl ?_
    rw [show ((5 : Nat) : Int) = 5 from rfl]
    refine b_cge (t1 := 25) (t2 := 10) rfl rfl rfl (ev_w_in (by omega) (by omega)) rfl (fun g9 => ?_) (fun g9 => ?_)
    · have b10 : 5 ≤ i3 ∧ i3 ≤ 5 := by omega
      exact v_rv rfl rfl (K m5 I6 F7)
    · have b10 : 0 ≤ i3 ∧ i3 ≤ 4 := by omega
      refine w_t (np := 11) (l2 := [some (eR a0), some (eR 7), some (eI (i3))]) (s2 := [eR a0]) rfl (s_an rfl (pos_g I6 gA0 (by decide))) rfl ?_
      refine w_t (np := 12) (l2 := [some (eR a0), some (eR 7), some (eI (i3))]) (s2 := [eR 7, eR a0]) rfl (s_an rfl (by decide)) rfl ?_
      refine w_t (np := 13) (l2 := [some (eR a0), some (eR 7), some (eI (i3))]) (s2 := [eI (i3), eR 7, eR a0]) rfl rfl rfl ?_
      refine j_sc (np := 16) (n := 5) (lo := 32) (hi := 110) rfl rfl (by omega) rfl rfl (by omega) (by omega) rfl rfl ?_
      intro v10 b11
      refine w_cw (np := 19) (as := [eI (v10)]) (l2 := [some (eR a0), some (eI (v10))]) (rest := []) rfl rfl rfl (Nat.ble_eq.mp rfl) rfl rfl rfl (I6.kd gA0 (by decide) (n := 2) rfl) rfl ?_
      refine s_52 (a1 := v10) I6 gA0 (by omega) ?_
      intro m12 I13 F14
      have F15 : Fr l_53_7 0 0 g μ m12 := F7.t F14 rfl
      show ex_q (dt_fg L ρ) rc (d + 4, (53, 19, [some (eR a0), some (eR 7), some (eI (i3))], []), f :: F, m12)
      obtain ⟨v16, e17⟩ : ∃ zz : Int, zz = (i3) + (1) := ⟨_, rfl⟩
      have b18 : 1 ≤ v16 ∧ v16 ≤ 5 := by omega
      refine w_t (np := 22) (l2 := [some (eR a0), some (eR 7), some (eI (v16))]) (s2 := []) rfl (b_iinc rfl (by rw [← e17]; exact ev_w_in (by omega) (by omega)) rfl) rfl ?_
      refine w_go (t1 := 2) rfl rfl ?_
      exact ih2 (5 - (v16)).toNat (by omega) m12 (v16) I13 F15 (by omega)     rfl
  exact hL2 _ μ (0) hI F0 (by decide)     rfl
def l_53_8 : List Nat := [6914, 7168]
theorem s_53_8 {L : Nat} {ρ : Nat → Int} {rc : eQ} {d : Nat} {f : eFr} {F : List eFr} {μ : eM} {g : Nat → Nat} {a0 : Nat} (hI : SI g μ) (gA0 : g a0 = 27) (K : ∀ (μ2 : eM), SI g μ2 → Fr l_53_8 0 0 g μ μ2 → ex_q (dt_fg L ρ) rc (d + 5, (f.1, f.2.1, f.2.2.1, f.2.2.2), F, μ2)) : ex_q (dt_fg L ρ) rc (d + 4, (53, 0, [some (eR a0), some (eR 8), none], []), f :: F, μ) := by
  have F0 : Fr l_53_8 0 0 g μ μ := Fr.r
  refine w_t (np := 1) (l2 := [some (eR a0), some (eR 8), none]) (s2 := [eI (0)]) rfl rfl rfl ?_
  refine w_t (np := 2) (l2 := [some (eR a0), some (eR 8), some (eI (0))]) (s2 := []) rfl rfl rfl ?_
  have hL2 : ∀ (n1 : Nat) (m5 : eM) (i3 : Int), SI g m5 → Fr l_53_8 0 0 g μ m5 → (0 ≤ i3 ∧ i3 ≤ 1) → n1 = (1 - i3).toNat → ex_q (dt_fg L ρ) rc (d + 4, (53, 2, [some (eR a0), some (eR 8), some (eI (i3))], []), f :: F, m5) := by
    intro n1
    induction n1 using Nat.strongRecOn with
    | _ n1 ih2 =>
    intro m5 i3 I6 F7 b4 hn8
    refine w_t (np := 3) (l2 := [some (eR a0), some (eR 8), some (eI (i3))]) (s2 := [eI (i3)]) rfl rfl rfl ?_
    refine w_t (np := 4) (l2 := [some (eR a0), some (eR 8), some (eI (i3))]) (s2 := [eR 8, eI (i3)]) rfl (s_an rfl (by decide)) rfl ?_
    refine j_sn (np := 7) (n := 1) rfl rfl (by omega) rfl rfl rfl rfl ?_
    rw [show ((1 : Nat) : Int) = 1 from rfl]
    refine b_cge (t1 := 25) (t2 := 10) rfl rfl rfl (ev_w_in (by omega) (by omega)) rfl (fun g9 => ?_) (fun g9 => ?_)
    · have b10 : 1 ≤ i3 ∧ i3 ≤ 1 := by omega
      exact v_rv rfl rfl (K m5 I6 F7)
    · have b10 : 0 ≤ i3 ∧ i3 ≤ 0 := by omega
      refine w_t (np := 11) (l2 := [some (eR a0), some (eR 8), some (eI (i3))]) (s2 := [eR a0]) rfl (s_an rfl (pos_g I6 gA0 (by decide))) rfl ?_
      refine w_t (np := 12) (l2 := [some (eR a0), some (eR 8), some (eI (i3))]) (s2 := [eR 8, eR a0]) rfl (s_an rfl (by decide)) rfl ?_
      refine w_t (np := 13) (l2 := [some (eR a0), some (eR 8), some (eI (i3))]) (s2 := [eI (i3), eR 8, eR a0]) rfl rfl rfl ?_
      refine j_sc (np := 16) (n := 1) (lo := 59) (hi := 59) rfl rfl (by omega) rfl rfl (by omega) (by omega) rfl rfl ?_
      intro v10 b11
      refine w_cw (np := 19) (as := [eI (v10)]) (l2 := [some (eR a0), some (eI (v10))]) (rest := []) rfl rfl rfl (Nat.ble_eq.mp rfl) rfl rfl rfl (I6.kd gA0 (by decide) (n := 2) rfl) rfl ?_
      refine s_52 (a1 := v10) I6 gA0 (by omega) ?_
      intro m12 I13 F14
      have F15 : Fr l_53_8 0 0 g μ m12 := F7.t F14 rfl
      show ex_q (dt_fg L ρ) rc (d + 4, (53, 19, [some (eR a0), some (eR 8), some (eI (i3))], []), f :: F, m12)
      obtain ⟨v16, e17⟩ : ∃ zz : Int, zz = (i3) + (1) := ⟨_, rfl⟩
      have b18 : 1 ≤ v16 ∧ v16 ≤ 1 := by omega
      refine w_t (np := 22) (l2 := [some (eR a0), some (eR 8), some (eI (v16))]) (s2 := []) rfl (b_iinc rfl (by rw [← e17]; exact ev_w_in (by omega) (by omega)) rfl) rfl ?_
      refine w_go (t1 := 2) rfl rfl ?_
      exact ih2 (1 - (v16)).toNat (by omega) m12 (v16) I13 F15 (by omega)     rfl
  exact hL2 _ μ (0) hI F0 (by decide)     rfl
def l_51 : List Nat := [6914, 7168]
theorem s_51 {L : Nat} {ρ : Nat → Int} {rc : eQ} {d : Nat} {f : eFr} {F : List eFr} {μ : eM} {g : Nat → Nat} {a0 : Nat} {a1 : Nat} (hI : SI g μ) (gA0 : g a0 = 27) (gA1 : g a1 = 29) (K : ∀ (μ2 : eM), SI g μ2 → Fr l_51 0 0 g μ μ2 → ex_q (dt_fg L ρ) rc (d + 6, (f.1, f.2.1, f.2.2.1, f.2.2.2), F, μ2)) : ex_q (dt_fg L ρ) rc (d + 5, (51, 0, [some (eR a0), some (eR a1), none, none, none], []), f :: F, μ) := by
  have F0 : Fr l_51 0 0 g μ μ := Fr.r
  refine w_t (np := 1) (l2 := [some (eR a0), some (eR a1), none, none, none]) (s2 := [eR a0]) rfl (s_an rfl (pos_g hI gA0 (by decide))) rfl ?_
  refine w_t (np := 2) (l2 := [some (eR a0), some (eR a1), none, none, none]) (s2 := [eI (0), eR a0]) rfl rfl rfl ?_
  refine j_pf (np := 5) (w := 0) rfl rfl hI gA0 (by decide) (n := 2) rfl rfl (hO_i (lo := 0) (hi := 1056) rfl (by decide)) ?_
  intro m1 I2 W3
  have F4 : Fr l_51 0 0 g μ m1 := F0.w W3 gA0 rfl
  refine w_t (np := 6) (l2 := [some (eR a0), some (eR a1), none, none, none]) (s2 := [eI (0)]) rfl rfl rfl ?_
  refine w_t (np := 7) (l2 := [some (eR a0), some (eR a1), some (eI (0)), none, none]) (s2 := []) rfl rfl rfl ?_
  have hL7 : ∀ (n5 : Nat) (m11 : eM) (i7 : Int) (o9 : Option eV) (o10 : Option eV), SI g m11 → Fr l_51 0 0 g μ m11 → (0 ≤ i7 ∧ i7 ≤ 24) → n5 = (24 - i7).toNat → ex_q (dt_fg L ρ) rc (d + 5, (51, 7, [some (eR a0), some (eR a1), some (eI (i7)), o9, o10], []), f :: F, m11) := by
    intro n5
    induction n5 using Nat.strongRecOn with
    | _ n5 ih6 =>
    intro m11 i7 o9 o10 I12 F13 b8 hn14
    refine w_t (np := 8) (l2 := [some (eR a0), some (eR a1), some (eI (i7)), o9, o10]) (s2 := [eI (i7)]) rfl rfl rfl ?_
    refine w_t (np := 9) (l2 := [some (eR a0), some (eR a1), some (eI (i7)), o9, o10]) (s2 := [eR a1, eI (i7)]) rfl (s_an rfl (pos_g I12 gA1 (by decide))) rfl ?_
    refine j_gi (np := 12) rfl rfl rfl I12 gA1 (by decide) (n := 7) rfl rfl (lo := 0) (hi := 24) rfl ?_
    intro v15 e16 b17
    refine b_cge (t1 := 121) (t2 := 15) rfl rfl rfl (ev_w_in (by omega) (by omega)) (ev_w_in (by omega) (by omega)) (fun g18 => ?_) (fun g18 => ?_)
    · exact v_rv rfl rfl (K m11 I12 F13)
    · have b19 : 0 ≤ i7 ∧ i7 ≤ 23 := by omega
      have b20 : 1 ≤ v15 ∧ v15 ≤ 24 := by omega
      refine w_t (np := 16) (l2 := [some (eR a0), some (eR a1), some (eI (i7)), o9, o10]) (s2 := [eR a0]) rfl (s_an rfl (pos_g I12 gA0 (by decide))) rfl ?_
      refine w_t (np := 17) (l2 := [some (eR a0), some (eR a1), some (eI (i7)), o9, o10]) (s2 := [eR a1, eR a0]) rfl (s_an rfl (pos_g I12 gA1 (by decide))) rfl ?_
      refine w_t (np := 18) (l2 := [some (eR a0), some (eR a1), some (eI (i7)), o9, o10]) (s2 := [eI (i7), eR a1, eR a0]) rfl rfl rfl ?_
      refine w_cw (np := 21) (as := [eI (i7)]) (l2 := [some (eR a1), some (eI (i7))]) (rest := [eR a0]) rfl rfl rfl (Nat.ble_eq.mp rfl) rfl rfl rfl (I12.kd gA1 (by decide) (n := 7) rfl) rfl ?_
      refine s_128 (a1 := i7) I12 gA1 (by omega) ?_
      intro v19 b20
      show ex_q (dt_fg L ρ) rc (d + 5, (51, 21, [some (eR a0), some (eR a1), some (eI (i7)), o9, o10], [eI (v19), eR a0]), f :: F, m11)
      refine b_ine (t1 := 29) (t2 := 24) rfl rfl rfl (ev_w_in (by omega) (by omega)) (fun g21 => ?_) (fun g21 => ?_)
      · have b22 : 1 ≤ v19 ∧ v19 ≤ 1 := by omega
        refine j_ls (np := 31) rfl rfl rfl ?_
        refine w_cw (np := 34) (as := [eR 4]) (l2 := [some (eR a0), some (eR 4), none]) (rest := []) rfl rfl rfl (Nat.ble_eq.mp rfl) rfl rfl rfl (I12.kd gA0 (by decide) (n := 2) rfl) rfl ?_
        refine s_53_4 I12 gA0 ?_
        intro m22 I23 F24
        have F25 : Fr l_51 0 0 g μ m22 := F13.t F24 rfl
        show ex_q (dt_fg L ρ) rc (d + 5, (51, 34, [some (eR a0), some (eR a1), some (eI (i7)), o9, o10], []), f :: F, m22)
        refine w_t (np := 35) (l2 := [some (eR a0), some (eR a1), some (eI (i7)), o9, o10]) (s2 := [eI (0)]) rfl rfl rfl ?_
        refine w_t (np := 36) (l2 := [some (eR a0), some (eR a1), some (eI (i7)), some (eI (0)), o10]) (s2 := []) rfl rfl rfl ?_
        have hL36 : ∀ (n26 : Nat) (m31 : eM) (i28 : Int) (o30 : Option eV), SI g m31 → Fr l_51 0 0 g μ m31 → (0 ≤ i28 ∧ i28 ≤ 4) → m31.1 a1 5 = v15 → n26 = (4 - i28).toNat → ex_q (dt_fg L ρ) rc (d + 5, (51, 36, [some (eR a0), some (eR a1), some (eI (i7)), some (eI (i28)), o30], []), f :: F, m31) := by
          intro n26
          induction n26 using Nat.strongRecOn with
          | _ n26 ih27 =>
          intro m31 i28 o30 I32 F33 b29 k34 hn35
          refine w_t (np := 37) (l2 := [some (eR a0), some (eR a1), some (eI (i7)), some (eI (i28)), o30]) (s2 := [eI (i28)]) rfl rfl rfl ?_
          refine w_t (np := 38) (l2 := [some (eR a0), some (eR a1), some (eI (i7)), some (eI (i28)), o30]) (s2 := [eI (4), eI (i28)]) rfl rfl rfl ?_
          refine b_cge (t1 := 79) (t2 := 41) rfl rfl rfl (ev_w_in (by omega) (by omega)) rfl (fun g36 => ?_) (fun g36 => ?_)
          · have b37 : 4 ≤ i28 ∧ i28 ≤ 4 := by omega
            refine w_t (np := 80) (l2 := [some (eR a0), some (eR a1), some (eI (i7)), some (eI (i28)), o30]) (s2 := [eR a0]) rfl (s_an rfl (pos_g I32 gA0 (by decide))) rfl ?_
            refine j_ls (np := 82) rfl rfl rfl ?_
            refine w_cw (np := 85) (as := [eR 6]) (l2 := [some (eR a0), some (eR 6), none]) (rest := []) rfl rfl rfl (Nat.ble_eq.mp rfl) rfl rfl rfl (I32.kd gA0 (by decide) (n := 2) rfl) rfl ?_
            refine s_53_6 I32 gA0 ?_
            intro m37 I38 F39
            have F40 : Fr l_51 0 0 g μ m37 := F33.t F39 rfl
            show ex_q (dt_fg L ρ) rc (d + 5, (51, 85, [some (eR a0), some (eR a1), some (eI (i7)), some (eI (i28)), o30], []), f :: F, m37)
            refine w_t (np := 86) (l2 := [some (eR a0), some (eR a1), some (eI (i7)), some (eI (i28)), o30]) (s2 := [eR a0]) rfl (s_an rfl (pos_g I38 gA0 (by decide))) rfl ?_
            refine w_t (np := 87) (l2 := [some (eR a0), some (eR a1), some (eI (i7)), some (eI (i28)), o30]) (s2 := [eR a1, eR a0]) rfl (s_an rfl (pos_g I38 gA1 (by decide))) rfl ?_
            refine w_t (np := 88) (l2 := [some (eR a0), some (eR a1), some (eI (i7)), some (eI (i28)), o30]) (s2 := [eI (i7), eR a1, eR a0]) rfl rfl rfl ?_
            refine w_cw (np := 91) (as := [eI (i7)]) (l2 := [some (eR a1), some (eI (i7))]) (rest := [eR a0]) rfl rfl rfl (Nat.ble_eq.mp rfl) rfl rfl rfl (I38.kd gA1 (by decide) (n := 7) rfl) rfl ?_
            refine s_129 (a1 := i7) I38 gA1 (by omega) ?_
            intro v41 b42
            show ex_q (dt_fg L ρ) rc (d + 5, (51, 91, [some (eR a0), some (eR a1), some (eI (i7)), some (eI (i28)), o30], [eI (v41), eR a0]), f :: F, m37)
            refine w_cw (np := 94) (as := [eI (v41)]) (l2 := [some (eR a0), some (eI (v41))]) (rest := []) rfl rfl rfl (Nat.ble_eq.mp rfl) rfl rfl rfl (I38.kd gA0 (by decide) (n := 2) rfl) rfl ?_
            refine s_54 (a1 := v41) I38 gA0 (by omega) ?_
            intro m43 I44 F45
            have F46 : Fr l_51 0 0 g μ m43 := F40.t F45 rfl
            show ex_q (dt_fg L ρ) rc (d + 5, (51, 94, [some (eR a0), some (eR a1), some (eI (i7)), some (eI (i28)), o30], []), f :: F, m43)
            refine w_t (np := 95) (l2 := [some (eR a0), some (eR a1), some (eI (i7)), some (eI (i28)), o30]) (s2 := [eR a0]) rfl (s_an rfl (pos_g I44 gA0 (by decide))) rfl ?_
            refine j_ls (np := 97) rfl rfl rfl ?_
            refine w_cw (np := 100) (as := [eR 7]) (l2 := [some (eR a0), some (eR 7), none]) (rest := []) rfl rfl rfl (Nat.ble_eq.mp rfl) rfl rfl rfl (I44.kd gA0 (by decide) (n := 2) rfl) rfl ?_
            refine s_53_7 I44 gA0 ?_
            intro m47 I48 F49
            have F50 : Fr l_51 0 0 g μ m47 := F46.t F49 rfl
            show ex_q (dt_fg L ρ) rc (d + 5, (51, 100, [some (eR a0), some (eR a1), some (eI (i7)), some (eI (i28)), o30], []), f :: F, m47)
            refine w_t (np := 101) (l2 := [some (eR a0), some (eR a1), some (eI (i7)), some (eI (i28)), o30]) (s2 := [eR a0]) rfl (s_an rfl (pos_g I48 gA0 (by decide))) rfl ?_
            refine w_t (np := 102) (l2 := [some (eR a0), some (eR a1), some (eI (i7)), some (eI (i28)), o30]) (s2 := [eR a1, eR a0]) rfl (s_an rfl (pos_g I48 gA1 (by decide))) rfl ?_
            refine w_t (np := 103) (l2 := [some (eR a0), some (eR a1), some (eI (i7)), some (eI (i28)), o30]) (s2 := [eI (i7), eR a1, eR a0]) rfl rfl rfl ?_
            refine w_cw (np := 106) (as := [eI (i7)]) (l2 := [some (eR a1), some (eI (i7))]) (rest := [eR a0]) rfl rfl rfl (Nat.ble_eq.mp rfl) rfl rfl rfl (I48.kd gA1 (by decide) (n := 7) rfl) rfl ?_
            refine s_130 (a1 := i7) I48 gA1 (by omega) ?_
            intro v51 b52
            show ex_q (dt_fg L ρ) rc (d + 5, (51, 106, [some (eR a0), some (eR a1), some (eI (i7)), some (eI (i28)), o30], [eI (v51), eR a0]), f :: F, m47)
            refine w_cw (np := 109) (as := [eI (v51)]) (l2 := [some (eR a0), some (eI (v51))]) (rest := []) rfl rfl rfl (Nat.ble_eq.mp rfl) rfl rfl rfl (I48.kd gA0 (by decide) (n := 2) rfl) rfl ?_
            refine s_54 (a1 := v51) I48 gA0 (by omega) ?_
            intro m53 I54 F55
            have F56 : Fr l_51 0 0 g μ m53 := F50.t F55 rfl
            show ex_q (dt_fg L ρ) rc (d + 5, (51, 109, [some (eR a0), some (eR a1), some (eI (i7)), some (eI (i28)), o30], []), f :: F, m53)
            refine w_t (np := 110) (l2 := [some (eR a0), some (eR a1), some (eI (i7)), some (eI (i28)), o30]) (s2 := [eR a0]) rfl (s_an rfl (pos_g I54 gA0 (by decide))) rfl ?_
            refine j_ls (np := 112) rfl rfl rfl ?_
            refine w_cw (np := 115) (as := [eR 8]) (l2 := [some (eR a0), some (eR 8), none]) (rest := []) rfl rfl rfl (Nat.ble_eq.mp rfl) rfl rfl rfl (I54.kd gA0 (by decide) (n := 2) rfl) rfl ?_
            refine s_53_8 I54 gA0 ?_
            intro m57 I58 F59
            have F60 : Fr l_51 0 0 g μ m57 := F56.t F59 rfl
            show ex_q (dt_fg L ρ) rc (d + 5, (51, 115, [some (eR a0), some (eR a1), some (eI (i7)), some (eI (i28)), o30], []), f :: F, m57)
            obtain ⟨v61, e62⟩ : ∃ zz : Int, zz = (i7) + (1) := ⟨_, rfl⟩
            have b63 : 1 ≤ v61 ∧ v61 ≤ 24 := by omega
            refine w_t (np := 118) (l2 := [some (eR a0), some (eR a1), some (eI (v61)), some (eI (i28)), o30]) (s2 := []) rfl (b_iinc rfl (by rw [← e62]; exact ev_w_in (by omega) (by omega)) rfl) rfl ?_
            refine w_go (t1 := 7) rfl rfl ?_
            exact ih6 (24 - (v61)).toNat (by omega) m57 (v61) (some (eI (i28))) (o30) I58 F60 (by omega)     rfl
          · have b37 : 0 ≤ i28 ∧ i28 ≤ 3 := by omega
            refine w_t (np := 42) (l2 := [some (eR a0), some (eR a1), some (eI (i7)), some (eI (i28)), o30]) (s2 := [eR a1]) rfl (s_an rfl (pos_g I32 gA1 (by decide))) rfl ?_
            refine w_t (np := 43) (l2 := [some (eR a0), some (eR a1), some (eI (i7)), some (eI (i28)), o30]) (s2 := [eI (i7), eR a1]) rfl rfl rfl ?_
            refine w_t (np := 44) (l2 := [some (eR a0), some (eR a1), some (eI (i7)), some (eI (i28)), o30]) (s2 := [eI (0), eI (i7), eR a1]) rfl rfl rfl ?_
            refine w_cw (np := 47) (as := [eI (i7), eI (0)]) (l2 := [some (eR a1), some (eI (i7)), some (eI (0))]) (rest := []) rfl rfl rfl (Nat.ble_eq.mp rfl) rfl rfl rfl (I32.kd gA1 (by decide) (n := 7) rfl) rfl ?_
            refine s_131 (a1 := i7) (a2 := 0) I32 gA1 (by omega) (by decide) ?_
            intro v37 b38
            show ex_q (dt_fg L ρ) rc (d + 5, (51, 47, [some (eR a0), some (eR a1), some (eI (i7)), some (eI (i28)), o30], [eJ (v37)]), f :: F, m31)
            refine w_t (np := 48) (l2 := [some (eR a0), some (eR a1), some (eI (i7)), some (eI (i28)), o30]) (s2 := [eI (i28), eJ (v37)]) rfl rfl rfl ?_
            refine w_cu (np := 51) (as := [eJ (v37), eI (i28)]) (l2 := [some (eJ (v37)), none, some (eI (i28))]) (rest := []) rfl rfl rfl (Nat.ble_eq.mp rfl) rfl rfl rfl rfl ?_
            refine s_73 (a2 := i28) I32 b38 (by omega) ?_
            intro v39 b40
            show ex_q (dt_fg L ρ) rc (d + 5, (51, 51, [some (eR a0), some (eR a1), some (eI (i7)), some (eI (i28)), o30], [eI (v39)]), f :: F, m31)
            refine w_t (np := 53) (l2 := [some (eR a0), some (eR a1), some (eI (i7)), some (eI (i28)), some (eI (v39))]) (s2 := []) rfl rfl rfl ?_
            refine w_t (np := 55) (l2 := [some (eR a0), some (eR a1), some (eI (i7)), some (eI (i28)), some (eI (v39))]) (s2 := [eI (v39)]) rfl rfl rfl ?_
            refine b_ige (t1 := 64) (t2 := 58) rfl rfl rfl (ev_w_in (by omega) (by omega)) (fun g41 => ?_) (fun g41 => ?_)
            · have b42 : 0 ≤ v39 ∧ v39 ≤ 32767 := by omega
              refine w_t (np := 65) (l2 := [some (eR a0), some (eR a1), some (eI (i7)), some (eI (i28)), some (eI (v39))]) (s2 := [eR a0]) rfl (s_an rfl (pos_g I32 gA0 (by decide))) rfl ?_
              refine w_t (np := 67) (l2 := [some (eR a0), some (eR a1), some (eI (i7)), some (eI (i28)), some (eI (v39))]) (s2 := [eI (v39), eR a0]) rfl rfl rfl ?_
              refine w_cu (np := 70) (as := [eI (v39)]) (l2 := [some (eI (v39))]) (rest := [eR a0]) rfl rfl rfl (Nat.ble_eq.mp rfl) rfl rfl rfl rfl ?_
              refine w_t (np := 1) (l2 := [some (eI (v39))]) (s2 := [eI (v39)]) rfl rfl rfl ?_
              refine b_ige (t1 := 9) (t2 := 4) rfl rfl rfl (ev_w_in (by omega) (by omega)) (fun g42 => ?_) (fun g42 => False.elim (by omega))
              refine w_t (np := 10) (l2 := [some (eI (v39))]) (s2 := [eI (v39)]) rfl rfl rfl ?_
              refine b_ri rfl rfl ?_
              show ex_q (dt_fg L ρ) rc (d + 5, (51, 70, [some (eR a0), some (eR a1), some (eI (i7)), some (eI (i28)), some (eI (v39))], [eI (v39), eR a0]), f :: F, m31)
              refine w_cw (np := 73) (as := [eI (v39)]) (l2 := [some (eR a0), some (eI (v39))]) (rest := []) rfl rfl rfl (Nat.ble_eq.mp rfl) rfl rfl rfl (I32.kd gA0 (by decide) (n := 2) rfl) rfl ?_
              refine s_54 (a1 := v39) I32 gA0 (by omega) ?_
              intro m43 I44 F45
              have F46 : Fr l_51 0 0 g μ m43 := F33.t F45 rfl
              show ex_q (dt_fg L ρ) rc (d + 5, (51, 73, [some (eR a0), some (eR a1), some (eI (i7)), some (eI (i28)), some (eI (v39))], []), f :: F, m43)
              obtain ⟨v47, e48⟩ : ∃ zz : Int, zz = (i28) + (1) := ⟨_, rfl⟩
              have b49 : 1 ≤ v47 ∧ v47 ≤ 4 := by omega
              refine w_t (np := 76) (l2 := [some (eR a0), some (eR a1), some (eI (i7)), some (eI (v47)), some (eI (v39))]) (s2 := []) rfl (b_iinc rfl (by rw [← e48]; exact ev_w_in (by omega) (by omega)) rfl) rfl ?_
              refine w_go (t1 := 36) rfl rfl ?_
              exact ih27 (4 - (v47)).toNat (by omega) m43 (v47) (some (eI (v39))) I44 F46 (by omega) (F45.k k34 gA1 (by decide) rfl)    rfl
            · have b42 : -32768 ≤ v39 ∧ v39 ≤ -1 := by omega
              refine w_t (np := 59) (l2 := [some (eR a0), some (eR a1), some (eI (i7)), some (eI (i28)), some (eI (v39))]) (s2 := [eR a0]) rfl (s_an rfl (pos_g I32 gA0 (by decide))) rfl ?_
              refine j_ls (np := 61) rfl rfl rfl ?_
              refine w_cw (np := 64) (as := [eR 5]) (l2 := [some (eR a0), some (eR 5), none]) (rest := []) rfl rfl rfl (Nat.ble_eq.mp rfl) rfl rfl rfl (I32.kd gA0 (by decide) (n := 2) rfl) rfl ?_
              refine s_53_5 I32 gA0 ?_
              intro m42 I43 F44
              have F45 : Fr l_51 0 0 g μ m42 := F33.t F44 rfl
              show ex_q (dt_fg L ρ) rc (d + 5, (51, 64, [some (eR a0), some (eR a1), some (eI (i7)), some (eI (i28)), some (eI (v39))], []), f :: F, m42)
              refine w_t (np := 65) (l2 := [some (eR a0), some (eR a1), some (eI (i7)), some (eI (i28)), some (eI (v39))]) (s2 := [eR a0]) rfl (s_an rfl (pos_g I43 gA0 (by decide))) rfl ?_
              refine w_t (np := 67) (l2 := [some (eR a0), some (eR a1), some (eI (i7)), some (eI (i28)), some (eI (v39))]) (s2 := [eI (v39), eR a0]) rfl rfl rfl ?_
              refine w_cu (np := 70) (as := [eI (v39)]) (l2 := [some (eI (v39))]) (rest := [eR a0]) rfl rfl rfl (Nat.ble_eq.mp rfl) rfl rfl rfl rfl ?_
              refine w_t (np := 1) (l2 := [some (eI (v39))]) (s2 := [eI (v39)]) rfl rfl rfl ?_
              refine b_ige (t1 := 9) (t2 := 4) rfl rfl rfl (ev_w_in (by omega) (by omega)) (fun g46 => False.elim (by omega)) (fun g46 => ?_)
              refine w_t (np := 5) (l2 := [some (eI (v39))]) (s2 := [eI (v39)]) rfl rfl rfl ?_
              obtain ⟨v47, e48⟩ : ∃ zz : Int, zz = -(v39) := ⟨_, rfl⟩
              have b49 : 1 ≤ v47 ∧ v47 ≤ 32768 := by omega
              refine w_t (np := 6) (l2 := [some (eI (v39))]) (s2 := [eI (v47)]) rfl (b_ineg (by rw [← e48]; exact ev_w_in (by omega) (by omega))) rfl ?_
              refine w_go (t1 := 10) rfl rfl ?_
              refine b_ri rfl rfl ?_
              show ex_q (dt_fg L ρ) rc (d + 5, (51, 70, [some (eR a0), some (eR a1), some (eI (i7)), some (eI (i28)), some (eI (v39))], [eI (v47), eR a0]), f :: F, m42)
              refine w_cw (np := 73) (as := [eI (v47)]) (l2 := [some (eR a0), some (eI (v47))]) (rest := []) rfl rfl rfl (Nat.ble_eq.mp rfl) rfl rfl rfl (I43.kd gA0 (by decide) (n := 2) rfl) rfl ?_
              refine s_54 (a1 := v47) I43 gA0 (by omega) ?_
              intro m50 I51 F52
              have F53 : Fr l_51 0 0 g μ m50 := F45.t F52 rfl
              show ex_q (dt_fg L ρ) rc (d + 5, (51, 73, [some (eR a0), some (eR a1), some (eI (i7)), some (eI (i28)), some (eI (v39))], []), f :: F, m50)
              obtain ⟨v54, e55⟩ : ∃ zz : Int, zz = (i28) + (1) := ⟨_, rfl⟩
              have b56 : 1 ≤ v54 ∧ v54 ≤ 4 := by omega
              refine w_t (np := 76) (l2 := [some (eR a0), some (eR a1), some (eI (i7)), some (eI (v54)), some (eI (v39))]) (s2 := []) rfl (b_iinc rfl (by rw [← e55]; exact ev_w_in (by omega) (by omega)) rfl) rfl ?_
              refine w_go (t1 := 36) rfl rfl ?_
              exact ih27 (4 - (v54)).toNat (by omega) m50 (v54) (some (eI (v39))) I51 F53 (by omega) (F52.k (F44.k k34 gA1 (by decide) rfl) gA1 (by decide) rfl)    rfl
        exact hL36 _ m22 (0) (o10) I23 F25 (by decide) (F24.k e16 gA1 (by decide) rfl)    rfl
      · have b22 : 0 ≤ v19 ∧ v19 ≤ 0 := by omega
        refine j_ls (np := 26) rfl rfl rfl ?_
        refine w_go (t1 := 31) rfl rfl ?_
        refine w_cw (np := 34) (as := [eR 3]) (l2 := [some (eR a0), some (eR 3), none]) (rest := []) rfl rfl rfl (Nat.ble_eq.mp rfl) rfl rfl rfl (I12.kd gA0 (by decide) (n := 2) rfl) rfl ?_
        refine s_53_3 I12 gA0 ?_
        intro m22 I23 F24
        have F25 : Fr l_51 0 0 g μ m22 := F13.t F24 rfl
        show ex_q (dt_fg L ρ) rc (d + 5, (51, 34, [some (eR a0), some (eR a1), some (eI (i7)), o9, o10], []), f :: F, m22)
        refine w_t (np := 35) (l2 := [some (eR a0), some (eR a1), some (eI (i7)), o9, o10]) (s2 := [eI (0)]) rfl rfl rfl ?_
        refine w_t (np := 36) (l2 := [some (eR a0), some (eR a1), some (eI (i7)), some (eI (0)), o10]) (s2 := []) rfl rfl rfl ?_
        have hL36 : ∀ (n26 : Nat) (m31 : eM) (i28 : Int) (o30 : Option eV), SI g m31 → Fr l_51 0 0 g μ m31 → (0 ≤ i28 ∧ i28 ≤ 4) → m31.1 a1 5 = v15 → n26 = (4 - i28).toNat → ex_q (dt_fg L ρ) rc (d + 5, (51, 36, [some (eR a0), some (eR a1), some (eI (i7)), some (eI (i28)), o30], []), f :: F, m31) := by
          intro n26
          induction n26 using Nat.strongRecOn with
          | _ n26 ih27 =>
          intro m31 i28 o30 I32 F33 b29 k34 hn35
          refine w_t (np := 37) (l2 := [some (eR a0), some (eR a1), some (eI (i7)), some (eI (i28)), o30]) (s2 := [eI (i28)]) rfl rfl rfl ?_
          refine w_t (np := 38) (l2 := [some (eR a0), some (eR a1), some (eI (i7)), some (eI (i28)), o30]) (s2 := [eI (4), eI (i28)]) rfl rfl rfl ?_
          refine b_cge (t1 := 79) (t2 := 41) rfl rfl rfl (ev_w_in (by omega) (by omega)) rfl (fun g36 => ?_) (fun g36 => ?_)
          · have b37 : 4 ≤ i28 ∧ i28 ≤ 4 := by omega
            refine w_t (np := 80) (l2 := [some (eR a0), some (eR a1), some (eI (i7)), some (eI (i28)), o30]) (s2 := [eR a0]) rfl (s_an rfl (pos_g I32 gA0 (by decide))) rfl ?_
            refine j_ls (np := 82) rfl rfl rfl ?_
            refine w_cw (np := 85) (as := [eR 6]) (l2 := [some (eR a0), some (eR 6), none]) (rest := []) rfl rfl rfl (Nat.ble_eq.mp rfl) rfl rfl rfl (I32.kd gA0 (by decide) (n := 2) rfl) rfl ?_
            refine s_53_6 I32 gA0 ?_
            intro m37 I38 F39
            have F40 : Fr l_51 0 0 g μ m37 := F33.t F39 rfl
            show ex_q (dt_fg L ρ) rc (d + 5, (51, 85, [some (eR a0), some (eR a1), some (eI (i7)), some (eI (i28)), o30], []), f :: F, m37)
            refine w_t (np := 86) (l2 := [some (eR a0), some (eR a1), some (eI (i7)), some (eI (i28)), o30]) (s2 := [eR a0]) rfl (s_an rfl (pos_g I38 gA0 (by decide))) rfl ?_
            refine w_t (np := 87) (l2 := [some (eR a0), some (eR a1), some (eI (i7)), some (eI (i28)), o30]) (s2 := [eR a1, eR a0]) rfl (s_an rfl (pos_g I38 gA1 (by decide))) rfl ?_
            refine w_t (np := 88) (l2 := [some (eR a0), some (eR a1), some (eI (i7)), some (eI (i28)), o30]) (s2 := [eI (i7), eR a1, eR a0]) rfl rfl rfl ?_
            refine w_cw (np := 91) (as := [eI (i7)]) (l2 := [some (eR a1), some (eI (i7))]) (rest := [eR a0]) rfl rfl rfl (Nat.ble_eq.mp rfl) rfl rfl rfl (I38.kd gA1 (by decide) (n := 7) rfl) rfl ?_
            refine s_129 (a1 := i7) I38 gA1 (by omega) ?_
            intro v41 b42
            show ex_q (dt_fg L ρ) rc (d + 5, (51, 91, [some (eR a0), some (eR a1), some (eI (i7)), some (eI (i28)), o30], [eI (v41), eR a0]), f :: F, m37)
            refine w_cw (np := 94) (as := [eI (v41)]) (l2 := [some (eR a0), some (eI (v41))]) (rest := []) rfl rfl rfl (Nat.ble_eq.mp rfl) rfl rfl rfl (I38.kd gA0 (by decide) (n := 2) rfl) rfl ?_
            refine s_54 (a1 := v41) I38 gA0 (by omega) ?_
            intro m43 I44 F45
            have F46 : Fr l_51 0 0 g μ m43 := F40.t F45 rfl
            show ex_q (dt_fg L ρ) rc (d + 5, (51, 94, [some (eR a0), some (eR a1), some (eI (i7)), some (eI (i28)), o30], []), f :: F, m43)
            refine w_t (np := 95) (l2 := [some (eR a0), some (eR a1), some (eI (i7)), some (eI (i28)), o30]) (s2 := [eR a0]) rfl (s_an rfl (pos_g I44 gA0 (by decide))) rfl ?_
            refine j_ls (np := 97) rfl rfl rfl ?_
            refine w_cw (np := 100) (as := [eR 7]) (l2 := [some (eR a0), some (eR 7), none]) (rest := []) rfl rfl rfl (Nat.ble_eq.mp rfl) rfl rfl rfl (I44.kd gA0 (by decide) (n := 2) rfl) rfl ?_
            refine s_53_7 I44 gA0 ?_
            intro m47 I48 F49
            have F50 : Fr l_51 0 0 g μ m47 := F46.t F49 rfl
            show ex_q (dt_fg L ρ) rc (d + 5, (51, 100, [some (eR a0), some (eR a1), some (eI (i7)), some (eI (i28)), o30], []), f :: F, m47)
            refine w_t (np := 101) (l2 := [some (eR a0), some (eR a1), some (eI (i7)), some (eI (i28)), o30]) (s2 := [eR a0]) rfl (s_an rfl (pos_g I48 gA0 (by decide))) rfl ?_
            refine w_t (np := 102) (l2 := [some (eR a0), some (eR a1), some (eI (i7)), some (eI (i28)), o30]) (s2 := [eR a1, eR a0]) rfl (s_an rfl (pos_g I48 gA1 (by decide))) rfl ?_
            refine w_t (np := 103) (l2 := [some (eR a0), some (eR a1), some (eI (i7)), some (eI (i28)), o30]) (s2 := [eI (i7), eR a1, eR a0]) rfl rfl rfl ?_
            refine w_cw (np := 106) (as := [eI (i7)]) (l2 := [some (eR a1), some (eI (i7))]) (rest := [eR a0]) rfl rfl rfl (Nat.ble_eq.mp rfl) rfl rfl rfl (I48.kd gA1 (by decide) (n := 7) rfl) rfl ?_
            refine s_130 (a1 := i7) I48 gA1 (by omega) ?_
            intro v51 b52
            show ex_q (dt_fg L ρ) rc (d + 5, (51, 106, [some (eR a0), some (eR a1), some (eI (i7)), some (eI (i28)), o30], [eI (v51), eR a0]), f :: F, m47)
            refine w_cw (np := 109) (as := [eI (v51)]) (l2 := [some (eR a0), some (eI (v51))]) (rest := []) rfl rfl rfl (Nat.ble_eq.mp rfl) rfl rfl rfl (I48.kd gA0 (by decide) (n := 2) rfl) rfl ?_
            refine s_54 (a1 := v51) I48 gA0 (by omega) ?_
            intro m53 I54 F55
            have F56 : Fr l_51 0 0 g μ m53 := F50.t F55 rfl
            show ex_q (dt_fg L ρ) rc (d + 5, (51, 109, [some (eR a0), some (eR a1), some (eI (i7)), some (eI (i28)), o30], []), f :: F, m53)
            refine w_t (np := 110) (l2 := [some (eR a0), some (eR a1), some (eI (i7)), some (eI (i28)), o30]) (s2 := [eR a0]) rfl (s_an rfl (pos_g I54 gA0 (by decide))) rfl ?_
            refine j_ls (np := 112) rfl rfl rfl ?_
            refine w_cw (np := 115) (as := [eR 8]) (l2 := [some (eR a0), some (eR 8), none]) (rest := []) rfl rfl rfl (Nat.ble_eq.mp rfl) rfl rfl rfl (I54.kd gA0 (by decide) (n := 2) rfl) rfl ?_
            refine s_53_8 I54 gA0 ?_
            intro m57 I58 F59
            have F60 : Fr l_51 0 0 g μ m57 := F56.t F59 rfl
            show ex_q (dt_fg L ρ) rc (d + 5, (51, 115, [some (eR a0), some (eR a1), some (eI (i7)), some (eI (i28)), o30], []), f :: F, m57)
            obtain ⟨v61, e62⟩ : ∃ zz : Int, zz = (i7) + (1) := ⟨_, rfl⟩
            have b63 : 1 ≤ v61 ∧ v61 ≤ 24 := by omega
            refine w_t (np := 118) (l2 := [some (eR a0), some (eR a1), some (eI (v61)), some (eI (i28)), o30]) (s2 := []) rfl (b_iinc rfl (by rw [← e62]; exact ev_w_in (by omega) (by omega)) rfl) rfl ?_
            refine w_go (t1 := 7) rfl rfl ?_
            exact ih6 (24 - (v61)).toNat (by omega) m57 (v61) (some (eI (i28))) (o30) I58 F60 (by omega)     rfl
          · have b37 : 0 ≤ i28 ∧ i28 ≤ 3 := by omega
            refine w_t (np := 42) (l2 := [some (eR a0), some (eR a1), some (eI (i7)), some (eI (i28)), o30]) (s2 := [eR a1]) rfl (s_an rfl (pos_g I32 gA1 (by decide))) rfl ?_
            refine w_t (np := 43) (l2 := [some (eR a0), some (eR a1), some (eI (i7)), some (eI (i28)), o30]) (s2 := [eI (i7), eR a1]) rfl rfl rfl ?_
            refine w_t (np := 44) (l2 := [some (eR a0), some (eR a1), some (eI (i7)), some (eI (i28)), o30]) (s2 := [eI (0), eI (i7), eR a1]) rfl rfl rfl ?_
            refine w_cw (np := 47) (as := [eI (i7), eI (0)]) (l2 := [some (eR a1), some (eI (i7)), some (eI (0))]) (rest := []) rfl rfl rfl (Nat.ble_eq.mp rfl) rfl rfl rfl (I32.kd gA1 (by decide) (n := 7) rfl) rfl ?_
            refine s_131 (a1 := i7) (a2 := 0) I32 gA1 (by omega) (by decide) ?_
            intro v37 b38
            show ex_q (dt_fg L ρ) rc (d + 5, (51, 47, [some (eR a0), some (eR a1), some (eI (i7)), some (eI (i28)), o30], [eJ (v37)]), f :: F, m31)
            refine w_t (np := 48) (l2 := [some (eR a0), some (eR a1), some (eI (i7)), some (eI (i28)), o30]) (s2 := [eI (i28), eJ (v37)]) rfl rfl rfl ?_
            refine w_cu (np := 51) (as := [eJ (v37), eI (i28)]) (l2 := [some (eJ (v37)), none, some (eI (i28))]) (rest := []) rfl rfl rfl (Nat.ble_eq.mp rfl) rfl rfl rfl rfl ?_
            refine s_73 (a2 := i28) I32 b38 (by omega) ?_
            intro v39 b40
            show ex_q (dt_fg L ρ) rc (d + 5, (51, 51, [some (eR a0), some (eR a1), some (eI (i7)), some (eI (i28)), o30], [eI (v39)]), f :: F, m31)
            refine w_t (np := 53) (l2 := [some (eR a0), some (eR a1), some (eI (i7)), some (eI (i28)), some (eI (v39))]) (s2 := []) rfl rfl rfl ?_
            refine w_t (np := 55) (l2 := [some (eR a0), some (eR a1), some (eI (i7)), some (eI (i28)), some (eI (v39))]) (s2 := [eI (v39)]) rfl rfl rfl ?_
            refine b_ige (t1 := 64) (t2 := 58) rfl rfl rfl (ev_w_in (by omega) (by omega)) (fun g41 => ?_) (fun g41 => ?_)
            · have b42 : 0 ≤ v39 ∧ v39 ≤ 32767 := by omega
              refine w_t (np := 65) (l2 := [some (eR a0), some (eR a1), some (eI (i7)), some (eI (i28)), some (eI (v39))]) (s2 := [eR a0]) rfl (s_an rfl (pos_g I32 gA0 (by decide))) rfl ?_
              refine w_t (np := 67) (l2 := [some (eR a0), some (eR a1), some (eI (i7)), some (eI (i28)), some (eI (v39))]) (s2 := [eI (v39), eR a0]) rfl rfl rfl ?_
              refine w_cu (np := 70) (as := [eI (v39)]) (l2 := [some (eI (v39))]) (rest := [eR a0]) rfl rfl rfl (Nat.ble_eq.mp rfl) rfl rfl rfl rfl ?_
              refine w_t (np := 1) (l2 := [some (eI (v39))]) (s2 := [eI (v39)]) rfl rfl rfl ?_
              refine b_ige (t1 := 9) (t2 := 4) rfl rfl rfl (ev_w_in (by omega) (by omega)) (fun g42 => ?_) (fun g42 => False.elim (by omega))
              refine w_t (np := 10) (l2 := [some (eI (v39))]) (s2 := [eI (v39)]) rfl rfl rfl ?_
              refine b_ri rfl rfl ?_
              show ex_q (dt_fg L ρ) rc (d + 5, (51, 70, [some (eR a0), some (eR a1), some (eI (i7)), some (eI (i28)), some (eI (v39))], [eI (v39), eR a0]), f :: F, m31)
              refine w_cw (np := 73) (as := [eI (v39)]) (l2 := [some (eR a0), some (eI (v39))]) (rest := []) rfl rfl rfl (Nat.ble_eq.mp rfl) rfl rfl rfl (I32.kd gA0 (by decide) (n := 2) rfl) rfl ?_
              refine s_54 (a1 := v39) I32 gA0 (by omega) ?_
              intro m43 I44 F45
              have F46 : Fr l_51 0 0 g μ m43 := F33.t F45 rfl
              show ex_q (dt_fg L ρ) rc (d + 5, (51, 73, [some (eR a0), some (eR a1), some (eI (i7)), some (eI (i28)), some (eI (v39))], []), f :: F, m43)
              obtain ⟨v47, e48⟩ : ∃ zz : Int, zz = (i28) + (1) := ⟨_, rfl⟩
              have b49 : 1 ≤ v47 ∧ v47 ≤ 4 := by omega
              refine w_t (np := 76) (l2 := [some (eR a0), some (eR a1), some (eI (i7)), some (eI (v47)), some (eI (v39))]) (s2 := []) rfl (b_iinc rfl (by rw [← e48]; exact ev_w_in (by omega) (by omega)) rfl) rfl ?_
              refine w_go (t1 := 36) rfl rfl ?_
              exact ih27 (4 - (v47)).toNat (by omega) m43 (v47) (some (eI (v39))) I44 F46 (by omega) (F45.k k34 gA1 (by decide) rfl)    rfl
            · have b42 : -32768 ≤ v39 ∧ v39 ≤ -1 := by omega
              refine w_t (np := 59) (l2 := [some (eR a0), some (eR a1), some (eI (i7)), some (eI (i28)), some (eI (v39))]) (s2 := [eR a0]) rfl (s_an rfl (pos_g I32 gA0 (by decide))) rfl ?_
              refine j_ls (np := 61) rfl rfl rfl ?_
              refine w_cw (np := 64) (as := [eR 5]) (l2 := [some (eR a0), some (eR 5), none]) (rest := []) rfl rfl rfl (Nat.ble_eq.mp rfl) rfl rfl rfl (I32.kd gA0 (by decide) (n := 2) rfl) rfl ?_
              refine s_53_5 I32 gA0 ?_
              intro m42 I43 F44
              have F45 : Fr l_51 0 0 g μ m42 := F33.t F44 rfl
              show ex_q (dt_fg L ρ) rc (d + 5, (51, 64, [some (eR a0), some (eR a1), some (eI (i7)), some (eI (i28)), some (eI (v39))], []), f :: F, m42)
              refine w_t (np := 65) (l2 := [some (eR a0), some (eR a1), some (eI (i7)), some (eI (i28)), some (eI (v39))]) (s2 := [eR a0]) rfl (s_an rfl (pos_g I43 gA0 (by decide))) rfl ?_
              refine w_t (np := 67) (l2 := [some (eR a0), some (eR a1), some (eI (i7)), some (eI (i28)), some (eI (v39))]) (s2 := [eI (v39), eR a0]) rfl rfl rfl ?_
              refine w_cu (np := 70) (as := [eI (v39)]) (l2 := [some (eI (v39))]) (rest := [eR a0]) rfl rfl rfl (Nat.ble_eq.mp rfl) rfl rfl rfl rfl ?_
              refine w_t (np := 1) (l2 := [some (eI (v39))]) (s2 := [eI (v39)]) rfl rfl rfl ?_
              refine b_ige (t1 := 9) (t2 := 4) rfl rfl rfl (ev_w_in (by omega) (by omega)) (fun g46 => False.elim (by omega)) (fun g46 => ?_)
              refine w_t (np := 5) (l2 := [some (eI (v39))]) (s2 := [eI (v39)]) rfl rfl rfl ?_
              obtain ⟨v47, e48⟩ : ∃ zz : Int, zz = -(v39) := ⟨_, rfl⟩
              have b49 : 1 ≤ v47 ∧ v47 ≤ 32768 := by omega
              refine w_t (np := 6) (l2 := [some (eI (v39))]) (s2 := [eI (v47)]) rfl (b_ineg (by rw [← e48]; exact ev_w_in (by omega) (by omega))) rfl ?_
              refine w_go (t1 := 10) rfl rfl ?_
              refine b_ri rfl rfl ?_
              show ex_q (dt_fg L ρ) rc (d + 5, (51, 70, [some (eR a0), some (eR a1), some (eI (i7)), some (eI (i28)), some (eI (v39))], [eI (v47), eR a0]), f :: F, m42)
              refine w_cw (np := 73) (as := [eI (v47)]) (l2 := [some (eR a0), some (eI (v47))]) (rest := []) rfl rfl rfl (Nat.ble_eq.mp rfl) rfl rfl rfl (I43.kd gA0 (by decide) (n := 2) rfl) rfl ?_
              refine s_54 (a1 := v47) I43 gA0 (by omega) ?_
              intro m50 I51 F52
              have F53 : Fr l_51 0 0 g μ m50 := F45.t F52 rfl
              show ex_q (dt_fg L ρ) rc (d + 5, (51, 73, [some (eR a0), some (eR a1), some (eI (i7)), some (eI (i28)), some (eI (v39))], []), f :: F, m50)
              obtain ⟨v54, e55⟩ : ∃ zz : Int, zz = (i28) + (1) := ⟨_, rfl⟩
              have b56 : 1 ≤ v54 ∧ v54 ≤ 4 := by omega
              refine w_t (np := 76) (l2 := [some (eR a0), some (eR a1), some (eI (i7)), some (eI (v54)), some (eI (v39))]) (s2 := []) rfl (b_iinc rfl (by rw [← e55]; exact ev_w_in (by omega) (by omega)) rfl) rfl ?_
              refine w_go (t1 := 36) rfl rfl ?_
              exact ih27 (4 - (v54)).toNat (by omega) m50 (v54) (some (eI (v39))) I51 F53 (by omega) (F52.k (F44.k k34 gA1 (by decide) rfl) gA1 (by decide) rfl)    rfl
        exact hL36 _ m22 (0) (o10) I23 F25 (by decide) (F24.k e16 gA1 (by decide) rfl)    rfl
  exact hL7 _ m1 (0) (none) (none) I2 F4 (by decide)     rfl
def l_202 : List Nat := [6914, 7168, 270]
theorem s_202 {L : Nat} {ρ : Nat → Int} {rc : eQ} {d : Nat} {f : eFr} {F : List eFr} {μ : eM} {g : Nat → Nat} {a0 : Nat} (hI : SI g μ) (gA0 : g a0 = 1) (K : ∀ (μ2 : eM) (v : Int), SI g μ2 → Fr l_202 0 0 g μ μ2 → (-2147483648 ≤ v ∧ v ≤ 2147483647) → ex_q (dt_fg L ρ) rc (d + 7, (f.1, f.2.1, f.2.2.1, eI v :: f.2.2.2), F, μ2)) : ex_q (dt_fg L ρ) rc (d + 6, (202, 0, [some (eR a0)], []), f :: F, μ) := by
  have F0 : Fr l_202 0 0 g μ μ := Fr.r
  refine w_t (np := 1) (l2 := [some (eR a0)]) (s2 := [eR a0]) rfl (s_an rfl (pos_g hI gA0 (by decide))) rfl ?_
  refine j_gr (np := 4) rfl rfl hI gA0 (by decide) (n := 14) rfl rfl rfl ?_
  intro v1 e2 b3 z4
  have b3 : g v1 = 27 := Nat.eq_of_beq_eq_true b3
  refine w_t (np := 5) (l2 := [some (eR a0)]) (s2 := [eR a0, eR v1]) rfl (s_an rfl (pos_g hI gA0 (by decide))) rfl ?_
  refine j_gr (np := 8) rfl rfl hI gA0 (by decide) (n := 14) rfl rfl rfl ?_
  intro v5 e6 b7 z8
  have b7 : g v5 = 29 := Nat.eq_of_beq_eq_true b7
  refine w_cw (np := 11) (as := [eR v5]) (l2 := [some (eR v1), some (eR v5), none, none, none]) (rest := []) rfl rfl rfl (Nat.ble_eq.mp rfl) rfl rfl rfl (hI.kd b3 (by decide) (n := 2) rfl) rfl ?_
  refine s_51 hI b3 b7 ?_
  intro m9 I10 F11
  have F12 : Fr l_202 0 0 g μ m9 := F0.t F11 rfl
  show ex_q (dt_fg L ρ) rc (d + 6, (202, 11, [some (eR a0)], []), f :: F, m9)
  refine w_t (np := 12) (l2 := [some (eR a0)]) (s2 := [eR a0]) rfl (s_an rfl (pos_g I10 gA0 (by decide))) rfl ?_
  refine w_t (np := 13) (l2 := [some (eR a0)]) (s2 := [eR a0, eR a0]) rfl (s_an rfl (pos_g I10 gA0 (by decide))) rfl ?_
  refine w_gf (np := 16) (v := eR v1) rfl rfl (I10.kd gA0 (by decide) (n := 14) rfl) (by rw [(F11.k e2 gA0 (by decide) rfl)]; rfl) ?_
  refine j_gi (np := 19) rfl rfl rfl I10 b3 (by decide) (n := 2) rfl rfl (lo := 0) (hi := 1056) rfl ?_
  intro v13 e14 b15
  refine w_cw (np := 22) (as := [eI (v13)]) (l2 := [some (eR a0), some (eI (v13))]) (rest := []) rfl rfl rfl (Nat.ble_eq.mp rfl) rfl rfl rfl (I10.kd gA0 (by decide) (n := 14) rfl) rfl ?_
  refine w_t (np := 1) (l2 := [some (eR a0), some (eI (v13))]) (s2 := [eR a0]) rfl (s_an rfl (pos_g I10 gA0 (by decide))) rfl ?_
  refine w_t (np := 2) (l2 := [some (eR a0), some (eI (v13))]) (s2 := [eI (0), eR a0]) rfl rfl rfl ?_
  refine j_pf (np := 5) (w := 0) rfl rfl I10 gA0 (by decide) (n := 14) rfl rfl (hO_i (lo := -2147483648) (hi := 2147483647) rfl (by decide)) ?_
  intro m16 I17 W18
  have F19 : Fr l_202 0 0 g μ m16 := F12.w W18 gA0 rfl
  refine w_t (np := 6) (l2 := [some (eR a0), some (eI (v13))]) (s2 := [eI (v13)]) rfl rfl rfl ?_
  refine b_ri rfl rfl ?_
  show ex_q (dt_fg L ρ) rc (d + 6, (202, 22, [some (eR a0)], [eI (v13)]), f :: F, m16)
  exact b_ri rfl rfl (K m16 (v13) I17 F19 (by omega))
theorem s_70_9 {L : Nat} {ρ : Nat → Int} {rc : eQ} {d : Nat} {f : eFr} {F : List eFr} {μ : eM} {g : Nat → Nat} {a0 : Nat} (hI : SI g μ) (gA0 : g a0 = 24) (K : ∀ (v : Int), (0 ≤ v ∧ v ≤ 1) → ex_q (dt_fg L ρ) rc (d + 5, (f.1, f.2.1, f.2.2.1, eI v :: f.2.2.2), F, μ)) : ex_q (dt_fg L ρ) rc (d + 4, (70, 0, [some (eR a0), some (eR 9), none], []), f :: F, μ) := by
  refine w_t (np := 1) (l2 := [some (eR a0), some (eR 9), none]) (s2 := [eR a0]) rfl (s_an rfl (pos_g hI gA0 (by decide))) rfl ?_
  refine j_gi (np := 4) rfl rfl rfl hI gA0 (by decide) (n := 11) rfl rfl (lo := -2147483648) (hi := 2147483647) rfl ?_
  intro v1 e2 b3
  refine w_t (np := 5) (l2 := [some (eR a0), some (eR 9), none]) (s2 := [eI (1), eI (v1)]) rfl rfl rfl ?_
  refine b_cne (t1 := 24) (t2 := 8) rfl rfl rfl (ev_w_in (by omega) (by omega)) rfl (fun g4 => ?_) (fun g4 => ?_)
  · refine w_t (np := 25) (l2 := [some (eR a0), some (eR 9), none]) (s2 := [eI (0)]) rfl rfl rfl ?_
    exact b_rz rfl rfl (Or.inl rfl) (K (0) (by decide))
  · have b5 : 1 ≤ v1 ∧ v1 ≤ 1 := by omega
    refine w_t (np := 9) (l2 := [some (eR a0), some (eR 9), none]) (s2 := [eR a0]) rfl (s_an rfl (pos_g hI gA0 (by decide))) rfl ?_
    refine j_gi (np := 12) rfl rfl rfl hI gA0 (by decide) (n := 11) rfl rfl (lo := 0) (hi := 900) rfl ?_
    intro v5 e6 b7
    refine w_t (np := 13) (l2 := [some (eR a0), some (eR 9), none]) (s2 := [eR a0, eI (v5)]) rfl (s_an rfl (pos_g hI gA0 (by decide))) rfl ?_
    refine j_gi (np := 16) rfl rfl rfl hI gA0 (by decide) (n := 11) rfl rfl (lo := 0) (hi := 900) rfl ?_
    intro v8 e9 b10
    obtain ⟨v11, e12⟩ : ∃ zz : Int, zz = (v5) - (v8) := ⟨_, rfl⟩
    have b13 : -900 ≤ v11 ∧ v11 ≤ 900 := by omega
    refine w_t (np := 17) (l2 := [some (eR a0), some (eR 9), none]) (s2 := [eI (v11)]) rfl (b_isub (by rw [← e12]; exact ev_w_in (by omega) (by omega))) rfl ?_
    refine w_t (np := 18) (l2 := [some (eR a0), some (eR 9), none]) (s2 := [eR 9, eI (v11)]) rfl (s_an rfl (by decide)) rfl ?_
    refine j_sn (np := 21) (n := 4) rfl rfl (by omega) rfl rfl rfl rfl ?_
    rw [show ((4 : Nat) : Int) = 4 from rfl]
    refine b_ceq (t1 := 26) (t2 := 24) rfl rfl rfl (ev_w_in (by omega) (by omega)) rfl (fun g14 => ?_) (fun g14 => ?_)
    · have b15 : 4 ≤ v11 ∧ v11 ≤ 4 := by omega
      refine w_t (np := 27) (l2 := [some (eR a0), some (eR 9), none]) (s2 := [eI (0)]) rfl rfl rfl ?_
      refine w_t (np := 28) (l2 := [some (eR a0), some (eR 9), some (eI (0))]) (s2 := []) rfl rfl rfl ?_
      have hL28 : ∀ (n15 : Nat) (i17 : Int), (0 ≤ i17 ∧ i17 ≤ 4) → n15 = (4 - i17).toNat → ex_q (dt_fg L ρ) rc (d + 4, (70, 28, [some (eR a0), some (eR 9), some (eI (i17))], []), f :: F, μ) := by
        intro n15
        induction n15 using Nat.strongRecOn with
        | _ n15 ih16 =>
        intro i17 b18 hn19
        refine w_t (np := 29) (l2 := [some (eR a0), some (eR 9), some (eI (i17))]) (s2 := [eI (i17)]) rfl rfl rfl ?_
        refine w_t (np := 30) (l2 := [some (eR a0), some (eR 9), some (eI (i17))]) (s2 := [eR 9, eI (i17)]) rfl (s_an rfl (by decide)) rfl ?_
        refine j_sn (np := 33) (n := 4) rfl rfl (by omega) rfl rfl rfl rfl ?_
        rw [show ((4 : Nat) : Int) = 4 from rfl]
        refine b_cge (t1 := 62) (t2 := 36) rfl rfl rfl (ev_w_in (by omega) (by omega)) rfl (fun g20 => ?_) (fun g20 => ?_)
        · have b21 : 4 ≤ i17 ∧ i17 ≤ 4 := by omega
          refine w_t (np := 63) (l2 := [some (eR a0), some (eR 9), some (eI (i17))]) (s2 := [eI (1)]) rfl rfl rfl ?_
          exact b_rz rfl rfl (Or.inr rfl) (K (1) (by decide))
        · have b21 : 0 ≤ i17 ∧ i17 ≤ 3 := by omega
          refine w_t (np := 37) (l2 := [some (eR a0), some (eR 9), some (eI (i17))]) (s2 := [eR a0]) rfl (s_an rfl (pos_g hI gA0 (by decide))) rfl ?_
          refine w_t (np := 38) (l2 := [some (eR a0), some (eR 9), some (eI (i17))]) (s2 := [eR a0, eR a0]) rfl (s_an rfl (pos_g hI gA0 (by decide))) rfl ?_
          refine w_gf (np := 41) (v := eI (v8)) rfl rfl (hI.kd gA0 (by decide) (n := 11) rfl) (by rw [e9]; rfl) ?_
          refine w_t (np := 42) (l2 := [some (eR a0), some (eR 9), some (eI (i17))]) (s2 := [eI (i17), eI (v8), eR a0]) rfl rfl rfl ?_
          obtain ⟨v21, e22⟩ : ∃ zz : Int, zz = (v8) + (i17) := ⟨_, rfl⟩
          have b23 : 0 ≤ v21 ∧ v21 ≤ 903 := by omega
          refine w_t (np := 43) (l2 := [some (eR a0), some (eR 9), some (eI (i17))]) (s2 := [eI (v21), eR a0]) rfl (b_iadd (by rw [← e22]; exact ev_w_in (by omega) (by omega))) rfl ?_
          refine w_cw (np := 46) (as := [eI (v21)]) (l2 := [some (eR a0), some (eI (v21))]) (rest := []) rfl rfl rfl (Nat.ble_eq.mp rfl) rfl rfl rfl (hI.kd gA0 (by decide) (n := 11) rfl) rfl ?_
          obtain ⟨v24, e25, b26⟩ := hI.pk (k := 3) gA0 (by decide) (n := 11) rfl rfl (lo := 0) (hi := 900) rfl
          refine s_64 (a1 := v21) hI gA0 (by omega) e25 ?_
          intro v27 b28 h29
          show ex_q (dt_fg L ρ) rc (d + 4, (70, 46, [some (eR a0), some (eR 9), some (eI (i17))], [eI (v27)]), f :: F, μ)
          refine w_t (np := 47) (l2 := [some (eR a0), some (eR 9), some (eI (i17))]) (s2 := [eR 9, eI (v27)]) rfl (s_an rfl (by decide)) rfl ?_
          refine w_t (np := 48) (l2 := [some (eR a0), some (eR 9), some (eI (i17))]) (s2 := [eI (i17), eR 9, eI (v27)]) rfl rfl rfl ?_
          refine j_sc (np := 51) (n := 4) (lo := 104) (hi := 116) rfl rfl (by omega) rfl rfl (by omega) (by omega) rfl rfl ?_
          intro v30 b31
          refine b_ceq (t1 := 56) (t2 := 54) rfl rfl rfl (ev_w_in (by omega) (by omega)) (ev_w_in (by omega) (by omega)) (fun g32 => ?_) (fun g32 => ?_)
          · have b33 : 104 ≤ v27 ∧ v27 ≤ 116 := by omega
            obtain ⟨v33, e34⟩ : ∃ zz : Int, zz = (i17) + (1) := ⟨_, rfl⟩
            have b35 : 1 ≤ v33 ∧ v33 ≤ 4 := by omega
            refine w_t (np := 59) (l2 := [some (eR a0), some (eR 9), some (eI (v33))]) (s2 := []) rfl (b_iinc rfl (by rw [← e34]; exact ev_w_in (by omega) (by omega)) rfl) rfl ?_
            refine w_go (t1 := 28) rfl rfl ?_
            exact ih16 (4 - (v33)).toNat (by omega) (v33) (by omega)     rfl
          · refine w_t (np := 55) (l2 := [some (eR a0), some (eR 9), some (eI (i17))]) (s2 := [eI (0)]) rfl rfl rfl ?_
            exact b_rz rfl rfl (Or.inl rfl) (K (0) (by decide))
      exact hL28 _ (0) (by decide)     rfl
    · refine w_t (np := 25) (l2 := [some (eR a0), some (eR 9), none]) (s2 := [eI (0)]) rfl rfl rfl ?_
      exact b_rz rfl rfl (Or.inl rfl) (K (0) (by decide))
theorem s_70_10 {L : Nat} {ρ : Nat → Int} {rc : eQ} {d : Nat} {f : eFr} {F : List eFr} {μ : eM} {g : Nat → Nat} {a0 : Nat} (hI : SI g μ) (gA0 : g a0 = 24) (K : ∀ (v : Int), (0 ≤ v ∧ v ≤ 1) → ex_q (dt_fg L ρ) rc (d + 5, (f.1, f.2.1, f.2.2.1, eI v :: f.2.2.2), F, μ)) : ex_q (dt_fg L ρ) rc (d + 4, (70, 0, [some (eR a0), some (eR 10), none], []), f :: F, μ) := by
  refine w_t (np := 1) (l2 := [some (eR a0), some (eR 10), none]) (s2 := [eR a0]) rfl (s_an rfl (pos_g hI gA0 (by decide))) rfl ?_
  refine j_gi (np := 4) rfl rfl rfl hI gA0 (by decide) (n := 11) rfl rfl (lo := -2147483648) (hi := 2147483647) rfl ?_
  intro v1 e2 b3
  refine w_t (np := 5) (l2 := [some (eR a0), some (eR 10), none]) (s2 := [eI (1), eI (v1)]) rfl rfl rfl ?_
  refine b_cne (t1 := 24) (t2 := 8) rfl rfl rfl (ev_w_in (by omega) (by omega)) rfl (fun g4 => ?_) (fun g4 => ?_)
  · refine w_t (np := 25) (l2 := [some (eR a0), some (eR 10), none]) (s2 := [eI (0)]) rfl rfl rfl ?_
    exact b_rz rfl rfl (Or.inl rfl) (K (0) (by decide))
  · have b5 : 1 ≤ v1 ∧ v1 ≤ 1 := by omega
    refine w_t (np := 9) (l2 := [some (eR a0), some (eR 10), none]) (s2 := [eR a0]) rfl (s_an rfl (pos_g hI gA0 (by decide))) rfl ?_
    refine j_gi (np := 12) rfl rfl rfl hI gA0 (by decide) (n := 11) rfl rfl (lo := 0) (hi := 900) rfl ?_
    intro v5 e6 b7
    refine w_t (np := 13) (l2 := [some (eR a0), some (eR 10), none]) (s2 := [eR a0, eI (v5)]) rfl (s_an rfl (pos_g hI gA0 (by decide))) rfl ?_
    refine j_gi (np := 16) rfl rfl rfl hI gA0 (by decide) (n := 11) rfl rfl (lo := 0) (hi := 900) rfl ?_
    intro v8 e9 b10
    obtain ⟨v11, e12⟩ : ∃ zz : Int, zz = (v5) - (v8) := ⟨_, rfl⟩
    have b13 : -900 ≤ v11 ∧ v11 ≤ 900 := by omega
    refine w_t (np := 17) (l2 := [some (eR a0), some (eR 10), none]) (s2 := [eI (v11)]) rfl (b_isub (by rw [← e12]; exact ev_w_in (by omega) (by omega))) rfl ?_
    refine w_t (np := 18) (l2 := [some (eR a0), some (eR 10), none]) (s2 := [eR 10, eI (v11)]) rfl (s_an rfl (by decide)) rfl ?_
    refine j_sn (np := 21) (n := 5) rfl rfl (by omega) rfl rfl rfl rfl ?_
    rw [show ((5 : Nat) : Int) = 5 from rfl]
    refine b_ceq (t1 := 26) (t2 := 24) rfl rfl rfl (ev_w_in (by omega) (by omega)) rfl (fun g14 => ?_) (fun g14 => ?_)
    · have b15 : 5 ≤ v11 ∧ v11 ≤ 5 := by omega
      refine w_t (np := 27) (l2 := [some (eR a0), some (eR 10), none]) (s2 := [eI (0)]) rfl rfl rfl ?_
      refine w_t (np := 28) (l2 := [some (eR a0), some (eR 10), some (eI (0))]) (s2 := []) rfl rfl rfl ?_
      have hL28 : ∀ (n15 : Nat) (i17 : Int), (0 ≤ i17 ∧ i17 ≤ 5) → n15 = (5 - i17).toNat → ex_q (dt_fg L ρ) rc (d + 4, (70, 28, [some (eR a0), some (eR 10), some (eI (i17))], []), f :: F, μ) := by
        intro n15
        induction n15 using Nat.strongRecOn with
        | _ n15 ih16 =>
        intro i17 b18 hn19
        refine w_t (np := 29) (l2 := [some (eR a0), some (eR 10), some (eI (i17))]) (s2 := [eI (i17)]) rfl rfl rfl ?_
        refine w_t (np := 30) (l2 := [some (eR a0), some (eR 10), some (eI (i17))]) (s2 := [eR 10, eI (i17)]) rfl (s_an rfl (by decide)) rfl ?_
        refine j_sn (np := 33) (n := 5) rfl rfl (by omega) rfl rfl rfl rfl ?_
        rw [show ((5 : Nat) : Int) = 5 from rfl]
        refine b_cge (t1 := 62) (t2 := 36) rfl rfl rfl (ev_w_in (by omega) (by omega)) rfl (fun g20 => ?_) (fun g20 => ?_)
        · have b21 : 5 ≤ i17 ∧ i17 ≤ 5 := by omega
          refine w_t (np := 63) (l2 := [some (eR a0), some (eR 10), some (eI (i17))]) (s2 := [eI (1)]) rfl rfl rfl ?_
          exact b_rz rfl rfl (Or.inr rfl) (K (1) (by decide))
        · have b21 : 0 ≤ i17 ∧ i17 ≤ 4 := by omega
          refine w_t (np := 37) (l2 := [some (eR a0), some (eR 10), some (eI (i17))]) (s2 := [eR a0]) rfl (s_an rfl (pos_g hI gA0 (by decide))) rfl ?_
          refine w_t (np := 38) (l2 := [some (eR a0), some (eR 10), some (eI (i17))]) (s2 := [eR a0, eR a0]) rfl (s_an rfl (pos_g hI gA0 (by decide))) rfl ?_
          refine w_gf (np := 41) (v := eI (v8)) rfl rfl (hI.kd gA0 (by decide) (n := 11) rfl) (by rw [e9]; rfl) ?_
          refine w_t (np := 42) (l2 := [some (eR a0), some (eR 10), some (eI (i17))]) (s2 := [eI (i17), eI (v8), eR a0]) rfl rfl rfl ?_
          obtain ⟨v21, e22⟩ : ∃ zz : Int, zz = (v8) + (i17) := ⟨_, rfl⟩
          have b23 : 0 ≤ v21 ∧ v21 ≤ 904 := by omega
          refine w_t (np := 43) (l2 := [some (eR a0), some (eR 10), some (eI (i17))]) (s2 := [eI (v21), eR a0]) rfl (b_iadd (by rw [← e22]; exact ev_w_in (by omega) (by omega))) rfl ?_
          refine w_cw (np := 46) (as := [eI (v21)]) (l2 := [some (eR a0), some (eI (v21))]) (rest := []) rfl rfl rfl (Nat.ble_eq.mp rfl) rfl rfl rfl (hI.kd gA0 (by decide) (n := 11) rfl) rfl ?_
          obtain ⟨v24, e25, b26⟩ := hI.pk (k := 3) gA0 (by decide) (n := 11) rfl rfl (lo := 0) (hi := 900) rfl
          refine s_64 (a1 := v21) hI gA0 (by omega) e25 ?_
          intro v27 b28 h29
          show ex_q (dt_fg L ρ) rc (d + 4, (70, 46, [some (eR a0), some (eR 10), some (eI (i17))], [eI (v27)]), f :: F, μ)
          refine w_t (np := 47) (l2 := [some (eR a0), some (eR 10), some (eI (i17))]) (s2 := [eR 10, eI (v27)]) rfl (s_an rfl (by decide)) rfl ?_
          refine w_t (np := 48) (l2 := [some (eR a0), some (eR 10), some (eI (i17))]) (s2 := [eI (i17), eR 10, eI (v27)]) rfl rfl rfl ?_
          refine j_sc (np := 51) (n := 5) (lo := 99) (hi := 116) rfl rfl (by omega) rfl rfl (by omega) (by omega) rfl rfl ?_
          intro v30 b31
          refine b_ceq (t1 := 56) (t2 := 54) rfl rfl rfl (ev_w_in (by omega) (by omega)) (ev_w_in (by omega) (by omega)) (fun g32 => ?_) (fun g32 => ?_)
          · have b33 : 99 ≤ v27 ∧ v27 ≤ 116 := by omega
            obtain ⟨v33, e34⟩ : ∃ zz : Int, zz = (i17) + (1) := ⟨_, rfl⟩
            have b35 : 1 ≤ v33 ∧ v33 ≤ 5 := by omega
            refine w_t (np := 59) (l2 := [some (eR a0), some (eR 10), some (eI (v33))]) (s2 := []) rfl (b_iinc rfl (by rw [← e34]; exact ev_w_in (by omega) (by omega)) rfl) rfl ?_
            refine w_go (t1 := 28) rfl rfl ?_
            exact ih16 (5 - (v33)).toNat (by omega) (v33) (by omega)     rfl
          · refine w_t (np := 55) (l2 := [some (eR a0), some (eR 10), some (eI (i17))]) (s2 := [eI (0)]) rfl rfl rfl ?_
            exact b_rz rfl rfl (Or.inl rfl) (K (0) (by decide))
      exact hL28 _ (0) (by decide)     rfl
    · refine w_t (np := 25) (l2 := [some (eR a0), some (eR 10), none]) (s2 := [eI (0)]) rfl rfl rfl ?_
      exact b_rz rfl rfl (Or.inl rfl) (K (0) (by decide))
theorem s_70_11 {L : Nat} {ρ : Nat → Int} {rc : eQ} {d : Nat} {f : eFr} {F : List eFr} {μ : eM} {g : Nat → Nat} {a0 : Nat} (hI : SI g μ) (gA0 : g a0 = 24) (K : ∀ (v : Int), (0 ≤ v ∧ v ≤ 1) → ex_q (dt_fg L ρ) rc (d + 5, (f.1, f.2.1, f.2.2.1, eI v :: f.2.2.2), F, μ)) : ex_q (dt_fg L ρ) rc (d + 4, (70, 0, [some (eR a0), some (eR 11), none], []), f :: F, μ) := by
  refine w_t (np := 1) (l2 := [some (eR a0), some (eR 11), none]) (s2 := [eR a0]) rfl (s_an rfl (pos_g hI gA0 (by decide))) rfl ?_
  refine j_gi (np := 4) rfl rfl rfl hI gA0 (by decide) (n := 11) rfl rfl (lo := -2147483648) (hi := 2147483647) rfl ?_
  intro v1 e2 b3
  refine w_t (np := 5) (l2 := [some (eR a0), some (eR 11), none]) (s2 := [eI (1), eI (v1)]) rfl rfl rfl ?_
  refine b_cne (t1 := 24) (t2 := 8) rfl rfl rfl (ev_w_in (by omega) (by omega)) rfl (fun g4 => ?_) (fun g4 => ?_)
  · refine w_t (np := 25) (l2 := [some (eR a0), some (eR 11), none]) (s2 := [eI (0)]) rfl rfl rfl ?_
    exact b_rz rfl rfl (Or.inl rfl) (K (0) (by decide))
  · have b5 : 1 ≤ v1 ∧ v1 ≤ 1 := by omega
    refine w_t (np := 9) (l2 := [some (eR a0), some (eR 11), none]) (s2 := [eR a0]) rfl (s_an rfl (pos_g hI gA0 (by decide))) rfl ?_
    refine j_gi (np := 12) rfl rfl rfl hI gA0 (by decide) (n := 11) rfl rfl (lo := 0) (hi := 900) rfl ?_
    intro v5 e6 b7
    refine w_t (np := 13) (l2 := [some (eR a0), some (eR 11), none]) (s2 := [eR a0, eI (v5)]) rfl (s_an rfl (pos_g hI gA0 (by decide))) rfl ?_
    refine j_gi (np := 16) rfl rfl rfl hI gA0 (by decide) (n := 11) rfl rfl (lo := 0) (hi := 900) rfl ?_
    intro v8 e9 b10
    obtain ⟨v11, e12⟩ : ∃ zz : Int, zz = (v5) - (v8) := ⟨_, rfl⟩
    have b13 : -900 ≤ v11 ∧ v11 ≤ 900 := by omega
    refine w_t (np := 17) (l2 := [some (eR a0), some (eR 11), none]) (s2 := [eI (v11)]) rfl (b_isub (by rw [← e12]; exact ev_w_in (by omega) (by omega))) rfl ?_
    refine w_t (np := 18) (l2 := [some (eR a0), some (eR 11), none]) (s2 := [eR 11, eI (v11)]) rfl (s_an rfl (by decide)) rfl ?_
    refine j_sn (np := 21) (n := 4) rfl rfl (by omega) rfl rfl rfl rfl ?_
    rw [show ((4 : Nat) : Int) = 4 from rfl]
    refine b_ceq (t1 := 26) (t2 := 24) rfl rfl rfl (ev_w_in (by omega) (by omega)) rfl (fun g14 => ?_) (fun g14 => ?_)
    · have b15 : 4 ≤ v11 ∧ v11 ≤ 4 := by omega
      refine w_t (np := 27) (l2 := [some (eR a0), some (eR 11), none]) (s2 := [eI (0)]) rfl rfl rfl ?_
      refine w_t (np := 28) (l2 := [some (eR a0), some (eR 11), some (eI (0))]) (s2 := []) rfl rfl rfl ?_
      have hL28 : ∀ (n15 : Nat) (i17 : Int), (0 ≤ i17 ∧ i17 ≤ 4) → n15 = (4 - i17).toNat → ex_q (dt_fg L ρ) rc (d + 4, (70, 28, [some (eR a0), some (eR 11), some (eI (i17))], []), f :: F, μ) := by
        intro n15
        induction n15 using Nat.strongRecOn with
        | _ n15 ih16 =>
        intro i17 b18 hn19
        refine w_t (np := 29) (l2 := [some (eR a0), some (eR 11), some (eI (i17))]) (s2 := [eI (i17)]) rfl rfl rfl ?_
        refine w_t (np := 30) (l2 := [some (eR a0), some (eR 11), some (eI (i17))]) (s2 := [eR 11, eI (i17)]) rfl (s_an rfl (by decide)) rfl ?_
        refine j_sn (np := 33) (n := 4) rfl rfl (by omega) rfl rfl rfl rfl ?_
        rw [show ((4 : Nat) : Int) = 4 from rfl]
        refine b_cge (t1 := 62) (t2 := 36) rfl rfl rfl (ev_w_in (by omega) (by omega)) rfl (fun g20 => ?_) (fun g20 => ?_)
        · have b21 : 4 ≤ i17 ∧ i17 ≤ 4 := by omega
          refine w_t (np := 63) (l2 := [some (eR a0), some (eR 11), some (eI (i17))]) (s2 := [eI (1)]) rfl rfl rfl ?_
          exact b_rz rfl rfl (Or.inr rfl) (K (1) (by decide))
        · have b21 : 0 ≤ i17 ∧ i17 ≤ 3 := by omega
          refine w_t (np := 37) (l2 := [some (eR a0), some (eR 11), some (eI (i17))]) (s2 := [eR a0]) rfl (s_an rfl (pos_g hI gA0 (by decide))) rfl ?_
          refine w_t (np := 38) (l2 := [some (eR a0), some (eR 11), some (eI (i17))]) (s2 := [eR a0, eR a0]) rfl (s_an rfl (pos_g hI gA0 (by decide))) rfl ?_
          refine w_gf (np := 41) (v := eI (v8)) rfl rfl (hI.kd gA0 (by decide) (n := 11) rfl) (by rw [e9]; rfl) ?_
          refine w_t (np := 42) (l2 := [some (eR a0), some (eR 11), some (eI (i17))]) (s2 := [eI (i17), eI (v8), eR a0]) rfl rfl rfl ?_
          obtain ⟨v21, e22⟩ : ∃ zz : Int, zz = (v8) + (i17) := ⟨_, rfl⟩
          have b23 : 0 ≤ v21 ∧ v21 ≤ 903 := by omega
          refine w_t (np := 43) (l2 := [some (eR a0), some (eR 11), some (eI (i17))]) (s2 := [eI (v21), eR a0]) rfl (b_iadd (by rw [← e22]; exact ev_w_in (by omega) (by omega))) rfl ?_
          refine w_cw (np := 46) (as := [eI (v21)]) (l2 := [some (eR a0), some (eI (v21))]) (rest := []) rfl rfl rfl (Nat.ble_eq.mp rfl) rfl rfl rfl (hI.kd gA0 (by decide) (n := 11) rfl) rfl ?_
          obtain ⟨v24, e25, b26⟩ := hI.pk (k := 3) gA0 (by decide) (n := 11) rfl rfl (lo := 0) (hi := 900) rfl
          refine s_64 (a1 := v21) hI gA0 (by omega) e25 ?_
          intro v27 b28 h29
          show ex_q (dt_fg L ρ) rc (d + 4, (70, 46, [some (eR a0), some (eR 11), some (eI (i17))], [eI (v27)]), f :: F, μ)
          refine w_t (np := 47) (l2 := [some (eR a0), some (eR 11), some (eI (i17))]) (s2 := [eR 11, eI (v27)]) rfl (s_an rfl (by decide)) rfl ?_
          refine w_t (np := 48) (l2 := [some (eR a0), some (eR 11), some (eI (i17))]) (s2 := [eI (i17), eR 11, eI (v27)]) rfl rfl rfl ?_
          refine j_sc (np := 51) (n := 4) (lo := 110) (hi := 117) rfl rfl (by omega) rfl rfl (by omega) (by omega) rfl rfl ?_
          intro v30 b31
          refine b_ceq (t1 := 56) (t2 := 54) rfl rfl rfl (ev_w_in (by omega) (by omega)) (ev_w_in (by omega) (by omega)) (fun g32 => ?_) (fun g32 => ?_)
          · have b33 : 110 ≤ v27 ∧ v27 ≤ 117 := by omega
            obtain ⟨v33, e34⟩ : ∃ zz : Int, zz = (i17) + (1) := ⟨_, rfl⟩
            have b35 : 1 ≤ v33 ∧ v33 ≤ 4 := by omega
            refine w_t (np := 59) (l2 := [some (eR a0), some (eR 11), some (eI (v33))]) (s2 := []) rfl (b_iinc rfl (by rw [← e34]; exact ev_w_in (by omega) (by omega)) rfl) rfl ?_
            refine w_go (t1 := 28) rfl rfl ?_
            exact ih16 (4 - (v33)).toNat (by omega) (v33) (by omega)     rfl
          · refine w_t (np := 55) (l2 := [some (eR a0), some (eR 11), some (eI (i17))]) (s2 := [eI (0)]) rfl rfl rfl ?_
            exact b_rz rfl rfl (Or.inl rfl) (K (0) (by decide))
      exact hL28 _ (0) (by decide)     rfl
    · refine w_t (np := 25) (l2 := [some (eR a0), some (eR 11), none]) (s2 := [eI (0)]) rfl rfl rfl ?_
      exact b_rz rfl rfl (Or.inl rfl) (K (0) (by decide))
theorem s_70_12 {L : Nat} {ρ : Nat → Int} {rc : eQ} {d : Nat} {f : eFr} {F : List eFr} {μ : eM} {g : Nat → Nat} {a0 : Nat} (hI : SI g μ) (gA0 : g a0 = 24) (K : ∀ (v : Int), (0 ≤ v ∧ v ≤ 1) → ex_q (dt_fg L ρ) rc (d + 5, (f.1, f.2.1, f.2.2.1, eI v :: f.2.2.2), F, μ)) : ex_q (dt_fg L ρ) rc (d + 4, (70, 0, [some (eR a0), some (eR 12), none], []), f :: F, μ) := by
  refine w_t (np := 1) (l2 := [some (eR a0), some (eR 12), none]) (s2 := [eR a0]) rfl (s_an rfl (pos_g hI gA0 (by decide))) rfl ?_
  refine j_gi (np := 4) rfl rfl rfl hI gA0 (by decide) (n := 11) rfl rfl (lo := -2147483648) (hi := 2147483647) rfl ?_
  intro v1 e2 b3
  refine w_t (np := 5) (l2 := [some (eR a0), some (eR 12), none]) (s2 := [eI (1), eI (v1)]) rfl rfl rfl ?_
  refine b_cne (t1 := 24) (t2 := 8) rfl rfl rfl (ev_w_in (by omega) (by omega)) rfl (fun g4 => ?_) (fun g4 => ?_)
  · refine w_t (np := 25) (l2 := [some (eR a0), some (eR 12), none]) (s2 := [eI (0)]) rfl rfl rfl ?_
    exact b_rz rfl rfl (Or.inl rfl) (K (0) (by decide))
  · have b5 : 1 ≤ v1 ∧ v1 ≤ 1 := by omega
    refine w_t (np := 9) (l2 := [some (eR a0), some (eR 12), none]) (s2 := [eR a0]) rfl (s_an rfl (pos_g hI gA0 (by decide))) rfl ?_
    refine j_gi (np := 12) rfl rfl rfl hI gA0 (by decide) (n := 11) rfl rfl (lo := 0) (hi := 900) rfl ?_
    intro v5 e6 b7
    refine w_t (np := 13) (l2 := [some (eR a0), some (eR 12), none]) (s2 := [eR a0, eI (v5)]) rfl (s_an rfl (pos_g hI gA0 (by decide))) rfl ?_
    refine j_gi (np := 16) rfl rfl rfl hI gA0 (by decide) (n := 11) rfl rfl (lo := 0) (hi := 900) rfl ?_
    intro v8 e9 b10
    obtain ⟨v11, e12⟩ : ∃ zz : Int, zz = (v5) - (v8) := ⟨_, rfl⟩
    have b13 : -900 ≤ v11 ∧ v11 ≤ 900 := by omega
    refine w_t (np := 17) (l2 := [some (eR a0), some (eR 12), none]) (s2 := [eI (v11)]) rfl (b_isub (by rw [← e12]; exact ev_w_in (by omega) (by omega))) rfl ?_
    refine w_t (np := 18) (l2 := [some (eR a0), some (eR 12), none]) (s2 := [eR 12, eI (v11)]) rfl (s_an rfl (by decide)) rfl ?_
    refine j_sn (np := 21) (n := 4) rfl rfl (by omega) rfl rfl rfl rfl ?_
    rw [show ((4 : Nat) : Int) = 4 from rfl]
    refine b_ceq (t1 := 26) (t2 := 24) rfl rfl rfl (ev_w_in (by omega) (by omega)) rfl (fun g14 => ?_) (fun g14 => ?_)
    · have b15 : 4 ≤ v11 ∧ v11 ≤ 4 := by omega
      refine w_t (np := 27) (l2 := [some (eR a0), some (eR 12), none]) (s2 := [eI (0)]) rfl rfl rfl ?_
      refine w_t (np := 28) (l2 := [some (eR a0), some (eR 12), some (eI (0))]) (s2 := []) rfl rfl rfl ?_
      have hL28 : ∀ (n15 : Nat) (i17 : Int), (0 ≤ i17 ∧ i17 ≤ 4) → n15 = (4 - i17).toNat → ex_q (dt_fg L ρ) rc (d + 4, (70, 28, [some (eR a0), some (eR 12), some (eI (i17))], []), f :: F, μ) := by
        intro n15
        induction n15 using Nat.strongRecOn with
        | _ n15 ih16 =>
        intro i17 b18 hn19
        refine w_t (np := 29) (l2 := [some (eR a0), some (eR 12), some (eI (i17))]) (s2 := [eI (i17)]) rfl rfl rfl ?_
        refine w_t (np := 30) (l2 := [some (eR a0), some (eR 12), some (eI (i17))]) (s2 := [eR 12, eI (i17)]) rfl (s_an rfl (by decide)) rfl ?_
        refine j_sn (np := 33) (n := 4) rfl rfl (by omega) rfl rfl rfl rfl ?_
        rw [show ((4 : Nat) : Int) = 4 from rfl]
        refine b_cge (t1 := 62) (t2 := 36) rfl rfl rfl (ev_w_in (by omega) (by omega)) rfl (fun g20 => ?_) (fun g20 => ?_)
        · have b21 : 4 ≤ i17 ∧ i17 ≤ 4 := by omega
          refine w_t (np := 63) (l2 := [some (eR a0), some (eR 12), some (eI (i17))]) (s2 := [eI (1)]) rfl rfl rfl ?_
          exact b_rz rfl rfl (Or.inr rfl) (K (1) (by decide))
        · have b21 : 0 ≤ i17 ∧ i17 ≤ 3 := by omega
          refine w_t (np := 37) (l2 := [some (eR a0), some (eR 12), some (eI (i17))]) (s2 := [eR a0]) rfl (s_an rfl (pos_g hI gA0 (by decide))) rfl ?_
          refine w_t (np := 38) (l2 := [some (eR a0), some (eR 12), some (eI (i17))]) (s2 := [eR a0, eR a0]) rfl (s_an rfl (pos_g hI gA0 (by decide))) rfl ?_
          refine w_gf (np := 41) (v := eI (v8)) rfl rfl (hI.kd gA0 (by decide) (n := 11) rfl) (by rw [e9]; rfl) ?_
          refine w_t (np := 42) (l2 := [some (eR a0), some (eR 12), some (eI (i17))]) (s2 := [eI (i17), eI (v8), eR a0]) rfl rfl rfl ?_
          obtain ⟨v21, e22⟩ : ∃ zz : Int, zz = (v8) + (i17) := ⟨_, rfl⟩
          have b23 : 0 ≤ v21 ∧ v21 ≤ 903 := by omega
          refine w_t (np := 43) (l2 := [some (eR a0), some (eR 12), some (eI (i17))]) (s2 := [eI (v21), eR a0]) rfl (b_iadd (by rw [← e22]; exact ev_w_in (by omega) (by omega))) rfl ?_
          refine w_cw (np := 46) (as := [eI (v21)]) (l2 := [some (eR a0), some (eI (v21))]) (rest := []) rfl rfl rfl (Nat.ble_eq.mp rfl) rfl rfl rfl (hI.kd gA0 (by decide) (n := 11) rfl) rfl ?_
          obtain ⟨v24, e25, b26⟩ := hI.pk (k := 3) gA0 (by decide) (n := 11) rfl rfl (lo := 0) (hi := 900) rfl
          refine s_64 (a1 := v21) hI gA0 (by omega) e25 ?_
          intro v27 b28 h29
          show ex_q (dt_fg L ρ) rc (d + 4, (70, 46, [some (eR a0), some (eR 12), some (eI (i17))], [eI (v27)]), f :: F, μ)
          refine w_t (np := 47) (l2 := [some (eR a0), some (eR 12), some (eI (i17))]) (s2 := [eR 12, eI (v27)]) rfl (s_an rfl (by decide)) rfl ?_
          refine w_t (np := 48) (l2 := [some (eR a0), some (eR 12), some (eI (i17))]) (s2 := [eI (i17), eR 12, eI (v27)]) rfl rfl rfl ?_
          refine j_sc (np := 51) (n := 4) (lo := 97) (hi := 110) rfl rfl (by omega) rfl rfl (by omega) (by omega) rfl rfl ?_
          intro v30 b31
          refine b_ceq (t1 := 56) (t2 := 54) rfl rfl rfl (ev_w_in (by omega) (by omega)) (ev_w_in (by omega) (by omega)) (fun g32 => ?_) (fun g32 => ?_)
          · have b33 : 97 ≤ v27 ∧ v27 ≤ 110 := by omega
            obtain ⟨v33, e34⟩ : ∃ zz : Int, zz = (i17) + (1) := ⟨_, rfl⟩
            have b35 : 1 ≤ v33 ∧ v33 ≤ 4 := by omega
            refine w_t (np := 59) (l2 := [some (eR a0), some (eR 12), some (eI (v33))]) (s2 := []) rfl (b_iinc rfl (by rw [← e34]; exact ev_w_in (by omega) (by omega)) rfl) rfl ?_
            refine w_go (t1 := 28) rfl rfl ?_
            exact ih16 (4 - (v33)).toNat (by omega) (v33) (by omega)     rfl
          · refine w_t (np := 55) (l2 := [some (eR a0), some (eR 12), some (eI (i17))]) (s2 := [eI (0)]) rfl rfl rfl ?_
            exact b_rz rfl rfl (Or.inl rfl) (K (0) (by decide))
      exact hL28 _ (0) (by decide)     rfl
    · refine w_t (np := 25) (l2 := [some (eR a0), some (eR 12), none]) (s2 := [eI (0)]) rfl rfl rfl ?_
      exact b_rz rfl rfl (Or.inl rfl) (K (0) (by decide))
theorem s_64f {L : Nat} {ρ : Nat → Int} {rc : eQ} {d : Nat} {f : eFr} {F : List eFr} {μ : eM} {g : Nat → Nat} {a0 : Nat} {a1 : Int} {le : Int} (hI : SI g μ) (gA0 : g a0 = 24) (bA1 : -2147483648 ≤ a1 ∧ a1 ≤ 2147483647) (h_le : μ.1 a0 3 = le) (K : ∀ (v : Int), (-1 ≤ v ∧ v ≤ 255) → (v = -1 ∨ (0 ≤ a1 ∧ a1 < le)) → (v = bF le (fun j => μ.1 (μ.1 a0 0).toNat j) a1) → ex_q (dt_fg L ρ) rc (d + 1, (f.1, f.2.1, f.2.2.1, eI v :: f.2.2.2), F, μ)) : ex_q (dt_fg L ρ) rc (d, (64, 0, [some (eR a0), some (eI (a1))], []), f :: F, μ) := by
  have b_le : 0 ≤ le ∧ le ≤ 900 := by
    rw [← h_le]
    exact hI.int gA0 (by decide) (n := 11) rfl (by decide) rfl
  refine w_t (np := 1) (l2 := [some (eR a0), some (eI (a1))]) (s2 := [eI (a1)]) rfl rfl rfl ?_
  refine b_ilt (t1 := 19) (t2 := 4) rfl rfl rfl (ev_w_in (by omega) (by omega)) (fun g1 => ?_) (fun g1 => ?_)
  · have b2 : -2147483648 ≤ a1 ∧ a1 ≤ -1 := by omega
    refine w_t (np := 20) (l2 := [some (eR a0), some (eI (a1))]) (s2 := [eI (-1)]) rfl rfl rfl ?_
    refine w_go (t1 := 33) rfl rfl ?_
    exact b_ri rfl rfl (K (-1) (by decide) (by omega) (bF_n (by omega)))
  · have b2 : 0 ≤ a1 ∧ a1 ≤ 2147483647 := by omega
    refine w_t (np := 5) (l2 := [some (eR a0), some (eI (a1))]) (s2 := [eI (a1)]) rfl rfl rfl ?_
    refine w_t (np := 6) (l2 := [some (eR a0), some (eI (a1))]) (s2 := [eR a0, eI (a1)]) rfl (s_an rfl (pos_g hI gA0 (by decide))) rfl ?_
    refine w_gf (np := 9) (v := eI (le)) rfl rfl (hI.kd gA0 (by decide) (n := 11) rfl) (by rw [h_le]; rfl) ?_
    refine b_cge (t1 := 19) (t2 := 12) rfl rfl rfl (ev_w_in (by omega) (by omega)) (ev_w_in (by omega) (by omega)) (fun g2 => ?_) (fun g2 => ?_)
    · refine w_t (np := 20) (l2 := [some (eR a0), some (eI (a1))]) (s2 := [eI (-1)]) rfl rfl rfl ?_
      refine w_go (t1 := 33) rfl rfl ?_
      exact b_ri rfl rfl (K (-1) (by decide) (by omega) (bF_n (by omega)))
    · have b3 : 0 ≤ a1 ∧ a1 ≤ 899 := by omega
      have b4 : 1 ≤ le ∧ le ≤ 900 := by omega
      refine w_t (np := 13) (l2 := [some (eR a0), some (eI (a1))]) (s2 := [eI (a1)]) rfl rfl rfl ?_
      refine w_t (np := 16) (l2 := [some (eR a0), some (eI (a1))]) (s2 := [eI (900), eI (a1)]) rfl rfl rfl ?_
      refine b_clt (t1 := 23) (t2 := 19) rfl rfl rfl (ev_w_in (by omega) (by omega)) rfl (fun g3 => ?_) (fun g3 => False.elim (by omega))
      refine w_t (np := 24) (l2 := [some (eR a0), some (eI (a1))]) (s2 := [eR a0]) rfl (s_an rfl (pos_g hI gA0 (by decide))) rfl ?_
      refine j_gr (np := 27) rfl rfl hI gA0 (by decide) (n := 11) rfl rfl rfl ?_
      intro v4 e5 b6 z7
      have b6 : g v4 = 25 := Nat.eq_of_beq_eq_true b6
      refine w_t (np := 28) (l2 := [some (eR a0), some (eI (a1))]) (s2 := [eI (a1), eR v4]) rfl rfl rfl ?_
      refine j_b2 (np := 29) rfl rfl hI b6 (by decide) (n := 900) rfl rfl (lo := -128) (hi := 127) (fun _ => rfl) (by omega) (by omega) ?_
      intro v8 e9 b10
      refine w_t (np := 32) (l2 := [some (eR a0), some (eI (a1))]) (s2 := [eI (255), eI (v8)]) rfl rfl rfl ?_
      obtain ⟨v11, e12, b13, h14⟩ := h_iandx (a := v8) (b := 255) (by decide) (by decide)
      have b15 : 0 ≤ v11 ∧ v11 ≤ 255 := by omega
      refine w_t (np := 33) (l2 := [some (eR a0), some (eI (a1))]) (s2 := [eI (v11)]) rfl (e12 _ _) rfl ?_
      exact b_ri rfl rfl (K (v11) (by omega) (by omega) (bF_y (by omega) (show μ.1 (μ.1 a0 0).toNat (a1).toNat = v8 by rw [e5, Int.toNat_natCast]; exact e9) h14))
