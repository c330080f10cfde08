/-! methods, walked -/
def l_355_25 : List Nat := [13381, 22784]
theorem s_355_25 {L : Nat} {ρ : Nat → Int} {rc : eQ} {d : Nat} {f : eFr} {F : List eFr} {μ : eM} {g : Nat → Nat} {a0 : Nat} {om : Int} (hI : SI g μ) (gA0 : g a0 = 52) (h_om : μ.1 a0 68 = om) (hp0 : om ≤ 1990) (K : ∀ (μ2 : eM) (om2 : Int), SI g μ2 → Fr l_355_25 0 0 g μ μ2 → μ2.1 a0 68 = om2 → (om2 = om + 3) → ex_q (dt_fg L ρ) rc (d + 5, (f.1, f.2.1, f.2.2.1, f.2.2.2), F, μ2)) : ex_q (dt_fg L ρ) rc (d + 4, (355, 0, [some (eR a0), some (eR 25), none], []), f :: F, μ) := by
  have F0 : Fr l_355_25 0 0 g μ μ := Fr.r
  have b_om : 0 ≤ om ∧ om ≤ 2000 := by
    rw [← h_om]
    exact hI.int gA0 (by decide) (n := 69) rfl (by decide) rfl
  refine w_t (np := 1) (l2 := [some (eR a0), some (eR 25), none]) (s2 := [eI (0)]) rfl rfl rfl ?_
  refine w_t (np := 2) (l2 := [some (eR a0), some (eR 25), some (eI (0))]) (s2 := []) rfl rfl rfl ?_
  have hL2 : ∀ (n1 : Nat) (m5 : eM) (i3 : Int) (x8 : Int), SI g m5 → Fr l_355_25 0 0 g μ m5 → (0 ≤ i3 ∧ i3 ≤ 3) → m5.1 a0 68 = x8 → (0 ≤ x8 ∧ x8 ≤ 2000) → x8 = om + i3 → n1 = (3 - i3).toNat → ex_q (dt_fg L ρ) rc (d + 4, (355, 2, [some (eR a0), some (eR 25), some (eI (i3))], []), f :: F, m5) := by
    intro n1
    induction n1 using Nat.strongRecOn with
    | _ n1 ih2 =>
    intro m5 i3 x8 I6 F7 b4 h9 b10 r11 hn12
    refine w_t (np := 3) (l2 := [some (eR a0), some (eR 25), some (eI (i3))]) (s2 := [eI (i3)]) rfl rfl rfl ?_
    refine w_t (np := 4) (l2 := [some (eR a0), some (eR 25), some (eI (i3))]) (s2 := [eR 25, eI (i3)]) rfl (s_an rfl (by decide)) rfl ?_
    refine j_sn (np := 7) (n := 3) rfl rfl (by omega) rfl rfl rfl rfl ?_
    rw [show ((3 : Nat) : Int) = 3 from rfl]
    refine b_cge (t1 := 40) (t2 := 10) rfl rfl rfl (ev_w_in (by omega) (by omega)) rfl (fun g13 => ?_) (fun g13 => ?_)
    · have b14 : 3 ≤ i3 ∧ i3 ≤ 3 := by omega
      exact v_rv rfl rfl (K m5 (x8) I6 F7 h9 (by omega))
    · have b14 : 0 ≤ i3 ∧ i3 ≤ 2 := by omega
      refine w_t (np := 11) (l2 := [some (eR a0), some (eR 25), some (eI (i3))]) (s2 := [eR a0]) rfl (s_an rfl (pos_g I6 gA0 (by decide))) rfl ?_
      refine j_gr (np := 14) rfl rfl I6 gA0 (by decide) (n := 69) rfl rfl rfl ?_
      intro v14 e15 b16 z17
      have b16 : g v14 = 89 := Nat.eq_of_beq_eq_true b16
      refine w_t (np := 15) (l2 := [some (eR a0), some (eR 25), some (eI (i3))]) (s2 := [eR a0, eR v14]) rfl (s_an rfl (pos_g I6 gA0 (by decide))) rfl ?_
      refine w_gf (np := 18) (v := eI (x8)) rfl rfl (I6.kd gA0 (by decide) (n := 69) rfl) (by rw [h9]; rfl) ?_
      refine w_t (np := 19) (l2 := [some (eR a0), some (eR 25), some (eI (i3))]) (s2 := [eR 25, eI (x8), eR v14]) rfl (s_an rfl (by decide)) rfl ?_
      refine w_t (np := 20) (l2 := [some (eR a0), some (eR 25), some (eI (i3))]) (s2 := [eI (i3), eR 25, eI (x8), eR v14]) rfl rfl rfl ?_
      refine j_sc (np := 23) (n := 3) (lo := 32) (hi := 45) rfl rfl (by omega) rfl rfl (by omega) (by omega) rfl rfl ?_
      intro v18 b19
      refine j_as (np := 24) rfl rfl I6 b16 (by decide) (n := 2000) rfl rfl (lo := -2147483648) (hi := 2147483647) (fun _ => rfl) (by omega) (by omega) (by omega) ?_
      intro m20 I21 W22
      have F23 : Fr l_355_25 0 0 g μ m20 := F7.v W22 b16 rfl rfl
      refine w_t (np := 25) (l2 := [some (eR a0), some (eR 25), some (eI (i3))]) (s2 := [eR a0]) rfl (s_an rfl (pos_g I21 gA0 (by decide))) rfl ?_
      refine w_t (np := 26) (l2 := [some (eR a0), some (eR 25), some (eI (i3))]) (s2 := [eR a0, eR a0]) rfl rfl rfl ?_
      refine w_gf (np := 29) (v := eI (x8)) rfl rfl (I21.kd gA0 (by decide) (n := 69) rfl) (by rw [(W22.addr h9 b16 gA0 (by decide))]; rfl) ?_
      refine w_t (np := 30) (l2 := [some (eR a0), some (eR 25), some (eI (i3))]) (s2 := [eI (1), eI (x8), eR a0]) rfl rfl rfl ?_
      obtain ⟨v24, e25⟩ : ∃ zz : Int, zz = (x8) + (1) := ⟨_, rfl⟩
      have b26 : 1 ≤ v24 ∧ v24 ≤ 2001 := by omega
      refine w_t (np := 31) (l2 := [some (eR a0), some (eR 25), some (eI (i3))]) (s2 := [eI (v24), eR a0]) rfl (b_iadd (by rw [← e25]; exact ev_w_in (by omega) (by omega))) rfl ?_
      refine j_pf (np := 34) (w := v24) rfl rfl I21 gA0 (by decide) (n := 69) rfl rfl (hO_i (lo := 0) (hi := 2000) rfl (by omega)) ?_
      intro m27 I28 W29
      have F30 : Fr l_355_25 0 0 g μ m27 := F23.w W29 gA0 rfl
      obtain ⟨v31, e32⟩ : ∃ zz : Int, zz = (i3) + (1) := ⟨_, rfl⟩
      have b33 : 1 ≤ v31 ∧ v31 ≤ 3 := by omega
      refine w_t (np := 37) (l2 := [some (eR a0), some (eR 25), some (eI (v31))]) (s2 := []) rfl (b_iinc rfl (by rw [← e32]; exact ev_w_in (by omega) (by omega)) rfl) rfl ?_
      refine w_go (t1 := 2) rfl rfl ?_
      exact ih2 (3 - (v31)).toNat (by omega) m27 (v31) (v24) I28 F30 (by omega)  W29.at (by omega)  (by omega) rfl
  exact hL2 _ μ (0) (om) hI F0 (by decide)  h_om (by omega)  (by omega) rfl
def l_355_26 : List Nat := [13381, 22784]
theorem s_355_26 {L : Nat} {ρ : Nat → Int} {rc : eQ} {d : Nat} {f : eFr} {F : List eFr} {μ : eM} {g : Nat → Nat} {a0 : Nat} {om : Int} (hI : SI g μ) (gA0 : g a0 = 52) (h_om : μ.1 a0 68 = om) (hp0 : om ≤ 1990) (K : ∀ (μ2 : eM) (om2 : Int), SI g μ2 → Fr l_355_26 0 0 g μ μ2 → μ2.1 a0 68 = om2 → (om2 = om + 1) → ex_q (dt_fg L ρ) rc (d + 5, (f.1, f.2.1, f.2.2.1, f.2.2.2), F, μ2)) : ex_q (dt_fg L ρ) rc (d + 4, (355, 0, [some (eR a0), some (eR 26), none], []), f :: F, μ) := by
  have F0 : Fr l_355_26 0 0 g μ μ := Fr.r
  have b_om : 0 ≤ om ∧ om ≤ 2000 := by
    rw [← h_om]
    exact hI.int gA0 (by decide) (n := 69) rfl (by decide) rfl
  refine w_t (np := 1) (l2 := [some (eR a0), some (eR 26), none]) (s2 := [eI (0)]) rfl rfl rfl ?_
  refine w_t (np := 2) (l2 := [some (eR a0), some (eR 26), some (eI (0))]) (s2 := []) rfl rfl rfl ?_
  have hL2 : ∀ (n1 : Nat) (m5 : eM) (i3 : Int) (x8 : Int), SI g m5 → Fr l_355_26 0 0 g μ m5 → (0 ≤ i3 ∧ i3 ≤ 1) → m5.1 a0 68 = x8 → (0 ≤ x8 ∧ x8 ≤ 2000) → x8 = om + i3 → n1 = (1 - i3).toNat → ex_q (dt_fg L ρ) rc (d + 4, (355, 2, [some (eR a0), some (eR 26), some (eI (i3))], []), f :: F, m5) := by
    intro n1
    induction n1 using Nat.strongRecOn with
    | _ n1 ih2 =>
    intro m5 i3 x8 I6 F7 b4 h9 b10 r11 hn12
    refine w_t (np := 3) (l2 := [some (eR a0), some (eR 26), some (eI (i3))]) (s2 := [eI (i3)]) rfl rfl rfl ?_
    refine w_t (np := 4) (l2 := [some (eR a0), some (eR 26), some (eI (i3))]) (s2 := [eR 26, eI (i3)]) rfl (s_an rfl (by decide)) rfl ?_
    refine j_sn (np := 7) (n := 1) rfl rfl (by omega) rfl rfl rfl rfl ?_
    rw [show ((1 : Nat) : Int) = 1 from rfl]
    refine b_cge (t1 := 40) (t2 := 10) rfl rfl rfl (ev_w_in (by omega) (by omega)) rfl (fun g13 => ?_) (fun g13 => ?_)
    · have b14 : 1 ≤ i3 ∧ i3 ≤ 1 := by omega
      exact v_rv rfl rfl (K m5 (x8) I6 F7 h9 (by omega))
    · have b14 : 0 ≤ i3 ∧ i3 ≤ 0 := by omega
      refine w_t (np := 11) (l2 := [some (eR a0), some (eR 26), some (eI (i3))]) (s2 := [eR a0]) rfl (s_an rfl (pos_g I6 gA0 (by decide))) rfl ?_
      refine j_gr (np := 14) rfl rfl I6 gA0 (by decide) (n := 69) rfl rfl rfl ?_
      intro v14 e15 b16 z17
      have b16 : g v14 = 89 := Nat.eq_of_beq_eq_true b16
      refine w_t (np := 15) (l2 := [some (eR a0), some (eR 26), some (eI (i3))]) (s2 := [eR a0, eR v14]) rfl (s_an rfl (pos_g I6 gA0 (by decide))) rfl ?_
      refine w_gf (np := 18) (v := eI (x8)) rfl rfl (I6.kd gA0 (by decide) (n := 69) rfl) (by rw [h9]; rfl) ?_
      refine w_t (np := 19) (l2 := [some (eR a0), some (eR 26), some (eI (i3))]) (s2 := [eR 26, eI (x8), eR v14]) rfl (s_an rfl (by decide)) rfl ?_
      refine w_t (np := 20) (l2 := [some (eR a0), some (eR 26), some (eI (i3))]) (s2 := [eI (i3), eR 26, eI (x8), eR v14]) rfl rfl rfl ?_
      refine j_sc (np := 23) (n := 1) (lo := 32) (hi := 32) rfl rfl (by omega) rfl rfl (by omega) (by omega) rfl rfl ?_
      intro v18 b19
      refine j_as (np := 24) rfl rfl I6 b16 (by decide) (n := 2000) rfl rfl (lo := -2147483648) (hi := 2147483647) (fun _ => rfl) (by omega) (by omega) (by omega) ?_
      intro m20 I21 W22
      have F23 : Fr l_355_26 0 0 g μ m20 := F7.v W22 b16 rfl rfl
      refine w_t (np := 25) (l2 := [some (eR a0), some (eR 26), some (eI (i3))]) (s2 := [eR a0]) rfl (s_an rfl (pos_g I21 gA0 (by decide))) rfl ?_
      refine w_t (np := 26) (l2 := [some (eR a0), some (eR 26), some (eI (i3))]) (s2 := [eR a0, eR a0]) rfl rfl rfl ?_
      refine w_gf (np := 29) (v := eI (x8)) rfl rfl (I21.kd gA0 (by decide) (n := 69) rfl) (by rw [(W22.addr h9 b16 gA0 (by decide))]; rfl) ?_
      refine w_t (np := 30) (l2 := [some (eR a0), some (eR 26), some (eI (i3))]) (s2 := [eI (1), eI (x8), eR a0]) rfl rfl rfl ?_
      obtain ⟨v24, e25⟩ : ∃ zz : Int, zz = (x8) + (1) := ⟨_, rfl⟩
      have b26 : 1 ≤ v24 ∧ v24 ≤ 2001 := by omega
      refine w_t (np := 31) (l2 := [some (eR a0), some (eR 26), some (eI (i3))]) (s2 := [eI (v24), eR a0]) rfl (b_iadd (by rw [← e25]; exact ev_w_in (by omega) (by omega))) rfl ?_
      refine j_pf (np := 34) (w := v24) rfl rfl I21 gA0 (by decide) (n := 69) rfl rfl (hO_i (lo := 0) (hi := 2000) rfl (by omega)) ?_
      intro m27 I28 W29
      have F30 : Fr l_355_26 0 0 g μ m27 := F23.w W29 gA0 rfl
      obtain ⟨v31, e32⟩ : ∃ zz : Int, zz = (i3) + (1) := ⟨_, rfl⟩
      have b33 : 1 ≤ v31 ∧ v31 ≤ 1 := by omega
      refine w_t (np := 37) (l2 := [some (eR a0), some (eR 26), some (eI (v31))]) (s2 := []) rfl (b_iinc rfl (by rw [← e32]; exact ev_w_in (by omega) (by omega)) rfl) rfl ?_
      refine w_go (t1 := 2) rfl rfl ?_
      exact ih2 (1 - (v31)).toNat (by omega) m27 (v31) (v24) I28 F30 (by omega)  W29.at (by omega)  (by omega) rfl
  exact hL2 _ μ (0) (om) hI F0 (by decide)  h_om (by omega)  (by omega) rfl
def l_355_27 : List Nat := [13381, 22784]
theorem s_355_27 {L : Nat} {ρ : Nat → Int} {rc : eQ} {d : Nat} {f : eFr} {F : List eFr} {μ : eM} {g : Nat → Nat} {a0 : Nat} {om : Int} (hI : SI g μ) (gA0 : g a0 = 52) (h_om : μ.1 a0 68 = om) (hp0 : om ≤ 1990) (K : ∀ (μ2 : eM) (om2 : Int), SI g μ2 → Fr l_355_27 0 0 g μ μ2 → μ2.1 a0 68 = om2 → (om2 = om + 4) → ex_q (dt_fg L ρ) rc (d + 5, (f.1, f.2.1, f.2.2.1, f.2.2.2), F, μ2)) : ex_q (dt_fg L ρ) rc (d + 4, (355, 0, [some (eR a0), some (eR 27), none], []), f :: F, μ) := by
  have F0 : Fr l_355_27 0 0 g μ μ := Fr.r
  have b_om : 0 ≤ om ∧ om ≤ 2000 := by
    rw [← h_om]
    exact hI.int gA0 (by decide) (n := 69) rfl (by decide) rfl
  refine w_t (np := 1) (l2 := [some (eR a0), some (eR 27), none]) (s2 := [eI (0)]) rfl rfl rfl ?_
  refine w_t (np := 2) (l2 := [some (eR a0), some (eR 27), some (eI (0))]) (s2 := []) rfl rfl rfl ?_
  have hL2 : ∀ (n1 : Nat) (m5 : eM) (i3 : Int) (x8 : Int), SI g m5 → Fr l_355_27 0 0 g μ m5 → (0 ≤ i3 ∧ i3 ≤ 4) → m5.1 a0 68 = x8 → (0 ≤ x8 ∧ x8 ≤ 2000) → x8 = om + i3 → n1 = (4 - i3).toNat → ex_q (dt_fg L ρ) rc (d + 4, (355, 2, [some (eR a0), some (eR 27), some (eI (i3))], []), f :: F, m5) := by
    intro n1
    induction n1 using Nat.strongRecOn with
    | _ n1 ih2 =>
    intro m5 i3 x8 I6 F7 b4 h9 b10 r11 hn12
    refine w_t (np := 3) (l2 := [some (eR a0), some (eR 27), some (eI (i3))]) (s2 := [eI (i3)]) rfl rfl rfl ?_
    refine w_t (np := 4) (l2 := [some (eR a0), some (eR 27), some (eI (i3))]) (s2 := [eR 27, eI (i3)]) rfl (s_an rfl (by decide)) rfl ?_
    refine j_sn (np := 7) (n := 4) rfl rfl (by omega) rfl rfl rfl rfl ?_
    rw [show ((4 : Nat) : Int) = 4 from rfl]
    refine b_cge (t1 := 40) (t2 := 10) rfl rfl rfl (ev_w_in (by omega) (by omega)) rfl (fun g13 => ?_) (fun g13 => ?_)
    · have b14 : 4 ≤ i3 ∧ i3 ≤ 4 := by omega
      exact v_rv rfl rfl (K m5 (x8) I6 F7 h9 (by omega))
    · have b14 : 0 ≤ i3 ∧ i3 ≤ 3 := by omega
      refine w_t (np := 11) (l2 := [some (eR a0), some (eR 27), some (eI (i3))]) (s2 := [eR a0]) rfl (s_an rfl (pos_g I6 gA0 (by decide))) rfl ?_
      refine j_gr (np := 14) rfl rfl I6 gA0 (by decide) (n := 69) rfl rfl rfl ?_
      intro v14 e15 b16 z17
      have b16 : g v14 = 89 := Nat.eq_of_beq_eq_true b16
      refine w_t (np := 15) (l2 := [some (eR a0), some (eR 27), some (eI (i3))]) (s2 := [eR a0, eR v14]) rfl (s_an rfl (pos_g I6 gA0 (by decide))) rfl ?_
      refine w_gf (np := 18) (v := eI (x8)) rfl rfl (I6.kd gA0 (by decide) (n := 69) rfl) (by rw [h9]; rfl) ?_
      refine w_t (np := 19) (l2 := [some (eR a0), some (eR 27), some (eI (i3))]) (s2 := [eR 27, eI (x8), eR v14]) rfl (s_an rfl (by decide)) rfl ?_
      refine w_t (np := 20) (l2 := [some (eR a0), some (eR 27), some (eI (i3))]) (s2 := [eI (i3), eR 27, eI (x8), eR v14]) rfl rfl rfl ?_
      refine j_sc (np := 23) (n := 4) (lo := 104) (hi := 116) rfl rfl (by omega) rfl rfl (by omega) (by omega) rfl rfl ?_
      intro v18 b19
      refine j_as (np := 24) rfl rfl I6 b16 (by decide) (n := 2000) rfl rfl (lo := -2147483648) (hi := 2147483647) (fun _ => rfl) (by omega) (by omega) (by omega) ?_
      intro m20 I21 W22
      have F23 : Fr l_355_27 0 0 g μ m20 := F7.v W22 b16 rfl rfl
      refine w_t (np := 25) (l2 := [some (eR a0), some (eR 27), some (eI (i3))]) (s2 := [eR a0]) rfl (s_an rfl (pos_g I21 gA0 (by decide))) rfl ?_
      refine w_t (np := 26) (l2 := [some (eR a0), some (eR 27), some (eI (i3))]) (s2 := [eR a0, eR a0]) rfl rfl rfl ?_
      refine w_gf (np := 29) (v := eI (x8)) rfl rfl (I21.kd gA0 (by decide) (n := 69) rfl) (by rw [(W22.addr h9 b16 gA0 (by decide))]; rfl) ?_
      refine w_t (np := 30) (l2 := [some (eR a0), some (eR 27), some (eI (i3))]) (s2 := [eI (1), eI (x8), eR a0]) rfl rfl rfl ?_
      obtain ⟨v24, e25⟩ : ∃ zz : Int, zz = (x8) + (1) := ⟨_, rfl⟩
      have b26 : 1 ≤ v24 ∧ v24 ≤ 2001 := by omega
      refine w_t (np := 31) (l2 := [some (eR a0), some (eR 27), some (eI (i3))]) (s2 := [eI (v24), eR a0]) rfl (b_iadd (by rw [← e25]; exact ev_w_in (by omega) (by omega))) rfl ?_
      refine j_pf (np := 34) (w := v24) rfl rfl I21 gA0 (by decide) (n := 69) rfl rfl (hO_i (lo := 0) (hi := 2000) rfl (by omega)) ?_
      intro m27 I28 W29
      have F30 : Fr l_355_27 0 0 g μ m27 := F23.w W29 gA0 rfl
      obtain ⟨v31, e32⟩ : ∃ zz : Int, zz = (i3) + (1) := ⟨_, rfl⟩
      have b33 : 1 ≤ v31 ∧ v31 ≤ 4 := by omega
      refine w_t (np := 37) (l2 := [some (eR a0), some (eR 27), some (eI (v31))]) (s2 := []) rfl (b_iinc rfl (by rw [← e32]; exact ev_w_in (by omega) (by omega)) rfl) rfl ?_
      refine w_go (t1 := 2) rfl rfl ?_
      exact ih2 (4 - (v31)).toNat (by omega) m27 (v31) (v24) I28 F30 (by omega)  W29.at (by omega)  (by omega) rfl
  exact hL2 _ μ (0) (om) hI F0 (by decide)  h_om (by omega)  (by omega) rfl
def l_355_28 : List Nat := [13381, 22784]
theorem s_355_28 {L : Nat} {ρ : Nat → Int} {rc : eQ} {d : Nat} {f : eFr} {F : List eFr} {μ : eM} {g : Nat → Nat} {a0 : Nat} {om : Int} (hI : SI g μ) (gA0 : g a0 = 52) (h_om : μ.1 a0 68 = om) (hp0 : om ≤ 1990) (K : ∀ (μ2 : eM) (om2 : Int), SI g μ2 → Fr l_355_28 0 0 g μ μ2 → μ2.1 a0 68 = om2 → (om2 = om + 5) → ex_q (dt_fg L ρ) rc (d + 5, (f.1, f.2.1, f.2.2.1, f.2.2.2), F, μ2)) : ex_q (dt_fg L ρ) rc (d + 4, (355, 0, [some (eR a0), some (eR 28), none], []), f :: F, μ) := by
  have F0 : Fr l_355_28 0 0 g μ μ := Fr.r
  have b_om : 0 ≤ om ∧ om ≤ 2000 := by
    rw [← h_om]
    exact hI.int gA0 (by decide) (n := 69) rfl (by decide) rfl
  refine w_t (np := 1) (l2 := [some (eR a0), some (eR 28), none]) (s2 := [eI (0)]) rfl rfl rfl ?_
  refine w_t (np := 2) (l2 := [some (eR a0), some (eR 28), some (eI (0))]) (s2 := []) rfl rfl rfl ?_
  have hL2 : ∀ (n1 : Nat) (m5 : eM) (i3 : Int) (x8 : Int), SI g m5 → Fr l_355_28 0 0 g μ m5 → (0 ≤ i3 ∧ i3 ≤ 5) → m5.1 a0 68 = x8 → (0 ≤ x8 ∧ x8 ≤ 2000) → x8 = om + i3 → n1 = (5 - i3).toNat → ex_q (dt_fg L ρ) rc (d + 4, (355, 2, [some (eR a0), some (eR 28), some (eI (i3))], []), f :: F, m5) := by
    intro n1
    induction n1 using Nat.strongRecOn with
    | _ n1 ih2 =>
    intro m5 i3 x8 I6 F7 b4 h9 b10 r11 hn12
    refine w_t (np := 3) (l2 := [some (eR a0), some (eR 28), some (eI (i3))]) (s2 := [eI (i3)]) rfl rfl rfl ?_
    refine w_t (np := 4) (l2 := [some (eR a0), some (eR 28), some (eI (i3))]) (s2 := [eR 28, eI (i3)]) rfl (s_an rfl (by decide)) rfl ?_
    refine j_sn (np := 7) (n := 5) rfl rfl (by omega) rfl rfl rfl rfl ?_
    rw [show ((5 : Nat) : Int) = 5 from rfl]
    refine b_cge (t1 := 40) (t2 := 10) rfl rfl rfl (ev_w_in (by omega) (by omega)) rfl (fun g13 => ?_) (fun g13 => ?_)
    · have b14 : 5 ≤ i3 ∧ i3 ≤ 5 := by omega
      exact v_rv rfl rfl (K m5 (x8) I6 F7 h9 (by omega))
    · have b14 : 0 ≤ i3 ∧ i3 ≤ 4 := by omega
      refine w_t (np := 11) (l2 := [some (eR a0), some (eR 28), some (eI (i3))]) (s2 := [eR a0]) rfl (s_an rfl (pos_g I6 gA0 (by decide))) rfl ?_
      refine j_gr (np := 14) rfl rfl I6 gA0 (by decide) (n := 69) rfl rfl rfl ?_
      intro v14 e15 b16 z17
      have b16 : g v14 = 89 := Nat.eq_of_beq_eq_true b16
      refine w_t (np := 15) (l2 := [some (eR a0), some (eR 28), some (eI (i3))]) (s2 := [eR a0, eR v14]) rfl (s_an rfl (pos_g I6 gA0 (by decide))) rfl ?_
      refine w_gf (np := 18) (v := eI (x8)) rfl rfl (I6.kd gA0 (by decide) (n := 69) rfl) (by rw [h9]; rfl) ?_
      refine w_t (np := 19) (l2 := [some (eR a0), some (eR 28), some (eI (i3))]) (s2 := [eR 28, eI (x8), eR v14]) rfl (s_an rfl (by decide)) rfl ?_
      refine w_t (np := 20) (l2 := [some (eR a0), some (eR 28), some (eI (i3))]) (s2 := [eI (i3), eR 28, eI (x8), eR v14]) rfl rfl rfl ?_
      refine j_sc (np := 23) (n := 5) (lo := 99) (hi := 116) rfl rfl (by omega) rfl rfl (by omega) (by omega) rfl rfl ?_
      intro v18 b19
      refine j_as (np := 24) rfl rfl I6 b16 (by decide) (n := 2000) rfl rfl (lo := -2147483648) (hi := 2147483647) (fun _ => rfl) (by omega) (by omega) (by omega) ?_
      intro m20 I21 W22
      have F23 : Fr l_355_28 0 0 g μ m20 := F7.v W22 b16 rfl rfl
      refine w_t (np := 25) (l2 := [some (eR a0), some (eR 28), some (eI (i3))]) (s2 := [eR a0]) rfl (s_an rfl (pos_g I21 gA0 (by decide))) rfl ?_
      refine w_t (np := 26) (l2 := [some (eR a0), some (eR 28), some (eI (i3))]) (s2 := [eR a0, eR a0]) rfl rfl rfl ?_
      refine w_gf (np := 29) (v := eI (x8)) rfl rfl (I21.kd gA0 (by decide) (n := 69) rfl) (by rw [(W22.addr h9 b16 gA0 (by decide))]; rfl) ?_
      refine w_t (np := 30) (l2 := [some (eR a0), some (eR 28), some (eI (i3))]) (s2 := [eI (1), eI (x8), eR a0]) rfl rfl rfl ?_
      obtain ⟨v24, e25⟩ : ∃ zz : Int, zz = (x8) + (1) := ⟨_, rfl⟩
      have b26 : 1 ≤ v24 ∧ v24 ≤ 2001 := by omega
      refine w_t (np := 31) (l2 := [some (eR a0), some (eR 28), some (eI (i3))]) (s2 := [eI (v24), eR a0]) rfl (b_iadd (by rw [← e25]; exact ev_w_in (by omega) (by omega))) rfl ?_
      refine j_pf (np := 34) (w := v24) rfl rfl I21 gA0 (by decide) (n := 69) rfl rfl (hO_i (lo := 0) (hi := 2000) rfl (by omega)) ?_
      intro m27 I28 W29
      have F30 : Fr l_355_28 0 0 g μ m27 := F23.w W29 gA0 rfl
      obtain ⟨v31, e32⟩ : ∃ zz : Int, zz = (i3) + (1) := ⟨_, rfl⟩
      have b33 : 1 ≤ v31 ∧ v31 ≤ 5 := by omega
      refine w_t (np := 37) (l2 := [some (eR a0), some (eR 28), some (eI (v31))]) (s2 := []) rfl (b_iinc rfl (by rw [← e32]; exact ev_w_in (by omega) (by omega)) rfl) rfl ?_
      refine w_go (t1 := 2) rfl rfl ?_
      exact ih2 (5 - (v31)).toNat (by omega) m27 (v31) (v24) I28 F30 (by omega)  W29.at (by omega)  (by omega) rfl
  exact hL2 _ μ (0) (om) hI F0 (by decide)  h_om (by omega)  (by omega) rfl
def l_355_29 : List Nat := [13381, 22784]
theorem s_355_29 {L : Nat} {ρ : Nat → Int} {rc : eQ} {d : Nat} {f : eFr} {F : List eFr} {μ : eM} {g : Nat → Nat} {a0 : Nat} {om : Int} (hI : SI g μ) (gA0 : g a0 = 52) (h_om : μ.1 a0 68 = om) (hp0 : om ≤ 1990) (K : ∀ (μ2 : eM) (om2 : Int), SI g μ2 → Fr l_355_29 0 0 g μ μ2 → μ2.1 a0 68 = om2 → (om2 = om + 5) → ex_q (dt_fg L ρ) rc (d + 5, (f.1, f.2.1, f.2.2.1, f.2.2.2), F, μ2)) : ex_q (dt_fg L ρ) rc (d + 4, (355, 0, [some (eR a0), some (eR 29), none], []), f :: F, μ) := by
  have F0 : Fr l_355_29 0 0 g μ μ := Fr.r
  have b_om : 0 ≤ om ∧ om ≤ 2000 := by
    rw [← h_om]
    exact hI.int gA0 (by decide) (n := 69) rfl (by decide) rfl
  refine w_t (np := 1) (l2 := [some (eR a0), some (eR 29), none]) (s2 := [eI (0)]) rfl rfl rfl ?_
  refine w_t (np := 2) (l2 := [some (eR a0), some (eR 29), some (eI (0))]) (s2 := []) rfl rfl rfl ?_
  have hL2 : ∀ (n1 : Nat) (m5 : eM) (i3 : Int) (x8 : Int), SI g m5 → Fr l_355_29 0 0 g μ m5 → (0 ≤ i3 ∧ i3 ≤ 5) → m5.1 a0 68 = x8 → (0 ≤ x8 ∧ x8 ≤ 2000) → x8 = om + i3 → n1 = (5 - i3).toNat → ex_q (dt_fg L ρ) rc (d + 4, (355, 2, [some (eR a0), some (eR 29), some (eI (i3))], []), f :: F, m5) := by
    intro n1
    induction n1 using Nat.strongRecOn with
    | _ n1 ih2 =>
    intro m5 i3 x8 I6 F7 b4 h9 b10 r11 hn12
    refine w_t (np := 3) (l2 := [some (eR a0), some (eR 29), some (eI (i3))]) (s2 := [eI (i3)]) rfl rfl rfl ?_
    refine w_t (np := 4) (l2 := [some (eR a0), some (eR 29), some (eI (i3))]) (s2 := [eR 29, eI (i3)]) rfl (s_an rfl (by decide)) rfl ?_
    refine j_sn (np := 7) (n := 5) rfl rfl (by omega) rfl rfl rfl rfl ?_
    rw [show ((5 : Nat) : Int) = 5 from rfl]
    refine b_cge (t1 := 40) (t2 := 10) rfl rfl rfl (ev_w_in (by omega) (by omega)) rfl (fun g13 => ?_) (fun g13 => ?_)
    · have b14 : 5 ≤ i3 ∧ i3 ≤ 5 := by omega
      exact v_rv rfl rfl (K m5 (x8) I6 F7 h9 (by omega))
    · have b14 : 0 ≤ i3 ∧ i3 ≤ 4 := by omega
      refine w_t (np := 11) (l2 := [some (eR a0), some (eR 29), some (eI (i3))]) (s2 := [eR a0]) rfl (s_an rfl (pos_g I6 gA0 (by decide))) rfl ?_
      refine j_gr (np := 14) rfl rfl I6 gA0 (by decide) (n := 69) rfl rfl rfl ?_
      intro v14 e15 b16 z17
      have b16 : g v14 = 89 := Nat.eq_of_beq_eq_true b16
      refine w_t (np := 15) (l2 := [some (eR a0), some (eR 29), some (eI (i3))]) (s2 := [eR a0, eR v14]) rfl (s_an rfl (pos_g I6 gA0 (by decide))) rfl ?_
      refine w_gf (np := 18) (v := eI (x8)) rfl rfl (I6.kd gA0 (by decide) (n := 69) rfl) (by rw [h9]; rfl) ?_
      refine w_t (np := 19) (l2 := [some (eR a0), some (eR 29), some (eI (i3))]) (s2 := [eR 29, eI (x8), eR v14]) rfl (s_an rfl (by decide)) rfl ?_
      refine w_t (np := 20) (l2 := [some (eR a0), some (eR 29), some (eI (i3))]) (s2 := [eI (i3), eR 29, eI (x8), eR v14]) rfl rfl rfl ?_
      refine j_sc (np := 23) (n := 5) (lo := 32) (hi := 117) rfl rfl (by omega) rfl rfl (by omega) (by omega) rfl rfl ?_
      intro v18 b19
      refine j_as (np := 24) rfl rfl I6 b16 (by decide) (n := 2000) rfl rfl (lo := -2147483648) (hi := 2147483647) (fun _ => rfl) (by omega) (by omega) (by omega) ?_
      intro m20 I21 W22
      have F23 : Fr l_355_29 0 0 g μ m20 := F7.v W22 b16 rfl rfl
      refine w_t (np := 25) (l2 := [some (eR a0), some (eR 29), some (eI (i3))]) (s2 := [eR a0]) rfl (s_an rfl (pos_g I21 gA0 (by decide))) rfl ?_
      refine w_t (np := 26) (l2 := [some (eR a0), some (eR 29), some (eI (i3))]) (s2 := [eR a0, eR a0]) rfl rfl rfl ?_
      refine w_gf (np := 29) (v := eI (x8)) rfl rfl (I21.kd gA0 (by decide) (n := 69) rfl) (by rw [(W22.addr h9 b16 gA0 (by decide))]; rfl) ?_
      refine w_t (np := 30) (l2 := [some (eR a0), some (eR 29), some (eI (i3))]) (s2 := [eI (1), eI (x8), eR a0]) rfl rfl rfl ?_
      obtain ⟨v24, e25⟩ : ∃ zz : Int, zz = (x8) + (1) := ⟨_, rfl⟩
      have b26 : 1 ≤ v24 ∧ v24 ≤ 2001 := by omega
      refine w_t (np := 31) (l2 := [some (eR a0), some (eR 29), some (eI (i3))]) (s2 := [eI (v24), eR a0]) rfl (b_iadd (by rw [← e25]; exact ev_w_in (by omega) (by omega))) rfl ?_
      refine j_pf (np := 34) (w := v24) rfl rfl I21 gA0 (by decide) (n := 69) rfl rfl (hO_i (lo := 0) (hi := 2000) rfl (by omega)) ?_
      intro m27 I28 W29
      have F30 : Fr l_355_29 0 0 g μ m27 := F23.w W29 gA0 rfl
      obtain ⟨v31, e32⟩ : ∃ zz : Int, zz = (i3) + (1) := ⟨_, rfl⟩
      have b33 : 1 ≤ v31 ∧ v31 ≤ 5 := by omega
      refine w_t (np := 37) (l2 := [some (eR a0), some (eR 29), some (eI (v31))]) (s2 := []) rfl (b_iinc rfl (by rw [← e32]; exact ev_w_in (by omega) (by omega)) rfl) rfl ?_
      refine w_go (t1 := 2) rfl rfl ?_
      exact ih2 (5 - (v31)).toNat (by omega) m27 (v31) (v24) I28 F30 (by omega)  W29.at (by omega)  (by omega) rfl
  exact hL2 _ μ (0) (om) hI F0 (by decide)  h_om (by omega)  (by omega) rfl
def l_355_30 : List Nat := [13381, 22784]
theorem s_355_30 {L : Nat} {ρ : Nat → Int} {rc : eQ} {d : Nat} {f : eFr} {F : List eFr} {μ : eM} {g : Nat → Nat} {a0 : Nat} {om : Int} (hI : SI g μ) (gA0 : g a0 = 52) (h_om : μ.1 a0 68 = om) (hp0 : om ≤ 1990) (K : ∀ (μ2 : eM) (om2 : Int), SI g μ2 → Fr l_355_30 0 0 g μ μ2 → μ2.1 a0 68 = om2 → (om2 = om + 5) → ex_q (dt_fg L ρ) rc (d + 5, (f.1, f.2.1, f.2.2.1, f.2.2.2), F, μ2)) : ex_q (dt_fg L ρ) rc (d + 4, (355, 0, [some (eR a0), some (eR 30), none], []), f :: F, μ) := by
  have F0 : Fr l_355_30 0 0 g μ μ := Fr.r
  have b_om : 0 ≤ om ∧ om ≤ 2000 := by
    rw [← h_om]
    exact hI.int gA0 (by decide) (n := 69) rfl (by decide) rfl
  refine w_t (np := 1) (l2 := [some (eR a0), some (eR 30), none]) (s2 := [eI (0)]) rfl rfl rfl ?_
  refine w_t (np := 2) (l2 := [some (eR a0), some (eR 30), some (eI (0))]) (s2 := []) rfl rfl rfl ?_
  have hL2 : ∀ (n1 : Nat) (m5 : eM) (i3 : Int) (x8 : Int), SI g m5 → Fr l_355_30 0 0 g μ m5 → (0 ≤ i3 ∧ i3 ≤ 5) → m5.1 a0 68 = x8 → (0 ≤ x8 ∧ x8 ≤ 2000) → x8 = om + i3 → n1 = (5 - i3).toNat → ex_q (dt_fg L ρ) rc (d + 4, (355, 2, [some (eR a0), some (eR 30), some (eI (i3))], []), f :: F, m5) := by
    intro n1
    induction n1 using Nat.strongRecOn with
    | _ n1 ih2 =>
    intro m5 i3 x8 I6 F7 b4 h9 b10 r11 hn12
    refine w_t (np := 3) (l2 := [some (eR a0), some (eR 30), some (eI (i3))]) (s2 := [eI (i3)]) rfl rfl rfl ?_
    refine w_t (np := 4) (l2 := [some (eR a0), some (eR 30), some (eI (i3))]) (s2 := [eR 30, eI (i3)]) rfl (s_an rfl (by decide)) rfl ?_
    refine j_sn (np := 7) (n := 5) rfl rfl (by omega) rfl rfl rfl rfl ?_
    rw [show ((5 : Nat) : Int) = 5 from rfl]
    refine b_cge (t1 := 40) (t2 := 10) rfl rfl rfl (ev_w_in (by omega) (by omega)) rfl (fun g13 => ?_) (fun g13 => ?_)
    · have b14 : 5 ≤ i3 ∧ i3 ≤ 5 := by omega
      exact v_rv rfl rfl (K m5 (x8) I6 F7 h9 (by omega))
    · have b14 : 0 ≤ i3 ∧ i3 ≤ 4 := by omega
      refine w_t (np := 11) (l2 := [some (eR a0), some (eR 30), some (eI (i3))]) (s2 := [eR a0]) rfl (s_an rfl (pos_g I6 gA0 (by decide))) rfl ?_
      refine j_gr (np := 14) rfl rfl I6 gA0 (by decide) (n := 69) rfl rfl rfl ?_
      intro v14 e15 b16 z17
      have b16 : g v14 = 89 := Nat.eq_of_beq_eq_true b16
      refine w_t (np := 15) (l2 := [some (eR a0), some (eR 30), some (eI (i3))]) (s2 := [eR a0, eR v14]) rfl (s_an rfl (pos_g I6 gA0 (by decide))) rfl ?_
      refine w_gf (np := 18) (v := eI (x8)) rfl rfl (I6.kd gA0 (by decide) (n := 69) rfl) (by rw [h9]; rfl) ?_
      refine w_t (np := 19) (l2 := [some (eR a0), some (eR 30), some (eI (i3))]) (s2 := [eR 30, eI (x8), eR v14]) rfl (s_an rfl (by decide)) rfl ?_
      refine w_t (np := 20) (l2 := [some (eR a0), some (eR 30), some (eI (i3))]) (s2 := [eI (i3), eR 30, eI (x8), eR v14]) rfl rfl rfl ?_
      refine j_sc (np := 23) (n := 5) (lo := 32) (hi := 110) rfl rfl (by omega) rfl rfl (by omega) (by omega) rfl rfl ?_
      intro v18 b19
      refine j_as (np := 24) rfl rfl I6 b16 (by decide) (n := 2000) rfl rfl (lo := -2147483648) (hi := 2147483647) (fun _ => rfl) (by omega) (by omega) (by omega) ?_
      intro m20 I21 W22
      have F23 : Fr l_355_30 0 0 g μ m20 := F7.v W22 b16 rfl rfl
      refine w_t (np := 25) (l2 := [some (eR a0), some (eR 30), some (eI (i3))]) (s2 := [eR a0]) rfl (s_an rfl (pos_g I21 gA0 (by decide))) rfl ?_
      refine w_t (np := 26) (l2 := [some (eR a0), some (eR 30), some (eI (i3))]) (s2 := [eR a0, eR a0]) rfl rfl rfl ?_
      refine w_gf (np := 29) (v := eI (x8)) rfl rfl (I21.kd gA0 (by decide) (n := 69) rfl) (by rw [(W22.addr h9 b16 gA0 (by decide))]; rfl) ?_
      refine w_t (np := 30) (l2 := [some (eR a0), some (eR 30), some (eI (i3))]) (s2 := [eI (1), eI (x8), eR a0]) rfl rfl rfl ?_
      obtain ⟨v24, e25⟩ : ∃ zz : Int, zz = (x8) + (1) := ⟨_, rfl⟩
      have b26 : 1 ≤ v24 ∧ v24 ≤ 2001 := by omega
      refine w_t (np := 31) (l2 := [some (eR a0), some (eR 30), some (eI (i3))]) (s2 := [eI (v24), eR a0]) rfl (b_iadd (by rw [← e25]; exact ev_w_in (by omega) (by omega))) rfl ?_
      refine j_pf (np := 34) (w := v24) rfl rfl I21 gA0 (by decide) (n := 69) rfl rfl (hO_i (lo := 0) (hi := 2000) rfl (by omega)) ?_
      intro m27 I28 W29
      have F30 : Fr l_355_30 0 0 g μ m27 := F23.w W29 gA0 rfl
      obtain ⟨v31, e32⟩ : ∃ zz : Int, zz = (i3) + (1) := ⟨_, rfl⟩
      have b33 : 1 ≤ v31 ∧ v31 ≤ 5 := by omega
      refine w_t (np := 37) (l2 := [some (eR a0), some (eR 30), some (eI (v31))]) (s2 := []) rfl (b_iinc rfl (by rw [← e32]; exact ev_w_in (by omega) (by omega)) rfl) rfl ?_
      refine w_go (t1 := 2) rfl rfl ?_
      exact ih2 (5 - (v31)).toNat (by omega) m27 (v31) (v24) I28 F30 (by omega)  W29.at (by omega)  (by omega) rfl
  exact hL2 _ μ (0) (om) hI F0 (by decide)  h_om (by omega)  (by omega) rfl
def l_355_31 : List Nat := [13381, 22784]
theorem s_355_31 {L : Nat} {ρ : Nat → Int} {rc : eQ} {d : Nat} {f : eFr} {F : List eFr} {μ : eM} {g : Nat → Nat} {a0 : Nat} {om : Int} (hI : SI g μ) (gA0 : g a0 = 52) (h_om : μ.1 a0 68 = om) (hp0 : om ≤ 1990) (K : ∀ (μ2 : eM) (om2 : Int), SI g μ2 → Fr l_355_31 0 0 g μ μ2 → μ2.1 a0 68 = om2 → (om2 = om + 1) → ex_q (dt_fg L ρ) rc (d + 5, (f.1, f.2.1, f.2.2.1, f.2.2.2), F, μ2)) : ex_q (dt_fg L ρ) rc (d + 4, (355, 0, [some (eR a0), some (eR 31), none], []), f :: F, μ) := by
  have F0 : Fr l_355_31 0 0 g μ μ := Fr.r
  have b_om : 0 ≤ om ∧ om ≤ 2000 := by
    rw [← h_om]
    exact hI.int gA0 (by decide) (n := 69) rfl (by decide) rfl
  refine w_t (np := 1) (l2 := [some (eR a0), some (eR 31), none]) (s2 := [eI (0)]) rfl rfl rfl ?_
  refine w_t (np := 2) (l2 := [some (eR a0), some (eR 31), some (eI (0))]) (s2 := []) rfl rfl rfl ?_
  have hL2 : ∀ (n1 : Nat) (m5 : eM) (i3 : Int) (x8 : Int), SI g m5 → Fr l_355_31 0 0 g μ m5 → (0 ≤ i3 ∧ i3 ≤ 1) → m5.1 a0 68 = x8 → (0 ≤ x8 ∧ x8 ≤ 2000) → x8 = om + i3 → n1 = (1 - i3).toNat → ex_q (dt_fg L ρ) rc (d + 4, (355, 2, [some (eR a0), some (eR 31), some (eI (i3))], []), f :: F, m5) := by
    intro n1
    induction n1 using Nat.strongRecOn with
    | _ n1 ih2 =>
    intro m5 i3 x8 I6 F7 b4 h9 b10 r11 hn12
    refine w_t (np := 3) (l2 := [some (eR a0), some (eR 31), some (eI (i3))]) (s2 := [eI (i3)]) rfl rfl rfl ?_
    refine w_t (np := 4) (l2 := [some (eR a0), some (eR 31), some (eI (i3))]) (s2 := [eR 31, eI (i3)]) rfl (s_an rfl (by decide)) rfl ?_
    refine j_sn (np := 7) (n := 1) rfl rfl (by omega) rfl rfl rfl rfl ?_
    rw [show ((1 : Nat) : Int) = 1 from rfl]
    refine b_cge (t1 := 40) (t2 := 10) rfl rfl rfl (ev_w_in (by omega) (by omega)) rfl (fun g13 => ?_) (fun g13 => ?_)
    · have b14 : 1 ≤ i3 ∧ i3 ≤ 1 := by omega
      exact v_rv rfl rfl (K m5 (x8) I6 F7 h9 (by omega))
    · have b14 : 0 ≤ i3 ∧ i3 ≤ 0 := by omega
      refine w_t (np := 11) (l2 := [some (eR a0), some (eR 31), some (eI (i3))]) (s2 := [eR a0]) rfl (s_an rfl (pos_g I6 gA0 (by decide))) rfl ?_
      refine j_gr (np := 14) rfl rfl I6 gA0 (by decide) (n := 69) rfl rfl rfl ?_
      intro v14 e15 b16 z17
      have b16 : g v14 = 89 := Nat.eq_of_beq_eq_true b16
      refine w_t (np := 15) (l2 := [some (eR a0), some (eR 31), some (eI (i3))]) (s2 := [eR a0, eR v14]) rfl (s_an rfl (pos_g I6 gA0 (by decide))) rfl ?_
      refine w_gf (np := 18) (v := eI (x8)) rfl rfl (I6.kd gA0 (by decide) (n := 69) rfl) (by rw [h9]; rfl) ?_
      refine w_t (np := 19) (l2 := [some (eR a0), some (eR 31), some (eI (i3))]) (s2 := [eR 31, eI (x8), eR v14]) rfl (s_an rfl (by decide)) rfl ?_
      refine w_t (np := 20) (l2 := [some (eR a0), some (eR 31), some (eI (i3))]) (s2 := [eI (i3), eR 31, eI (x8), eR v14]) rfl rfl rfl ?_
      refine j_sc (np := 23) (n := 1) (lo := 59) (hi := 59) rfl rfl (by omega) rfl rfl (by omega) (by omega) rfl rfl ?_
      intro v18 b19
      refine j_as (np := 24) rfl rfl I6 b16 (by decide) (n := 2000) rfl rfl (lo := -2147483648) (hi := 2147483647) (fun _ => rfl) (by omega) (by omega) (by omega) ?_
      intro m20 I21 W22
      have F23 : Fr l_355_31 0 0 g μ m20 := F7.v W22 b16 rfl rfl
      refine w_t (np := 25) (l2 := [some (eR a0), some (eR 31), some (eI (i3))]) (s2 := [eR a0]) rfl (s_an rfl (pos_g I21 gA0 (by decide))) rfl ?_
      refine w_t (np := 26) (l2 := [some (eR a0), some (eR 31), some (eI (i3))]) (s2 := [eR a0, eR a0]) rfl rfl rfl ?_
      refine w_gf (np := 29) (v := eI (x8)) rfl rfl (I21.kd gA0 (by decide) (n := 69) rfl) (by rw [(W22.addr h9 b16 gA0 (by decide))]; rfl) ?_
      refine w_t (np := 30) (l2 := [some (eR a0), some (eR 31), some (eI (i3))]) (s2 := [eI (1), eI (x8), eR a0]) rfl rfl rfl ?_
      obtain ⟨v24, e25⟩ : ∃ zz : Int, zz = (x8) + (1) := ⟨_, rfl⟩
      have b26 : 1 ≤ v24 ∧ v24 ≤ 2001 := by omega
      refine w_t (np := 31) (l2 := [some (eR a0), some (eR 31), some (eI (i3))]) (s2 := [eI (v24), eR a0]) rfl (b_iadd (by rw [← e25]; exact ev_w_in (by omega) (by omega))) rfl ?_
      refine j_pf (np := 34) (w := v24) rfl rfl I21 gA0 (by decide) (n := 69) rfl rfl (hO_i (lo := 0) (hi := 2000) rfl (by omega)) ?_
      intro m27 I28 W29
      have F30 : Fr l_355_31 0 0 g μ m27 := F23.w W29 gA0 rfl
      obtain ⟨v31, e32⟩ : ∃ zz : Int, zz = (i3) + (1) := ⟨_, rfl⟩
      have b33 : 1 ≤ v31 ∧ v31 ≤ 1 := by omega
      refine w_t (np := 37) (l2 := [some (eR a0), some (eR 31), some (eI (v31))]) (s2 := []) rfl (b_iinc rfl (by rw [← e32]; exact ev_w_in (by omega) (by omega)) rfl) rfl ?_
      refine w_go (t1 := 2) rfl rfl ?_
      exact ih2 (1 - (v31)).toNat (by omega) m27 (v31) (v24) I28 F30 (by omega)  W29.at (by omega)  (by omega) rfl
  exact hL2 _ μ (0) (om) hI F0 (by decide)  h_om (by omega)  (by omega) rfl
def l_356 : List Nat := [13381, 22784]
theorem s_356 {L : Nat} {ρ : Nat → Int} {rc : eQ} {d : Nat} {f : eFr} {F : List eFr} {μ : eM} {g : Nat → Nat} {a0 : Nat} {a1 : Int} {om : Int} (hI : SI g μ) (gA0 : g a0 = 52) (bA1 : -2147483648 ≤ a1 ∧ a1 ≤ 2147483647) (h_om : μ.1 a0 68 = om) (hp0 : om ≤ 1980) (K : ∀ (μ2 : eM) (om2 : Int), SI g μ2 → Fr l_356 0 0 g μ μ2 → μ2.1 a0 68 = om2 → (om2 ≤ om + 7) → ex_q (dt_fg L ρ) rc (d + 6, (f.1, f.2.1, f.2.2.1, f.2.2.2), F, μ2)) : ex_q (dt_fg L ρ) rc (d + 5, (356, 0, [some (eR a0), some (eI (a1)), none, none], []), f :: F, μ) := by
  have F0 : Fr l_356 0 0 g μ μ := Fr.r
  have b_om : 0 ≤ om ∧ om ≤ 2000 := by
    rw [← h_om]
    exact hI.int gA0 (by decide) (n := 69) rfl (by decide) rfl
  refine w_t (np := 1) (l2 := [some (eR a0), some (eI (a1)), none, none]) (s2 := [eR a0]) rfl (s_an rfl (pos_g hI gA0 (by decide))) rfl ?_
  refine w_t (np := 2) (l2 := [some (eR a0), some (eI (a1)), none, none]) (s2 := [eI (a1), eR a0]) rfl rfl rfl ?_
  refine b_ige (t1 := 11) (t2 := 5) rfl rfl rfl (ev_w_in (by omega) (by omega)) (fun g1 => ?_) (fun g1 => ?_)
  · have b2 : 0 ≤ a1 ∧ a1 ≤ 2147483647 := by omega
    refine j_lw (np := 14) rfl rfl rfl ?_
    refine w_cw (np := 17) (as := [eR 26]) (l2 := [some (eR a0), some (eR 26), none]) (rest := []) rfl rfl rfl (Nat.ble_eq.mp rfl) rfl rfl rfl (hI.kd gA0 (by decide) (n := 69) rfl) rfl ?_
    refine s_355_26 hI gA0 h_om (by omega) ?_
    intro m2 v5 I3 F4 e6 h7
    have F8 : Fr l_356 0 0 g μ m2 := F0.t F4 rfl
    have b9 : 0 ≤ v5 ∧ v5 ≤ 2000 := by
      rw [← e6]
      exact I3.int gA0 (by decide) (n := 69) rfl (by decide) rfl
    show ex_q (dt_fg L ρ) rc (d + 5, (356, 17, [some (eR a0), some (eI (a1)), none, none], []), f :: F, m2)
    refine w_t (np := 18) (l2 := [some (eR a0), some (eI (a1)), none, none]) (s2 := [eI (a1)]) rfl rfl rfl ?_
    refine b_ige (t1 := 27) (t2 := 21) rfl rfl rfl (ev_w_in (by omega) (by omega)) (fun g10 => ?_) (fun g10 => False.elim (by omega))
    refine w_t (np := 28) (l2 := [some (eR a0), some (eI (a1)), none, none]) (s2 := [eI (a1)]) rfl rfl rfl ?_
    refine w_t (np := 29) (l2 := [some (eR a0), some (eI (a1)), some (eI (a1)), none]) (s2 := []) rfl rfl rfl ?_
    refine w_t (np := 32) (l2 := [some (eR a0), some (eI (a1)), some (eI (a1)), none]) (s2 := [eI (1000)]) rfl rfl rfl ?_
    refine w_t (np := 33) (l2 := [some (eR a0), some (eI (a1)), some (eI (a1)), some (eI (1000))]) (s2 := []) rfl rfl rfl ?_
    have hL33 : ∀ (n11 : Nat) (m15 : eM) (i13 : Int), SI g m15 → Fr l_356 0 0 g μ m15 → (1 ≤ i13 ∧ i13 ≤ 1000) → m15.1 a0 68 = v5 → (i13 = 1000 ∨ i13 = 100 ∨ i13 = 10 ∨ i13 = 1) → n11 = (i13).toNat → ex_q (dt_fg L ρ) rc (d + 5, (356, 33, [some (eR a0), some (eI (a1)), some (eI (a1)), some (eI (i13))], []), f :: F, m15) := by
      intro n11
      induction n11 using Nat.strongRecOn with
      | _ n11 ih12 =>
      intro m15 i13 I16 F17 b14 k18 r19 hn20
      refine w_t (np := 34) (l2 := [some (eR a0), some (eI (a1)), some (eI (a1)), some (eI (i13))]) (s2 := [eI (i13)]) rfl rfl rfl ?_
      refine w_t (np := 35) (l2 := [some (eR a0), some (eI (a1)), some (eI (a1)), some (eI (i13))]) (s2 := [eI (1), eI (i13)]) rfl rfl rfl ?_
      refine b_cle (t1 := 51) (t2 := 38) rfl rfl rfl (ev_w_in (by omega) (by omega)) rfl (fun g21 => ?_) (fun g21 => ?_)
      · have b22 : 1 ≤ i13 ∧ i13 ≤ 1 := by omega
        have hL51 : ∀ (n22 : Nat) (m26 : eM) (i24 : Int) (x29 : Int), SI g m26 → Fr l_356 0 0 g μ m26 → (0 ≤ i24 ∧ i24 ≤ 1000) → m26.1 a0 68 = x29 → (0 ≤ x29 ∧ x29 ≤ 2000) → ((i24 = 1000 ∧ x29 ≤ om + 3) ∨ (i24 = 100 ∧ x29 ≤ om + 4) ∨ (i24 = 10 ∧ x29 ≤ om + 5) ∨ (i24 = 1 ∧ x29 ≤ om + 6) ∨ (i24 = 0 ∧ x29 ≤ om + 7)) → n22 = (i24).toNat → ex_q (dt_fg L ρ) rc (d + 5, (356, 51, [some (eR a0), some (eI (a1)), some (eI (a1)), some (eI (i24))], []), f :: F, m26) := by
          intro n22
          induction n22 using Nat.strongRecOn with
          | _ n22 ih23 =>
          intro m26 i24 x29 I27 F28 b25 h30 b31 r32 hn33
          refine w_t (np := 52) (l2 := [some (eR a0), some (eI (a1)), some (eI (a1)), some (eI (i24))]) (s2 := [eI (i24)]) rfl rfl rfl ?_
          refine b_ile (t1 := 91) (t2 := 55) rfl rfl rfl (ev_w_in (by omega) (by omega)) (fun g34 => ?_) (fun g34 => ?_)
          · have b35 : 0 ≤ i24 ∧ i24 ≤ 0 := by omega
            exact v_rv rfl rfl (K m26 (x29) I27 F28 h30 (by omega))
          · have b35 : 1 ≤ i24 ∧ i24 ≤ 1000 := by omega
            refine w_t (np := 56) (l2 := [some (eR a0), some (eI (a1)), some (eI (a1)), some (eI (i24))]) (s2 := [eR a0]) rfl (s_an rfl (pos_g I27 gA0 (by decide))) rfl ?_
            refine j_gr (np := 59) rfl rfl I27 gA0 (by decide) (n := 69) rfl rfl rfl ?_
            intro v35 e36 b37 z38
            have b37 : g v35 = 89 := Nat.eq_of_beq_eq_true b37
            refine w_t (np := 60) (l2 := [some (eR a0), some (eI (a1)), some (eI (a1)), some (eI (i24))]) (s2 := [eR a0, eR v35]) rfl (s_an rfl (pos_g I27 gA0 (by decide))) rfl ?_
            refine w_gf (np := 63) (v := eI (x29)) rfl rfl (I27.kd gA0 (by decide) (n := 69) rfl) (by rw [h30]; rfl) ?_
            refine w_t (np := 65) (l2 := [some (eR a0), some (eI (a1)), some (eI (a1)), some (eI (i24))]) (s2 := [eI (48), eI (x29), eR v35]) rfl rfl rfl ?_
            refine w_t (np := 66) (l2 := [some (eR a0), some (eI (a1)), some (eI (a1)), some (eI (i24))]) (s2 := [eI (a1), eI (48), eI (x29), eR v35]) rfl rfl rfl ?_
            refine w_t (np := 67) (l2 := [some (eR a0), some (eI (a1)), some (eI (a1)), some (eI (i24))]) (s2 := [eI (i24), eI (a1), eI (48), eI (x29), eR v35]) rfl rfl rfl ?_
            obtain ⟨v39, e40, b41⟩ := h_idivp (a := a1) (k := i24) (by omega) (by omega)
            refine w_t (np := 68) (l2 := [some (eR a0), some (eI (a1)), some (eI (a1)), some (eI (i24))]) (s2 := [eI (v39), eI (48), eI (x29), eR v35]) rfl (e40 _ _) rfl ?_
            refine w_t (np := 70) (l2 := [some (eR a0), some (eI (a1)), some (eI (a1)), some (eI (i24))]) (s2 := [eI (10), eI (v39), eI (48), eI (x29), eR v35]) rfl rfl rfl ?_
            obtain ⟨v42, e43, b44⟩ := h_irem (a := v39) (k := 10) (by decide) (by decide) b41
            have b45 : -9 ≤ v42 ∧ v42 ≤ 9 := by omega
            refine w_t (np := 71) (l2 := [some (eR a0), some (eI (a1)), some (eI (a1)), some (eI (i24))]) (s2 := [eI (v42), eI (48), eI (x29), eR v35]) rfl (e43 _ _) rfl ?_
            obtain ⟨v46, e47⟩ : ∃ zz : Int, zz = (48) + (v42) := ⟨_, rfl⟩
            have b48 : 39 ≤ v46 ∧ v46 ≤ 57 := by omega
            refine w_t (np := 72) (l2 := [some (eR a0), some (eI (a1)), some (eI (a1)), some (eI (i24))]) (s2 := [eI (v46), eI (x29), eR v35]) rfl (b_iadd (by rw [← e47]; exact ev_w_in (by omega) (by omega))) rfl ?_
            refine j_as (np := 73) rfl rfl I27 b37 (by decide) (n := 2000) rfl rfl (lo := -2147483648) (hi := 2147483647) (fun _ => rfl) (by omega) (by omega) (by omega) ?_
            intro m49 I50 W51
            have F52 : Fr l_356 0 0 g μ m49 := F28.v W51 b37 rfl rfl
            refine w_t (np := 74) (l2 := [some (eR a0), some (eI (a1)), some (eI (a1)), some (eI (i24))]) (s2 := [eR a0]) rfl (s_an rfl (pos_g I50 gA0 (by decide))) rfl ?_
            refine w_t (np := 75) (l2 := [some (eR a0), some (eI (a1)), some (eI (a1)), some (eI (i24))]) (s2 := [eR a0, eR a0]) rfl rfl rfl ?_
            refine w_gf (np := 78) (v := eI (x29)) rfl rfl (I50.kd gA0 (by decide) (n := 69) rfl) (by rw [(W51.addr h30 b37 gA0 (by decide))]; rfl) ?_
            refine w_t (np := 79) (l2 := [some (eR a0), some (eI (a1)), some (eI (a1)), some (eI (i24))]) (s2 := [eI (1), eI (x29), eR a0]) rfl rfl rfl ?_
            obtain ⟨v53, e54⟩ : ∃ zz : Int, zz = (x29) + (1) := ⟨_, rfl⟩
            have b55 : 1 ≤ v53 ∧ v53 ≤ 2001 := by omega
            refine w_t (np := 80) (l2 := [some (eR a0), some (eI (a1)), some (eI (a1)), some (eI (i24))]) (s2 := [eI (v53), eR a0]) rfl (b_iadd (by rw [← e54]; exact ev_w_in (by omega) (by omega))) rfl ?_
            refine j_pf (np := 83) (w := v53) rfl rfl I50 gA0 (by decide) (n := 69) rfl rfl (hO_i (lo := 0) (hi := 2000) rfl (by omega)) ?_
            intro m56 I57 W58
            have F59 : Fr l_356 0 0 g μ m56 := F52.w W58 gA0 rfl
            refine w_t (np := 84) (l2 := [some (eR a0), some (eI (a1)), some (eI (a1)), some (eI (i24))]) (s2 := [eI (i24)]) rfl rfl rfl ?_
            refine w_t (np := 86) (l2 := [some (eR a0), some (eI (a1)), some (eI (a1)), some (eI (i24))]) (s2 := [eI (10), eI (i24)]) rfl rfl rfl ?_
            obtain ⟨v60, e61, b62⟩ := h_idiv (a := i24) (k := 10) (by decide) (by decide) (show (-2147483648 : Int) ≤ i24 ∧ (i24 : Int) ≤ 2147483647 by omega)
            have b64 : v60 = (i24) / 10 := b62.1 (by omega)
            clear b62
            have b63 : 0 ≤ v60 ∧ v60 ≤ 100 := by omega
            refine w_t (np := 87) (l2 := [some (eR a0), some (eI (a1)), some (eI (a1)), some (eI (i24))]) (s2 := [eI (v60)]) rfl (e61 _ _) rfl ?_
            refine w_t (np := 88) (l2 := [some (eR a0), some (eI (a1)), some (eI (a1)), some (eI (v60))]) (s2 := []) rfl rfl rfl ?_
            refine w_go (t1 := 51) rfl rfl ?_
            exact ih23 ((v60)).toNat (by omega) m56 (v60) (v53) I57 F59 (by omega)  W58.at (by omega)  (by omega) rfl
        exact hL51 _ m15 (i13) (v5) I16 F17 (by omega)  k18 (by omega)  (by omega) rfl
      · have b22 : 2 ≤ i13 ∧ i13 ≤ 1000 := by omega
        refine w_t (np := 39) (l2 := [some (eR a0), some (eI (a1)), some (eI (a1)), some (eI (i13))]) (s2 := [eI (a1)]) rfl rfl rfl ?_
        refine w_t (np := 40) (l2 := [some (eR a0), some (eI (a1)), some (eI (a1)), some (eI (i13))]) (s2 := [eI (i13), eI (a1)]) rfl rfl rfl ?_
        refine b_cge (t1 := 51) (t2 := 43) rfl rfl rfl (ev_w_in (by omega) (by omega)) (ev_w_in (by omega) (by omega)) (fun g22 => ?_) (fun g22 => ?_)
        · have b23 : 2 ≤ a1 ∧ a1 ≤ 2147483647 := by omega
          have hL51 : ∀ (n23 : Nat) (m27 : eM) (i25 : Int) (x30 : Int), SI g m27 → Fr l_356 0 0 g μ m27 → (0 ≤ i25 ∧ i25 ≤ 1000) → m27.1 a0 68 = x30 → (0 ≤ x30 ∧ x30 ≤ 2000) → ((i25 = 1000 ∧ x30 ≤ om + 3) ∨ (i25 = 100 ∧ x30 ≤ om + 4) ∨ (i25 = 10 ∧ x30 ≤ om + 5) ∨ (i25 = 1 ∧ x30 ≤ om + 6) ∨ (i25 = 0 ∧ x30 ≤ om + 7)) → n23 = (i25).toNat → ex_q (dt_fg L ρ) rc (d + 5, (356, 51, [some (eR a0), some (eI (a1)), some (eI (a1)), some (eI (i25))], []), f :: F, m27) := by
            intro n23
            induction n23 using Nat.strongRecOn with
            | _ n23 ih24 =>
            intro m27 i25 x30 I28 F29 b26 h31 b32 r33 hn34
            refine w_t (np := 52) (l2 := [some (eR a0), some (eI (a1)), some (eI (a1)), some (eI (i25))]) (s2 := [eI (i25)]) rfl rfl rfl ?_
            refine b_ile (t1 := 91) (t2 := 55) rfl rfl rfl (ev_w_in (by omega) (by omega)) (fun g35 => ?_) (fun g35 => ?_)
            · have b36 : 0 ≤ i25 ∧ i25 ≤ 0 := by omega
              exact v_rv rfl rfl (K m27 (x30) I28 F29 h31 (by omega))
            · have b36 : 1 ≤ i25 ∧ i25 ≤ 1000 := by omega
              refine w_t (np := 56) (l2 := [some (eR a0), some (eI (a1)), some (eI (a1)), some (eI (i25))]) (s2 := [eR a0]) rfl (s_an rfl (pos_g I28 gA0 (by decide))) rfl ?_
              refine j_gr (np := 59) rfl rfl I28 gA0 (by decide) (n := 69) rfl rfl rfl ?_
              intro v36 e37 b38 z39
              have b38 : g v36 = 89 := Nat.eq_of_beq_eq_true b38
              refine w_t (np := 60) (l2 := [some (eR a0), some (eI (a1)), some (eI (a1)), some (eI (i25))]) (s2 := [eR a0, eR v36]) rfl (s_an rfl (pos_g I28 gA0 (by decide))) rfl ?_
              refine w_gf (np := 63) (v := eI (x30)) rfl rfl (I28.kd gA0 (by decide) (n := 69) rfl) (by rw [h31]; rfl) ?_
              refine w_t (np := 65) (l2 := [some (eR a0), some (eI (a1)), some (eI (a1)), some (eI (i25))]) (s2 := [eI (48), eI (x30), eR v36]) rfl rfl rfl ?_
              refine w_t (np := 66) (l2 := [some (eR a0), some (eI (a1)), some (eI (a1)), some (eI (i25))]) (s2 := [eI (a1), eI (48), eI (x30), eR v36]) rfl rfl rfl ?_
              refine w_t (np := 67) (l2 := [some (eR a0), some (eI (a1)), some (eI (a1)), some (eI (i25))]) (s2 := [eI (i25), eI (a1), eI (48), eI (x30), eR v36]) rfl rfl rfl ?_
              obtain ⟨v40, e41, b42⟩ := h_idivp (a := a1) (k := i25) (by omega) (by omega)
              refine w_t (np := 68) (l2 := [some (eR a0), some (eI (a1)), some (eI (a1)), some (eI (i25))]) (s2 := [eI (v40), eI (48), eI (x30), eR v36]) rfl (e41 _ _) rfl ?_
              refine w_t (np := 70) (l2 := [some (eR a0), some (eI (a1)), some (eI (a1)), some (eI (i25))]) (s2 := [eI (10), eI (v40), eI (48), eI (x30), eR v36]) rfl rfl rfl ?_
              obtain ⟨v43, e44, b45⟩ := h_irem (a := v40) (k := 10) (by decide) (by decide) b42
              have b46 : -9 ≤ v43 ∧ v43 ≤ 9 := by omega
              refine w_t (np := 71) (l2 := [some (eR a0), some (eI (a1)), some (eI (a1)), some (eI (i25))]) (s2 := [eI (v43), eI (48), eI (x30), eR v36]) rfl (e44 _ _) rfl ?_
              obtain ⟨v47, e48⟩ : ∃ zz : Int, zz = (48) + (v43) := ⟨_, rfl⟩
              have b49 : 39 ≤ v47 ∧ v47 ≤ 57 := by omega
              refine w_t (np := 72) (l2 := [some (eR a0), some (eI (a1)), some (eI (a1)), some (eI (i25))]) (s2 := [eI (v47), eI (x30), eR v36]) rfl (b_iadd (by rw [← e48]; exact ev_w_in (by omega) (by omega))) rfl ?_
              refine j_as (np := 73) rfl rfl I28 b38 (by decide) (n := 2000) rfl rfl (lo := -2147483648) (hi := 2147483647) (fun _ => rfl) (by omega) (by omega) (by omega) ?_
              intro m50 I51 W52
              have F53 : Fr l_356 0 0 g μ m50 := F29.v W52 b38 rfl rfl
              refine w_t (np := 74) (l2 := [some (eR a0), some (eI (a1)), some (eI (a1)), some (eI (i25))]) (s2 := [eR a0]) rfl (s_an rfl (pos_g I51 gA0 (by decide))) rfl ?_
              refine w_t (np := 75) (l2 := [some (eR a0), some (eI (a1)), some (eI (a1)), some (eI (i25))]) (s2 := [eR a0, eR a0]) rfl rfl rfl ?_
              refine w_gf (np := 78) (v := eI (x30)) rfl rfl (I51.kd gA0 (by decide) (n := 69) rfl) (by rw [(W52.addr h31 b38 gA0 (by decide))]; rfl) ?_
              refine w_t (np := 79) (l2 := [some (eR a0), some (eI (a1)), some (eI (a1)), some (eI (i25))]) (s2 := [eI (1), eI (x30), eR a0]) rfl rfl rfl ?_
              obtain ⟨v54, e55⟩ : ∃ zz : Int, zz = (x30) + (1) := ⟨_, rfl⟩
              have b56 : 1 ≤ v54 ∧ v54 ≤ 2001 := by omega
              refine w_t (np := 80) (l2 := [some (eR a0), some (eI (a1)), some (eI (a1)), some (eI (i25))]) (s2 := [eI (v54), eR a0]) rfl (b_iadd (by rw [← e55]; exact ev_w_in (by omega) (by omega))) rfl ?_
              refine j_pf (np := 83) (w := v54) rfl rfl I51 gA0 (by decide) (n := 69) rfl rfl (hO_i (lo := 0) (hi := 2000) rfl (by omega)) ?_
              intro m57 I58 W59
              have F60 : Fr l_356 0 0 g μ m57 := F53.w W59 gA0 rfl
              refine w_t (np := 84) (l2 := [some (eR a0), some (eI (a1)), some (eI (a1)), some (eI (i25))]) (s2 := [eI (i25)]) rfl rfl rfl ?_
              refine w_t (np := 86) (l2 := [some (eR a0), some (eI (a1)), some (eI (a1)), some (eI (i25))]) (s2 := [eI (10), eI (i25)]) rfl rfl rfl ?_
              obtain ⟨v61, e62, b63⟩ := h_idiv (a := i25) (k := 10) (by decide) (by decide) (show (-2147483648 : Int) ≤ i25 ∧ (i25 : Int) ≤ 2147483647 by omega)
              have b65 : v61 = (i25) / 10 := b63.1 (by omega)
              clear b63
              have b64 : 0 ≤ v61 ∧ v61 ≤ 100 := by omega
              refine w_t (np := 87) (l2 := [some (eR a0), some (eI (a1)), some (eI (a1)), some (eI (i25))]) (s2 := [eI (v61)]) rfl (e62 _ _) rfl ?_
              refine w_t (np := 88) (l2 := [some (eR a0), some (eI (a1)), some (eI (a1)), some (eI (v61))]) (s2 := []) rfl rfl rfl ?_
              refine w_go (t1 := 51) rfl rfl ?_
              exact ih24 ((v61)).toNat (by omega) m57 (v61) (v54) I58 F60 (by omega)  W59.at (by omega)  (by omega) rfl
          exact hL51 _ m15 (i13) (v5) I16 F17 (by omega)  k18 (by omega)  (by omega) rfl
        · have b23 : 0 ≤ a1 ∧ a1 ≤ 999 := by omega
          refine w_t (np := 44) (l2 := [some (eR a0), some (eI (a1)), some (eI (a1)), some (eI (i13))]) (s2 := [eI (i13)]) rfl rfl rfl ?_
          refine w_t (np := 46) (l2 := [some (eR a0), some (eI (a1)), some (eI (a1)), some (eI (i13))]) (s2 := [eI (10), eI (i13)]) rfl rfl rfl ?_
          obtain ⟨v23, e24, b25⟩ := h_idiv (a := i13) (k := 10) (by decide) (by decide) (show (-2147483648 : Int) ≤ i13 ∧ (i13 : Int) ≤ 2147483647 by omega)
          have b27 : v23 = (i13) / 10 := b25.1 (by omega)
          clear b25
          have b26 : 0 ≤ v23 ∧ v23 ≤ 100 := by omega
          refine w_t (np := 47) (l2 := [some (eR a0), some (eI (a1)), some (eI (a1)), some (eI (i13))]) (s2 := [eI (v23)]) rfl (e24 _ _) rfl ?_
          refine w_t (np := 48) (l2 := [some (eR a0), some (eI (a1)), some (eI (a1)), some (eI (v23))]) (s2 := []) rfl rfl rfl ?_
          refine w_go (t1 := 33) rfl rfl ?_
          exact ih12 ((v23)).toNat (by omega) m15 (v23) I16 F17 (by omega) k18   (by omega) rfl
    exact hL33 _ m2 (1000) I3 F8 (by decide) e6   (by omega) rfl
  · have b2 : -2147483648 ≤ a1 ∧ a1 ≤ -1 := by omega
    refine j_lw (np := 8) rfl rfl rfl ?_
    refine w_go (t1 := 14) rfl rfl ?_
    refine w_cw (np := 17) (as := [eR 25]) (l2 := [some (eR a0), some (eR 25), none]) (rest := []) rfl rfl rfl (Nat.ble_eq.mp rfl) rfl rfl rfl (hI.kd gA0 (by decide) (n := 69) rfl) rfl ?_
    refine s_355_25 hI gA0 h_om (by omega) ?_
    intro m2 v5 I3 F4 e6 h7
    have F8 : Fr l_356 0 0 g μ m2 := F0.t F4 rfl
    have b9 : 0 ≤ v5 ∧ v5 ≤ 2000 := by
      rw [← e6]
      exact I3.int gA0 (by decide) (n := 69) rfl (by decide) rfl
    show ex_q (dt_fg L ρ) rc (d + 5, (356, 17, [some (eR a0), some (eI (a1)), none, none], []), f :: F, m2)
    refine w_t (np := 18) (l2 := [some (eR a0), some (eI (a1)), none, none]) (s2 := [eI (a1)]) rfl rfl rfl ?_
    refine b_ige (t1 := 27) (t2 := 21) rfl rfl rfl (ev_w_in (by omega) (by omega)) (fun g10 => False.elim (by omega)) (fun g10 => ?_)
    refine w_t (np := 22) (l2 := [some (eR a0), some (eI (a1)), none, none]) (s2 := [eI (0)]) rfl rfl rfl ?_
    refine w_t (np := 23) (l2 := [some (eR a0), some (eI (a1)), none, none]) (s2 := [eI (a1), eI (0)]) rfl rfl rfl ?_
    obtain ⟨v11, e12, b13⟩ : ∃ zz : Int, ev_w ((0) - (a1)) = zz ∧ (-2147483648 ≤ zz ∧ zz ≤ 2147483647) := ⟨_, rfl, hw_bd _⟩
    refine w_t (np := 24) (l2 := [some (eR a0), some (eI (a1)), none, none]) (s2 := [eI (v11)]) rfl (b_isub e12) rfl ?_
    refine w_go (t1 := 28) rfl rfl ?_
    refine w_t (np := 29) (l2 := [some (eR a0), some (eI (a1)), some (eI (v11)), none]) (s2 := []) rfl rfl rfl ?_
    refine w_t (np := 32) (l2 := [some (eR a0), some (eI (a1)), some (eI (v11)), none]) (s2 := [eI (1000)]) rfl rfl rfl ?_
    refine w_t (np := 33) (l2 := [some (eR a0), some (eI (a1)), some (eI (v11)), some (eI (1000))]) (s2 := []) rfl rfl rfl ?_
    have hL33 : ∀ (n14 : Nat) (m18 : eM) (i16 : Int), SI g m18 → Fr l_356 0 0 g μ m18 → (1 ≤ i16 ∧ i16 ≤ 1000) → m18.1 a0 68 = v5 → (i16 = 1000 ∨ i16 = 100 ∨ i16 = 10 ∨ i16 = 1) → n14 = (i16).toNat → ex_q (dt_fg L ρ) rc (d + 5, (356, 33, [some (eR a0), some (eI (a1)), some (eI (v11)), some (eI (i16))], []), f :: F, m18) := by
      intro n14
      induction n14 using Nat.strongRecOn with
      | _ n14 ih15 =>
      intro m18 i16 I19 F20 b17 k21 r22 hn23
      refine w_t (np := 34) (l2 := [some (eR a0), some (eI (a1)), some (eI (v11)), some (eI (i16))]) (s2 := [eI (i16)]) rfl rfl rfl ?_
      refine w_t (np := 35) (l2 := [some (eR a0), some (eI (a1)), some (eI (v11)), some (eI (i16))]) (s2 := [eI (1), eI (i16)]) rfl rfl rfl ?_
      refine b_cle (t1 := 51) (t2 := 38) rfl rfl rfl (ev_w_in (by omega) (by omega)) rfl (fun g24 => ?_) (fun g24 => ?_)
      · have b25 : 1 ≤ i16 ∧ i16 ≤ 1 := by omega
        have hL51 : ∀ (n25 : Nat) (m29 : eM) (i27 : Int) (x32 : Int), SI g m29 → Fr l_356 0 0 g μ m29 → (0 ≤ i27 ∧ i27 ≤ 1000) → m29.1 a0 68 = x32 → (0 ≤ x32 ∧ x32 ≤ 2000) → ((i27 = 1000 ∧ x32 ≤ om + 3) ∨ (i27 = 100 ∧ x32 ≤ om + 4) ∨ (i27 = 10 ∧ x32 ≤ om + 5) ∨ (i27 = 1 ∧ x32 ≤ om + 6) ∨ (i27 = 0 ∧ x32 ≤ om + 7)) → n25 = (i27).toNat → ex_q (dt_fg L ρ) rc (d + 5, (356, 51, [some (eR a0), some (eI (a1)), some (eI (v11)), some (eI (i27))], []), f :: F, m29) := by
          intro n25
          induction n25 using Nat.strongRecOn with
          | _ n25 ih26 =>
          intro m29 i27 x32 I30 F31 b28 h33 b34 r35 hn36
          refine w_t (np := 52) (l2 := [some (eR a0), some (eI (a1)), some (eI (v11)), some (eI (i27))]) (s2 := [eI (i27)]) rfl rfl rfl ?_
          refine b_ile (t1 := 91) (t2 := 55) rfl rfl rfl (ev_w_in (by omega) (by omega)) (fun g37 => ?_) (fun g37 => ?_)
          · have b38 : 0 ≤ i27 ∧ i27 ≤ 0 := by omega
            exact v_rv rfl rfl (K m29 (x32) I30 F31 h33 (by omega))
          · have b38 : 1 ≤ i27 ∧ i27 ≤ 1000 := by omega
            refine w_t (np := 56) (l2 := [some (eR a0), some (eI (a1)), some (eI (v11)), some (eI (i27))]) (s2 := [eR a0]) rfl (s_an rfl (pos_g I30 gA0 (by decide))) rfl ?_
            refine j_gr (np := 59) rfl rfl I30 gA0 (by decide) (n := 69) rfl rfl rfl ?_
            intro v38 e39 b40 z41
            have b40 : g v38 = 89 := Nat.eq_of_beq_eq_true b40
            refine w_t (np := 60) (l2 := [some (eR a0), some (eI (a1)), some (eI (v11)), some (eI (i27))]) (s2 := [eR a0, eR v38]) rfl (s_an rfl (pos_g I30 gA0 (by decide))) rfl ?_
            refine w_gf (np := 63) (v := eI (x32)) rfl rfl (I30.kd gA0 (by decide) (n := 69) rfl) (by rw [h33]; rfl) ?_
            refine w_t (np := 65) (l2 := [some (eR a0), some (eI (a1)), some (eI (v11)), some (eI (i27))]) (s2 := [eI (48), eI (x32), eR v38]) rfl rfl rfl ?_
            refine w_t (np := 66) (l2 := [some (eR a0), some (eI (a1)), some (eI (v11)), some (eI (i27))]) (s2 := [eI (v11), eI (48), eI (x32), eR v38]) rfl rfl rfl ?_
            refine w_t (np := 67) (l2 := [some (eR a0), some (eI (a1)), some (eI (v11)), some (eI (i27))]) (s2 := [eI (i27), eI (v11), eI (48), eI (x32), eR v38]) rfl rfl rfl ?_
            obtain ⟨v42, e43, b44⟩ := h_idivp (a := v11) (k := i27) (by omega) (by omega)
            refine w_t (np := 68) (l2 := [some (eR a0), some (eI (a1)), some (eI (v11)), some (eI (i27))]) (s2 := [eI (v42), eI (48), eI (x32), eR v38]) rfl (e43 _ _) rfl ?_
            refine w_t (np := 70) (l2 := [some (eR a0), some (eI (a1)), some (eI (v11)), some (eI (i27))]) (s2 := [eI (10), eI (v42), eI (48), eI (x32), eR v38]) rfl rfl rfl ?_
            obtain ⟨v45, e46, b47⟩ := h_irem (a := v42) (k := 10) (by decide) (by decide) b44
            have b48 : -9 ≤ v45 ∧ v45 ≤ 9 := by omega
            refine w_t (np := 71) (l2 := [some (eR a0), some (eI (a1)), some (eI (v11)), some (eI (i27))]) (s2 := [eI (v45), eI (48), eI (x32), eR v38]) rfl (e46 _ _) rfl ?_
            obtain ⟨v49, e50⟩ : ∃ zz : Int, zz = (48) + (v45) := ⟨_, rfl⟩
            have b51 : 39 ≤ v49 ∧ v49 ≤ 57 := by omega
            refine w_t (np := 72) (l2 := [some (eR a0), some (eI (a1)), some (eI (v11)), some (eI (i27))]) (s2 := [eI (v49), eI (x32), eR v38]) rfl (b_iadd (by rw [← e50]; exact ev_w_in (by omega) (by omega))) rfl ?_
            refine j_as (np := 73) rfl rfl I30 b40 (by decide) (n := 2000) rfl rfl (lo := -2147483648) (hi := 2147483647) (fun _ => rfl) (by omega) (by omega) (by omega) ?_
            intro m52 I53 W54
            have F55 : Fr l_356 0 0 g μ m52 := F31.v W54 b40 rfl rfl
            refine w_t (np := 74) (l2 := [some (eR a0), some (eI (a1)), some (eI (v11)), some (eI (i27))]) (s2 := [eR a0]) rfl (s_an rfl (pos_g I53 gA0 (by decide))) rfl ?_
            refine w_t (np := 75) (l2 := [some (eR a0), some (eI (a1)), some (eI (v11)), some (eI (i27))]) (s2 := [eR a0, eR a0]) rfl rfl rfl ?_
            refine w_gf (np := 78) (v := eI (x32)) rfl rfl (I53.kd gA0 (by decide) (n := 69) rfl) (by rw [(W54.addr h33 b40 gA0 (by decide))]; rfl) ?_
            refine w_t (np := 79) (l2 := [some (eR a0), some (eI (a1)), some (eI (v11)), some (eI (i27))]) (s2 := [eI (1), eI (x32), eR a0]) rfl rfl rfl ?_
            obtain ⟨v56, e57⟩ : ∃ zz : Int, zz = (x32) + (1) := ⟨_, rfl⟩
            have b58 : 1 ≤ v56 ∧ v56 ≤ 2001 := by omega
            refine w_t (np := 80) (l2 := [some (eR a0), some (eI (a1)), some (eI (v11)), some (eI (i27))]) (s2 := [eI (v56), eR a0]) rfl (b_iadd (by rw [← e57]; exact ev_w_in (by omega) (by omega))) rfl ?_
            refine j_pf (np := 83) (w := v56) rfl rfl I53 gA0 (by decide) (n := 69) rfl rfl (hO_i (lo := 0) (hi := 2000) rfl (by omega)) ?_
            intro m59 I60 W61
            have F62 : Fr l_356 0 0 g μ m59 := F55.w W61 gA0 rfl
            refine w_t (np := 84) (l2 := [some (eR a0), some (eI (a1)), some (eI (v11)), some (eI (i27))]) (s2 := [eI (i27)]) rfl rfl rfl ?_
            refine w_t (np := 86) (l2 := [some (eR a0), some (eI (a1)), some (eI (v11)), some (eI (i27))]) (s2 := [eI (10), eI (i27)]) rfl rfl rfl ?_
            obtain ⟨v63, e64, b65⟩ := h_idiv (a := i27) (k := 10) (by decide) (by decide) (show (-2147483648 : Int) ≤ i27 ∧ (i27 : Int) ≤ 2147483647 by omega)
            have b67 : v63 = (i27) / 10 := b65.1 (by omega)
            clear b65
            have b66 : 0 ≤ v63 ∧ v63 ≤ 100 := by omega
            refine w_t (np := 87) (l2 := [some (eR a0), some (eI (a1)), some (eI (v11)), some (eI (i27))]) (s2 := [eI (v63)]) rfl (e64 _ _) rfl ?_
            refine w_t (np := 88) (l2 := [some (eR a0), some (eI (a1)), some (eI (v11)), some (eI (v63))]) (s2 := []) rfl rfl rfl ?_
            refine w_go (t1 := 51) rfl rfl ?_
            exact ih26 ((v63)).toNat (by omega) m59 (v63) (v56) I60 F62 (by omega)  W61.at (by omega)  (by omega) rfl
        exact hL51 _ m18 (i16) (v5) I19 F20 (by omega)  k21 (by omega)  (by omega) rfl
      · have b25 : 2 ≤ i16 ∧ i16 ≤ 1000 := by omega
        refine w_t (np := 39) (l2 := [some (eR a0), some (eI (a1)), some (eI (v11)), some (eI (i16))]) (s2 := [eI (v11)]) rfl rfl rfl ?_
        refine w_t (np := 40) (l2 := [some (eR a0), some (eI (a1)), some (eI (v11)), some (eI (i16))]) (s2 := [eI (i16), eI (v11)]) rfl rfl rfl ?_
        refine b_cge (t1 := 51) (t2 := 43) rfl rfl rfl (ev_w_in (by omega) (by omega)) (ev_w_in (by omega) (by omega)) (fun g25 => ?_) (fun g25 => ?_)
        · have b26 : 2 ≤ v11 ∧ v11 ≤ 2147483647 := by omega
          have hL51 : ∀ (n26 : Nat) (m30 : eM) (i28 : Int) (x33 : Int), SI g m30 → Fr l_356 0 0 g μ m30 → (0 ≤ i28 ∧ i28 ≤ 1000) → m30.1 a0 68 = x33 → (0 ≤ x33 ∧ x33 ≤ 2000) → ((i28 = 1000 ∧ x33 ≤ om + 3) ∨ (i28 = 100 ∧ x33 ≤ om + 4) ∨ (i28 = 10 ∧ x33 ≤ om + 5) ∨ (i28 = 1 ∧ x33 ≤ om + 6) ∨ (i28 = 0 ∧ x33 ≤ om + 7)) → n26 = (i28).toNat → ex_q (dt_fg L ρ) rc (d + 5, (356, 51, [some (eR a0), some (eI (a1)), some (eI (v11)), some (eI (i28))], []), f :: F, m30) := by
            intro n26
            induction n26 using Nat.strongRecOn with
            | _ n26 ih27 =>
            intro m30 i28 x33 I31 F32 b29 h34 b35 r36 hn37
            refine w_t (np := 52) (l2 := [some (eR a0), some (eI (a1)), some (eI (v11)), some (eI (i28))]) (s2 := [eI (i28)]) rfl rfl rfl ?_
            refine b_ile (t1 := 91) (t2 := 55) rfl rfl rfl (ev_w_in (by omega) (by omega)) (fun g38 => ?_) (fun g38 => ?_)
            · have b39 : 0 ≤ i28 ∧ i28 ≤ 0 := by omega
              exact v_rv rfl rfl (K m30 (x33) I31 F32 h34 (by omega))
            · have b39 : 1 ≤ i28 ∧ i28 ≤ 1000 := by omega
              refine w_t (np := 56) (l2 := [some (eR a0), some (eI (a1)), some (eI (v11)), some (eI (i28))]) (s2 := [eR a0]) rfl (s_an rfl (pos_g I31 gA0 (by decide))) rfl ?_
              refine j_gr (np := 59) rfl rfl I31 gA0 (by decide) (n := 69) rfl rfl rfl ?_
              intro v39 e40 b41 z42
              have b41 : g v39 = 89 := Nat.eq_of_beq_eq_true b41
              refine w_t (np := 60) (l2 := [some (eR a0), some (eI (a1)), some (eI (v11)), some (eI (i28))]) (s2 := [eR a0, eR v39]) rfl (s_an rfl (pos_g I31 gA0 (by decide))) rfl ?_
              refine w_gf (np := 63) (v := eI (x33)) rfl rfl (I31.kd gA0 (by decide) (n := 69) rfl) (by rw [h34]; rfl) ?_
              refine w_t (np := 65) (l2 := [some (eR a0), some (eI (a1)), some (eI (v11)), some (eI (i28))]) (s2 := [eI (48), eI (x33), eR v39]) rfl rfl rfl ?_
              refine w_t (np := 66) (l2 := [some (eR a0), some (eI (a1)), some (eI (v11)), some (eI (i28))]) (s2 := [eI (v11), eI (48), eI (x33), eR v39]) rfl rfl rfl ?_
              refine w_t (np := 67) (l2 := [some (eR a0), some (eI (a1)), some (eI (v11)), some (eI (i28))]) (s2 := [eI (i28), eI (v11), eI (48), eI (x33), eR v39]) rfl rfl rfl ?_
              obtain ⟨v43, e44, b45⟩ := h_idivp (a := v11) (k := i28) (by omega) (by omega)
              refine w_t (np := 68) (l2 := [some (eR a0), some (eI (a1)), some (eI (v11)), some (eI (i28))]) (s2 := [eI (v43), eI (48), eI (x33), eR v39]) rfl (e44 _ _) rfl ?_
              refine w_t (np := 70) (l2 := [some (eR a0), some (eI (a1)), some (eI (v11)), some (eI (i28))]) (s2 := [eI (10), eI (v43), eI (48), eI (x33), eR v39]) rfl rfl rfl ?_
              obtain ⟨v46, e47, b48⟩ := h_irem (a := v43) (k := 10) (by decide) (by decide) b45
              have b49 : -9 ≤ v46 ∧ v46 ≤ 9 := by omega
              refine w_t (np := 71) (l2 := [some (eR a0), some (eI (a1)), some (eI (v11)), some (eI (i28))]) (s2 := [eI (v46), eI (48), eI (x33), eR v39]) rfl (e47 _ _) rfl ?_
              obtain ⟨v50, e51⟩ : ∃ zz : Int, zz = (48) + (v46) := ⟨_, rfl⟩
              have b52 : 39 ≤ v50 ∧ v50 ≤ 57 := by omega
              refine w_t (np := 72) (l2 := [some (eR a0), some (eI (a1)), some (eI (v11)), some (eI (i28))]) (s2 := [eI (v50), eI (x33), eR v39]) rfl (b_iadd (by rw [← e51]; exact ev_w_in (by omega) (by omega))) rfl ?_
              refine j_as (np := 73) rfl rfl I31 b41 (by decide) (n := 2000) rfl rfl (lo := -2147483648) (hi := 2147483647) (fun _ => rfl) (by omega) (by omega) (by omega) ?_
              intro m53 I54 W55
              have F56 : Fr l_356 0 0 g μ m53 := F32.v W55 b41 rfl rfl
              refine w_t (np := 74) (l2 := [some (eR a0), some (eI (a1)), some (eI (v11)), some (eI (i28))]) (s2 := [eR a0]) rfl (s_an rfl (pos_g I54 gA0 (by decide))) rfl ?_
              refine w_t (np := 75) (l2 := [some (eR a0), some (eI (a1)), some (eI (v11)), some (eI (i28))]) (s2 := [eR a0, eR a0]) rfl rfl rfl ?_
              refine w_gf (np := 78) (v := eI (x33)) rfl rfl (I54.kd gA0 (by decide) (n := 69) rfl) (by rw [(W55.addr h34 b41 gA0 (by decide))]; rfl) ?_
              refine w_t (np := 79) (l2 := [some (eR a0), some (eI (a1)), some (eI (v11)), some (eI (i28))]) (s2 := [eI (1), eI (x33), eR a0]) rfl rfl rfl ?_
              obtain ⟨v57, e58⟩ : ∃ zz : Int, zz = (x33) + (1) := ⟨_, rfl⟩
              have b59 : 1 ≤ v57 ∧ v57 ≤ 2001 := by omega
              refine w_t (np := 80) (l2 := [some (eR a0), some (eI (a1)), some (eI (v11)), some (eI (i28))]) (s2 := [eI (v57), eR a0]) rfl (b_iadd (by rw [← e58]; exact ev_w_in (by omega) (by omega))) rfl ?_
              refine j_pf (np := 83) (w := v57) rfl rfl I54 gA0 (by decide) (n := 69) rfl rfl (hO_i (lo := 0) (hi := 2000) rfl (by omega)) ?_
              intro m60 I61 W62
              have F63 : Fr l_356 0 0 g μ m60 := F56.w W62 gA0 rfl
              refine w_t (np := 84) (l2 := [some (eR a0), some (eI (a1)), some (eI (v11)), some (eI (i28))]) (s2 := [eI (i28)]) rfl rfl rfl ?_
              refine w_t (np := 86) (l2 := [some (eR a0), some (eI (a1)), some (eI (v11)), some (eI (i28))]) (s2 := [eI (10), eI (i28)]) rfl rfl rfl ?_
              obtain ⟨v64, e65, b66⟩ := h_idiv (a := i28) (k := 10) (by decide) (by decide) (show (-2147483648 : Int) ≤ i28 ∧ (i28 : Int) ≤ 2147483647 by omega)
              have b68 : v64 = (i28) / 10 := b66.1 (by omega)
              clear b66
              have b67 : 0 ≤ v64 ∧ v64 ≤ 100 := by omega
              refine w_t (np := 87) (l2 := [some (eR a0), some (eI (a1)), some (eI (v11)), some (eI (i28))]) (s2 := [eI (v64)]) rfl (e65 _ _) rfl ?_
              refine w_t (np := 88) (l2 := [some (eR a0), some (eI (a1)), some (eI (v11)), some (eI (v64))]) (s2 := []) rfl rfl rfl ?_
              refine w_go (t1 := 51) rfl rfl ?_
              exact ih27 ((v64)).toNat (by omega) m60 (v64) (v57) I61 F63 (by omega)  W62.at (by omega)  (by omega) rfl
          exact hL51 _ m18 (i16) (v5) I19 F20 (by omega)  k21 (by omega)  (by omega) rfl
        · have b26 : -2147483648 ≤ v11 ∧ v11 ≤ 999 := by omega
          refine w_t (np := 44) (l2 := [some (eR a0), some (eI (a1)), some (eI (v11)), some (eI (i16))]) (s2 := [eI (i16)]) rfl rfl rfl ?_
          refine w_t (np := 46) (l2 := [some (eR a0), some (eI (a1)), some (eI (v11)), some (eI (i16))]) (s2 := [eI (10), eI (i16)]) rfl rfl rfl ?_
          obtain ⟨v26, e27, b28⟩ := h_idiv (a := i16) (k := 10) (by decide) (by decide) (show (-2147483648 : Int) ≤ i16 ∧ (i16 : Int) ≤ 2147483647 by omega)
          have b30 : v26 = (i16) / 10 := b28.1 (by omega)
          clear b28
          have b29 : 0 ≤ v26 ∧ v26 ≤ 100 := by omega
          refine w_t (np := 47) (l2 := [some (eR a0), some (eI (a1)), some (eI (v11)), some (eI (i16))]) (s2 := [eI (v26)]) rfl (e27 _ _) rfl ?_
          refine w_t (np := 48) (l2 := [some (eR a0), some (eI (a1)), some (eI (v11)), some (eI (v26))]) (s2 := []) rfl rfl rfl ?_
          refine w_go (t1 := 33) rfl rfl ?_
          exact ih15 ((v26)).toNat (by omega) m18 (v26) I19 F20 (by omega) k21   (by omega) rfl
    exact hL33 _ m2 (1000) I3 F8 (by decide) e6   (by omega) rfl
def l_357 : List Nat := [13313, 13314, 13381, 22784]
theorem s_357 {L : Nat} {ρ : Nat → Int} {rc : eQ} {d : Nat} {f : eFr} {F : List eFr} {μ : eM} {g : Nat → Nat} {a0 : Nat} (hI : SI g μ) (gA0 : g a0 = 52) (K : ∀ (μ2 : eM) (v : Int), SI g μ2 → Fr l_357 0 0 g μ μ2 → (-2147483648 ≤ v ∧ v ≤ 2147483647) → ex_q (dt_fg L ρ) rc (d + 7, (f.1, f.2.1, f.2.2.1, eI v :: f.2.2.2), F, μ2)) : ex_q (dt_fg L ρ) rc (d + 6, (357, 0, [some (eR a0), none, none], []), f :: F, μ) := by
  have F0 : Fr l_357 0 0 g μ μ := Fr.r
  refine w_t (np := 1) (l2 := [some (eR a0), none, none]) (s2 := [eR a0]) rfl (s_an rfl (pos_g hI gA0 (by decide))) rfl ?_
  refine w_t (np := 2) (l2 := [some (eR a0), none, none]) (s2 := [eI (0), eR a0]) rfl rfl rfl ?_
  refine w_cw (np := 5) (as := [eI (0)]) (l2 := [some (eR a0), some (eI (0))]) (rest := []) rfl rfl rfl (Nat.ble_eq.mp rfl) rfl rfl rfl (hI.kd gA0 (by decide) (n := 69) rfl) rfl ?_
  refine w_t (np := 1) (l2 := [some (eR a0), some (eI (0))]) (s2 := [eR a0]) rfl (s_an rfl (pos_g hI gA0 (by decide))) rfl ?_
  refine w_t (np := 2) (l2 := [some (eR a0), some (eI (0))]) (s2 := [eI (0), eR a0]) rfl rfl rfl ?_
  refine j_pf (np := 5) (w := 0) rfl rfl hI gA0 (by decide) (n := 69) rfl rfl (hO_i (lo := -2147483648) (hi := 2147483647) rfl (by decide)) ?_
  intro m1 I2 W3
  have F4 : Fr l_357 0 0 g μ m1 := F0.w W3 gA0 rfl
  refine w_t (np := 6) (l2 := [some (eR a0), some (eI (0))]) (s2 := [eR a0]) rfl (s_an rfl (pos_g I2 gA0 (by decide))) rfl ?_
  refine w_t (np := 7) (l2 := [some (eR a0), some (eI (0))]) (s2 := [eI (0), eR a0]) rfl rfl rfl ?_
  refine j_pf (np := 10) (w := 0) rfl rfl I2 gA0 (by decide) (n := 69) rfl rfl (hO_i (lo := -2147483648) (hi := 2147483647) rfl (by decide)) ?_
  intro m5 I6 W7
  have F8 : Fr l_357 0 0 g μ m5 := F4.w W7 gA0 rfl
  refine w_t (np := 11) (l2 := [some (eR a0), some (eI (0))]) (s2 := [eI (0)]) rfl rfl rfl ?_
  refine b_ine (t1 := 18) (t2 := 14) rfl rfl rfl rfl (fun g9 => absurd g9 (by decide)) (fun g9 => ?_)
  refine w_t (np := 15) (l2 := [some (eR a0), some (eI (0))]) (s2 := [eI (1)]) rfl rfl rfl ?_
  refine w_go (t1 := 19) rfl rfl ?_
  refine b_rz rfl rfl (Or.inr rfl) ?_
  show ex_q (dt_fg L ρ) rc (d + 6, (357, 5, [some (eR a0), none, none], [eI (1)]), f :: F, m5)
  refine w_t (np := 6) (l2 := [some (eR a0), none, none]) (s2 := []) rfl rfl rfl ?_
  refine w_t (np := 7) (l2 := [some (eR a0), none, none]) (s2 := [eR a0]) rfl (s_an rfl (pos_g I6 gA0 (by decide))) rfl ?_
  refine w_t (np := 8) (l2 := [some (eR a0), none, none]) (s2 := [eI (0), eR a0]) rfl rfl rfl ?_
  refine j_pf (np := 11) (w := 0) rfl rfl I6 gA0 (by decide) (n := 69) rfl rfl (hO_i (lo := 0) (hi := 2000) rfl (by decide)) ?_
  intro m10 I11 W12
  have F13 : Fr l_357 0 0 g μ m10 := F8.w W12 gA0 rfl
  refine w_t (np := 12) (l2 := [some (eR a0), none, none]) (s2 := [eI (0)]) rfl rfl rfl ?_
  refine w_t (np := 13) (l2 := [some (eR a0), some (eI (0)), none]) (s2 := []) rfl rfl rfl ?_
  have hL13 : ∀ (n14 : Nat) (m19 : eM) (i16 : Int) (o18 : Option eV) (x22 : Int), SI g m19 → Fr l_357 0 0 g μ m19 → (0 ≤ i16 ∧ i16 ≤ 24) → m19.1 a0 1 = 0 → m19.1 a0 0 = 0 → m19.1 a0 68 = x22 → (0 ≤ x22 ∧ x22 ≤ 2000) → x22 ≤ 58 * i16 → n14 = (24 - i16).toNat → ex_q (dt_fg L ρ) rc (d + 6, (357, 13, [some (eR a0), some (eI (i16)), o18], []), f :: F, m19) := by
    intro n14
    induction n14 using Nat.strongRecOn with
    | _ n14 ih15 =>
    intro m19 i16 o18 x22 I20 F21 b17 k25 k26 h23 b24 r27 hn28
    refine w_t (np := 14) (l2 := [some (eR a0), some (eI (i16)), o18]) (s2 := [eI (i16)]) rfl rfl rfl ?_
    refine w_t (np := 15) (l2 := [some (eR a0), some (eI (i16)), o18]) (s2 := [eR a0, eI (i16)]) rfl (s_an rfl (pos_g I20 gA0 (by decide))) rfl ?_
    refine j_gi (np := 18) rfl rfl rfl I20 gA0 (by decide) (n := 69) rfl rfl (lo := 0) (hi := 24) rfl ?_
    intro v29 e30 b31
    refine b_cge (t1 := 132) (t2 := 21) rfl rfl rfl (ev_w_in (by omega) (by omega)) (ev_w_in (by omega) (by omega)) (fun g32 => ?_) (fun g32 => ?_)
    · refine w_t (np := 133) (l2 := [some (eR a0), some (eI (i16)), o18]) (s2 := [eR a0]) rfl (s_an rfl (pos_g I20 gA0 (by decide))) rfl ?_
      refine w_gf (np := 136) (v := eI (x22)) rfl rfl (I20.kd gA0 (by decide) (n := 69) rfl) (by rw [h23]; rfl) ?_
      exact b_ri rfl rfl (K m19 (x22) I20 F21 (by omega))
    · have b33 : 0 ≤ i16 ∧ i16 ≤ 23 := by omega
      have b34 : 1 ≤ v29 ∧ v29 ≤ 24 := by omega
      refine w_t (np := 22) (l2 := [some (eR a0), some (eI (i16)), o18]) (s2 := [eR a0]) rfl (s_an rfl (pos_g I20 gA0 (by decide))) rfl ?_
      refine w_t (np := 23) (l2 := [some (eR a0), some (eI (i16)), o18]) (s2 := [eR a0, eR a0]) rfl (s_an rfl (pos_g I20 gA0 (by decide))) rfl ?_
      refine j_gr (np := 26) rfl rfl I20 gA0 (by decide) (n := 69) rfl rfl rfl ?_
      intro v33 e34 b35 z36
      have b35 : g v33 = 79 := Nat.eq_of_beq_eq_true b35
      refine w_t (np := 28) (l2 := [some (eR a0), some (eI (i16)), o18]) (s2 := [eI (7), eR v33, eR a0]) rfl rfl rfl ?_
      refine w_t (np := 29) (l2 := [some (eR a0), some (eI (i16)), o18]) (s2 := [eI (i16), eI (7), eR v33, eR a0]) rfl rfl rfl ?_
      obtain ⟨v37, e38⟩ : ∃ zz : Int, zz = (7) * (i16) := ⟨_, rfl⟩
      have b39 : 0 ≤ v37 ∧ v37 ≤ 161 := by omega
      refine w_t (np := 30) (l2 := [some (eR a0), some (eI (i16)), o18]) (s2 := [eI (v37), eR v33, eR a0]) rfl (b_imul (by rw [← e38]; exact ev_w_in (by omega) (by omega))) rfl ?_
      refine j_al (np := 31) rfl rfl I20 b35 (by decide) (n := 168) rfl rfl (lo := -2147483648) (hi := 2147483647) (fun _ => rfl) (by omega) (by omega) ?_
      intro v40 e41 b42
      refine b_ine (t1 := 40) (t2 := 34) rfl rfl rfl (ev_w_in (by omega) (by omega)) (fun g43 => ?_) (fun g43 => ?_)
      · refine j_lw (np := 43) rfl rfl rfl ?_
        refine w_cw (np := 46) (as := [eR 28]) (l2 := [some (eR a0), some (eR 28), none]) (rest := []) rfl rfl rfl (Nat.ble_eq.mp rfl) rfl rfl rfl (I20.kd gA0 (by decide) (n := 69) rfl) rfl ?_
        refine s_355_28 I20 gA0 h23 (by omega) ?_
        intro m44 v47 I45 F46 e48 h49
        have F50 : Fr l_357 0 0 g μ m44 := F21.t F46 rfl
        have b51 : 0 ≤ v47 ∧ v47 ≤ 2000 := by
          rw [← e48]
          exact I45.int gA0 (by decide) (n := 69) rfl (by decide) rfl
        show ex_q (dt_fg L ρ) rc (d + 6, (357, 46, [some (eR a0), some (eI (i16)), o18], []), f :: F, m44)
        refine w_t (np := 47) (l2 := [some (eR a0), some (eI (i16)), o18]) (s2 := [eI (1)]) rfl rfl rfl ?_
        refine w_t (np := 48) (l2 := [some (eR a0), some (eI (i16)), some (eI (1))]) (s2 := []) rfl rfl rfl ?_
        have hL48 : ∀ (n52 : Nat) (m56 : eM) (i54 : Int) (x59 : Int), SI g m56 → Fr l_357 0 0 g μ m56 → (1 ≤ i54 ∧ i54 ≤ 5) → m56.1 a0 1 = 0 → m56.1 a0 0 = 0 → m56.1 a0 49 = v29 → m56.1 a0 43 = ((v33 : Nat) : Int) → m56.1 v33 (v37).toNat = v40 → m56.1 a0 68 = x59 → (0 ≤ x59 ∧ x59 ≤ 2000) → x59 ≤ 58 * i16 + 5 + 7 * (i54 - 1) → n52 = (5 - i54).toNat → ex_q (dt_fg L ρ) rc (d + 6, (357, 48, [some (eR a0), some (eI (i16)), some (eI (i54))], []), f :: F, m56) := by
          intro n52
          induction n52 using Nat.strongRecOn with
          | _ n52 ih53 =>
          intro m56 i54 x59 I57 F58 b55 k62 k63 k64 k65 k66 h60 b61 r67 hn68
          refine w_t (np := 49) (l2 := [some (eR a0), some (eI (i16)), some (eI (i54))]) (s2 := [eI (i54)]) rfl rfl rfl ?_
          refine w_t (np := 50) (l2 := [some (eR a0), some (eI (i16)), some (eI (i54))]) (s2 := [eI (5), eI (i54)]) rfl rfl rfl ?_
          refine b_cge (t1 := 74) (t2 := 53) rfl rfl rfl (ev_w_in (by omega) (by omega)) rfl (fun g69 => ?_) (fun g69 => ?_)
          · have b70 : 5 ≤ i54 ∧ i54 ≤ 5 := by omega
            refine w_t (np := 75) (l2 := [some (eR a0), some (eI (i16)), some (eI (i54))]) (s2 := [eR a0]) rfl (s_an rfl (pos_g I57 gA0 (by decide))) rfl ?_
            refine j_lw (np := 78) rfl rfl rfl ?_
            refine w_cw (np := 81) (as := [eR 29]) (l2 := [some (eR a0), some (eR 29), none]) (rest := []) rfl rfl rfl (Nat.ble_eq.mp rfl) rfl rfl rfl (I57.kd gA0 (by decide) (n := 69) rfl) rfl ?_
            refine s_355_29 I57 gA0 h60 (by omega) ?_
            intro m70 v73 I71 F72 e74 h75
            have F76 : Fr l_357 0 0 g μ m70 := F58.t F72 rfl
            have b77 : 0 ≤ v73 ∧ v73 ≤ 2000 := by
              rw [← e74]
              exact I71.int gA0 (by decide) (n := 69) rfl (by decide) rfl
            show ex_q (dt_fg L ρ) rc (d + 6, (357, 81, [some (eR a0), some (eI (i16)), some (eI (i54))], []), f :: F, m70)
            refine w_t (np := 82) (l2 := [some (eR a0), some (eI (i16)), some (eI (i54))]) (s2 := [eR a0]) rfl (s_an rfl (pos_g I71 gA0 (by decide))) rfl ?_
            refine w_t (np := 83) (l2 := [some (eR a0), some (eI (i16)), some (eI (i54))]) (s2 := [eR a0, eR a0]) rfl (s_an rfl (pos_g I71 gA0 (by decide))) rfl ?_
            refine w_gf (np := 86) (v := eR v33) rfl rfl (I71.kd gA0 (by decide) (n := 69) rfl) (by rw [(F72.k k65 gA0 (by decide) rfl)]; rfl) ?_
            refine w_t (np := 88) (l2 := [some (eR a0), some (eI (i16)), some (eI (i54))]) (s2 := [eI (7), eR v33, eR a0]) rfl rfl rfl ?_
            refine w_t (np := 89) (l2 := [some (eR a0), some (eI (i16)), some (eI (i54))]) (s2 := [eI (i16), eI (7), eR v33, eR a0]) rfl rfl rfl ?_
            obtain ⟨v78, e79⟩ : ∃ zz : Int, zz = (7) * (i16) := ⟨_, rfl⟩
            have b80 : 0 ≤ v78 ∧ v78 ≤ 161 := by omega
            refine w_t (np := 90) (l2 := [some (eR a0), some (eI (i16)), some (eI (i54))]) (s2 := [eI (v78), eR v33, eR a0]) rfl (b_imul (by rw [← e79]; exact ev_w_in (by omega) (by omega))) rfl ?_
            refine w_t (np := 91) (l2 := [some (eR a0), some (eI (i16)), some (eI (i54))]) (s2 := [eI (5), eI (v78), eR v33, eR a0]) rfl rfl rfl ?_
            obtain ⟨v81, e82⟩ : ∃ zz : Int, zz = (v78) + (5) := ⟨_, rfl⟩
            have b83 : 5 ≤ v81 ∧ v81 ≤ 166 := by omega
            refine w_t (np := 92) (l2 := [some (eR a0), some (eI (i16)), some (eI (i54))]) (s2 := [eI (v81), eR v33, eR a0]) rfl (b_iadd (by rw [← e82]; exact ev_w_in (by omega) (by omega))) rfl ?_
            refine j_al (np := 93) rfl rfl I71 b35 (by decide) (n := 168) rfl rfl (lo := -2147483648) (hi := 2147483647) (fun _ => rfl) (by omega) (by omega) ?_
            intro v84 e85 b86
            refine w_cw (np := 96) (as := [eI (v84)]) (l2 := [some (eR a0), some (eI (v84)), none, none]) (rest := []) rfl rfl rfl (Nat.ble_eq.mp rfl) rfl rfl rfl (I71.kd gA0 (by decide) (n := 69) rfl) rfl ?_
            refine s_356 (a1 := v84) I71 gA0 (by omega) e74 (by omega) ?_
            intro m87 v90 I88 F89 e91 h92
            have F93 : Fr l_357 0 0 g μ m87 := F76.t F89 rfl
            have b94 : 0 ≤ v90 ∧ v90 ≤ 2000 := by
              rw [← e91]
              exact I88.int gA0 (by decide) (n := 69) rfl (by decide) rfl
            show ex_q (dt_fg L ρ) rc (d + 6, (357, 96, [some (eR a0), some (eI (i16)), some (eI (i54))], []), f :: F, m87)
            refine w_t (np := 97) (l2 := [some (eR a0), some (eI (i16)), some (eI (i54))]) (s2 := [eR a0]) rfl (s_an rfl (pos_g I88 gA0 (by decide))) rfl ?_
            refine j_lw (np := 100) rfl rfl rfl ?_
            refine w_cw (np := 103) (as := [eR 30]) (l2 := [some (eR a0), some (eR 30), none]) (rest := []) rfl rfl rfl (Nat.ble_eq.mp rfl) rfl rfl rfl (I88.kd gA0 (by decide) (n := 69) rfl) rfl ?_
            refine s_355_30 I88 gA0 e91 (by omega) ?_
            intro m95 v98 I96 F97 e99 h100
            have F101 : Fr l_357 0 0 g μ m95 := F93.t F97 rfl
            have b102 : 0 ≤ v98 ∧ v98 ≤ 2000 := by
              rw [← e99]
              exact I96.int gA0 (by decide) (n := 69) rfl (by decide) rfl
            show ex_q (dt_fg L ρ) rc (d + 6, (357, 103, [some (eR a0), some (eI (i16)), some (eI (i54))], []), f :: F, m95)
            refine w_t (np := 104) (l2 := [some (eR a0), some (eI (i16)), some (eI (i54))]) (s2 := [eR a0]) rfl (s_an rfl (pos_g I96 gA0 (by decide))) rfl ?_
            refine w_t (np := 105) (l2 := [some (eR a0), some (eI (i16)), some (eI (i54))]) (s2 := [eR a0, eR a0]) rfl (s_an rfl (pos_g I96 gA0 (by decide))) rfl ?_
            refine w_gf (np := 108) (v := eR v33) rfl rfl (I96.kd gA0 (by decide) (n := 69) rfl) (by rw [(F97.k (F89.k (F72.k k65 gA0 (by decide) rfl) gA0 (by decide) rfl) gA0 (by decide) rfl)]; rfl) ?_
            refine w_t (np := 110) (l2 := [some (eR a0), some (eI (i16)), some (eI (i54))]) (s2 := [eI (7), eR v33, eR a0]) rfl rfl rfl ?_
            refine w_t (np := 111) (l2 := [some (eR a0), some (eI (i16)), some (eI (i54))]) (s2 := [eI (i16), eI (7), eR v33, eR a0]) rfl rfl rfl ?_
            obtain ⟨v103, e104⟩ : ∃ zz : Int, zz = (7) * (i16) := ⟨_, rfl⟩
            have b105 : 0 ≤ v103 ∧ v103 ≤ 161 := by omega
            refine w_t (np := 112) (l2 := [some (eR a0), some (eI (i16)), some (eI (i54))]) (s2 := [eI (v103), eR v33, eR a0]) rfl (b_imul (by rw [← e104]; exact ev_w_in (by omega) (by omega))) rfl ?_
            refine w_t (np := 114) (l2 := [some (eR a0), some (eI (i16)), some (eI (i54))]) (s2 := [eI (6), eI (v103), eR v33, eR a0]) rfl rfl rfl ?_
            obtain ⟨v106, e107⟩ : ∃ zz : Int, zz = (v103) + (6) := ⟨_, rfl⟩
            have b108 : 6 ≤ v106 ∧ v106 ≤ 167 := by omega
            refine w_t (np := 115) (l2 := [some (eR a0), some (eI (i16)), some (eI (i54))]) (s2 := [eI (v106), eR v33, eR a0]) rfl (b_iadd (by rw [← e107]; exact ev_w_in (by omega) (by omega))) rfl ?_
            refine j_al (np := 116) rfl rfl I96 b35 (by decide) (n := 168) rfl rfl (lo := -2147483648) (hi := 2147483647) (fun _ => rfl) (by omega) (by omega) ?_
            intro v109 e110 b111
            refine w_cw (np := 119) (as := [eI (v109)]) (l2 := [some (eR a0), some (eI (v109)), none, none]) (rest := []) rfl rfl rfl (Nat.ble_eq.mp rfl) rfl rfl rfl (I96.kd gA0 (by decide) (n := 69) rfl) rfl ?_
            refine s_356 (a1 := v109) I96 gA0 (by omega) e99 (by omega) ?_
            intro m112 v115 I113 F114 e116 h117
            have F118 : Fr l_357 0 0 g μ m112 := F101.t F114 rfl
            have b119 : 0 ≤ v115 ∧ v115 ≤ 2000 := by
              rw [← e116]
              exact I113.int gA0 (by decide) (n := 69) rfl (by decide) rfl
            show ex_q (dt_fg L ρ) rc (d + 6, (357, 119, [some (eR a0), some (eI (i16)), some (eI (i54))], []), f :: F, m112)
            refine w_t (np := 120) (l2 := [some (eR a0), some (eI (i16)), some (eI (i54))]) (s2 := [eR a0]) rfl (s_an rfl (pos_g I113 gA0 (by decide))) rfl ?_
            refine j_lw (np := 123) rfl rfl rfl ?_
            refine w_cw (np := 126) (as := [eR 31]) (l2 := [some (eR a0), some (eR 31), none]) (rest := []) rfl rfl rfl (Nat.ble_eq.mp rfl) rfl rfl rfl (I113.kd gA0 (by decide) (n := 69) rfl) rfl ?_
            refine s_355_31 I113 gA0 e116 (by omega) ?_
            intro m120 v123 I121 F122 e124 h125
            have F126 : Fr l_357 0 0 g μ m120 := F118.t F122 rfl
            have b127 : 0 ≤ v123 ∧ v123 ≤ 2000 := by
              rw [← e124]
              exact I121.int gA0 (by decide) (n := 69) rfl (by decide) rfl
            show ex_q (dt_fg L ρ) rc (d + 6, (357, 126, [some (eR a0), some (eI (i16)), some (eI (i54))], []), f :: F, m120)
            obtain ⟨v128, e129⟩ : ∃ zz : Int, zz = (i16) + (1) := ⟨_, rfl⟩
            have b130 : 1 ≤ v128 ∧ v128 ≤ 24 := by omega
            refine w_t (np := 129) (l2 := [some (eR a0), some (eI (v128)), some (eI (i54))]) (s2 := []) rfl (b_iinc rfl (by rw [← e129]; exact ev_w_in (by omega) (by omega)) rfl) rfl ?_
            refine w_go (t1 := 13) rfl rfl ?_
            exact ih15 (24 - (v128)).toNat (by omega) m120 (v128) (some (eI (i54))) (v123) I121 F126 (by omega) (F122.k (F114.k (F97.k (F89.k (F72.k k62 gA0 (by decide) rfl) gA0 (by decide) rfl) gA0 (by decide) rfl) gA0 (by decide) rfl) gA0 (by decide) rfl) (F122.k (F114.k (F97.k (F89.k (F72.k k63 gA0 (by decide) rfl) gA0 (by decide) rfl) gA0 (by decide) rfl) gA0 (by decide) rfl) gA0 (by decide) rfl) e124 (by omega)  (by omega) rfl
          · have b70 : 1 ≤ i54 ∧ i54 ≤ 4 := by omega
            refine w_t (np := 54) (l2 := [some (eR a0), some (eI (i16)), some (eI (i54))]) (s2 := [eR a0]) rfl (s_an rfl (pos_g I57 gA0 (by decide))) rfl ?_
            refine w_t (np := 55) (l2 := [some (eR a0), some (eI (i16)), some (eI (i54))]) (s2 := [eR a0, eR a0]) rfl (s_an rfl (pos_g I57 gA0 (by decide))) rfl ?_
            refine w_gf (np := 58) (v := eR v33) rfl rfl (I57.kd gA0 (by decide) (n := 69) rfl) (by rw [k65]; rfl) ?_
            refine w_t (np := 60) (l2 := [some (eR a0), some (eI (i16)), some (eI (i54))]) (s2 := [eI (7), eR v33, eR a0]) rfl rfl rfl ?_
            refine w_t (np := 61) (l2 := [some (eR a0), some (eI (i16)), some (eI (i54))]) (s2 := [eI (i16), eI (7), eR v33, eR a0]) rfl rfl rfl ?_
            obtain ⟨v70, e71⟩ : ∃ zz : Int, zz = (7) * (i16) := ⟨_, rfl⟩
            have b72 : 0 ≤ v70 ∧ v70 ≤ 161 := by omega
            refine w_t (np := 62) (l2 := [some (eR a0), some (eI (i16)), some (eI (i54))]) (s2 := [eI (v70), eR v33, eR a0]) rfl (b_imul (by rw [← e71]; exact ev_w_in (by omega) (by omega))) rfl ?_
            refine w_t (np := 63) (l2 := [some (eR a0), some (eI (i16)), some (eI (i54))]) (s2 := [eI (i54), eI (v70), eR v33, eR a0]) rfl rfl rfl ?_
            obtain ⟨v73, e74⟩ : ∃ zz : Int, zz = (v70) + (i54) := ⟨_, rfl⟩
            have b75 : 1 ≤ v73 ∧ v73 ≤ 165 := by omega
            refine w_t (np := 64) (l2 := [some (eR a0), some (eI (i16)), some (eI (i54))]) (s2 := [eI (v73), eR v33, eR a0]) rfl (b_iadd (by rw [← e74]; exact ev_w_in (by omega) (by omega))) rfl ?_
            refine j_al (np := 65) rfl rfl I57 b35 (by decide) (n := 168) rfl rfl (lo := -2147483648) (hi := 2147483647) (fun _ => rfl) (by omega) (by omega) ?_
            intro v76 e77 b78
            refine w_cw (np := 68) (as := [eI (v76)]) (l2 := [some (eR a0), some (eI (v76)), none, none]) (rest := []) rfl rfl rfl (Nat.ble_eq.mp rfl) rfl rfl rfl (I57.kd gA0 (by decide) (n := 69) rfl) rfl ?_
            refine s_356 (a1 := v76) I57 gA0 (by omega) h60 (by omega) ?_
            intro m79 v82 I80 F81 e83 h84
            have F85 : Fr l_357 0 0 g μ m79 := F58.t F81 rfl
            have b86 : 0 ≤ v82 ∧ v82 ≤ 2000 := by
              rw [← e83]
              exact I80.int gA0 (by decide) (n := 69) rfl (by decide) rfl
            show ex_q (dt_fg L ρ) rc (d + 6, (357, 68, [some (eR a0), some (eI (i16)), some (eI (i54))], []), f :: F, m79)
            obtain ⟨v87, e88⟩ : ∃ zz : Int, zz = (i54) + (1) := ⟨_, rfl⟩
            have b89 : 2 ≤ v87 ∧ v87 ≤ 5 := by omega
            refine w_t (np := 71) (l2 := [some (eR a0), some (eI (i16)), some (eI (v87))]) (s2 := []) rfl (b_iinc rfl (by rw [← e88]; exact ev_w_in (by omega) (by omega)) rfl) rfl ?_
            refine w_go (t1 := 48) rfl rfl ?_
            exact ih53 (5 - (v87)).toNat (by omega) m79 (v87) (v82) I80 F85 (by omega) (F81.k k62 gA0 (by decide) rfl) (F81.k k63 gA0 (by decide) rfl) (F81.k k64 gA0 (by decide) rfl) (F81.k k65 gA0 (by decide) rfl) (F81.kr k66 b35 (by decide) rfl rfl) e83 (by omega)  (by omega) rfl
        exact hL48 _ m44 (1) (v47) I45 F50 (by decide) (F46.k k25 gA0 (by decide) rfl) (F46.k k26 gA0 (by decide) rfl) (F46.k e30 gA0 (by decide) rfl) (F46.k e34 gA0 (by decide) rfl) (F46.kr e41 b35 (by decide) rfl rfl) e48 (by omega)  (by omega) rfl
      · have b44 : 0 ≤ v40 ∧ v40 ≤ 0 := by omega
        refine j_lw (np := 37) rfl rfl rfl ?_
        refine w_go (t1 := 43) rfl rfl ?_
        refine w_cw (np := 46) (as := [eR 27]) (l2 := [some (eR a0), some (eR 27), none]) (rest := []) rfl rfl rfl (Nat.ble_eq.mp rfl) rfl rfl rfl (I20.kd gA0 (by decide) (n := 69) rfl) rfl ?_
        refine s_355_27 I20 gA0 h23 (by omega) ?_
        intro m44 v47 I45 F46 e48 h49
        have F50 : Fr l_357 0 0 g μ m44 := F21.t F46 rfl
        have b51 : 0 ≤ v47 ∧ v47 ≤ 2000 := by
          rw [← e48]
          exact I45.int gA0 (by decide) (n := 69) rfl (by decide) rfl
        show ex_q (dt_fg L ρ) rc (d + 6, (357, 46, [some (eR a0), some (eI (i16)), o18], []), f :: F, m44)
        refine w_t (np := 47) (l2 := [some (eR a0), some (eI (i16)), o18]) (s2 := [eI (1)]) rfl rfl rfl ?_
        refine w_t (np := 48) (l2 := [some (eR a0), some (eI (i16)), some (eI (1))]) (s2 := []) rfl rfl rfl ?_
        have hL48 : ∀ (n52 : Nat) (m56 : eM) (i54 : Int) (x59 : Int), SI g m56 → Fr l_357 0 0 g μ m56 → (1 ≤ i54 ∧ i54 ≤ 5) → m56.1 a0 1 = 0 → m56.1 a0 0 = 0 → m56.1 a0 49 = v29 → m56.1 a0 43 = ((v33 : Nat) : Int) → m56.1 v33 (v37).toNat = v40 → m56.1 a0 68 = x59 → (0 ≤ x59 ∧ x59 ≤ 2000) → x59 ≤ 58 * i16 + 5 + 7 * (i54 - 1) → n52 = (5 - i54).toNat → ex_q (dt_fg L ρ) rc (d + 6, (357, 48, [some (eR a0), some (eI (i16)), some (eI (i54))], []), f :: F, m56) := by
          intro n52
          induction n52 using Nat.strongRecOn with
          | _ n52 ih53 =>
          intro m56 i54 x59 I57 F58 b55 k62 k63 k64 k65 k66 h60 b61 r67 hn68
          refine w_t (np := 49) (l2 := [some (eR a0), some (eI (i16)), some (eI (i54))]) (s2 := [eI (i54)]) rfl rfl rfl ?_
          refine w_t (np := 50) (l2 := [some (eR a0), some (eI (i16)), some (eI (i54))]) (s2 := [eI (5), eI (i54)]) rfl rfl rfl ?_
          refine b_cge (t1 := 74) (t2 := 53) rfl rfl rfl (ev_w_in (by omega) (by omega)) rfl (fun g69 => ?_) (fun g69 => ?_)
          · have b70 : 5 ≤ i54 ∧ i54 ≤ 5 := by omega
            refine w_t (np := 75) (l2 := [some (eR a0), some (eI (i16)), some (eI (i54))]) (s2 := [eR a0]) rfl (s_an rfl (pos_g I57 gA0 (by decide))) rfl ?_
            refine j_lw (np := 78) rfl rfl rfl ?_
            refine w_cw (np := 81) (as := [eR 29]) (l2 := [some (eR a0), some (eR 29), none]) (rest := []) rfl rfl rfl (Nat.ble_eq.mp rfl) rfl rfl rfl (I57.kd gA0 (by decide) (n := 69) rfl) rfl ?_
            refine s_355_29 I57 gA0 h60 (by omega) ?_
            intro m70 v73 I71 F72 e74 h75
            have F76 : Fr l_357 0 0 g μ m70 := F58.t F72 rfl
            have b77 : 0 ≤ v73 ∧ v73 ≤ 2000 := by
              rw [← e74]
              exact I71.int gA0 (by decide) (n := 69) rfl (by decide) rfl
            show ex_q (dt_fg L ρ) rc (d + 6, (357, 81, [some (eR a0), some (eI (i16)), some (eI (i54))], []), f :: F, m70)
            refine w_t (np := 82) (l2 := [some (eR a0), some (eI (i16)), some (eI (i54))]) (s2 := [eR a0]) rfl (s_an rfl (pos_g I71 gA0 (by decide))) rfl ?_
            refine w_t (np := 83) (l2 := [some (eR a0), some (eI (i16)), some (eI (i54))]) (s2 := [eR a0, eR a0]) rfl (s_an rfl (pos_g I71 gA0 (by decide))) rfl ?_
            refine w_gf (np := 86) (v := eR v33) rfl rfl (I71.kd gA0 (by decide) (n := 69) rfl) (by rw [(F72.k k65 gA0 (by decide) rfl)]; rfl) ?_
            refine w_t (np := 88) (l2 := [some (eR a0), some (eI (i16)), some (eI (i54))]) (s2 := [eI (7), eR v33, eR a0]) rfl rfl rfl ?_
            refine w_t (np := 89) (l2 := [some (eR a0), some (eI (i16)), some (eI (i54))]) (s2 := [eI (i16), eI (7), eR v33, eR a0]) rfl rfl rfl ?_
            obtain ⟨v78, e79⟩ : ∃ zz : Int, zz = (7) * (i16) := ⟨_, rfl⟩
            have b80 : 0 ≤ v78 ∧ v78 ≤ 161 := by omega
            refine w_t (np := 90) (l2 := [some (eR a0), some (eI (i16)), some (eI (i54))]) (s2 := [eI (v78), eR v33, eR a0]) rfl (b_imul (by rw [← e79]; exact ev_w_in (by omega) (by omega))) rfl ?_
            refine w_t (np := 91) (l2 := [some (eR a0), some (eI (i16)), some (eI (i54))]) (s2 := [eI (5), eI (v78), eR v33, eR a0]) rfl rfl rfl ?_
            obtain ⟨v81, e82⟩ : ∃ zz : Int, zz = (v78) + (5) := ⟨_, rfl⟩
            have b83 : 5 ≤ v81 ∧ v81 ≤ 166 := by omega
            refine w_t (np := 92) (l2 := [some (eR a0), some (eI (i16)), some (eI (i54))]) (s2 := [eI (v81), eR v33, eR a0]) rfl (b_iadd (by rw [← e82]; exact ev_w_in (by omega) (by omega))) rfl ?_
            refine j_al (np := 93) rfl rfl I71 b35 (by decide) (n := 168) rfl rfl (lo := -2147483648) (hi := 2147483647) (fun _ => rfl) (by omega) (by omega) ?_
            intro v84 e85 b86
            refine w_cw (np := 96) (as := [eI (v84)]) (l2 := [some (eR a0), some (eI (v84)), none, none]) (rest := []) rfl rfl rfl (Nat.ble_eq.mp rfl) rfl rfl rfl (I71.kd gA0 (by decide) (n := 69) rfl) rfl ?_
            refine s_356 (a1 := v84) I71 gA0 (by omega) e74 (by omega) ?_
            intro m87 v90 I88 F89 e91 h92
            have F93 : Fr l_357 0 0 g μ m87 := F76.t F89 rfl
            have b94 : 0 ≤ v90 ∧ v90 ≤ 2000 := by
              rw [← e91]
              exact I88.int gA0 (by decide) (n := 69) rfl (by decide) rfl
            show ex_q (dt_fg L ρ) rc (d + 6, (357, 96, [some (eR a0), some (eI (i16)), some (eI (i54))], []), f :: F, m87)
            refine w_t (np := 97) (l2 := [some (eR a0), some (eI (i16)), some (eI (i54))]) (s2 := [eR a0]) rfl (s_an rfl (pos_g I88 gA0 (by decide))) rfl ?_
            refine j_lw (np := 100) rfl rfl rfl ?_
            refine w_cw (np := 103) (as := [eR 30]) (l2 := [some (eR a0), some (eR 30), none]) (rest := []) rfl rfl rfl (Nat.ble_eq.mp rfl) rfl rfl rfl (I88.kd gA0 (by decide) (n := 69) rfl) rfl ?_
            refine s_355_30 I88 gA0 e91 (by omega) ?_
            intro m95 v98 I96 F97 e99 h100
            have F101 : Fr l_357 0 0 g μ m95 := F93.t F97 rfl
            have b102 : 0 ≤ v98 ∧ v98 ≤ 2000 := by
              rw [← e99]
              exact I96.int gA0 (by decide) (n := 69) rfl (by decide) rfl
            show ex_q (dt_fg L ρ) rc (d + 6, (357, 103, [some (eR a0), some (eI (i16)), some (eI (i54))], []), f :: F, m95)
            refine w_t (np := 104) (l2 := [some (eR a0), some (eI (i16)), some (eI (i54))]) (s2 := [eR a0]) rfl (s_an rfl (pos_g I96 gA0 (by decide))) rfl ?_
            refine w_t (np := 105) (l2 := [some (eR a0), some (eI (i16)), some (eI (i54))]) (s2 := [eR a0, eR a0]) rfl (s_an rfl (pos_g I96 gA0 (by decide))) rfl ?_
            refine w_gf (np := 108) (v := eR v33) rfl rfl (I96.kd gA0 (by decide) (n := 69) rfl) (by rw [(F97.k (F89.k (F72.k k65 gA0 (by decide) rfl) gA0 (by decide) rfl) gA0 (by decide) rfl)]; rfl) ?_
            refine w_t (np := 110) (l2 := [some (eR a0), some (eI (i16)), some (eI (i54))]) (s2 := [eI (7), eR v33, eR a0]) rfl rfl rfl ?_
            refine w_t (np := 111) (l2 := [some (eR a0), some (eI (i16)), some (eI (i54))]) (s2 := [eI (i16), eI (7), eR v33, eR a0]) rfl rfl rfl ?_
            obtain ⟨v103, e104⟩ : ∃ zz : Int, zz = (7) * (i16) := ⟨_, rfl⟩
            have b105 : 0 ≤ v103 ∧ v103 ≤ 161 := by omega
            refine w_t (np := 112) (l2 := [some (eR a0), some (eI (i16)), some (eI (i54))]) (s2 := [eI (v103), eR v33, eR a0]) rfl (b_imul (by rw [← e104]; exact ev_w_in (by omega) (by omega))) rfl ?_
            refine w_t (np := 114) (l2 := [some (eR a0), some (eI (i16)), some (eI (i54))]) (s2 := [eI (6), eI (v103), eR v33, eR a0]) rfl rfl rfl ?_
            obtain ⟨v106, e107⟩ : ∃ zz : Int, zz = (v103) + (6) := ⟨_, rfl⟩
            have b108 : 6 ≤ v106 ∧ v106 ≤ 167 := by omega
            refine w_t (np := 115) (l2 := [some (eR a0), some (eI (i16)), some (eI (i54))]) (s2 := [eI (v106), eR v33, eR a0]) rfl (b_iadd (by rw [← e107]; exact ev_w_in (by omega) (by omega))) rfl ?_
            refine j_al (np := 116) rfl rfl I96 b35 (by decide) (n := 168) rfl rfl (lo := -2147483648) (hi := 2147483647) (fun _ => rfl) (by omega) (by omega) ?_
            intro v109 e110 b111
            refine w_cw (np := 119) (as := [eI (v109)]) (l2 := [some (eR a0), some (eI (v109)), none, none]) (rest := []) rfl rfl rfl (Nat.ble_eq.mp rfl) rfl rfl rfl (I96.kd gA0 (by decide) (n := 69) rfl) rfl ?_
            refine s_356 (a1 := v109) I96 gA0 (by omega) e99 (by omega) ?_
            intro m112 v115 I113 F114 e116 h117
            have F118 : Fr l_357 0 0 g μ m112 := F101.t F114 rfl
            have b119 : 0 ≤ v115 ∧ v115 ≤ 2000 := by
              rw [← e116]
              exact I113.int gA0 (by decide) (n := 69) rfl (by decide) rfl
            show ex_q (dt_fg L ρ) rc (d + 6, (357, 119, [some (eR a0), some (eI (i16)), some (eI (i54))], []), f :: F, m112)
            refine w_t (np := 120) (l2 := [some (eR a0), some (eI (i16)), some (eI (i54))]) (s2 := [eR a0]) rfl (s_an rfl (pos_g I113 gA0 (by decide))) rfl ?_
            refine j_lw (np := 123) rfl rfl rfl ?_
            refine w_cw (np := 126) (as := [eR 31]) (l2 := [some (eR a0), some (eR 31), none]) (rest := []) rfl rfl rfl (Nat.ble_eq.mp rfl) rfl rfl rfl (I113.kd gA0 (by decide) (n := 69) rfl) rfl ?_
            refine s_355_31 I113 gA0 e116 (by omega) ?_
            intro m120 v123 I121 F122 e124 h125
            have F126 : Fr l_357 0 0 g μ m120 := F118.t F122 rfl
            have b127 : 0 ≤ v123 ∧ v123 ≤ 2000 := by
              rw [← e124]
              exact I121.int gA0 (by decide) (n := 69) rfl (by decide) rfl
            show ex_q (dt_fg L ρ) rc (d + 6, (357, 126, [some (eR a0), some (eI (i16)), some (eI (i54))], []), f :: F, m120)
            obtain ⟨v128, e129⟩ : ∃ zz : Int, zz = (i16) + (1) := ⟨_, rfl⟩
            have b130 : 1 ≤ v128 ∧ v128 ≤ 24 := by omega
            refine w_t (np := 129) (l2 := [some (eR a0), some (eI (v128)), some (eI (i54))]) (s2 := []) rfl (b_iinc rfl (by rw [← e129]; exact ev_w_in (by omega) (by omega)) rfl) rfl ?_
            refine w_go (t1 := 13) rfl rfl ?_
            exact ih15 (24 - (v128)).toNat (by omega) m120 (v128) (some (eI (i54))) (v123) I121 F126 (by omega) (F122.k (F114.k (F97.k (F89.k (F72.k k62 gA0 (by decide) rfl) gA0 (by decide) rfl) gA0 (by decide) rfl) gA0 (by decide) rfl) gA0 (by decide) rfl) (F122.k (F114.k (F97.k (F89.k (F72.k k63 gA0 (by decide) rfl) gA0 (by decide) rfl) gA0 (by decide) rfl) gA0 (by decide) rfl) gA0 (by decide) rfl) e124 (by omega)  (by omega) rfl
          · have b70 : 1 ≤ i54 ∧ i54 ≤ 4 := by omega
            refine w_t (np := 54) (l2 := [some (eR a0), some (eI (i16)), some (eI (i54))]) (s2 := [eR a0]) rfl (s_an rfl (pos_g I57 gA0 (by decide))) rfl ?_
            refine w_t (np := 55) (l2 := [some (eR a0), some (eI (i16)), some (eI (i54))]) (s2 := [eR a0, eR a0]) rfl (s_an rfl (pos_g I57 gA0 (by decide))) rfl ?_
            refine w_gf (np := 58) (v := eR v33) rfl rfl (I57.kd gA0 (by decide) (n := 69) rfl) (by rw [k65]; rfl) ?_
            refine w_t (np := 60) (l2 := [some (eR a0), some (eI (i16)), some (eI (i54))]) (s2 := [eI (7), eR v33, eR a0]) rfl rfl rfl ?_
            refine w_t (np := 61) (l2 := [some (eR a0), some (eI (i16)), some (eI (i54))]) (s2 := [eI (i16), eI (7), eR v33, eR a0]) rfl rfl rfl ?_
            obtain ⟨v70, e71⟩ : ∃ zz : Int, zz = (7) * (i16) := ⟨_, rfl⟩
            have b72 : 0 ≤ v70 ∧ v70 ≤ 161 := by omega
            refine w_t (np := 62) (l2 := [some (eR a0), some (eI (i16)), some (eI (i54))]) (s2 := [eI (v70), eR v33, eR a0]) rfl (b_imul (by rw [← e71]; exact ev_w_in (by omega) (by omega))) rfl ?_
            refine w_t (np := 63) (l2 := [some (eR a0), some (eI (i16)), some (eI (i54))]) (s2 := [eI (i54), eI (v70), eR v33, eR a0]) rfl rfl rfl ?_
            obtain ⟨v73, e74⟩ : ∃ zz : Int, zz = (v70) + (i54) := ⟨_, rfl⟩
            have b75 : 1 ≤ v73 ∧ v73 ≤ 165 := by omega
            refine w_t (np := 64) (l2 := [some (eR a0), some (eI (i16)), some (eI (i54))]) (s2 := [eI (v73), eR v33, eR a0]) rfl (b_iadd (by rw [← e74]; exact ev_w_in (by omega) (by omega))) rfl ?_
            refine j_al (np := 65) rfl rfl I57 b35 (by decide) (n := 168) rfl rfl (lo := -2147483648) (hi := 2147483647) (fun _ => rfl) (by omega) (by omega) ?_
            intro v76 e77 b78
            refine w_cw (np := 68) (as := [eI (v76)]) (l2 := [some (eR a0), some (eI (v76)), none, none]) (rest := []) rfl rfl rfl (Nat.ble_eq.mp rfl) rfl rfl rfl (I57.kd gA0 (by decide) (n := 69) rfl) rfl ?_
            refine s_356 (a1 := v76) I57 gA0 (by omega) h60 (by omega) ?_
            intro m79 v82 I80 F81 e83 h84
            have F85 : Fr l_357 0 0 g μ m79 := F58.t F81 rfl
            have b86 : 0 ≤ v82 ∧ v82 ≤ 2000 := by
              rw [← e83]
              exact I80.int gA0 (by decide) (n := 69) rfl (by decide) rfl
            show ex_q (dt_fg L ρ) rc (d + 6, (357, 68, [some (eR a0), some (eI (i16)), some (eI (i54))], []), f :: F, m79)
            obtain ⟨v87, e88⟩ : ∃ zz : Int, zz = (i54) + (1) := ⟨_, rfl⟩
            have b89 : 2 ≤ v87 ∧ v87 ≤ 5 := by omega
            refine w_t (np := 71) (l2 := [some (eR a0), some (eI (i16)), some (eI (v87))]) (s2 := []) rfl (b_iinc rfl (by rw [← e88]; exact ev_w_in (by omega) (by omega)) rfl) rfl ?_
            refine w_go (t1 := 48) rfl rfl ?_
            exact ih53 (5 - (v87)).toNat (by omega) m79 (v87) (v82) I80 F85 (by omega) (F81.k k62 gA0 (by decide) rfl) (F81.k k63 gA0 (by decide) rfl) (F81.k k64 gA0 (by decide) rfl) (F81.k k65 gA0 (by decide) rfl) (F81.kr k66 b35 (by decide) rfl rfl) e83 (by omega)  (by omega) rfl
        exact hL48 _ m44 (1) (v47) I45 F50 (by decide) (F46.k k25 gA0 (by decide) rfl) (F46.k k26 gA0 (by decide) rfl) (F46.k e30 gA0 (by decide) rfl) (F46.k e34 gA0 (by decide) rfl) (F46.kr e41 b35 (by decide) rfl rfl) e48 (by omega)  (by omega) rfl
  exact hL13 _ m10 (0) (none) (0) I11 F13 (by decide) (W12.slot (W7.slot W3.at (by decide)) (by decide)) (W12.slot W7.at (by decide)) W12.at (by decide)  (by omega) rfl
