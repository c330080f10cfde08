noncomputable def m_365_5b (a0 a1 : Nat) (K : yM → Bool) (i5 : Nat → Nat → yM → Bool) (a2 a3 : Nat) (M : yM) : Bool := z_if (z_lt a2 a3) (y_sa 100 M a0 a2 a1 fun M2 => z_l (z_add a2 1) fun v7 => z_f v7 fun w8 => i5 w8 a3 M2) (K M)
noncomputable def m_365_5 (a0 a1 : Nat) (K : yM → Bool) (n : Nat) : Nat → Nat → yM → Bool := @Nat.rec (fun _ => Nat → Nat → yM → Bool) (fun _ _ _ => false) (fun _ ih => m_365_5b a0 a1 K ih) n
theorem m_365_5b_ok {fg : eG} {rc rs d : Nat} {f : eFr} {F : List eFr} {μ0 : eM} {a0 a1 : Nat} {K : yM → Bool} {i5 : Nat → Nat → yM → Bool} (hG : yG fg y_T) (p0 : 0 < a0) (hK : ∀ (M : yM) (μ : eM), K M = true → yR M μ → y_le μ0 μ → ex_fine fg rc rs (d + 1, (f.1, f.2.1, f.2.2.1, f.2.2.2), F, μ)) (h5 : ∀ (a2 a3 : Nat) (M : yM) (μ : eM), i5 a2 a3 M = true → yR M μ → y_le μ0 μ → ex_fine fg rc rs (d, (365, 5, [some (eR a0), some (eI (zI a1)), some (eI (zI a2)), some (eI (zI a3))], []), f :: F, μ)) : ∀ (a2 a3 : Nat) (M : yM) (μ : eM), m_365_5b a0 a1 K i5 a2 a3 M = true → yR M μ → y_le μ0 μ → ex_fine fg rc rs (d, (365, 5, [some (eR a0), some (eI (zI a1)), some (eI (zI a2)), some (eI (zI a3))], []), f :: F, μ) := by
  intro a2 a3 M μ h hR hl
  unfold m_365_5b at h
  refine w_s (np := 6) (lv' := [some (eR a0), some (eI (zI a1)), some (eI (zI a2)), some (eI (zI a3))]) (st' := [eI (zI a2)]) rfl rfl rfl ?_
  refine w_s (np := 7) (lv' := [some (eR a0), some (eI (zI a1)), some (eI (zI a2)), some (eI (zI a3))]) (st' := [eI (zI a3), eI (zI a2)]) rfl rfl rfl ?_
  rcases z_if_t h with ⟨g1, h⟩ | ⟨g1, h⟩
  · refine v_ge_f (t1 := 20) rfl rfl g1 ?_
    refine w_s (np := 11) (lv' := [some (eR a0), some (eI (zI a1)), some (eI (zI a2)), some (eI (zI a3))]) (st' := [eR a0]) rfl (s_an rfl p0) rfl ?_
    refine w_s (np := 12) (lv' := [some (eR a0), some (eI (zI a1)), some (eI (zI a2)), some (eI (zI a3))]) (st' := [eI (zI a2), eR a0]) rfl rfl rfl ?_
    refine w_s (np := 13) (lv' := [some (eR a0), some (eI (zI a1)), some (eI (zI a2)), some (eI (zI a3))]) (st' := [eI (zI a1), eI (zI a2), eR a0]) rfl rfl rfl ?_
    obtain ⟨M2, μ3, h, k6, hR4, hl5⟩ := y_sa_ex (ty := 0) h hR hl rfl (by decide)
    refine v_sa (np := 14) rfl rfl k6 ?_
    clear k6
    obtain ⟨v7, ev7, h⟩ := z_l_ex h
    refine w_s (np := 17) (lv' := [some (eR a0), some (eI (zI a1)), some (eI (zI v7)), some (eI (zI a3))]) (st' := []) rfl (s_iinc (b := 1) rfl rfl ev7 rfl) rfl ?_
    clear ev7
    refine w_go (t1 := 5) rfl rfl ?_
    obtain ⟨w8, ew8, h⟩ := z_f_ex h
    subst ew8
    exact h5 _ _ M2 μ3 h hR4 hl5
  · refine v_ge_t (t1 := 20) rfl rfl g1 ?_
    exact v_rv rfl rfl (hK _ _ h hR hl)
theorem m_365_5_ok {fg : eG} {rc rs d : Nat} {f : eFr} {F : List eFr} {μ0 : eM} {a0 a1 : Nat} {K : yM → Bool} (hG : yG fg y_T) (p0 : 0 < a0) (hK : ∀ (M : yM) (μ : eM), K M = true → yR M μ → y_le μ0 μ → ex_fine fg rc rs (d + 1, (f.1, f.2.1, f.2.2.1, f.2.2.2), F, μ)) : ∀ n : Nat, ∀ (a2 a3 : Nat) (M : yM) (μ : eM), m_365_5 a0 a1 K n a2 a3 M = true → yR M μ → y_le μ0 μ → ex_fine fg rc rs (d, (365, 5, [some (eR a0), some (eI (zI a1)), some (eI (zI a2)), some (eI (zI a3))], []), f :: F, μ) := by
  intro n
  induction n with
  | zero =>
    intro a2 a3 M μ h hR hl
    exact absurd h Bool.false_ne_true
  | succ n ih =>
    intro a2 a3 M μ h hR hl
    exact m_365_5b_ok hG p0 hK ih a2 a3 M μ h hR hl
/-! java/util/Arrays.fill -/
noncomputable def m_365 (a0 a1 : Nat) (M : yM) (K : yM → Bool) : Bool := y_ln y_T M a0 fun v1 => m_365_5 a0 a1 K 100000 0 v1 M
theorem m_365_ok {fg : eG} {rc rs d : Nat} {f : eFr} {F : List eFr} {M : yM} {μ0 : eM} {a0 a1 : Nat} {K : yM → Bool} (hG : yG fg y_T) (h : m_365 a0 a1 M K = true) (hR : yR M μ0) (p0 : 0 < a0) (hK : ∀ (M : yM) (μ : eM), K M = true → yR M μ → y_le μ0 μ → ex_fine fg rc rs (d + 1, (f.1, f.2.1, f.2.2.1, f.2.2.2), F, μ)) : ex_fine fg rc rs (d, (365, 0, [some (eR a0), some (eI (zI a1)), none, none], []), f :: F, μ0) := by
  unfold m_365 at h
  have hl := y_le_r μ0
  refine w_s (np := 1) (lv' := [some (eR a0), some (eI (zI a1)), none, none]) (st' := [eI (zI 0)]) rfl rfl rfl ?_
  refine w_s (np := 2) (lv' := [some (eR a0), some (eI (zI a1)), some (eI (zI 0)), none]) (st' := []) rfl rfl rfl ?_
  refine w_s (np := 3) (lv' := [some (eR a0), some (eI (zI a1)), some (eI (zI 0)), none]) (st' := [eR a0]) rfl (s_an rfl p0) rfl ?_
  obtain ⟨v1, h, n2, k3⟩ := y_ln_ok h hR hG
  refine v_ln (np := 4) rfl rfl k3 ?_
  refine w_s (np := 5) (lv' := [some (eR a0), some (eI (zI a1)), some (eI (zI 0)), some (eI (zI v1))]) (st' := []) rfl rfl rfl ?_
  exact m_365_5_ok hG p0 hK 100000 _ _ M μ0 h hR hl
/-! RhombInflator$Firsts.<init> -/
noncomputable def m_11 (a0 : Nat) (M : yM) (K : yM → Bool) : Bool := y_na M 100 256 fun r1 M2 => y_wr M2 a0 1 0 r1 fun M10 => y_na M10 100 256 fun r16 M17 => y_wr M17 a0 1 1 r16 fun M25 => y_na M25 100 4 fun r31 M32 => y_wr M32 a0 1 2 r31 fun M40 => y_gf M40 a0 1 2 fun v46 => f_if false (Nat.ble 1 v46) (m_365 v46 4294967295 M40 fun M51 => K M51)
theorem m_11_ok {fg : eG} {rc rs d : Nat} {f : eFr} {F : List eFr} {M : yM} {μ0 : eM} {a0 : Nat} {K : yM → Bool} (hG : yG fg y_T) (h : m_11 a0 M K = true) (hR : yR M μ0) (hk : ev_kd μ0 a0 = some 1) (p0 : 0 < a0) (hK : ∀ (M : yM) (μ : eM), K M = true → yR M μ → y_le μ0 μ → ex_fine fg rc rs (d + 2, (f.1, f.2.1, f.2.2.1, f.2.2.2), F, μ)) : ex_fine fg rc rs (d + 1, (11, 0, [some (eR a0)], []), f :: F, μ0) := by
  unfold m_11 at h
  have hl := y_le_r μ0
  refine w_s (np := 1) (lv' := [some (eR a0)]) (st' := [eR a0]) rfl (s_an rfl p0) rfl ?_
  refine v_oi (np := 4) rfl rfl p0 rfl ?_
  refine w_s (np := 5) (lv' := [some (eR a0)]) (st' := [eR a0]) rfl (s_an rfl p0) rfl ?_
  refine w_s (np := 8) (lv' := [some (eR a0)]) (st' := [eI (zI 256), eR a0]) rfl rfl rfl ?_
  obtain ⟨r1, M2, μ3, h, q7, e8, g6, hR4, hl5, e9⟩ := y_na_ex h hR hl
  refine v_ae (np := 10) rfl rfl g6 e8 e9 ?_
  clear g6 e8 e9
  obtain ⟨M10, μ11, h, k14, hR12, hl13, e15⟩ := y_wr_ex h hR4 hl5 rfl
  refine v_pe3 (np := 13) rfl rfl k14 e15 ?_
  clear k14 e15
  refine w_s (np := 14) (lv' := [some (eR a0)]) (st' := [eR a0]) rfl (s_an rfl p0) rfl ?_
  refine w_s (np := 17) (lv' := [some (eR a0)]) (st' := [eI (zI 256), eR a0]) rfl rfl rfl ?_
  obtain ⟨r16, M17, μ18, h, q22, e23, g21, hR19, hl20, e24⟩ := y_na_ex h hR12 hl13
  refine v_ae (np := 19) rfl rfl g21 e23 e24 ?_
  clear g21 e23 e24
  obtain ⟨M25, μ26, h, k29, hR27, hl28, e30⟩ := y_wr_ex h hR19 hl20 rfl
  refine v_pe3 (np := 22) rfl rfl k29 e30 ?_
  clear k29 e30
  refine w_s (np := 23) (lv' := [some (eR a0)]) (st' := [eR a0]) rfl (s_an rfl p0) rfl ?_
  refine w_s (np := 24) (lv' := [some (eR a0)]) (st' := [eI (zI 4), eR a0]) rfl rfl rfl ?_
  obtain ⟨r31, M32, μ33, h, q37, e38, g36, hR34, hl35, e39⟩ := y_na_ex h hR27 hl28
  refine v_ae (np := 26) rfl rfl g36 e38 e39 ?_
  clear g36 e38 e39
  obtain ⟨M40, μ41, h, k44, hR42, hl43, e45⟩ := y_wr_ex h hR34 hl35 rfl
  refine v_pe3 (np := 29) rfl rfl k44 e45 ?_
  clear k44 e45
  refine w_s (np := 30) (lv' := [some (eR a0)]) (st' := [eR a0]) rfl (s_an rfl p0) rfl ?_
  obtain ⟨v46, h, k47, e48⟩ := y_gf_ok (ty := 3) h hR42 (by decide) rfl
  obtain ⟨g49, h⟩ := f_if_ok h
  have q50 : 0 < v46 := Nat.ble_eq.mp g49
  refine v_gf3 (np := 33) rfl rfl k47 e48 ?_
  clear k47 e48
  refine w_s (np := 34) (lv' := [some (eR a0)]) (st' := [eI (zI 4294967295), eR v46]) rfl rfl rfl ?_
  refine w_cs (np := 37) (as := [eR v46, eI (zI 4294967295)]) (lv' := [some (eR v46), some (eI (zI 4294967295)), none, none]) (rest := []) rfl rfl rfl (Nat.ble_eq.mp rfl) rfl rfl rfl rfl ?_
  refine m_365_ok hG h hR42 q50 ?_
  intro M51 μ52 h hR53 hl55
  have hl54 := y_le.tr hl43 hl55
  show ex_fine fg rc rs (d + 1, (11, 37, [some (eR a0)], []), f :: F, μ52)
  exact v_rv rfl rfl (hK _ _ h hR53 hl54)
noncomputable def m_13_8b (a0 a1 a2 : Nat) (K : Nat → yM → Bool) (i8 : Nat → Nat → yM → Bool) (a3 a4 : Nat) (M : yM) : Bool := y_gf M a0 1 2 fun v1 => f_if false (Nat.ble 1 v1) (y_lh 100 M v1 a1 fun v6 => z_if (z_lt a4 v6) (y_gf M a0 1 0 fun v9 => f_if false (Nat.ble 1 v9) (z_l (z_add a3 a4) fun v14 => y_lh 100 M v9 v14 fun v15 => z_if (z_eq v15 a2) (z_l (z_add a3 a4) fun v20 => K v20 M) (z_l (z_add a4 1) fun v18 => z_f v18 fun w19 => i8 a3 w19 M))) (K 4294967295 M))
noncomputable def m_13_8 (a0 a1 a2 : Nat) (K : Nat → yM → Bool) (n : Nat) : Nat → Nat → yM → Bool := @Nat.rec (fun _ => Nat → Nat → yM → Bool) (fun _ _ _ => false) (fun _ ih => m_13_8b a0 a1 a2 K ih) n
theorem m_13_8b_ok {fg : eG} {rc rs d : Nat} {f : eFr} {F : List eFr} {μ0 : eM} {a0 a1 a2 : Nat} {K : Nat → yM → Bool} {i8 : Nat → Nat → yM → Bool} (hG : yG fg y_T) (hk : ev_kd μ0 a0 = some 1) (p0 : 0 < a0) (hK : ∀ (r : Nat) (M : yM) (μ : eM), K r M = true → yR M μ → y_le μ0 μ → ex_fine fg rc rs (d + 1, (f.1, f.2.1, f.2.2.1, eI (zI r) :: f.2.2.2), F, μ)) (h8 : ∀ (a3 a4 : Nat) (M : yM) (μ : eM), i8 a3 a4 M = true → yR M μ → y_le μ0 μ → ex_fine fg rc rs (d, (13, 8, [some (eR a0), some (eI (zI a1)), some (eI (zI a2)), some (eI (zI a3)), some (eI (zI a4))], []), f :: F, μ)) : ∀ (a3 a4 : Nat) (M : yM) (μ : eM), m_13_8b a0 a1 a2 K i8 a3 a4 M = true → yR M μ → y_le μ0 μ → ex_fine fg rc rs (d, (13, 8, [some (eR a0), some (eI (zI a1)), some (eI (zI a2)), some (eI (zI a3)), some (eI (zI a4))], []), f :: F, μ) := by
  intro a3 a4 M μ h hR hl
  unfold m_13_8b at h
  refine w_s (np := 10) (lv' := [some (eR a0), some (eI (zI a1)), some (eI (zI a2)), some (eI (zI a3)), some (eI (zI a4))]) (st' := [eI (zI a4)]) rfl rfl rfl ?_
  refine w_s (np := 11) (lv' := [some (eR a0), some (eI (zI a1)), some (eI (zI a2)), some (eI (zI a3)), some (eI (zI a4))]) (st' := [eR a0, eI (zI a4)]) rfl (s_an rfl p0) rfl ?_
  obtain ⟨v1, h, k2, e3⟩ := y_gf_ok (ty := 3) h hR (by decide) rfl
  obtain ⟨g4, h⟩ := f_if_ok h
  have q5 : 0 < v1 := Nat.ble_eq.mp g4
  refine v_gf3 (np := 14) rfl rfl k2 e3 ?_
  clear k2 e3
  refine w_s (np := 15) (lv' := [some (eR a0), some (eI (zI a1)), some (eI (zI a2)), some (eI (zI a3)), some (eI (zI a4))]) (st' := [eI (zI a1), eR v1, eI (zI a4)]) rfl rfl rfl ?_
  obtain ⟨v6, h, k7⟩ := y_lh_ok (ty := 0) h hR hG (by decide) rfl (by decide)
  refine v_la (np := 16) rfl rfl k7 ?_
  clear k7
  rcases z_if_t h with ⟨g8, h⟩ | ⟨g8, h⟩
  · refine v_ge_f (t1 := 43) rfl rfl g8 ?_
    refine w_s (np := 20) (lv' := [some (eR a0), some (eI (zI a1)), some (eI (zI a2)), some (eI (zI a3)), some (eI (zI a4))]) (st' := [eR a0]) rfl (s_an rfl p0) rfl ?_
    obtain ⟨v9, h, k10, e11⟩ := y_gf_ok (ty := 3) h hR (by decide) rfl
    obtain ⟨g12, h⟩ := f_if_ok h
    have q13 : 0 < v9 := Nat.ble_eq.mp g12
    refine v_gf3 (np := 23) rfl rfl k10 e11 ?_
    clear k10 e11
    refine w_s (np := 24) (lv' := [some (eR a0), some (eI (zI a1)), some (eI (zI a2)), some (eI (zI a3)), some (eI (zI a4))]) (st' := [eI (zI a3), eR v9]) rfl rfl rfl ?_
    refine w_s (np := 26) (lv' := [some (eR a0), some (eI (zI a1)), some (eI (zI a2)), some (eI (zI a3)), some (eI (zI a4))]) (st' := [eI (zI a4), eI (zI a3), eR v9]) rfl rfl rfl ?_
    obtain ⟨v14, ev14, h⟩ := z_l_ex h
    refine w_s (np := 27) (lv' := [some (eR a0), some (eI (zI a1)), some (eI (zI a2)), some (eI (zI a3)), some (eI (zI a4))]) (st' := [eI (zI v14), eR v9]) rfl (s_iadd ev14) rfl ?_
    clear ev14
    obtain ⟨v15, h, k16⟩ := y_lh_ok (ty := 0) h hR hG (by decide) rfl (by decide)
    refine v_la (np := 28) rfl rfl k16 ?_
    clear k16
    refine w_s (np := 29) (lv' := [some (eR a0), some (eI (zI a1)), some (eI (zI a2)), some (eI (zI a3)), some (eI (zI a4))]) (st' := [eI (zI a2), eI (zI v15)]) rfl rfl rfl ?_
    rcases z_if_t h with ⟨g17, h⟩ | ⟨g17, h⟩
    · refine v_ne_f (t1 := 37) rfl rfl g17 ?_
      refine w_s (np := 33) (lv' := [some (eR a0), some (eI (zI a1)), some (eI (zI a2)), some (eI (zI a3)), some (eI (zI a4))]) (st' := [eI (zI a3)]) rfl rfl rfl ?_
      refine w_s (np := 35) (lv' := [some (eR a0), some (eI (zI a1)), some (eI (zI a2)), some (eI (zI a3)), some (eI (zI a4))]) (st' := [eI (zI a4), eI (zI a3)]) rfl rfl rfl ?_
      obtain ⟨v20, ev20, h⟩ := z_l_ex h
      refine w_s (np := 36) (lv' := [some (eR a0), some (eI (zI a1)), some (eI (zI a2)), some (eI (zI a3)), some (eI (zI a4))]) (st' := [eI (zI v20)]) rfl (s_iadd ev20) rfl ?_
      clear ev20
      exact v_ri rfl rfl (hK _ _ _ h hR hl)
    · refine v_ne_t (t1 := 37) rfl rfl g17 ?_
      obtain ⟨v18, ev18, h⟩ := z_l_ex h
      refine w_s (np := 40) (lv' := [some (eR a0), some (eI (zI a1)), some (eI (zI a2)), some (eI (zI a3)), some (eI (zI v18))]) (st' := []) rfl (s_iinc (b := 1) rfl rfl ev18 rfl) rfl ?_
      clear ev18
      refine w_go (t1 := 8) rfl rfl ?_
      obtain ⟨w19, ew19, h⟩ := z_f_ex h
      subst ew19
      exact h8 _ _ M μ h hR hl
  · refine v_ge_t (t1 := 43) rfl rfl g8 ?_
    refine w_s (np := 44) (lv' := [some (eR a0), some (eI (zI a1)), some (eI (zI a2)), some (eI (zI a3)), some (eI (zI a4))]) (st' := [eI (zI 4294967295)]) rfl rfl rfl ?_
    exact v_ri rfl rfl (hK _ _ _ h hR hl)
theorem m_13_8_ok {fg : eG} {rc rs d : Nat} {f : eFr} {F : List eFr} {μ0 : eM} {a0 a1 a2 : Nat} {K : Nat → yM → Bool} (hG : yG fg y_T) (hk : ev_kd μ0 a0 = some 1) (p0 : 0 < a0) (hK : ∀ (r : Nat) (M : yM) (μ : eM), K r M = true → yR M μ → y_le μ0 μ → ex_fine fg rc rs (d + 1, (f.1, f.2.1, f.2.2.1, eI (zI r) :: f.2.2.2), F, μ)) : ∀ n : Nat, ∀ (a3 a4 : Nat) (M : yM) (μ : eM), m_13_8 a0 a1 a2 K n a3 a4 M = true → yR M μ → y_le μ0 μ → ex_fine fg rc rs (d, (13, 8, [some (eR a0), some (eI (zI a1)), some (eI (zI a2)), some (eI (zI a3)), some (eI (zI a4))], []), f :: F, μ) := by
  intro n
  induction n with
  | zero =>
    intro a3 a4 M μ h hR hl
    exact absurd h Bool.false_ne_true
  | succ n ih =>
    intro a3 a4 M μ h hR hl
    exact m_13_8b_ok hG hk p0 hK ih a3 a4 M μ h hR hl
/-! RhombInflator$Firsts.placeOf -/
noncomputable def m_13 (a0 a1 a2 : Nat) (M : yM) (K : Nat → yM → Bool) : Bool := z_l (z_mul a1 64) fun v1 => m_13_8 a0 a1 a2 K 100000 v1 0 M
theorem m_13_ok {fg : eG} {rc rs d : Nat} {f : eFr} {F : List eFr} {M : yM} {μ0 : eM} {a0 a1 a2 : Nat} {K : Nat → yM → Bool} (hG : yG fg y_T) (h : m_13 a0 a1 a2 M K = true) (hR : yR M μ0) (hk : ev_kd μ0 a0 = some 1) (p0 : 0 < a0) (hK : ∀ (r : Nat) (M : yM) (μ : eM), K r M = true → yR M μ → y_le μ0 μ → ex_fine fg rc rs (d + 1, (f.1, f.2.1, f.2.2.1, eI (zI r) :: f.2.2.2), F, μ)) : ex_fine fg rc rs (d, (13, 0, [some (eR a0), some (eI (zI a1)), some (eI (zI a2)), none, none], []), f :: F, μ0) := by
  unfold m_13 at h
  have hl := y_le_r μ0
  refine w_s (np := 1) (lv' := [some (eR a0), some (eI (zI a1)), some (eI (zI a2)), none, none]) (st' := [eI (zI a1)]) rfl rfl rfl ?_
  refine w_s (np := 3) (lv' := [some (eR a0), some (eI (zI a1)), some (eI (zI a2)), none, none]) (st' := [eI (zI 64), eI (zI a1)]) rfl rfl rfl ?_
  obtain ⟨v1, ev1, h⟩ := z_l_ex h
  refine w_s (np := 4) (lv' := [some (eR a0), some (eI (zI a1)), some (eI (zI a2)), none, none]) (st' := [eI (zI v1)]) rfl (s_imul ev1) rfl ?_
  clear ev1
  refine w_s (np := 5) (lv' := [some (eR a0), some (eI (zI a1)), some (eI (zI a2)), some (eI (zI v1)), none]) (st' := []) rfl rfl rfl ?_
  refine w_s (np := 6) (lv' := [some (eR a0), some (eI (zI a1)), some (eI (zI a2)), some (eI (zI v1)), none]) (st' := [eI (zI 0)]) rfl rfl rfl ?_
  refine w_s (np := 8) (lv' := [some (eR a0), some (eI (zI a1)), some (eI (zI a2)), some (eI (zI v1)), some (eI (zI 0))]) (st' := []) rfl rfl rfl ?_
  exact m_13_8_ok hG hk p0 hK 100000 _ _ M μ0 h hR hl
/-! RhombInflator$Figures.<init> -/
noncomputable def m_1 (a0 a1 a2 : Nat) (M : yM) (K : yM → Bool) : Bool := y_wr M a0 0 5 a1 fun M1 => y_wr M1 a0 0 6 a2 fun M7 => y_na M7 100 512 fun r13 M14 => y_wr M14 a0 0 0 r13 fun M22 => y_na M22 101 512 fun r28 M29 => y_wr M29 a0 0 1 r28 fun M37 => y_na M37 103 512 fun r43 M44 => y_wr M44 a0 0 2 r43 fun M52 => y_na M52 100 512 fun r58 M59 => y_wr M59 a0 0 3 r58 fun M67 => y_na M67 100 64 fun r73 M74 => y_wr M74 a0 0 4 r73 fun M82 => K M82
theorem m_1_ok {fg : eG} {rc rs d : Nat} {f : eFr} {F : List eFr} {M : yM} {μ0 : eM} {a0 a1 a2 : Nat} {K : yM → Bool} (hG : yG fg y_T) (h : m_1 a0 a1 a2 M K = true) (hR : yR M μ0) (hk : ev_kd μ0 a0 = some 0) (p0 : 0 < a0) (p1 : 0 < a1) (p2 : 0 < a2) (hK : ∀ (M : yM) (μ : eM), K M = true → yR M μ → y_le μ0 μ → ex_fine fg rc rs (d + 2, (f.1, f.2.1, f.2.2.1, f.2.2.2), F, μ)) : ex_fine fg rc rs (d + 1, (1, 0, [some (eR a0), some (eR a1), some (eR a2)], []), f :: F, μ0) := by
  unfold m_1 at h
  have hl := y_le_r μ0
  refine w_s (np := 1) (lv' := [some (eR a0), some (eR a1), some (eR a2)]) (st' := [eR a0]) rfl (s_an rfl p0) rfl ?_
  refine v_oi (np := 4) rfl rfl p0 rfl ?_
  refine w_s (np := 5) (lv' := [some (eR a0), some (eR a1), some (eR a2)]) (st' := [eR a0]) rfl (s_an rfl p0) rfl ?_
  refine w_s (np := 6) (lv' := [some (eR a0), some (eR a1), some (eR a2)]) (st' := [eR a1, eR a0]) rfl (s_an rfl p1) rfl ?_
  obtain ⟨M1, μ2, h, k5, hR3, hl4, e6⟩ := y_wr_ex h hR hl rfl
  refine v_pe3 (np := 9) rfl rfl k5 e6 ?_
  clear k5 e6
  refine w_s (np := 10) (lv' := [some (eR a0), some (eR a1), some (eR a2)]) (st' := [eR a0]) rfl (s_an rfl p0) rfl ?_
  refine w_s (np := 11) (lv' := [some (eR a0), some (eR a1), some (eR a2)]) (st' := [eR a2, eR a0]) rfl (s_an rfl p2) rfl ?_
  obtain ⟨M7, μ8, h, k11, hR9, hl10, e12⟩ := y_wr_ex h hR3 hl4 rfl
  refine v_pe3 (np := 14) rfl rfl k11 e12 ?_
  clear k11 e12
  refine w_s (np := 15) (lv' := [some (eR a0), some (eR a1), some (eR a2)]) (st' := [eR a0]) rfl (s_an rfl p0) rfl ?_
  refine w_s (np := 18) (lv' := [some (eR a0), some (eR a1), some (eR a2)]) (st' := [eI (zI 512), eR a0]) rfl rfl rfl ?_
  obtain ⟨r13, M14, μ15, h, q19, e20, g18, hR16, hl17, e21⟩ := y_na_ex h hR9 hl10
  refine v_ae (np := 20) rfl rfl g18 e20 e21 ?_
  clear g18 e20 e21
  obtain ⟨M22, μ23, h, k26, hR24, hl25, e27⟩ := y_wr_ex h hR16 hl17 rfl
  refine v_pe3 (np := 23) rfl rfl k26 e27 ?_
  clear k26 e27
  refine w_s (np := 24) (lv' := [some (eR a0), some (eR a1), some (eR a2)]) (st' := [eR a0]) rfl (s_an rfl p0) rfl ?_
  refine w_s (np := 27) (lv' := [some (eR a0), some (eR a1), some (eR a2)]) (st' := [eI (zI 512), eR a0]) rfl rfl rfl ?_
  obtain ⟨r28, M29, μ30, h, q34, e35, g33, hR31, hl32, e36⟩ := y_na_ex h hR24 hl25
  refine v_ae (np := 29) rfl rfl g33 e35 e36 ?_
  clear g33 e35 e36
  obtain ⟨M37, μ38, h, k41, hR39, hl40, e42⟩ := y_wr_ex h hR31 hl32 rfl
  refine v_pe3 (np := 32) rfl rfl k41 e42 ?_
  clear k41 e42
  refine w_s (np := 33) (lv' := [some (eR a0), some (eR a1), some (eR a2)]) (st' := [eR a0]) rfl (s_an rfl p0) rfl ?_
  refine w_s (np := 36) (lv' := [some (eR a0), some (eR a1), some (eR a2)]) (st' := [eI (zI 512), eR a0]) rfl rfl rfl ?_
  obtain ⟨r43, M44, μ45, h, q49, e50, g48, hR46, hl47, e51⟩ := y_na_ex h hR39 hl40
  refine v_ae (np := 38) rfl rfl g48 e50 e51 ?_
  clear g48 e50 e51
  obtain ⟨M52, μ53, h, k56, hR54, hl55, e57⟩ := y_wr_ex h hR46 hl47 rfl
  refine v_pe3 (np := 41) rfl rfl k56 e57 ?_
  clear k56 e57
  refine w_s (np := 42) (lv' := [some (eR a0), some (eR a1), some (eR a2)]) (st' := [eR a0]) rfl (s_an rfl p0) rfl ?_
  refine w_s (np := 45) (lv' := [some (eR a0), some (eR a1), some (eR a2)]) (st' := [eI (zI 512), eR a0]) rfl rfl rfl ?_
  obtain ⟨r58, M59, μ60, h, q64, e65, g63, hR61, hl62, e66⟩ := y_na_ex h hR54 hl55
  refine v_ae (np := 47) rfl rfl g63 e65 e66 ?_
  clear g63 e65 e66
  obtain ⟨M67, μ68, h, k71, hR69, hl70, e72⟩ := y_wr_ex h hR61 hl62 rfl
  refine v_pe3 (np := 50) rfl rfl k71 e72 ?_
  clear k71 e72
  refine w_s (np := 51) (lv' := [some (eR a0), some (eR a1), some (eR a2)]) (st' := [eR a0]) rfl (s_an rfl p0) rfl ?_
  refine w_s (np := 53) (lv' := [some (eR a0), some (eR a1), some (eR a2)]) (st' := [eI (zI 64), eR a0]) rfl rfl rfl ?_
  obtain ⟨r73, M74, μ75, h, q79, e80, g78, hR76, hl77, e81⟩ := y_na_ex h hR69 hl70
  refine v_ae (np := 55) rfl rfl g78 e80 e81 ?_
  clear g78 e80 e81
  obtain ⟨M82, μ83, h, k86, hR84, hl85, e87⟩ := y_wr_ex h hR76 hl77 rfl
  refine v_pe3 (np := 58) rfl rfl k86 e87 ?_
  clear k86 e87
  exact v_rv rfl rfl (hK _ _ h hR84 hl85)
noncomputable def m_361_18 (a0 a1 : Nat) (K : Nat → yM → Bool) (a2 : Nat) (M : yM) : Bool := K a2 M
theorem m_361_18_ok {fg : eG} {rc rs d : Nat} {f : eFr} {F : List eFr} {μ0 : eM} {a0 a1 : Nat} {K : Nat → yM → Bool} (hG : yG fg y_T) (hK : ∀ (r : Nat) (M : yM) (μ : eM), K r M = true → yR M μ → y_le μ0 μ → ex_fine fg rc rs (d + 1, (f.1, f.2.1, f.2.2.1, eI (zI r) :: f.2.2.2), F, μ)) : ∀ (a2 : Nat) (M : yM) (μ : eM), m_361_18 a0 a1 K a2 M = true → yR M μ → y_le μ0 μ → ex_fine fg rc rs (d, (361, 18, [some (eI (zI a0)), some (eI (zI a1)), some (eI (zI a2))], []), f :: F, μ) := by
  intro a2 M μ h hR hl
  unfold m_361_18 at h
  refine w_s (np := 19) (lv' := [some (eI (zI a0)), some (eI (zI a1)), some (eI (zI a2))]) (st' := [eI (zI a2)]) rfl rfl rfl ?_
  exact v_ri rfl rfl (hK _ _ _ h hR hl)
/-! java/lang/Math.floorMod -/
noncomputable def m_361 (a0 a1 : Nat) (M : yM) (K : Nat → yM → Bool) : Bool := f_if false (Nat.ble 1 a1) (f_if false (Nat.ble a1 2147483647) (z_l (z_rem a0 a1) fun v3 => z_l (z_xor a0 a1) fun v4 => z_if (z_l0 v4) (z_if (z_e0 v3) (m_361_18 a0 a1 K v3 M) (z_l (z_add v3 a1) fun v7 => K v7 M)) (m_361_18 a0 a1 K v3 M)))
theorem m_361_ok {fg : eG} {rc rs d : Nat} {f : eFr} {F : List eFr} {M : yM} {μ0 : eM} {a0 a1 : Nat} {K : Nat → yM → Bool} (hG : yG fg y_T) (h : m_361 a0 a1 M K = true) (hR : yR M μ0) (hK : ∀ (r : Nat) (M : yM) (μ : eM), K r M = true → yR M μ → y_le μ0 μ → ex_fine fg rc rs (d + 1, (f.1, f.2.1, f.2.2.1, eI (zI r) :: f.2.2.2), F, μ)) : ex_fine fg rc rs (d, (361, 0, [some (eI (zI a0)), some (eI (zI a1)), none], []), f :: F, μ0) := by
  unfold m_361 at h
  have hl := y_le_r μ0
  refine w_s (np := 1) (lv' := [some (eI (zI a0)), some (eI (zI a1)), none]) (st' := [eI (zI a0)]) rfl rfl rfl ?_
  refine w_s (np := 2) (lv' := [some (eI (zI a0)), some (eI (zI a1)), none]) (st' := [eI (zI a1), eI (zI a0)]) rfl rfl rfl ?_
  obtain ⟨g1, h⟩ := f_if_ok h
  obtain ⟨g2, h⟩ := f_if_ok h
  obtain ⟨v3, ev3, h⟩ := z_l_ex h
  refine w_s (np := 3) (lv' := [some (eI (zI a0)), some (eI (zI a1)), none]) (st' := [eI (zI v3)]) rfl (s_irem ⟨Nat.ble_eq.mp g1, Nat.ble_eq.mp g2⟩ ev3) rfl ?_
  clear ev3
  refine w_s (np := 4) (lv' := [some (eI (zI a0)), some (eI (zI a1)), some (eI (zI v3))]) (st' := []) rfl rfl rfl ?_
  refine w_s (np := 5) (lv' := [some (eI (zI a0)), some (eI (zI a1)), some (eI (zI v3))]) (st' := [eI (zI a0)]) rfl rfl rfl ?_
  refine w_s (np := 6) (lv' := [some (eI (zI a0)), some (eI (zI a1)), some (eI (zI v3))]) (st' := [eI (zI a1), eI (zI a0)]) rfl rfl rfl ?_
  obtain ⟨v4, ev4, h⟩ := z_l_ex h
  refine w_s (np := 7) (lv' := [some (eI (zI a0)), some (eI (zI a1)), some (eI (zI v3))]) (st' := [eI (zI v4)]) rfl (s_ixor ev4) rfl ?_
  clear ev4
  rcases z_if_t h with ⟨g5, h⟩ | ⟨g5, h⟩
  · refine v_ge0_f (t1 := 18) rfl rfl g5 ?_
    refine w_s (np := 11) (lv' := [some (eI (zI a0)), some (eI (zI a1)), some (eI (zI v3))]) (st' := [eI (zI v3)]) rfl rfl rfl ?_
    rcases z_if_t h with ⟨g6, h⟩ | ⟨g6, h⟩
    · refine v_eq0_t (t1 := 18) rfl rfl g6 ?_
      exact m_361_18_ok hG hK _ M μ0 h hR hl
    · refine v_eq0_f (t1 := 18) rfl rfl g6 ?_
      refine w_s (np := 15) (lv' := [some (eI (zI a0)), some (eI (zI a1)), some (eI (zI v3))]) (st' := [eI (zI v3)]) rfl rfl rfl ?_
      refine w_s (np := 16) (lv' := [some (eI (zI a0)), some (eI (zI a1)), some (eI (zI v3))]) (st' := [eI (zI a1), eI (zI v3)]) rfl rfl rfl ?_
      obtain ⟨v7, ev7, h⟩ := z_l_ex h
      refine w_s (np := 17) (lv' := [some (eI (zI a0)), some (eI (zI a1)), some (eI (zI v3))]) (st' := [eI (zI v7)]) rfl (s_iadd ev7) rfl ?_
      clear ev7
      exact v_ri rfl rfl (hK _ _ _ h hR hl)
  · refine v_ge0_t (t1 := 18) rfl rfl g5 ?_
    exact m_361_18_ok hG hK _ M μ0 h hR hl
/-! RhombInflator$Figures.setSector -/
noncomputable def m_4 (a0 a1 a2 a3 : Nat) (M : yM) (K : yM → Bool) : Bool := y_gf M a0 0 1 fun v1 => f_if false (Nat.ble 1 v1) (y_lh 101 M v1 a1 fun v6 => z_l (z_i2l a3) fun v8 => m_361 a2 10 M fun v14 M9 => z_l (z_mul 4 v14) fun v15 => f_if false (Nat.ble v15 63) (z_l (z_lshl v8 v15) fun v17 => z_l (z_lor v6 v17) fun v18 => y_sa 101 M9 v1 a1 v18 fun M19 => K M19))
theorem m_4_ok {fg : eG} {rc rs d : Nat} {f : eFr} {F : List eFr} {M : yM} {μ0 : eM} {a0 a1 a2 a3 : Nat} {K : yM → Bool} (hG : yG fg y_T) (h : m_4 a0 a1 a2 a3 M K = true) (hR : yR M μ0) (hk : ev_kd μ0 a0 = some 0) (p0 : 0 < a0) (hK : ∀ (M : yM) (μ : eM), K M = true → yR M μ → y_le μ0 μ → ex_fine fg rc rs (d + 2, (f.1, f.2.1, f.2.2.1, f.2.2.2), F, μ)) : ex_fine fg rc rs (d + 1, (4, 0, [some (eR a0), some (eI (zI a1)), some (eI (zI a2)), some (eI (zI a3))], []), f :: F, μ0) := by
  unfold m_4 at h
  have hl := y_le_r μ0
  refine w_s (np := 1) (lv' := [some (eR a0), some (eI (zI a1)), some (eI (zI a2)), some (eI (zI a3))]) (st' := [eR a0]) rfl (s_an rfl p0) rfl ?_
  obtain ⟨v1, h, k2, e3⟩ := y_gf_ok (ty := 3) h hR (by decide) rfl
  obtain ⟨g4, h⟩ := f_if_ok h
  have q5 : 0 < v1 := Nat.ble_eq.mp g4
  refine v_gf3 (np := 4) rfl rfl k2 e3 ?_
  clear k2 e3
  refine w_s (np := 5) (lv' := [some (eR a0), some (eI (zI a1)), some (eI (zI a2)), some (eI (zI a3))]) (st' := [eI (zI a1), eR v1]) rfl rfl rfl ?_
  refine w_s (np := 6) (lv' := [some (eR a0), some (eI (zI a1)), some (eI (zI a2)), some (eI (zI a3))]) (st' := [eI (zI a1), eR v1, eI (zI a1), eR v1]) rfl rfl rfl ?_
  obtain ⟨v6, h, k7⟩ := y_lh_ok (ty := 2) h hR hG (by decide) rfl (by decide)
  refine v_ll (np := 7) rfl rfl k7 ?_
  clear k7
  refine w_s (np := 8) (lv' := [some (eR a0), some (eI (zI a1)), some (eI (zI a2)), some (eI (zI a3))]) (st' := [eI (zI a3), eJ (zJ v6), eI (zI a1), eR v1]) rfl rfl rfl ?_
  obtain ⟨v8, ev8, h⟩ := z_l_ex h
  refine w_s (np := 9) (lv' := [some (eR a0), some (eI (zI a1)), some (eI (zI a2)), some (eI (zI a3))]) (st' := [eJ (zJ v8), eJ (zJ v6), eI (zI a1), eR v1]) rfl (s_i2l ev8) rfl ?_
  clear ev8
  refine w_s (np := 10) (lv' := [some (eR a0), some (eI (zI a1)), some (eI (zI a2)), some (eI (zI a3))]) (st' := [eI (zI 4), eJ (zJ v8), eJ (zJ v6), eI (zI a1), eR v1]) rfl rfl rfl ?_
  refine w_s (np := 11) (lv' := [some (eR a0), some (eI (zI a1)), some (eI (zI a2)), some (eI (zI a3))]) (st' := [eI (zI a2), eI (zI 4), eJ (zJ v8), eJ (zJ v6), eI (zI a1), eR v1]) rfl rfl rfl ?_
  refine w_s (np := 13) (lv' := [some (eR a0), some (eI (zI a1)), some (eI (zI a2)), some (eI (zI a3))]) (st' := [eI (zI 10), eI (zI a2), eI (zI 4), eJ (zJ v8), eJ (zJ v6), eI (zI a1), eR v1]) rfl rfl rfl ?_
  refine w_cs (np := 16) (as := [eI (zI a2), eI (zI 10)]) (lv' := [some (eI (zI a2)), some (eI (zI 10)), none]) (rest := [eI (zI 4), eJ (zJ v8), eJ (zJ v6), eI (zI a1), eR v1]) rfl rfl rfl (Nat.ble_eq.mp rfl) rfl rfl rfl rfl ?_
  refine m_361_ok hG h hR ?_
  intro v14 M9 μ10 h hR11 hl13
  have hl12 := y_le.tr hl hl13
  show ex_fine fg rc rs (d + 1, (4, 16, [some (eR a0), some (eI (zI a1)), some (eI (zI a2)), some (eI (zI a3))], [eI (zI v14), eI (zI 4), eJ (zJ v8), eJ (zJ v6), eI (zI a1), eR v1]), f :: F, μ10)
  obtain ⟨v15, ev15, h⟩ := z_l_ex h
  refine w_s (np := 17) (lv' := [some (eR a0), some (eI (zI a1)), some (eI (zI a2)), some (eI (zI a3))]) (st' := [eI (zI v15), eJ (zJ v8), eJ (zJ v6), eI (zI a1), eR v1]) rfl (s_imul ev15) rfl ?_
  clear ev15
  obtain ⟨g16, h⟩ := f_if_ok h
  obtain ⟨v17, ev17, h⟩ := z_l_ex h
  refine w_s (np := 18) (lv' := [some (eR a0), some (eI (zI a1)), some (eI (zI a2)), some (eI (zI a3))]) (st' := [eJ (zJ v17), eJ (zJ v6), eI (zI a1), eR v1]) rfl (s_lshl (Nat.ble_eq.mp g16) ev17) rfl ?_
  clear ev17
  obtain ⟨v18, ev18, h⟩ := z_l_ex h
  refine w_s (np := 19) (lv' := [some (eR a0), some (eI (zI a1)), some (eI (zI a2)), some (eI (zI a3))]) (st' := [eJ (zJ v18), eI (zI a1), eR v1]) rfl (s_lor ev18) rfl ?_
  clear ev18
  obtain ⟨M19, μ20, h, k23, hR21, hl22⟩ := y_sa_ex (ty := 2) h hR11 hl12 rfl (by decide)
  refine v_sl (np := 20) rfl rfl k23 ?_
  clear k23
  exact v_rv rfl rfl (hK _ _ h hR21 hl22)
noncomputable def m_19_22 (a0 a1 : Nat) (K : Nat → yM → Bool) (s0 : Nat) (M : yM) : Bool := K s0 M
theorem m_19_22_ok {fg : eG} {rc rs d : Nat} {f : eFr} {F : List eFr} {μ0 : eM} {a0 a1 : Nat} {K : Nat → yM → Bool} (hG : yG fg y_T) (hk : ev_kd μ0 a0 = some 2) (p0 : 0 < a0) (hK : ∀ (r : Nat) (M : yM) (μ : eM), K r M = true → yR M μ → y_le μ0 μ → ex_fine fg rc rs (d + 1, (f.1, f.2.1, f.2.2.1, eI (zI r) :: f.2.2.2), F, μ)) : ∀ (s0 : Nat) (M : yM) (μ : eM), m_19_22 a0 a1 K s0 M = true → yR M μ → y_le μ0 μ → ex_fine fg rc rs (d, (19, 22, [some (eR a0), some (eI (zI a1))], [eI (zI s0)]), f :: F, μ) := by
  intro s0 M μ h hR hl
  unfold m_19_22 at h
  exact v_ri rfl rfl (hK _ _ _ h hR hl)
noncomputable def m_19_12 (a0 a1 : Nat) (K : Nat → yM → Bool) (M : yM) : Bool := m_19_22 a0 a1 K 0 M
theorem m_19_12_ok {fg : eG} {rc rs d : Nat} {f : eFr} {F : List eFr} {μ0 : eM} {a0 a1 : Nat} {K : Nat → yM → Bool} (hG : yG fg y_T) (hk : ev_kd μ0 a0 = some 2) (p0 : 0 < a0) (hK : ∀ (r : Nat) (M : yM) (μ : eM), K r M = true → yR M μ → y_le μ0 μ → ex_fine fg rc rs (d + 1, (f.1, f.2.1, f.2.2.1, eI (zI r) :: f.2.2.2), F, μ)) : ∀ (M : yM) (μ : eM), m_19_12 a0 a1 K M = true → yR M μ → y_le μ0 μ → ex_fine fg rc rs (d, (19, 12, [some (eR a0), some (eI (zI a1))], []), f :: F, μ) := by
  intro M μ h hR hl
  unfold m_19_12 at h
  refine w_s (np := 13) (lv' := [some (eR a0), some (eI (zI a1))]) (st' := [eI (zI 0)]) rfl rfl rfl ?_
  refine w_go (t1 := 22) rfl rfl ?_
  exact m_19_22_ok hG hk p0 hK _ M μ h hR hl
/-! RhombInflator$Patch.kindOf -/
noncomputable def m_19 (a0 a1 : Nat) (M : yM) (K : Nat → yM → Bool) : Bool := z_if (z_l0 a1) (m_19_12 a0 a1 K M) (y_gf M a0 2 7 fun v2 => z_if (z_lt a1 v2) (y_gf M a0 2 0 fun v6 => f_if false (Nat.ble 1 v6) (y_lh 100 M v6 a1 fun v11 => m_19_22 a0 a1 K v11 M)) (m_19_12 a0 a1 K M))
theorem m_19_ok {fg : eG} {rc rs d : Nat} {f : eFr} {F : List eFr} {M : yM} {μ0 : eM} {a0 a1 : Nat} {K : Nat → yM → Bool} (hG : yG fg y_T) (h : m_19 a0 a1 M K = true) (hR : yR M μ0) (hk : ev_kd μ0 a0 = some 2) (p0 : 0 < a0) (hK : ∀ (r : Nat) (M : yM) (μ : eM), K r M = true → yR M μ → y_le μ0 μ → ex_fine fg rc rs (d + 1, (f.1, f.2.1, f.2.2.1, eI (zI r) :: f.2.2.2), F, μ)) : ex_fine fg rc rs (d, (19, 0, [some (eR a0), some (eI (zI a1))], []), f :: F, μ0) := by
  unfold m_19 at h
  have hl := y_le_r μ0
  refine w_s (np := 1) (lv' := [some (eR a0), some (eI (zI a1))]) (st' := [eI (zI a1)]) rfl rfl rfl ?_
  rcases z_if_t h with ⟨g1, h⟩ | ⟨g1, h⟩
  · refine v_lt0_t (t1 := 12) rfl rfl g1 ?_
    exact m_19_12_ok hG hk p0 hK M μ0 h hR hl
  · refine v_lt0_f (t1 := 12) rfl rfl g1 ?_
    refine w_s (np := 5) (lv' := [some (eR a0), some (eI (zI a1))]) (st' := [eI (zI a1)]) rfl rfl rfl ?_
    refine w_s (np := 6) (lv' := [some (eR a0), some (eI (zI a1))]) (st' := [eR a0, eI (zI a1)]) rfl (s_an rfl p0) rfl ?_
    obtain ⟨v2, h, k3, e4⟩ := y_gf_ok (ty := 0) h hR (by decide) rfl
    refine v_gf0 (np := 9) rfl rfl k3 e4 ?_
    clear k3 e4
    rcases z_if_t h with ⟨g5, h⟩ | ⟨g5, h⟩
    · refine v_lt_t (t1 := 16) rfl rfl g5 ?_
      refine w_s (np := 17) (lv' := [some (eR a0), some (eI (zI a1))]) (st' := [eR a0]) rfl (s_an rfl p0) rfl ?_
      obtain ⟨v6, h, k7, e8⟩ := y_gf_ok (ty := 3) h hR (by decide) rfl
      obtain ⟨g9, h⟩ := f_if_ok h
      have q10 : 0 < v6 := Nat.ble_eq.mp g9
      refine v_gf3 (np := 20) rfl rfl k7 e8 ?_
      clear k7 e8
      refine w_s (np := 21) (lv' := [some (eR a0), some (eI (zI a1))]) (st' := [eI (zI a1), eR v6]) rfl rfl rfl ?_
      obtain ⟨v11, h, k12⟩ := y_lh_ok (ty := 0) h hR hG (by decide) rfl (by decide)
      refine v_la (np := 22) rfl rfl k12 ?_
      clear k12
      exact m_19_22_ok hG hk p0 hK _ M μ0 h hR hl
    · refine v_lt_f (t1 := 16) rfl rfl g5 ?_
      exact m_19_12_ok hG hk p0 hK M μ0 h hR hl
noncomputable def m_21_35 (a0 a1 a2 : Nat) (K : Nat → yM → Bool) (s0 : Nat) (M : yM) : Bool := K s0 M
theorem m_21_35_ok {fg : eG} {rc rs d : Nat} {f : eFr} {F : List eFr} {μ0 : eM} {a0 a1 a2 : Nat} {K : Nat → yM → Bool} (hG : yG fg y_T) (hk : ev_kd μ0 a0 = some 2) (p0 : 0 < a0) (hK : ∀ (r : Nat) (M : yM) (μ : eM), K r M = true → yR M μ → y_le μ0 μ → ex_fine fg rc rs (d + 1, (f.1, f.2.1, f.2.2.1, eI (zI r) :: f.2.2.2), F, μ)) : ∀ (s0 : Nat) (M : yM) (μ : eM), m_21_35 a0 a1 a2 K s0 M = true → yR M μ → y_le μ0 μ → ex_fine fg rc rs (d, (21, 35, [some (eR a0), some (eI (zI a1)), some (eI (zI a2))], [eI (zI s0)]), f :: F, μ) := by
  intro s0 M μ h hR hl
  unfold m_21_35 at h
  exact v_ri rfl rfl (hK _ _ _ h hR hl)
noncomputable def m_21_21 (a0 a1 a2 : Nat) (K : Nat → yM → Bool) (M : yM) : Bool := m_21_35 a0 a1 a2 K 0 M
theorem m_21_21_ok {fg : eG} {rc rs d : Nat} {f : eFr} {F : List eFr} {μ0 : eM} {a0 a1 a2 : Nat} {K : Nat → yM → Bool} (hG : yG fg y_T) (hk : ev_kd μ0 a0 = some 2) (p0 : 0 < a0) (hK : ∀ (r : Nat) (M : yM) (μ : eM), K r M = true → yR M μ → y_le μ0 μ → ex_fine fg rc rs (d + 1, (f.1, f.2.1, f.2.2.1, eI (zI r) :: f.2.2.2), F, μ)) : ∀ (M : yM) (μ : eM), m_21_21 a0 a1 a2 K M = true → yR M μ → y_le μ0 μ → ex_fine fg rc rs (d, (21, 21, [some (eR a0), some (eI (zI a1)), some (eI (zI a2))], []), f :: F, μ) := by
  intro M μ h hR hl
  unfold m_21_21 at h
  refine w_s (np := 22) (lv' := [some (eR a0), some (eI (zI a1)), some (eI (zI a2))]) (st' := [eI (zI 0)]) rfl rfl rfl ?_
  refine w_go (t1 := 35) rfl rfl ?_
  exact m_21_35_ok hG hk p0 hK _ M μ h hR hl
/-! RhombInflator$Patch.pointAt -/
noncomputable def m_21 (a0 a1 a2 : Nat) (M : yM) (K : Nat → yM → Bool) : Bool := z_if (z_l0 a1) (m_21_21 a0 a1 a2 K M) (y_gf M a0 2 7 fun v2 => z_if (z_lt a1 v2) (z_if (z_l0 a2) (m_21_21 a0 a1 a2 K M) (z_if (z_lt 2 a2) (m_21_21 a0 a1 a2 K M) (y_gf M a0 2 2 fun v8 => f_if false (Nat.ble 1 v8) (z_l (z_mul 3 a1) fun v13 => z_l (z_add v13 a2) fun v14 => y_lh 100 M v8 v14 fun v15 => m_21_35 a0 a1 a2 K v15 M)))) (m_21_21 a0 a1 a2 K M))
theorem m_21_ok {fg : eG} {rc rs d : Nat} {f : eFr} {F : List eFr} {M : yM} {μ0 : eM} {a0 a1 a2 : Nat} {K : Nat → yM → Bool} (hG : yG fg y_T) (h : m_21 a0 a1 a2 M K = true) (hR : yR M μ0) (hk : ev_kd μ0 a0 = some 2) (p0 : 0 < a0) (hK : ∀ (r : Nat) (M : yM) (μ : eM), K r M = true → yR M μ → y_le μ0 μ → ex_fine fg rc rs (d + 1, (f.1, f.2.1, f.2.2.1, eI (zI r) :: f.2.2.2), F, μ)) : ex_fine fg rc rs (d, (21, 0, [some (eR a0), some (eI (zI a1)), some (eI (zI a2))], []), f :: F, μ0) := by
  unfold m_21 at h
  have hl := y_le_r μ0
  refine w_s (np := 1) (lv' := [some (eR a0), some (eI (zI a1)), some (eI (zI a2))]) (st' := [eI (zI a1)]) rfl rfl rfl ?_
  rcases z_if_t h with ⟨g1, h⟩ | ⟨g1, h⟩
  · refine v_lt0_t (t1 := 21) rfl rfl g1 ?_
    exact m_21_21_ok hG hk p0 hK M μ0 h hR hl
  · refine v_lt0_f (t1 := 21) rfl rfl g1 ?_
    refine w_s (np := 5) (lv' := [some (eR a0), some (eI (zI a1)), some (eI (zI a2))]) (st' := [eI (zI a1)]) rfl rfl rfl ?_
    refine w_s (np := 6) (lv' := [some (eR a0), some (eI (zI a1)), some (eI (zI a2))]) (st' := [eR a0, eI (zI a1)]) rfl (s_an rfl p0) rfl ?_
    obtain ⟨v2, h, k3, e4⟩ := y_gf_ok (ty := 0) h hR (by decide) rfl
    refine v_gf0 (np := 9) rfl rfl k3 e4 ?_
    clear k3 e4
    rcases z_if_t h with ⟨g5, h⟩ | ⟨g5, h⟩
    · refine v_ge_f (t1 := 21) rfl rfl g5 ?_
      refine w_s (np := 13) (lv' := [some (eR a0), some (eI (zI a1)), some (eI (zI a2))]) (st' := [eI (zI a2)]) rfl rfl rfl ?_
      rcases z_if_t h with ⟨g6, h⟩ | ⟨g6, h⟩
      · refine v_lt0_t (t1 := 21) rfl rfl g6 ?_
        exact m_21_21_ok hG hk p0 hK M μ0 h hR hl
      · refine v_lt0_f (t1 := 21) rfl rfl g6 ?_
        refine w_s (np := 17) (lv' := [some (eR a0), some (eI (zI a1)), some (eI (zI a2))]) (st' := [eI (zI a2)]) rfl rfl rfl ?_
        refine w_s (np := 18) (lv' := [some (eR a0), some (eI (zI a1)), some (eI (zI a2))]) (st' := [eI (zI 2), eI (zI a2)]) rfl rfl rfl ?_
        rcases z_if_t h with ⟨g7, h⟩ | ⟨g7, h⟩
        · refine v_le_f (t1 := 25) rfl rfl g7 ?_
          exact m_21_21_ok hG hk p0 hK M μ0 h hR hl
        · refine v_le_t (t1 := 25) rfl rfl g7 ?_
          refine w_s (np := 26) (lv' := [some (eR a0), some (eI (zI a1)), some (eI (zI a2))]) (st' := [eR a0]) rfl (s_an rfl p0) rfl ?_
          obtain ⟨v8, h, k9, e10⟩ := y_gf_ok (ty := 3) h hR (by decide) rfl
          obtain ⟨g11, h⟩ := f_if_ok h
          have q12 : 0 < v8 := Nat.ble_eq.mp g11
          refine v_gf3 (np := 29) rfl rfl k9 e10 ?_
          clear k9 e10
          refine w_s (np := 30) (lv' := [some (eR a0), some (eI (zI a1)), some (eI (zI a2))]) (st' := [eI (zI 3), eR v8]) rfl rfl rfl ?_
          refine w_s (np := 31) (lv' := [some (eR a0), some (eI (zI a1)), some (eI (zI a2))]) (st' := [eI (zI a1), eI (zI 3), eR v8]) rfl rfl rfl ?_
          obtain ⟨v13, ev13, h⟩ := z_l_ex h
          refine w_s (np := 32) (lv' := [some (eR a0), some (eI (zI a1)), some (eI (zI a2))]) (st' := [eI (zI v13), eR v8]) rfl (s_imul ev13) rfl ?_
          clear ev13
          refine w_s (np := 33) (lv' := [some (eR a0), some (eI (zI a1)), some (eI (zI a2))]) (st' := [eI (zI a2), eI (zI v13), eR v8]) rfl rfl rfl ?_
          obtain ⟨v14, ev14, h⟩ := z_l_ex h
          refine w_s (np := 34) (lv' := [some (eR a0), some (eI (zI a1)), some (eI (zI a2))]) (st' := [eI (zI v14), eR v8]) rfl (s_iadd ev14) rfl ?_
          clear ev14
          obtain ⟨v15, h, k16⟩ := y_lh_ok (ty := 0) h hR hG (by decide) rfl (by decide)
          refine v_la (np := 35) rfl rfl k16 ?_
          clear k16
          exact m_21_35_ok hG hk p0 hK _ M μ0 h hR hl
    · refine v_ge_t (t1 := 21) rfl rfl g5 ?_
      exact m_21_21_ok hG hk p0 hK M μ0 h hR hl
noncomputable def m_23_35 (a0 a1 a2 : Nat) (K : Nat → yM → Bool) (s0 : Nat) (M : yM) : Bool := K s0 M
theorem m_23_35_ok {fg : eG} {rc rs d : Nat} {f : eFr} {F : List eFr} {μ0 : eM} {a0 a1 a2 : Nat} {K : Nat → yM → Bool} (hG : yG fg y_T) (hk : ev_kd μ0 a0 = some 2) (p0 : 0 < a0) (hK : ∀ (r : Nat) (M : yM) (μ : eM), K r M = true → yR M μ → y_le μ0 μ → ex_fine fg rc rs (d + 1, (f.1, f.2.1, f.2.2.1, eI (zI r) :: f.2.2.2), F, μ)) : ∀ (s0 : Nat) (M : yM) (μ : eM), m_23_35 a0 a1 a2 K s0 M = true → yR M μ → y_le μ0 μ → ex_fine fg rc rs (d, (23, 35, [some (eR a0), some (eI (zI a1)), some (eI (zI a2))], [eI (zI s0)]), f :: F, μ) := by
  intro s0 M μ h hR hl
  unfold m_23_35 at h
  exact v_ri rfl rfl (hK _ _ _ h hR hl)
noncomputable def m_23_21 (a0 a1 a2 : Nat) (K : Nat → yM → Bool) (M : yM) : Bool := m_23_35 a0 a1 a2 K 0 M
theorem m_23_21_ok {fg : eG} {rc rs d : Nat} {f : eFr} {F : List eFr} {μ0 : eM} {a0 a1 a2 : Nat} {K : Nat → yM → Bool} (hG : yG fg y_T) (hk : ev_kd μ0 a0 = some 2) (p0 : 0 < a0) (hK : ∀ (r : Nat) (M : yM) (μ : eM), K r M = true → yR M μ → y_le μ0 μ → ex_fine fg rc rs (d + 1, (f.1, f.2.1, f.2.2.1, eI (zI r) :: f.2.2.2), F, μ)) : ∀ (M : yM) (μ : eM), m_23_21 a0 a1 a2 K M = true → yR M μ → y_le μ0 μ → ex_fine fg rc rs (d, (23, 21, [some (eR a0), some (eI (zI a1)), some (eI (zI a2))], []), f :: F, μ) := by
  intro M μ h hR hl
  unfold m_23_21 at h
  refine w_s (np := 22) (lv' := [some (eR a0), some (eI (zI a1)), some (eI (zI a2))]) (st' := [eI (zI 0)]) rfl rfl rfl ?_
  refine w_go (t1 := 35) rfl rfl ?_
  exact m_23_35_ok hG hk p0 hK _ M μ h hR hl
/-! RhombInflator$Patch.legDirection -/
noncomputable def m_23 (a0 a1 a2 : Nat) (M : yM) (K : Nat → yM → Bool) : Bool := z_if (z_l0 a1) (m_23_21 a0 a1 a2 K M) (y_gf M a0 2 7 fun v2 => z_if (z_lt a1 v2) (z_if (z_l0 a2) (m_23_21 a0 a1 a2 K M) (z_if (z_lt 1 a2) (m_23_21 a0 a1 a2 K M) (y_gf M a0 2 3 fun v8 => f_if false (Nat.ble 1 v8) (z_l (z_mul 2 a1) fun v13 => z_l (z_add v13 a2) fun v14 => y_lh 100 M v8 v14 fun v15 => m_23_35 a0 a1 a2 K v15 M)))) (m_23_21 a0 a1 a2 K M))
theorem m_23_ok {fg : eG} {rc rs d : Nat} {f : eFr} {F : List eFr} {M : yM} {μ0 : eM} {a0 a1 a2 : Nat} {K : Nat → yM → Bool} (hG : yG fg y_T) (h : m_23 a0 a1 a2 M K = true) (hR : yR M μ0) (hk : ev_kd μ0 a0 = some 2) (p0 : 0 < a0) (hK : ∀ (r : Nat) (M : yM) (μ : eM), K r M = true → yR M μ → y_le μ0 μ → ex_fine fg rc rs (d + 1, (f.1, f.2.1, f.2.2.1, eI (zI r) :: f.2.2.2), F, μ)) : ex_fine fg rc rs (d, (23, 0, [some (eR a0), some (eI (zI a1)), some (eI (zI a2))], []), f :: F, μ0) := by
  unfold m_23 at h
  have hl := y_le_r μ0
  refine w_s (np := 1) (lv' := [some (eR a0), some (eI (zI a1)), some (eI (zI a2))]) (st' := [eI (zI a1)]) rfl rfl rfl ?_
  rcases z_if_t h with ⟨g1, h⟩ | ⟨g1, h⟩
  · refine v_lt0_t (t1 := 21) rfl rfl g1 ?_
    exact m_23_21_ok hG hk p0 hK M μ0 h hR hl
  · refine v_lt0_f (t1 := 21) rfl rfl g1 ?_
    refine w_s (np := 5) (lv' := [some (eR a0), some (eI (zI a1)), some (eI (zI a2))]) (st' := [eI (zI a1)]) rfl rfl rfl ?_
    refine w_s (np := 6) (lv' := [some (eR a0), some (eI (zI a1)), some (eI (zI a2))]) (st' := [eR a0, eI (zI a1)]) rfl (s_an rfl p0) rfl ?_
    obtain ⟨v2, h, k3, e4⟩ := y_gf_ok (ty := 0) h hR (by decide) rfl
    refine v_gf0 (np := 9) rfl rfl k3 e4 ?_
    clear k3 e4
    rcases z_if_t h with ⟨g5, h⟩ | ⟨g5, h⟩
    · refine v_ge_f (t1 := 21) rfl rfl g5 ?_
      refine w_s (np := 13) (lv' := [some (eR a0), some (eI (zI a1)), some (eI (zI a2))]) (st' := [eI (zI a2)]) rfl rfl rfl ?_
      rcases z_if_t h with ⟨g6, h⟩ | ⟨g6, h⟩
      · refine v_lt0_t (t1 := 21) rfl rfl g6 ?_
        exact m_23_21_ok hG hk p0 hK M μ0 h hR hl
      · refine v_lt0_f (t1 := 21) rfl rfl g6 ?_
        refine w_s (np := 17) (lv' := [some (eR a0), some (eI (zI a1)), some (eI (zI a2))]) (st' := [eI (zI a2)]) rfl rfl rfl ?_
        refine w_s (np := 18) (lv' := [some (eR a0), some (eI (zI a1)), some (eI (zI a2))]) (st' := [eI (zI 1), eI (zI a2)]) rfl rfl rfl ?_
        rcases z_if_t h with ⟨g7, h⟩ | ⟨g7, h⟩
        · refine v_le_f (t1 := 25) rfl rfl g7 ?_
          exact m_23_21_ok hG hk p0 hK M μ0 h hR hl
        · refine v_le_t (t1 := 25) rfl rfl g7 ?_
          refine w_s (np := 26) (lv' := [some (eR a0), some (eI (zI a1)), some (eI (zI a2))]) (st' := [eR a0]) rfl (s_an rfl p0) rfl ?_
          obtain ⟨v8, h, k9, e10⟩ := y_gf_ok (ty := 3) h hR (by decide) rfl
          obtain ⟨g11, h⟩ := f_if_ok h
          have q12 : 0 < v8 := Nat.ble_eq.mp g11
          refine v_gf3 (np := 29) rfl rfl k9 e10 ?_
          clear k9 e10
          refine w_s (np := 30) (lv' := [some (eR a0), some (eI (zI a1)), some (eI (zI a2))]) (st' := [eI (zI 2), eR v8]) rfl rfl rfl ?_
          refine w_s (np := 31) (lv' := [some (eR a0), some (eI (zI a1)), some (eI (zI a2))]) (st' := [eI (zI a1), eI (zI 2), eR v8]) rfl rfl rfl ?_
          obtain ⟨v13, ev13, h⟩ := z_l_ex h
          refine w_s (np := 32) (lv' := [some (eR a0), some (eI (zI a1)), some (eI (zI a2))]) (st' := [eI (zI v13), eR v8]) rfl (s_imul ev13) rfl ?_
          clear ev13
          refine w_s (np := 33) (lv' := [some (eR a0), some (eI (zI a1)), some (eI (zI a2))]) (st' := [eI (zI a2), eI (zI v13), eR v8]) rfl rfl rfl ?_
          obtain ⟨v14, ev14, h⟩ := z_l_ex h
          refine w_s (np := 34) (lv' := [some (eR a0), some (eI (zI a1)), some (eI (zI a2))]) (st' := [eI (zI v14), eR v8]) rfl (s_iadd ev14) rfl ?_
          clear ev14
          obtain ⟨v15, h, k16⟩ := y_lh_ok (ty := 0) h hR hG (by decide) rfl (by decide)
          refine v_la (np := 35) rfl rfl k16 ?_
          clear k16
          exact m_23_35_ok hG hk p0 hK _ M μ0 h hR hl
    · refine v_ge_t (t1 := 21) rfl rfl g5 ?_
      exact m_23_21_ok hG hk p0 hK M μ0 h hR hl
noncomputable def m_24_27 (a0 a1 : Nat) (K : Nat → yM → Bool) (s0 : Nat) (M : yM) : Bool := K s0 M
theorem m_24_27_ok {fg : eG} {rc rs d : Nat} {f : eFr} {F : List eFr} {μ0 : eM} {a0 a1 : Nat} {K : Nat → yM → Bool} (hG : yG fg y_T) (hk : ev_kd μ0 a0 = some 2) (p0 : 0 < a0) (hK : ∀ (r : Nat) (M : yM) (μ : eM), K r M = true → yR M μ → y_le μ0 μ → ex_fine fg rc rs (d + 2, (f.1, f.2.1, f.2.2.1, eI (zI r) :: f.2.2.2), F, μ)) : ∀ (s0 : Nat) (M : yM) (μ : eM), m_24_27 a0 a1 K s0 M = true → yR M μ → y_le μ0 μ → ex_fine fg rc rs (d + 1, (24, 27, [some (eR a0), some (eI (zI a1))], [eI (zI s0)]), f :: F, μ) := by
  intro s0 M μ h hR hl
  unfold m_24_27 at h
  exact v_ri rfl rfl (hK _ _ _ h hR hl)
/-! RhombInflator$Patch.handOf -/
noncomputable def m_24 (a0 a1 : Nat) (M : yM) (K : Nat → yM → Bool) : Bool := m_23 a0 a1 1 M fun v6 M1 => m_23 a0 a1 0 M1 fun v12 M7 => z_l (z_sub v6 v12) fun v13 => m_361 v13 10 M7 fun v19 M14 => z_if (z_lt v19 5) (m_24_27 a0 a1 K 1 M14) (m_24_27 a0 a1 K 4294967295 M14)
theorem m_24_ok {fg : eG} {rc rs d : Nat} {f : eFr} {F : List eFr} {M : yM} {μ0 : eM} {a0 a1 : Nat} {K : Nat → yM → Bool} (hG : yG fg y_T) (h : m_24 a0 a1 M K = true) (hR : yR M μ0) (hk : ev_kd μ0 a0 = some 2) (p0 : 0 < a0) (hK : ∀ (r : Nat) (M : yM) (μ : eM), K r M = true → yR M μ → y_le μ0 μ → ex_fine fg rc rs (d + 2, (f.1, f.2.1, f.2.2.1, eI (zI r) :: f.2.2.2), F, μ)) : ex_fine fg rc rs (d + 1, (24, 0, [some (eR a0), some (eI (zI a1))], []), f :: F, μ0) := by
  unfold m_24 at h
  have hl := y_le_r μ0
  refine w_s (np := 1) (lv' := [some (eR a0), some (eI (zI a1))]) (st' := [eR a0]) rfl (s_an rfl p0) rfl ?_
  refine w_s (np := 2) (lv' := [some (eR a0), some (eI (zI a1))]) (st' := [eI (zI a1), eR a0]) rfl rfl rfl ?_
  refine w_s (np := 3) (lv' := [some (eR a0), some (eI (zI a1))]) (st' := [eI (zI 1), eI (zI a1), eR a0]) rfl rfl rfl ?_
  refine w_cv (np := 6) (as := [eI (zI a1), eI (zI 1)]) (lv' := [some (eR a0), some (eI (zI a1)), some (eI (zI 1))]) (rest := []) rfl rfl rfl (Nat.ble_eq.mp rfl) rfl rfl rfl (hl _ _ hk) rfl ?_
  refine m_23_ok hG h hR (hl _ _ hk) p0 ?_
  intro v6 M1 μ2 h hR3 hl5
  have hl4 := y_le.tr hl hl5
  show ex_fine fg rc rs (d + 1, (24, 6, [some (eR a0), some (eI (zI a1))], [eI (zI v6)]), f :: F, μ2)
  refine w_s (np := 7) (lv' := [some (eR a0), some (eI (zI a1))]) (st' := [eR a0, eI (zI v6)]) rfl (s_an rfl p0) rfl ?_
  refine w_s (np := 8) (lv' := [some (eR a0), some (eI (zI a1))]) (st' := [eI (zI a1), eR a0, eI (zI v6)]) rfl rfl rfl ?_
  refine w_s (np := 9) (lv' := [some (eR a0), some (eI (zI a1))]) (st' := [eI (zI 0), eI (zI a1), eR a0, eI (zI v6)]) rfl rfl rfl ?_
  refine w_cv (np := 12) (as := [eI (zI a1), eI (zI 0)]) (lv' := [some (eR a0), some (eI (zI a1)), some (eI (zI 0))]) (rest := [eI (zI v6)]) rfl rfl rfl (Nat.ble_eq.mp rfl) rfl rfl rfl (hl4 _ _ hk) rfl ?_
  refine m_23_ok hG h hR3 (hl4 _ _ hk) p0 ?_
  intro v12 M7 μ8 h hR9 hl11
  have hl10 := y_le.tr hl4 hl11
  show ex_fine fg rc rs (d + 1, (24, 12, [some (eR a0), some (eI (zI a1))], [eI (zI v12), eI (zI v6)]), f :: F, μ8)
  obtain ⟨v13, ev13, h⟩ := z_l_ex h
  refine w_s (np := 13) (lv' := [some (eR a0), some (eI (zI a1))]) (st' := [eI (zI v13)]) rfl (s_isub ev13) rfl ?_
  clear ev13
  refine w_s (np := 15) (lv' := [some (eR a0), some (eI (zI a1))]) (st' := [eI (zI 10), eI (zI v13)]) rfl rfl rfl ?_
  refine w_cs (np := 18) (as := [eI (zI v13), eI (zI 10)]) (lv' := [some (eI (zI v13)), some (eI (zI 10)), none]) (rest := []) rfl rfl rfl (Nat.ble_eq.mp rfl) rfl rfl rfl rfl ?_
  refine m_361_ok hG h hR9 ?_
  intro v19 M14 μ15 h hR16 hl18
  have hl17 := y_le.tr hl10 hl18
  show ex_fine fg rc rs (d + 1, (24, 18, [some (eR a0), some (eI (zI a1))], [eI (zI v19)]), f :: F, μ15)
  refine w_s (np := 19) (lv' := [some (eR a0), some (eI (zI a1))]) (st' := [eI (zI 5), eI (zI v19)]) rfl rfl rfl ?_
  rcases z_if_t h with ⟨g20, h⟩ | ⟨g20, h⟩
  · refine v_ge_f (t1 := 26) rfl rfl g20 ?_
    refine w_s (np := 23) (lv' := [some (eR a0), some (eI (zI a1))]) (st' := [eI (zI 1)]) rfl rfl rfl ?_
    refine w_go (t1 := 27) rfl rfl ?_
    exact m_24_27_ok hG hk p0 hK _ M14 μ15 h hR16 hl17
  · refine v_ge_t (t1 := 26) rfl rfl g20 ?_
    refine w_s (np := 27) (lv' := [some (eR a0), some (eI (zI a1))]) (st' := [eI (zI 4294967295)]) rfl rfl rfl ?_
    exact m_24_27_ok hG hk p0 hK _ M14 μ15 h hR16 hl17
noncomputable def m_3_229 (a0 a1 a2 : Nat) (K : yM → Bool) (a3 a4 a5 a6 a7 : Nat) (M : yM) : Bool := K M
theorem m_3_229_ok {fg : eG} {rc rs d : Nat} {f : eFr} {F : List eFr} {μ0 : eM} {a0 a1 a2 : Nat} {K : yM → Bool} (hG : yG fg y_T) (hk : ev_kd μ0 a0 = some 0) (p0 : 0 < a0) (hK : ∀ (M : yM) (μ : eM), K M = true → yR M μ → y_le μ0 μ → ex_fine fg rc rs (d + 3, (f.1, f.2.1, f.2.2.1, f.2.2.2), F, μ)) : ∀ (a3 a4 a5 a6 a7 : Nat) (M : yM) (μ : eM), m_3_229 a0 a1 a2 K a3 a4 a5 a6 a7 M = true → yR M μ → y_le μ0 μ → ex_fine fg rc rs (d + 2, (3, 229, [some (eR a0), some (eI (zI a1)), some (eI (zI a2)), some (eI (zI a3)), some (eI (zI a4)), some (eI (zI a5)), some (eI (zI a6)), some (eI (zI a7))], []), f :: F, μ) := by
  intro a3 a4 a5 a6 a7 M μ h hR hl
  unfold m_3_229 at h
  exact v_rv rfl rfl (hK _ _ h hR hl)
noncomputable def m_3_222 (a0 a1 a2 : Nat) (K : yM → Bool) (a3 a4 a5 a6 a7 s0 s1 s2 : Nat) (M : yM) : Bool := z_l (z_add a7 2) fun v1 => y_is M s2 0 (m_4 s2 s1 s0 v1 M fun M2 => m_3_229 a0 a1 a2 K a3 a4 a5 a6 a7 M2)
theorem m_3_222_ok {fg : eG} {rc rs d : Nat} {f : eFr} {F : List eFr} {μ0 : eM} {a0 a1 a2 : Nat} {K : yM → Bool} (hG : yG fg y_T) (hk : ev_kd μ0 a0 = some 0) (p0 : 0 < a0) (hK : ∀ (M : yM) (μ : eM), K M = true → yR M μ → y_le μ0 μ → ex_fine fg rc rs (d + 3, (f.1, f.2.1, f.2.2.1, f.2.2.2), F, μ)) : ∀ (a3 a4 a5 a6 a7 s0 s1 s2 : Nat) (M : yM) (μ : eM), m_3_222 a0 a1 a2 K a3 a4 a5 a6 a7 s0 s1 s2 M = true → yR M μ → y_le μ0 μ → 0 < s2 → ex_fine fg rc rs (d + 2, (3, 222, [some (eR a0), some (eI (zI a1)), some (eI (zI a2)), some (eI (zI a3)), some (eI (zI a4)), some (eI (zI a5)), some (eI (zI a6)), some (eI (zI a7))], [eI (zI s0), eI (zI s1), eR s2]), f :: F, μ) := by
  intro a3 a4 a5 a6 a7 s0 s1 s2 M μ h hR hl q2
  unfold m_3_222 at h
  refine w_s (np := 224) (lv' := [some (eR a0), some (eI (zI a1)), some (eI (zI a2)), some (eI (zI a3)), some (eI (zI a4)), some (eI (zI a5)), some (eI (zI a6)), some (eI (zI a7))]) (st' := [eI (zI a7), eI (zI s0), eI (zI s1), eR s2]) rfl rfl rfl ?_
  refine w_s (np := 225) (lv' := [some (eR a0), some (eI (zI a1)), some (eI (zI a2)), some (eI (zI a3)), some (eI (zI a4)), some (eI (zI a5)), some (eI (zI a6)), some (eI (zI a7))]) (st' := [eI (zI 2), eI (zI a7), eI (zI s0), eI (zI s1), eR s2]) rfl rfl rfl ?_
  obtain ⟨v1, ev1, h⟩ := z_l_ex h
  refine w_s (np := 226) (lv' := [some (eR a0), some (eI (zI a1)), some (eI (zI a2)), some (eI (zI a3)), some (eI (zI a4)), some (eI (zI a5)), some (eI (zI a6)), some (eI (zI a7))]) (st' := [eI (zI v1), eI (zI s0), eI (zI s1), eR s2]) rfl (s_iadd ev1) rfl ?_
  clear ev1
  obtain ⟨k7, h⟩ := y_is_ok h hR
  refine w_cv (np := 229) (as := [eI (zI s1), eI (zI s0), eI (zI v1)]) (lv' := [some (eR s2), some (eI (zI s1)), some (eI (zI s0)), some (eI (zI v1))]) (rest := []) rfl rfl rfl (Nat.ble_eq.mp rfl) rfl rfl rfl k7 rfl ?_
  refine m_4_ok hG h hR k7 q2 ?_
  intro M2 μ3 h hR4 hl6
  have hl5 := y_le.tr hl hl6
  show ex_fine fg rc rs (d + 2, (3, 229, [some (eR a0), some (eI (zI a1)), some (eI (zI a2)), some (eI (zI a3)), some (eI (zI a4)), some (eI (zI a5)), some (eI (zI a6)), some (eI (zI a7))], []), f :: F, μ3)
  exact m_3_229_ok hG hk p0 hK _ _ _ _ _ M2 μ3 h hR4 hl5
noncomputable def m_3_191 (a0 a1 a2 : Nat) (K : yM → Bool) (a3 a4 a5 a6 a7 s0 s1 s2 : Nat) (M : yM) : Bool := z_l (z_add a7 1) fun v1 => y_is M s2 0 (m_4 s2 s1 s0 v1 M fun M2 => y_gf M2 a0 0 5 fun v8 => f_if false (Nat.ble 1 v8) (y_is M2 v8 2 (m_21 v8 a1 2 M2 fun v18 M13 => z_if (z_e0 a6) (m_3_222 a0 a1 a2 K a3 a4 a5 a6 a7 a4 v18 a0 M13) (z_l (z_add a5 5) fun v21 => m_3_222 a0 a1 a2 K a3 a4 a5 a6 a7 v21 v18 a0 M13))))
theorem m_3_191_ok {fg : eG} {rc rs d : Nat} {f : eFr} {F : List eFr} {μ0 : eM} {a0 a1 a2 : Nat} {K : yM → Bool} (hG : yG fg y_T) (hk : ev_kd μ0 a0 = some 0) (p0 : 0 < a0) (hK : ∀ (M : yM) (μ : eM), K M = true → yR M μ → y_le μ0 μ → ex_fine fg rc rs (d + 3, (f.1, f.2.1, f.2.2.1, f.2.2.2), F, μ)) : ∀ (a3 a4 a5 a6 a7 s0 s1 s2 : Nat) (M : yM) (μ : eM), m_3_191 a0 a1 a2 K a3 a4 a5 a6 a7 s0 s1 s2 M = true → yR M μ → y_le μ0 μ → 0 < s2 → ex_fine fg rc rs (d + 2, (3, 191, [some (eR a0), some (eI (zI a1)), some (eI (zI a2)), some (eI (zI a3)), some (eI (zI a4)), some (eI (zI a5)), some (eI (zI a6)), some (eI (zI a7))], [eI (zI s0), eI (zI s1), eR s2]), f :: F, μ) := by
  intro a3 a4 a5 a6 a7 s0 s1 s2 M μ h hR hl q2
  unfold m_3_191 at h
  refine w_s (np := 193) (lv' := [some (eR a0), some (eI (zI a1)), some (eI (zI a2)), some (eI (zI a3)), some (eI (zI a4)), some (eI (zI a5)), some (eI (zI a6)), some (eI (zI a7))]) (st' := [eI (zI a7), eI (zI s0), eI (zI s1), eR s2]) rfl rfl rfl ?_
  refine w_s (np := 194) (lv' := [some (eR a0), some (eI (zI a1)), some (eI (zI a2)), some (eI (zI a3)), some (eI (zI a4)), some (eI (zI a5)), some (eI (zI a6)), some (eI (zI a7))]) (st' := [eI (zI 1), eI (zI a7), eI (zI s0), eI (zI s1), eR s2]) rfl rfl rfl ?_
  obtain ⟨v1, ev1, h⟩ := z_l_ex h
  refine w_s (np := 195) (lv' := [some (eR a0), some (eI (zI a1)), some (eI (zI a2)), some (eI (zI a3)), some (eI (zI a4)), some (eI (zI a5)), some (eI (zI a6)), some (eI (zI a7))]) (st' := [eI (zI v1), eI (zI s0), eI (zI s1), eR s2]) rfl (s_iadd ev1) rfl ?_
  clear ev1
  obtain ⟨k7, h⟩ := y_is_ok h hR
  refine w_cv (np := 198) (as := [eI (zI s1), eI (zI s0), eI (zI v1)]) (lv' := [some (eR s2), some (eI (zI s1)), some (eI (zI s0)), some (eI (zI v1))]) (rest := []) rfl rfl rfl (Nat.ble_eq.mp rfl) rfl rfl rfl k7 rfl ?_
  refine m_4_ok hG h hR k7 q2 ?_
  intro M2 μ3 h hR4 hl6
  have hl5 := y_le.tr hl hl6
  show ex_fine fg rc rs (d + 2, (3, 198, [some (eR a0), some (eI (zI a1)), some (eI (zI a2)), some (eI (zI a3)), some (eI (zI a4)), some (eI (zI a5)), some (eI (zI a6)), some (eI (zI a7))], []), f :: F, μ3)
  refine w_s (np := 199) (lv' := [some (eR a0), some (eI (zI a1)), some (eI (zI a2)), some (eI (zI a3)), some (eI (zI a4)), some (eI (zI a5)), some (eI (zI a6)), some (eI (zI a7))]) (st' := [eR a0]) rfl (s_an rfl p0) rfl ?_
  refine w_s (np := 200) (lv' := [some (eR a0), some (eI (zI a1)), some (eI (zI a2)), some (eI (zI a3)), some (eI (zI a4)), some (eI (zI a5)), some (eI (zI a6)), some (eI (zI a7))]) (st' := [eR a0, eR a0]) rfl (s_an rfl p0) rfl ?_
  obtain ⟨v8, h, k9, e10⟩ := y_gf_ok (ty := 3) h hR4 (by decide) rfl
  obtain ⟨g11, h⟩ := f_if_ok h
  have q12 : 0 < v8 := Nat.ble_eq.mp g11
  refine v_gf3 (np := 203) rfl rfl k9 e10 ?_
  clear k9 e10
  refine w_s (np := 204) (lv' := [some (eR a0), some (eI (zI a1)), some (eI (zI a2)), some (eI (zI a3)), some (eI (zI a4)), some (eI (zI a5)), some (eI (zI a6)), some (eI (zI a7))]) (st' := [eI (zI a1), eR v8, eR a0]) rfl rfl rfl ?_
  refine w_s (np := 205) (lv' := [some (eR a0), some (eI (zI a1)), some (eI (zI a2)), some (eI (zI a3)), some (eI (zI a4)), some (eI (zI a5)), some (eI (zI a6)), some (eI (zI a7))]) (st' := [eI (zI 2), eI (zI a1), eR v8, eR a0]) rfl rfl rfl ?_
  obtain ⟨k19, h⟩ := y_is_ok h hR4
  refine w_cv (np := 208) (as := [eI (zI a1), eI (zI 2)]) (lv' := [some (eR v8), some (eI (zI a1)), some (eI (zI 2))]) (rest := [eR a0]) rfl rfl rfl (Nat.ble_eq.mp rfl) rfl rfl rfl k19 rfl ?_
  refine m_21_ok hG h hR4 k19 q12 ?_
  intro v18 M13 μ14 h hR15 hl17
  have hl16 := y_le.tr hl5 hl17
  show ex_fine fg rc rs (d + 2, (3, 208, [some (eR a0), some (eI (zI a1)), some (eI (zI a2)), some (eI (zI a3)), some (eI (zI a4)), some (eI (zI a5)), some (eI (zI a6)), some (eI (zI a7))], [eI (zI v18), eR a0]), f :: F, μ14)
  refine w_s (np := 210) (lv' := [some (eR a0), some (eI (zI a1)), some (eI (zI a2)), some (eI (zI a3)), some (eI (zI a4)), some (eI (zI a5)), some (eI (zI a6)), some (eI (zI a7))]) (st' := [eI (zI a6), eI (zI v18), eR a0]) rfl rfl rfl ?_
  rcases z_if_t h with ⟨g20, h⟩ | ⟨g20, h⟩
  · refine v_eq0_t (t1 := 220) rfl rfl g20 ?_
    refine w_s (np := 222) (lv' := [some (eR a0), some (eI (zI a1)), some (eI (zI a2)), some (eI (zI a3)), some (eI (zI a4)), some (eI (zI a5)), some (eI (zI a6)), some (eI (zI a7))]) (st' := [eI (zI a4), eI (zI v18), eR a0]) rfl rfl rfl ?_
    exact m_3_222_ok hG hk p0 hK _ _ _ _ _ _ _ _ M13 μ14 h hR15 hl16 p0
  · refine v_eq0_f (t1 := 220) rfl rfl g20 ?_
    refine w_s (np := 215) (lv' := [some (eR a0), some (eI (zI a1)), some (eI (zI a2)), some (eI (zI a3)), some (eI (zI a4)), some (eI (zI a5)), some (eI (zI a6)), some (eI (zI a7))]) (st' := [eI (zI a5), eI (zI v18), eR a0]) rfl rfl rfl ?_
    refine w_s (np := 216) (lv' := [some (eR a0), some (eI (zI a1)), some (eI (zI a2)), some (eI (zI a3)), some (eI (zI a4)), some (eI (zI a5)), some (eI (zI a6)), some (eI (zI a7))]) (st' := [eI (zI 5), eI (zI a5), eI (zI v18), eR a0]) rfl rfl rfl ?_
    obtain ⟨v21, ev21, h⟩ := z_l_ex h
    refine w_s (np := 217) (lv' := [some (eR a0), some (eI (zI a1)), some (eI (zI a2)), some (eI (zI a3)), some (eI (zI a4)), some (eI (zI a5)), some (eI (zI a6)), some (eI (zI a7))]) (st' := [eI (zI v21), eI (zI v18), eR a0]) rfl (s_iadd ev21) rfl ?_
    clear ev21
    refine w_go (t1 := 222) rfl rfl ?_
    exact m_3_222_ok hG hk p0 hK _ _ _ _ _ _ _ _ M13 μ14 h hR15 hl16 p0
noncomputable def m_3_157 (a0 a1 a2 : Nat) (K : yM → Bool) (a3 a4 a5 a6 a7 s0 s1 s2 : Nat) (M : yM) : Bool := y_is M s2 0 (m_4 s2 s1 s0 a7 M fun M1 => z_if (z_lt a1 a2) (y_gf M1 a0 0 5 fun v8 => f_if false (Nat.ble 1 v8) (y_is M1 v8 2 (m_21 v8 a1 1 M1 fun v18 M13 => z_if (z_e0 a6) (z_l (z_add a4 5) fun v21 => m_3_191 a0 a1 a2 K a3 a4 a5 a6 a7 v21 v18 a0 M13) (m_3_191 a0 a1 a2 K a3 a4 a5 a6 a7 a5 v18 a0 M13)))) (m_3_229 a0 a1 a2 K a3 a4 a5 a6 a7 M1))
theorem m_3_157_ok {fg : eG} {rc rs d : Nat} {f : eFr} {F : List eFr} {μ0 : eM} {a0 a1 a2 : Nat} {K : yM → Bool} (hG : yG fg y_T) (hk : ev_kd μ0 a0 = some 0) (p0 : 0 < a0) (hK : ∀ (M : yM) (μ : eM), K M = true → yR M μ → y_le μ0 μ → ex_fine fg rc rs (d + 3, (f.1, f.2.1, f.2.2.1, f.2.2.2), F, μ)) : ∀ (a3 a4 a5 a6 a7 s0 s1 s2 : Nat) (M : yM) (μ : eM), m_3_157 a0 a1 a2 K a3 a4 a5 a6 a7 s0 s1 s2 M = true → yR M μ → y_le μ0 μ → 0 < s2 → ex_fine fg rc rs (d + 2, (3, 157, [some (eR a0), some (eI (zI a1)), some (eI (zI a2)), some (eI (zI a3)), some (eI (zI a4)), some (eI (zI a5)), some (eI (zI a6)), some (eI (zI a7))], [eI (zI s0), eI (zI s1), eR s2]), f :: F, μ) := by
  intro a3 a4 a5 a6 a7 s0 s1 s2 M μ h hR hl q2
  unfold m_3_157 at h
  refine w_s (np := 159) (lv' := [some (eR a0), some (eI (zI a1)), some (eI (zI a2)), some (eI (zI a3)), some (eI (zI a4)), some (eI (zI a5)), some (eI (zI a6)), some (eI (zI a7))]) (st' := [eI (zI a7), eI (zI s0), eI (zI s1), eR s2]) rfl rfl rfl ?_
  obtain ⟨k6, h⟩ := y_is_ok h hR
  refine w_cv (np := 162) (as := [eI (zI s1), eI (zI s0), eI (zI a7)]) (lv' := [some (eR s2), some (eI (zI s1)), some (eI (zI s0)), some (eI (zI a7))]) (rest := []) rfl rfl rfl (Nat.ble_eq.mp rfl) rfl rfl rfl k6 rfl ?_
  refine m_4_ok hG h hR k6 q2 ?_
  intro M1 μ2 h hR3 hl5
  have hl4 := y_le.tr hl hl5
  show ex_fine fg rc rs (d + 2, (3, 162, [some (eR a0), some (eI (zI a1)), some (eI (zI a2)), some (eI (zI a3)), some (eI (zI a4)), some (eI (zI a5)), some (eI (zI a6)), some (eI (zI a7))], []), f :: F, μ2)
  refine w_s (np := 163) (lv' := [some (eR a0), some (eI (zI a1)), some (eI (zI a2)), some (eI (zI a3)), some (eI (zI a4)), some (eI (zI a5)), some (eI (zI a6)), some (eI (zI a7))]) (st' := [eI (zI a1)]) rfl rfl rfl ?_
  refine w_s (np := 164) (lv' := [some (eR a0), some (eI (zI a1)), some (eI (zI a2)), some (eI (zI a3)), some (eI (zI a4)), some (eI (zI a5)), some (eI (zI a6)), some (eI (zI a7))]) (st' := [eI (zI a2), eI (zI a1)]) rfl rfl rfl ?_
  rcases z_if_t h with ⟨g7, h⟩ | ⟨g7, h⟩
  · refine v_ge_f (t1 := 229) rfl rfl g7 ?_
    refine w_s (np := 168) (lv' := [some (eR a0), some (eI (zI a1)), some (eI (zI a2)), some (eI (zI a3)), some (eI (zI a4)), some (eI (zI a5)), some (eI (zI a6)), some (eI (zI a7))]) (st' := [eR a0]) rfl (s_an rfl p0) rfl ?_
    refine w_s (np := 169) (lv' := [some (eR a0), some (eI (zI a1)), some (eI (zI a2)), some (eI (zI a3)), some (eI (zI a4)), some (eI (zI a5)), some (eI (zI a6)), some (eI (zI a7))]) (st' := [eR a0, eR a0]) rfl (s_an rfl p0) rfl ?_
    obtain ⟨v8, h, k9, e10⟩ := y_gf_ok (ty := 3) h hR3 (by decide) rfl
    obtain ⟨g11, h⟩ := f_if_ok h
    have q12 : 0 < v8 := Nat.ble_eq.mp g11
    refine v_gf3 (np := 172) rfl rfl k9 e10 ?_
    clear k9 e10
    refine w_s (np := 173) (lv' := [some (eR a0), some (eI (zI a1)), some (eI (zI a2)), some (eI (zI a3)), some (eI (zI a4)), some (eI (zI a5)), some (eI (zI a6)), some (eI (zI a7))]) (st' := [eI (zI a1), eR v8, eR a0]) rfl rfl rfl ?_
    refine w_s (np := 174) (lv' := [some (eR a0), some (eI (zI a1)), some (eI (zI a2)), some (eI (zI a3)), some (eI (zI a4)), some (eI (zI a5)), some (eI (zI a6)), some (eI (zI a7))]) (st' := [eI (zI 1), eI (zI a1), eR v8, eR a0]) rfl rfl rfl ?_
    obtain ⟨k19, h⟩ := y_is_ok h hR3
    refine w_cv (np := 177) (as := [eI (zI a1), eI (zI 1)]) (lv' := [some (eR v8), some (eI (zI a1)), some (eI (zI 1))]) (rest := [eR a0]) rfl rfl rfl (Nat.ble_eq.mp rfl) rfl rfl rfl k19 rfl ?_
    refine m_21_ok hG h hR3 k19 q12 ?_
    intro v18 M13 μ14 h hR15 hl17
    have hl16 := y_le.tr hl4 hl17
    show ex_fine fg rc rs (d + 2, (3, 177, [some (eR a0), some (eI (zI a1)), some (eI (zI a2)), some (eI (zI a3)), some (eI (zI a4)), some (eI (zI a5)), some (eI (zI a6)), some (eI (zI a7))], [eI (zI v18), eR a0]), f :: F, μ14)
    refine w_s (np := 179) (lv' := [some (eR a0), some (eI (zI a1)), some (eI (zI a2)), some (eI (zI a3)), some (eI (zI a4)), some (eI (zI a5)), some (eI (zI a6)), some (eI (zI a7))]) (st' := [eI (zI a6), eI (zI v18), eR a0]) rfl rfl rfl ?_
    rcases z_if_t h with ⟨g20, h⟩ | ⟨g20, h⟩
    · refine v_eq0_t (t1 := 187) rfl rfl g20 ?_
      refine w_s (np := 189) (lv' := [some (eR a0), some (eI (zI a1)), some (eI (zI a2)), some (eI (zI a3)), some (eI (zI a4)), some (eI (zI a5)), some (eI (zI a6)), some (eI (zI a7))]) (st' := [eI (zI a4), eI (zI v18), eR a0]) rfl rfl rfl ?_
      refine w_s (np := 190) (lv' := [some (eR a0), some (eI (zI a1)), some (eI (zI a2)), some (eI (zI a3)), some (eI (zI a4)), some (eI (zI a5)), some (eI (zI a6)), some (eI (zI a7))]) (st' := [eI (zI 5), eI (zI a4), eI (zI v18), eR a0]) rfl rfl rfl ?_
      obtain ⟨v21, ev21, h⟩ := z_l_ex h
      refine w_s (np := 191) (lv' := [some (eR a0), some (eI (zI a1)), some (eI (zI a2)), some (eI (zI a3)), some (eI (zI a4)), some (eI (zI a5)), some (eI (zI a6)), some (eI (zI a7))]) (st' := [eI (zI v21), eI (zI v18), eR a0]) rfl (s_iadd ev21) rfl ?_
      clear ev21
      exact m_3_191_ok hG hk p0 hK _ _ _ _ _ _ _ _ M13 μ14 h hR15 hl16 p0
    · refine v_eq0_f (t1 := 187) rfl rfl g20 ?_
      refine w_s (np := 184) (lv' := [some (eR a0), some (eI (zI a1)), some (eI (zI a2)), some (eI (zI a3)), some (eI (zI a4)), some (eI (zI a5)), some (eI (zI a6)), some (eI (zI a7))]) (st' := [eI (zI a5), eI (zI v18), eR a0]) rfl rfl rfl ?_
      refine w_go (t1 := 191) rfl rfl ?_
      exact m_3_191_ok hG hk p0 hK _ _ _ _ _ _ _ _ M13 μ14 h hR15 hl16 p0
  · refine v_ge_t (t1 := 229) rfl rfl g7 ?_
    exact m_3_229_ok hG hk p0 hK _ _ _ _ _ M1 μ2 h hR3 hl4
noncomputable def m_3_126 (a0 a1 a2 : Nat) (K : yM → Bool) (a3 a4 a5 s0 : Nat) (M : yM) : Bool := z_l (z_mul 3 a3) fun v1 => z_l (z_add 1 v1) fun v2 => y_gf M a0 0 5 fun v3 => f_if false (Nat.ble 1 v3) (y_is M v3 2 (m_21 v3 a1 0 M fun v13 M8 => z_if (z_e0 s0) (m_3_157 a0 a1 a2 K a3 a4 a5 s0 v2 a5 v13 a0 M8) (m_3_157 a0 a1 a2 K a3 a4 a5 s0 v2 a4 v13 a0 M8)))
theorem m_3_126_ok {fg : eG} {rc rs d : Nat} {f : eFr} {F : List eFr} {μ0 : eM} {a0 a1 a2 : Nat} {K : yM → Bool} (hG : yG fg y_T) (hk : ev_kd μ0 a0 = some 0) (p0 : 0 < a0) (hK : ∀ (M : yM) (μ : eM), K M = true → yR M μ → y_le μ0 μ → ex_fine fg rc rs (d + 3, (f.1, f.2.1, f.2.2.1, f.2.2.2), F, μ)) : ∀ (a3 a4 a5 s0 : Nat) (M : yM) (μ : eM), m_3_126 a0 a1 a2 K a3 a4 a5 s0 M = true → yR M μ → y_le μ0 μ → ex_fine fg rc rs (d + 2, (3, 126, [some (eR a0), some (eI (zI a1)), some (eI (zI a2)), some (eI (zI a3)), some (eI (zI a4)), some (eI (zI a5)), none, none], [eI (zI s0)]), f :: F, μ) := by
  intro a3 a4 a5 s0 M μ h hR hl
  unfold m_3_126 at h
  refine w_s (np := 128) (lv' := [some (eR a0), some (eI (zI a1)), some (eI (zI a2)), some (eI (zI a3)), some (eI (zI a4)), some (eI (zI a5)), some (eI (zI s0)), none]) (st' := []) rfl rfl rfl ?_
  refine w_s (np := 129) (lv' := [some (eR a0), some (eI (zI a1)), some (eI (zI a2)), some (eI (zI a3)), some (eI (zI a4)), some (eI (zI a5)), some (eI (zI s0)), none]) (st' := [eI (zI 1)]) rfl rfl rfl ?_
  refine w_s (np := 130) (lv' := [some (eR a0), some (eI (zI a1)), some (eI (zI a2)), some (eI (zI a3)), some (eI (zI a4)), some (eI (zI a5)), some (eI (zI s0)), none]) (st' := [eI (zI 3), eI (zI 1)]) rfl rfl rfl ?_
  refine w_s (np := 131) (lv' := [some (eR a0), some (eI (zI a1)), some (eI (zI a2)), some (eI (zI a3)), some (eI (zI a4)), some (eI (zI a5)), some (eI (zI s0)), none]) (st' := [eI (zI a3), eI (zI 3), eI (zI 1)]) rfl rfl rfl ?_
  obtain ⟨v1, ev1, h⟩ := z_l_ex h
  refine w_s (np := 132) (lv' := [some (eR a0), some (eI (zI a1)), some (eI (zI a2)), some (eI (zI a3)), some (eI (zI a4)), some (eI (zI a5)), some (eI (zI s0)), none]) (st' := [eI (zI v1), eI (zI 1)]) rfl (s_imul ev1) rfl ?_
  clear ev1
  obtain ⟨v2, ev2, h⟩ := z_l_ex h
  refine w_s (np := 133) (lv' := [some (eR a0), some (eI (zI a1)), some (eI (zI a2)), some (eI (zI a3)), some (eI (zI a4)), some (eI (zI a5)), some (eI (zI s0)), none]) (st' := [eI (zI v2)]) rfl (s_iadd ev2) rfl ?_
  clear ev2
  refine w_s (np := 135) (lv' := [some (eR a0), some (eI (zI a1)), some (eI (zI a2)), some (eI (zI a3)), some (eI (zI a4)), some (eI (zI a5)), some (eI (zI s0)), some (eI (zI v2))]) (st' := []) rfl rfl rfl ?_
  refine w_s (np := 136) (lv' := [some (eR a0), some (eI (zI a1)), some (eI (zI a2)), some (eI (zI a3)), some (eI (zI a4)), some (eI (zI a5)), some (eI (zI s0)), some (eI (zI v2))]) (st' := [eR a0]) rfl (s_an rfl p0) rfl ?_
  refine w_s (np := 137) (lv' := [some (eR a0), some (eI (zI a1)), some (eI (zI a2)), some (eI (zI a3)), some (eI (zI a4)), some (eI (zI a5)), some (eI (zI s0)), some (eI (zI v2))]) (st' := [eR a0, eR a0]) rfl (s_an rfl p0) rfl ?_
  obtain ⟨v3, h, k4, e5⟩ := y_gf_ok (ty := 3) h hR (by decide) rfl
  obtain ⟨g6, h⟩ := f_if_ok h
  have q7 : 0 < v3 := Nat.ble_eq.mp g6
  refine v_gf3 (np := 140) rfl rfl k4 e5 ?_
  clear k4 e5
  refine w_s (np := 141) (lv' := [some (eR a0), some (eI (zI a1)), some (eI (zI a2)), some (eI (zI a3)), some (eI (zI a4)), some (eI (zI a5)), some (eI (zI s0)), some (eI (zI v2))]) (st' := [eI (zI a1), eR v3, eR a0]) rfl rfl rfl ?_
  refine w_s (np := 142) (lv' := [some (eR a0), some (eI (zI a1)), some (eI (zI a2)), some (eI (zI a3)), some (eI (zI a4)), some (eI (zI a5)), some (eI (zI s0)), some (eI (zI v2))]) (st' := [eI (zI 0), eI (zI a1), eR v3, eR a0]) rfl rfl rfl ?_
  obtain ⟨k14, h⟩ := y_is_ok h hR
  refine w_cv (np := 145) (as := [eI (zI a1), eI (zI 0)]) (lv' := [some (eR v3), some (eI (zI a1)), some (eI (zI 0))]) (rest := [eR a0]) rfl rfl rfl (Nat.ble_eq.mp rfl) rfl rfl rfl k14 rfl ?_
  refine m_21_ok hG h hR k14 q7 ?_
  intro v13 M8 μ9 h hR10 hl12
  have hl11 := y_le.tr hl hl12
  show ex_fine fg rc rs (d + 2, (3, 145, [some (eR a0), some (eI (zI a1)), some (eI (zI a2)), some (eI (zI a3)), some (eI (zI a4)), some (eI (zI a5)), some (eI (zI s0)), some (eI (zI v2))], [eI (zI v13), eR a0]), f :: F, μ9)
  refine w_s (np := 147) (lv' := [some (eR a0), some (eI (zI a1)), some (eI (zI a2)), some (eI (zI a3)), some (eI (zI a4)), some (eI (zI a5)), some (eI (zI s0)), some (eI (zI v2))]) (st' := [eI (zI s0), eI (zI v13), eR a0]) rfl rfl rfl ?_
  rcases z_if_t h with ⟨g15, h⟩ | ⟨g15, h⟩
  · refine v_eq0_t (t1 := 155) rfl rfl g15 ?_
    refine w_s (np := 157) (lv' := [some (eR a0), some (eI (zI a1)), some (eI (zI a2)), some (eI (zI a3)), some (eI (zI a4)), some (eI (zI a5)), some (eI (zI s0)), some (eI (zI v2))]) (st' := [eI (zI a5), eI (zI v13), eR a0]) rfl rfl rfl ?_
    exact m_3_157_ok hG hk p0 hK _ _ _ _ _ _ _ _ M8 μ9 h hR10 hl11 p0
  · refine v_eq0_f (t1 := 155) rfl rfl g15 ?_
    refine w_s (np := 152) (lv' := [some (eR a0), some (eI (zI a1)), some (eI (zI a2)), some (eI (zI a3)), some (eI (zI a4)), some (eI (zI a5)), some (eI (zI s0)), some (eI (zI v2))]) (st' := [eI (zI a4), eI (zI v13), eR a0]) rfl rfl rfl ?_
    refine w_go (t1 := 157) rfl rfl ?_
    exact m_3_157_ok hG hk p0 hK _ _ _ _ _ _ _ _ M8 μ9 h hR10 hl11 p0
noncomputable def m_3_81 (a0 a1 a2 : Nat) (K : yM → Bool) (i12 : Nat → Nat → yM → Bool) (a3 a4 a5 s0 s1 s2 : Nat) (M : yM) : Bool := f_if false (Nat.ble s0 1) (y_sa 103 M s2 s1 s0 fun M1 => z_l (z_add a4 1) fun v7 => z_f v7 fun w8 => i12 a3 w8 M1)
theorem m_3_81_ok {fg : eG} {rc rs d : Nat} {f : eFr} {F : List eFr} {μ0 : eM} {a0 a1 a2 : Nat} {K : yM → Bool} {i12 : Nat → Nat → yM → Bool} (hG : yG fg y_T) (hk : ev_kd μ0 a0 = some 0) (p0 : 0 < a0) (hK : ∀ (M : yM) (μ : eM), K M = true → yR M μ → y_le μ0 μ → ex_fine fg rc rs (d + 3, (f.1, f.2.1, f.2.2.1, f.2.2.2), F, μ)) (h12 : ∀ (a3 a4 : Nat) (x5 : Option eV) (M : yM) (μ : eM), i12 a3 a4 M = true → yR M μ → y_le μ0 μ → ex_fine fg rc rs (d + 2, (3, 12, [some (eR a0), some (eI (zI a1)), some (eI (zI a2)), some (eI (zI a3)), some (eI (zI a4)), x5, none, none], []), f :: F, μ)) : ∀ (a3 a4 a5 s0 s1 s2 : Nat) (M : yM) (μ : eM), m_3_81 a0 a1 a2 K i12 a3 a4 a5 s0 s1 s2 M = true → yR M μ → y_le μ0 μ → 0 < s2 → ex_fine fg rc rs (d + 2, (3, 81, [some (eR a0), some (eI (zI a1)), some (eI (zI a2)), some (eI (zI a3)), some (eI (zI a4)), some (eI (zI a5)), none, none], [eI (zI s0), eI (zI s1), eR s2]), f :: F, μ) := by
  intro a3 a4 a5 s0 s1 s2 M μ h hR hl q2
  unfold m_3_81 at h
  obtain ⟨g6, h⟩ := f_if_ok h
  obtain ⟨M1, μ2, h, k5, hR3, hl4⟩ := y_sa_ex (ty := 0) h hR hl rfl (by decide)
  refine v_sb3 (np := 82) rfl rfl g6 k5 ?_
  clear k5
  obtain ⟨v7, ev7, h⟩ := z_l_ex h
  refine w_s (np := 85) (lv' := [some (eR a0), some (eI (zI a1)), some (eI (zI a2)), some (eI (zI a3)), some (eI (zI v7)), some (eI (zI a5)), none, none]) (st' := []) rfl (s_iinc (b := 1) rfl rfl ev7 rfl) rfl ?_
  clear ev7
  refine w_go (t1 := 12) rfl rfl ?_
  obtain ⟨w8, ew8, h⟩ := z_f_ex h
  subst ew8
  exact h12 _ _ _ M1 μ2 h hR3 hl4
noncomputable def m_3_76 (a0 a1 a2 : Nat) (K : yM → Bool) (i12 : Nat → Nat → yM → Bool) (a3 a4 a5 s0 s1 : Nat) (M : yM) : Bool := m_3_81 a0 a1 a2 K i12 a3 a4 a5 1 s0 s1 M
theorem m_3_76_ok {fg : eG} {rc rs d : Nat} {f : eFr} {F : List eFr} {μ0 : eM} {a0 a1 a2 : Nat} {K : yM → Bool} {i12 : Nat → Nat → yM → Bool} (hG : yG fg y_T) (hk : ev_kd μ0 a0 = some 0) (p0 : 0 < a0) (hK : ∀ (M : yM) (μ : eM), K M = true → yR M μ → y_le μ0 μ → ex_fine fg rc rs (d + 3, (f.1, f.2.1, f.2.2.1, f.2.2.2), F, μ)) (h12 : ∀ (a3 a4 : Nat) (x5 : Option eV) (M : yM) (μ : eM), i12 a3 a4 M = true → yR M μ → y_le μ0 μ → ex_fine fg rc rs (d + 2, (3, 12, [some (eR a0), some (eI (zI a1)), some (eI (zI a2)), some (eI (zI a3)), some (eI (zI a4)), x5, none, none], []), f :: F, μ)) : ∀ (a3 a4 a5 s0 s1 : Nat) (M : yM) (μ : eM), m_3_76 a0 a1 a2 K i12 a3 a4 a5 s0 s1 M = true → yR M μ → y_le μ0 μ → 0 < s1 → ex_fine fg rc rs (d + 2, (3, 76, [some (eR a0), some (eI (zI a1)), some (eI (zI a2)), some (eI (zI a3)), some (eI (zI a4)), some (eI (zI a5)), none, none], [eI (zI s0), eR s1]), f :: F, μ) := by
  intro a3 a4 a5 s0 s1 M μ h hR hl q1
  unfold m_3_76 at h
  refine w_s (np := 77) (lv' := [some (eR a0), some (eI (zI a1)), some (eI (zI a2)), some (eI (zI a3)), some (eI (zI a4)), some (eI (zI a5)), none, none]) (st' := [eI (zI 1), eI (zI s0), eR s1]) rfl rfl rfl ?_
  refine w_go (t1 := 81) rfl rfl ?_
  exact m_3_81_ok hG hk p0 hK h12 _ _ _ _ _ _ M μ h hR hl q1
noncomputable def m_3_54 (a0 a1 a2 : Nat) (K : yM → Bool) (i12 : Nat → Nat → yM → Bool) (a3 a4 a5 s0 s1 s2 s3 : Nat) (M : yM) : Bool := z_l (z_add s1 s0) fun v1 => y_sa 100 M s3 s2 v1 fun M2 => y_gf M2 a0 0 2 fun v7 => f_if false (Nat.ble 1 v7) (y_gf M2 a0 0 2 fun v12 => f_if false (Nat.ble 1 v12) (y_lh 103 M2 v12 a5 fun v17 => z_if (z_e0 v17) (z_if (z_l0 a2) (m_3_76 a0 a1 a2 K i12 a3 a4 a5 a5 v7 M2) (m_3_81 a0 a1 a2 K i12 a3 a4 a5 0 a5 v7 M2)) (m_3_76 a0 a1 a2 K i12 a3 a4 a5 a5 v7 M2)))
theorem m_3_54_ok {fg : eG} {rc rs d : Nat} {f : eFr} {F : List eFr} {μ0 : eM} {a0 a1 a2 : Nat} {K : yM → Bool} {i12 : Nat → Nat → yM → Bool} (hG : yG fg y_T) (hk : ev_kd μ0 a0 = some 0) (p0 : 0 < a0) (hK : ∀ (M : yM) (μ : eM), K M = true → yR M μ → y_le μ0 μ → ex_fine fg rc rs (d + 3, (f.1, f.2.1, f.2.2.1, f.2.2.2), F, μ)) (h12 : ∀ (a3 a4 : Nat) (x5 : Option eV) (M : yM) (μ : eM), i12 a3 a4 M = true → yR M μ → y_le μ0 μ → ex_fine fg rc rs (d + 2, (3, 12, [some (eR a0), some (eI (zI a1)), some (eI (zI a2)), some (eI (zI a3)), some (eI (zI a4)), x5, none, none], []), f :: F, μ)) : ∀ (a3 a4 a5 s0 s1 s2 s3 : Nat) (M : yM) (μ : eM), m_3_54 a0 a1 a2 K i12 a3 a4 a5 s0 s1 s2 s3 M = true → yR M μ → y_le μ0 μ → 0 < s3 → ex_fine fg rc rs (d + 2, (3, 54, [some (eR a0), some (eI (zI a1)), some (eI (zI a2)), some (eI (zI a3)), some (eI (zI a4)), some (eI (zI a5)), none, none], [eI (zI s0), eI (zI s1), eI (zI s2), eR s3]), f :: F, μ) := by
  intro a3 a4 a5 s0 s1 s2 s3 M μ h hR hl q3
  unfold m_3_54 at h
  obtain ⟨v1, ev1, h⟩ := z_l_ex h
  refine w_s (np := 55) (lv' := [some (eR a0), some (eI (zI a1)), some (eI (zI a2)), some (eI (zI a3)), some (eI (zI a4)), some (eI (zI a5)), none, none]) (st' := [eI (zI v1), eI (zI s2), eR s3]) rfl (s_iadd ev1) rfl ?_
  clear ev1
  obtain ⟨M2, μ3, h, k6, hR4, hl5⟩ := y_sa_ex (ty := 0) h hR hl rfl (by decide)
  refine v_sa (np := 56) rfl rfl k6 ?_
  clear k6
  refine w_s (np := 57) (lv' := [some (eR a0), some (eI (zI a1)), some (eI (zI a2)), some (eI (zI a3)), some (eI (zI a4)), some (eI (zI a5)), none, none]) (st' := [eR a0]) rfl (s_an rfl p0) rfl ?_
  obtain ⟨v7, h, k8, e9⟩ := y_gf_ok (ty := 3) h hR4 (by decide) rfl
  obtain ⟨g10, h⟩ := f_if_ok h
  have q11 : 0 < v7 := Nat.ble_eq.mp g10
  refine v_gf3 (np := 60) rfl rfl k8 e9 ?_
  clear k8 e9
  refine w_s (np := 62) (lv' := [some (eR a0), some (eI (zI a1)), some (eI (zI a2)), some (eI (zI a3)), some (eI (zI a4)), some (eI (zI a5)), none, none]) (st' := [eI (zI a5), eR v7]) rfl rfl rfl ?_
  refine w_s (np := 63) (lv' := [some (eR a0), some (eI (zI a1)), some (eI (zI a2)), some (eI (zI a3)), some (eI (zI a4)), some (eI (zI a5)), none, none]) (st' := [eR a0, eI (zI a5), eR v7]) rfl (s_an rfl p0) rfl ?_
  obtain ⟨v12, h, k13, e14⟩ := y_gf_ok (ty := 3) h hR4 (by decide) rfl
  obtain ⟨g15, h⟩ := f_if_ok h
  have q16 : 0 < v12 := Nat.ble_eq.mp g15
  refine v_gf3 (np := 66) rfl rfl k13 e14 ?_
  clear k13 e14
  refine w_s (np := 68) (lv' := [some (eR a0), some (eI (zI a1)), some (eI (zI a2)), some (eI (zI a3)), some (eI (zI a4)), some (eI (zI a5)), none, none]) (st' := [eI (zI a5), eR v12, eI (zI a5), eR v7]) rfl rfl rfl ?_
  obtain ⟨v17, h, k18⟩ := y_lh_ok (ty := 0) h hR4 hG (by decide) rfl (by decide)
  refine v_bl3 (np := 69) rfl rfl k18 ?_
  clear k18
  rcases z_if_t h with ⟨g19, h⟩ | ⟨g19, h⟩
  · refine v_ne0_f (t1 := 76) rfl rfl g19 ?_
    refine w_s (np := 73) (lv' := [some (eR a0), some (eI (zI a1)), some (eI (zI a2)), some (eI (zI a3)), some (eI (zI a4)), some (eI (zI a5)), none, none]) (st' := [eI (zI a2), eI (zI a5), eR v7]) rfl rfl rfl ?_
    rcases z_if_t h with ⟨g20, h⟩ | ⟨g20, h⟩
    · refine v_ge0_f (t1 := 80) rfl rfl g20 ?_
      exact m_3_76_ok hG hk p0 hK h12 _ _ _ _ _ M2 μ3 h hR4 hl5 q11
    · refine v_ge0_t (t1 := 80) rfl rfl g20 ?_
      refine w_s (np := 81) (lv' := [some (eR a0), some (eI (zI a1)), some (eI (zI a2)), some (eI (zI a3)), some (eI (zI a4)), some (eI (zI a5)), none, none]) (st' := [eI (zI 0), eI (zI a5), eR v7]) rfl rfl rfl ?_
      exact m_3_81_ok hG hk p0 hK h12 _ _ _ _ _ _ M2 μ3 h hR4 hl5 q11
  · refine v_ne0_t (t1 := 76) rfl rfl g19 ?_
    exact m_3_76_ok hG hk p0 hK h12 _ _ _ _ _ M2 μ3 h hR4 hl5 q11
noncomputable def m_3_12b (a0 a1 a2 : Nat) (K : yM → Bool) (i12 : Nat → Nat → yM → Bool) (a3 a4 : Nat) (M : yM) : Bool := z_if (z_lt a4 3) (y_gf M a0 0 5 fun v39 => f_if false (Nat.ble 1 v39) (y_is M v39 2 (m_21 v39 a1 a4 M fun v49 M44 => y_gf M44 a0 0 0 fun v51 => f_if false (Nat.ble 1 v51) (y_lh 100 M44 v51 v49 fun v56 => z_if (z_e0 a4) (z_l (z_mul 2 a3) fun v60 => z_l (z_add 1 v60) fun v61 => m_3_54 a0 a1 a2 K i12 a3 a4 v49 v61 v56 v49 v51 M44) (z_l (z_sub 2 a3) fun v59 => m_3_54 a0 a1 a2 K i12 a3 a4 v49 v59 v56 v49 v51 M44))))) (y_gf M a0 0 5 fun v2 => f_if false (Nat.ble 1 v2) (y_is M v2 2 (m_23 v2 a1 0 M fun v12 M7 => y_gf M7 a0 0 5 fun v14 => f_if false (Nat.ble 1 v14) (y_is M7 v14 2 (m_23 v14 a1 1 M7 fun v24 M19 => y_gf M19 a0 0 5 fun v26 => f_if false (Nat.ble 1 v26) (y_is M19 v26 2 (m_24 v26 a1 M19 fun v36 M31 => z_if (z_lt 0 v36) (m_3_126 a0 a1 a2 K a3 v12 v24 1 M31) (m_3_126 a0 a1 a2 K a3 v12 v24 0 M31))))))))
noncomputable def m_3_12 (a0 a1 a2 : Nat) (K : yM → Bool) (n : Nat) : Nat → Nat → yM → Bool := @Nat.rec (fun _ => Nat → Nat → yM → Bool) (fun _ _ _ => false) (fun _ ih => m_3_12b a0 a1 a2 K ih) n
theorem m_3_12b_ok {fg : eG} {rc rs d : Nat} {f : eFr} {F : List eFr} {μ0 : eM} {a0 a1 a2 : Nat} {K : yM → Bool} {i12 : Nat → Nat → yM → Bool} (hG : yG fg y_T) (hk : ev_kd μ0 a0 = some 0) (p0 : 0 < a0) (hK : ∀ (M : yM) (μ : eM), K M = true → yR M μ → y_le μ0 μ → ex_fine fg rc rs (d + 3, (f.1, f.2.1, f.2.2.1, f.2.2.2), F, μ)) (h12 : ∀ (a3 a4 : Nat) (x5 : Option eV) (M : yM) (μ : eM), i12 a3 a4 M = true → yR M μ → y_le μ0 μ → ex_fine fg rc rs (d + 2, (3, 12, [some (eR a0), some (eI (zI a1)), some (eI (zI a2)), some (eI (zI a3)), some (eI (zI a4)), x5, none, none], []), f :: F, μ)) : ∀ (a3 a4 : Nat) (x5 : Option eV) (M : yM) (μ : eM), m_3_12b a0 a1 a2 K i12 a3 a4 M = true → yR M μ → y_le μ0 μ → ex_fine fg rc rs (d + 2, (3, 12, [some (eR a0), some (eI (zI a1)), some (eI (zI a2)), some (eI (zI a3)), some (eI (zI a4)), x5, none, none], []), f :: F, μ) := by
  intro a3 a4 x5 M μ h hR hl
  unfold m_3_12b at h
  refine w_s (np := 14) (lv' := [some (eR a0), some (eI (zI a1)), some (eI (zI a2)), some (eI (zI a3)), some (eI (zI a4)), x5, none, none]) (st' := [eI (zI a4)]) rfl rfl rfl ?_
  refine w_s (np := 15) (lv' := [some (eR a0), some (eI (zI a1)), some (eI (zI a2)), some (eI (zI a3)), some (eI (zI a4)), x5, none, none]) (st' := [eI (zI 3), eI (zI a4)]) rfl rfl rfl ?_
  rcases z_if_t h with ⟨g1, h⟩ | ⟨g1, h⟩
  · refine v_ge_f (t1 := 88) rfl rfl g1 ?_
    refine w_s (np := 19) (lv' := [some (eR a0), some (eI (zI a1)), some (eI (zI a2)), some (eI (zI a3)), some (eI (zI a4)), x5, none, none]) (st' := [eR a0]) rfl (s_an rfl p0) rfl ?_
    obtain ⟨v39, h, k40, e41⟩ := y_gf_ok (ty := 3) h hR (by decide) rfl
    obtain ⟨g42, h⟩ := f_if_ok h
    have q43 : 0 < v39 := Nat.ble_eq.mp g42
    refine v_gf3 (np := 22) rfl rfl k40 e41 ?_
    clear k40 e41
    refine w_s (np := 23) (lv' := [some (eR a0), some (eI (zI a1)), some (eI (zI a2)), some (eI (zI a3)), some (eI (zI a4)), x5, none, none]) (st' := [eI (zI a1), eR v39]) rfl rfl rfl ?_
    refine w_s (np := 25) (lv' := [some (eR a0), some (eI (zI a1)), some (eI (zI a2)), some (eI (zI a3)), some (eI (zI a4)), x5, none, none]) (st' := [eI (zI a4), eI (zI a1), eR v39]) rfl rfl rfl ?_
    obtain ⟨k50, h⟩ := y_is_ok h hR
    refine w_cv (np := 28) (as := [eI (zI a1), eI (zI a4)]) (lv' := [some (eR v39), some (eI (zI a1)), some (eI (zI a4))]) (rest := []) rfl rfl rfl (Nat.ble_eq.mp rfl) rfl rfl rfl k50 rfl ?_
    refine m_21_ok hG h hR k50 q43 ?_
    intro v49 M44 μ45 h hR46 hl48
    have hl47 := y_le.tr hl hl48
    show ex_fine fg rc rs (d + 2, (3, 28, [some (eR a0), some (eI (zI a1)), some (eI (zI a2)), some (eI (zI a3)), some (eI (zI a4)), x5, none, none], [eI (zI v49)]), f :: F, μ45)
    refine w_s (np := 30) (lv' := [some (eR a0), some (eI (zI a1)), some (eI (zI a2)), some (eI (zI a3)), some (eI (zI a4)), some (eI (zI v49)), none, none]) (st' := []) rfl rfl rfl ?_
    refine w_s (np := 31) (lv' := [some (eR a0), some (eI (zI a1)), some (eI (zI a2)), some (eI (zI a3)), some (eI (zI a4)), some (eI (zI v49)), none, none]) (st' := [eR a0]) rfl (s_an rfl p0) rfl ?_
    obtain ⟨v51, h, k52, e53⟩ := y_gf_ok (ty := 3) h hR46 (by decide) rfl
    obtain ⟨g54, h⟩ := f_if_ok h
    have q55 : 0 < v51 := Nat.ble_eq.mp g54
    refine v_gf3 (np := 34) rfl rfl k52 e53 ?_
    clear k52 e53
    refine w_s (np := 36) (lv' := [some (eR a0), some (eI (zI a1)), some (eI (zI a2)), some (eI (zI a3)), some (eI (zI a4)), some (eI (zI v49)), none, none]) (st' := [eI (zI v49), eR v51]) rfl rfl rfl ?_
    refine w_s (np := 37) (lv' := [some (eR a0), some (eI (zI a1)), some (eI (zI a2)), some (eI (zI a3)), some (eI (zI a4)), some (eI (zI v49)), none, none]) (st' := [eI (zI v49), eR v51, eI (zI v49), eR v51]) rfl rfl rfl ?_
    obtain ⟨v56, h, k57⟩ := y_lh_ok (ty := 0) h hR46 hG (by decide) rfl (by decide)
    refine v_la (np := 38) rfl rfl k57 ?_
    clear k57
    refine w_s (np := 40) (lv' := [some (eR a0), some (eI (zI a1)), some (eI (zI a2)), some (eI (zI a3)), some (eI (zI a4)), some (eI (zI v49)), none, none]) (st' := [eI (zI a4), eI (zI v56), eI (zI v49), eR v51]) rfl rfl rfl ?_
    rcases z_if_t h with ⟨g58, h⟩ | ⟨g58, h⟩
    · refine v_ne0_f (t1 := 51) rfl rfl g58 ?_
      refine w_s (np := 44) (lv' := [some (eR a0), some (eI (zI a1)), some (eI (zI a2)), some (eI (zI a3)), some (eI (zI a4)), some (eI (zI v49)), none, none]) (st' := [eI (zI 1), eI (zI v56), eI (zI v49), eR v51]) rfl rfl rfl ?_
      refine w_s (np := 45) (lv' := [some (eR a0), some (eI (zI a1)), some (eI (zI a2)), some (eI (zI a3)), some (eI (zI a4)), some (eI (zI v49)), none, none]) (st' := [eI (zI 2), eI (zI 1), eI (zI v56), eI (zI v49), eR v51]) rfl rfl rfl ?_
      refine w_s (np := 46) (lv' := [some (eR a0), some (eI (zI a1)), some (eI (zI a2)), some (eI (zI a3)), some (eI (zI a4)), some (eI (zI v49)), none, none]) (st' := [eI (zI a3), eI (zI 2), eI (zI 1), eI (zI v56), eI (zI v49), eR v51]) rfl rfl rfl ?_
      obtain ⟨v60, ev60, h⟩ := z_l_ex h
      refine w_s (np := 47) (lv' := [some (eR a0), some (eI (zI a1)), some (eI (zI a2)), some (eI (zI a3)), some (eI (zI a4)), some (eI (zI v49)), none, none]) (st' := [eI (zI v60), eI (zI 1), eI (zI v56), eI (zI v49), eR v51]) rfl (s_imul ev60) rfl ?_
      clear ev60
      obtain ⟨v61, ev61, h⟩ := z_l_ex h
      refine w_s (np := 48) (lv' := [some (eR a0), some (eI (zI a1)), some (eI (zI a2)), some (eI (zI a3)), some (eI (zI a4)), some (eI (zI v49)), none, none]) (st' := [eI (zI v61), eI (zI v56), eI (zI v49), eR v51]) rfl (s_iadd ev61) rfl ?_
      clear ev61
      refine w_go (t1 := 54) rfl rfl ?_
      exact m_3_54_ok hG hk p0 hK h12 _ _ _ _ _ _ _ M44 μ45 h hR46 hl47 q55
    · refine v_ne0_t (t1 := 51) rfl rfl g58 ?_
      refine w_s (np := 52) (lv' := [some (eR a0), some (eI (zI a1)), some (eI (zI a2)), some (eI (zI a3)), some (eI (zI a4)), some (eI (zI v49)), none, none]) (st' := [eI (zI 2), eI (zI v56), eI (zI v49), eR v51]) rfl rfl rfl ?_
      refine w_s (np := 53) (lv' := [some (eR a0), some (eI (zI a1)), some (eI (zI a2)), some (eI (zI a3)), some (eI (zI a4)), some (eI (zI v49)), none, none]) (st' := [eI (zI a3), eI (zI 2), eI (zI v56), eI (zI v49), eR v51]) rfl rfl rfl ?_
      obtain ⟨v59, ev59, h⟩ := z_l_ex h
      refine w_s (np := 54) (lv' := [some (eR a0), some (eI (zI a1)), some (eI (zI a2)), some (eI (zI a3)), some (eI (zI a4)), some (eI (zI v49)), none, none]) (st' := [eI (zI v59), eI (zI v56), eI (zI v49), eR v51]) rfl (s_isub ev59) rfl ?_
      clear ev59
      exact m_3_54_ok hG hk p0 hK h12 _ _ _ _ _ _ _ M44 μ45 h hR46 hl47 q55
  · refine v_ge_t (t1 := 88) rfl rfl g1 ?_
    refine w_s (np := 89) (lv' := [some (eR a0), some (eI (zI a1)), some (eI (zI a2)), some (eI (zI a3)), some (eI (zI a4)), x5, none, none]) (st' := [eR a0]) rfl (s_an rfl p0) rfl ?_
    obtain ⟨v2, h, k3, e4⟩ := y_gf_ok (ty := 3) h hR (by decide) rfl
    obtain ⟨g5, h⟩ := f_if_ok h
    have q6 : 0 < v2 := Nat.ble_eq.mp g5
    refine v_gf3 (np := 92) rfl rfl k3 e4 ?_
    clear k3 e4
    refine w_s (np := 93) (lv' := [some (eR a0), some (eI (zI a1)), some (eI (zI a2)), some (eI (zI a3)), some (eI (zI a4)), x5, none, none]) (st' := [eI (zI a1), eR v2]) rfl rfl rfl ?_
    refine w_s (np := 94) (lv' := [some (eR a0), some (eI (zI a1)), some (eI (zI a2)), some (eI (zI a3)), some (eI (zI a4)), x5, none, none]) (st' := [eI (zI 0), eI (zI a1), eR v2]) rfl rfl rfl ?_
    obtain ⟨k13, h⟩ := y_is_ok h hR
    refine w_cv (np := 97) (as := [eI (zI a1), eI (zI 0)]) (lv' := [some (eR v2), some (eI (zI a1)), some (eI (zI 0))]) (rest := []) rfl rfl rfl (Nat.ble_eq.mp rfl) rfl rfl rfl k13 rfl ?_
    refine m_23_ok hG h hR k13 q6 ?_
    intro v12 M7 μ8 h hR9 hl11
    have hl10 := y_le.tr hl hl11
    show ex_fine fg rc rs (d + 2, (3, 97, [some (eR a0), some (eI (zI a1)), some (eI (zI a2)), some (eI (zI a3)), some (eI (zI a4)), x5, none, none], [eI (zI v12)]), f :: F, μ8)
    refine w_s (np := 99) (lv' := [some (eR a0), some (eI (zI a1)), some (eI (zI a2)), some (eI (zI a3)), some (eI (zI v12)), x5, none, none]) (st' := []) rfl rfl rfl ?_
    refine w_s (np := 100) (lv' := [some (eR a0), some (eI (zI a1)), some (eI (zI a2)), some (eI (zI a3)), some (eI (zI v12)), x5, none, none]) (st' := [eR a0]) rfl (s_an rfl p0) rfl ?_
    obtain ⟨v14, h, k15, e16⟩ := y_gf_ok (ty := 3) h hR9 (by decide) rfl
    obtain ⟨g17, h⟩ := f_if_ok h
    have q18 : 0 < v14 := Nat.ble_eq.mp g17
    refine v_gf3 (np := 103) rfl rfl k15 e16 ?_
    clear k15 e16
    refine w_s (np := 104) (lv' := [some (eR a0), some (eI (zI a1)), some (eI (zI a2)), some (eI (zI a3)), some (eI (zI v12)), x5, none, none]) (st' := [eI (zI a1), eR v14]) rfl rfl rfl ?_
    refine w_s (np := 105) (lv' := [some (eR a0), some (eI (zI a1)), some (eI (zI a2)), some (eI (zI a3)), some (eI (zI v12)), x5, none, none]) (st' := [eI (zI 1), eI (zI a1), eR v14]) rfl rfl rfl ?_
    obtain ⟨k25, h⟩ := y_is_ok h hR9
    refine w_cv (np := 108) (as := [eI (zI a1), eI (zI 1)]) (lv' := [some (eR v14), some (eI (zI a1)), some (eI (zI 1))]) (rest := []) rfl rfl rfl (Nat.ble_eq.mp rfl) rfl rfl rfl k25 rfl ?_
    refine m_23_ok hG h hR9 k25 q18 ?_
    intro v24 M19 μ20 h hR21 hl23
    have hl22 := y_le.tr hl10 hl23
    show ex_fine fg rc rs (d + 2, (3, 108, [some (eR a0), some (eI (zI a1)), some (eI (zI a2)), some (eI (zI a3)), some (eI (zI v12)), x5, none, none], [eI (zI v24)]), f :: F, μ20)
    refine w_s (np := 110) (lv' := [some (eR a0), some (eI (zI a1)), some (eI (zI a2)), some (eI (zI a3)), some (eI (zI v12)), some (eI (zI v24)), none, none]) (st' := []) rfl rfl rfl ?_
    refine w_s (np := 111) (lv' := [some (eR a0), some (eI (zI a1)), some (eI (zI a2)), some (eI (zI a3)), some (eI (zI v12)), some (eI (zI v24)), none, none]) (st' := [eR a0]) rfl (s_an rfl p0) rfl ?_
    obtain ⟨v26, h, k27, e28⟩ := y_gf_ok (ty := 3) h hR21 (by decide) rfl
    obtain ⟨g29, h⟩ := f_if_ok h
    have q30 : 0 < v26 := Nat.ble_eq.mp g29
    refine v_gf3 (np := 114) rfl rfl k27 e28 ?_
    clear k27 e28
    refine w_s (np := 115) (lv' := [some (eR a0), some (eI (zI a1)), some (eI (zI a2)), some (eI (zI a3)), some (eI (zI v12)), some (eI (zI v24)), none, none]) (st' := [eI (zI a1), eR v26]) rfl rfl rfl ?_
    obtain ⟨k37, h⟩ := y_is_ok h hR21
    refine w_cv (np := 118) (as := [eI (zI a1)]) (lv' := [some (eR v26), some (eI (zI a1))]) (rest := []) rfl rfl rfl (Nat.ble_eq.mp rfl) rfl rfl rfl k37 rfl ?_
    refine m_24_ok hG h hR21 k37 q30 ?_
    intro v36 M31 μ32 h hR33 hl35
    have hl34 := y_le.tr hl22 hl35
    show ex_fine fg rc rs (d + 2, (3, 118, [some (eR a0), some (eI (zI a1)), some (eI (zI a2)), some (eI (zI a3)), some (eI (zI v12)), some (eI (zI v24)), none, none], [eI (zI v36)]), f :: F, μ32)
    rcases z_if_t h with ⟨g38, h⟩ | ⟨g38, h⟩
    · refine v_le0_f (t1 := 125) rfl rfl g38 ?_
      refine w_s (np := 122) (lv' := [some (eR a0), some (eI (zI a1)), some (eI (zI a2)), some (eI (zI a3)), some (eI (zI v12)), some (eI (zI v24)), none, none]) (st' := [eI (zI 1)]) rfl rfl rfl ?_
      refine w_go (t1 := 126) rfl rfl ?_
      exact m_3_126_ok hG hk p0 hK _ _ _ _ M31 μ32 h hR33 hl34
    · refine v_le0_t (t1 := 125) rfl rfl g38 ?_
      refine w_s (np := 126) (lv' := [some (eR a0), some (eI (zI a1)), some (eI (zI a2)), some (eI (zI a3)), some (eI (zI v12)), some (eI (zI v24)), none, none]) (st' := [eI (zI 0)]) rfl rfl rfl ?_
      exact m_3_126_ok hG hk p0 hK _ _ _ _ M31 μ32 h hR33 hl34
theorem m_3_12_ok {fg : eG} {rc rs d : Nat} {f : eFr} {F : List eFr} {μ0 : eM} {a0 a1 a2 : Nat} {K : yM → Bool} (hG : yG fg y_T) (hk : ev_kd μ0 a0 = some 0) (p0 : 0 < a0) (hK : ∀ (M : yM) (μ : eM), K M = true → yR M μ → y_le μ0 μ → ex_fine fg rc rs (d + 3, (f.1, f.2.1, f.2.2.1, f.2.2.2), F, μ)) : ∀ n : Nat, ∀ (a3 a4 : Nat) (x5 : Option eV) (M : yM) (μ : eM), m_3_12 a0 a1 a2 K n a3 a4 M = true → yR M μ → y_le μ0 μ → ex_fine fg rc rs (d + 2, (3, 12, [some (eR a0), some (eI (zI a1)), some (eI (zI a2)), some (eI (zI a3)), some (eI (zI a4)), x5, none, none], []), f :: F, μ) := by
  intro n
  induction n with
  | zero =>
    intro a3 a4 x5 M μ h hR hl
    exact absurd h Bool.false_ne_true
  | succ n ih =>
    intro a3 a4 x5 M μ h hR hl
    exact m_3_12b_ok hG hk p0 hK ih a3 a4 x5 M μ h hR hl
/-! RhombInflator$Figures.addHalf -/
noncomputable def m_3 (a0 a1 a2 : Nat) (M : yM) (K : yM → Bool) : Bool := y_gf M a0 0 5 fun v1 => f_if false (Nat.ble 1 v1) (y_is M v1 2 (m_19 v1 a1 M fun v11 M6 => m_3_12 a0 a1 a2 K 100000 v11 0 M6))
theorem m_3_ok {fg : eG} {rc rs d : Nat} {f : eFr} {F : List eFr} {M : yM} {μ0 : eM} {a0 a1 a2 : Nat} {K : yM → Bool} (hG : yG fg y_T) (h : m_3 a0 a1 a2 M K = true) (hR : yR M μ0) (hk : ev_kd μ0 a0 = some 0) (p0 : 0 < a0) (hK : ∀ (M : yM) (μ : eM), K M = true → yR M μ → y_le μ0 μ → ex_fine fg rc rs (d + 3, (f.1, f.2.1, f.2.2.1, f.2.2.2), F, μ)) : ex_fine fg rc rs (d + 2, (3, 0, [some (eR a0), some (eI (zI a1)), some (eI (zI a2)), none, none, none, none, none], []), f :: F, μ0) := by
  unfold m_3 at h
  have hl := y_le_r μ0
  refine w_s (np := 1) (lv' := [some (eR a0), some (eI (zI a1)), some (eI (zI a2)), none, none, none, none, none]) (st' := [eR a0]) rfl (s_an rfl p0) rfl ?_
  obtain ⟨v1, h, k2, e3⟩ := y_gf_ok (ty := 3) h hR (by decide) rfl
  obtain ⟨g4, h⟩ := f_if_ok h
  have q5 : 0 < v1 := Nat.ble_eq.mp g4
  refine v_gf3 (np := 4) rfl rfl k2 e3 ?_
  clear k2 e3
  refine w_s (np := 5) (lv' := [some (eR a0), some (eI (zI a1)), some (eI (zI a2)), none, none, none, none, none]) (st' := [eI (zI a1), eR v1]) rfl rfl rfl ?_
  obtain ⟨k12, h⟩ := y_is_ok h hR
  refine w_cv (np := 8) (as := [eI (zI a1)]) (lv' := [some (eR v1), some (eI (zI a1))]) (rest := []) rfl rfl rfl (Nat.ble_eq.mp rfl) rfl rfl rfl k12 rfl ?_
  refine m_19_ok hG h hR k12 q5 ?_
  intro v11 M6 μ7 h hR8 hl10
  have hl9 := y_le.tr hl hl10
  show ex_fine fg rc rs (d + 2, (3, 8, [some (eR a0), some (eI (zI a1)), some (eI (zI a2)), none, none, none, none, none], [eI (zI v11)]), f :: F, μ7)
  refine w_s (np := 9) (lv' := [some (eR a0), some (eI (zI a1)), some (eI (zI a2)), some (eI (zI v11)), none, none, none, none]) (st' := []) rfl rfl rfl ?_
  refine w_s (np := 10) (lv' := [some (eR a0), some (eI (zI a1)), some (eI (zI a2)), some (eI (zI v11)), none, none, none, none]) (st' := [eI (zI 0)]) rfl rfl rfl ?_
  refine w_s (np := 12) (lv' := [some (eR a0), some (eI (zI a1)), some (eI (zI a2)), some (eI (zI v11)), some (eI (zI 0)), none, none, none]) (st' := []) rfl rfl rfl ?_
  exact m_3_12_ok hG hk p0 hK 100000 _ _ _ M6 μ7 h hR8 hl9
noncomputable def m_5_82 (a0 : Nat) (K : Nat → yM → Bool) (i4 : Nat → Nat → yM → Bool) (a2 a3 a4 a5 s0 : Nat) (M : yM) : Bool := z_l (z_add a3 1) fun v1 => z_f s0 fun w2 => z_f v1 fun w3 => i4 w2 w3 M
theorem m_5_82_ok {fg : eG} {rc rs d : Nat} {f : eFr} {F : List eFr} {μ0 : eM} {a0 : Nat} {K : Nat → yM → Bool} {i4 : Nat → Nat → yM → Bool} (hG : yG fg y_T) (hK : ∀ (r : Nat) (M : yM) (μ : eM), K r M = true → yR M μ → y_le μ0 μ → ex_fine fg rc rs (d + 1, (f.1, f.2.1, f.2.2.1, eI (zI r) :: f.2.2.2), F, μ)) (h4 : ∀ (a2 a3 : Nat) (x4 x5 x6 : Option eV) (M : yM) (μ : eM), i4 a2 a3 M = true → yR M μ → y_le μ0 μ → ex_fine fg rc rs (d, (5, 4, [some (eJ (zJ a0)), none, some (eI (zI a2)), some (eI (zI a3)), x4, x5, x6], []), f :: F, μ)) : ∀ (a2 a3 a4 a5 s0 : Nat) (x6 : Option eV) (M : yM) (μ : eM), m_5_82 a0 K i4 a2 a3 a4 a5 s0 M = true → yR M μ → y_le μ0 μ → ex_fine fg rc rs (d, (5, 82, [some (eJ (zJ a0)), none, some (eI (zI a2)), some (eI (zI a3)), some (eI (zI a4)), some (eI (zI a5)), x6], [eI (zI s0)]), f :: F, μ) := by
  intro a2 a3 a4 a5 s0 x6 M μ h hR hl
  unfold m_5_82 at h
  refine w_s (np := 83) (lv' := [some (eJ (zJ a0)), none, some (eI (zI s0)), some (eI (zI a3)), some (eI (zI a4)), some (eI (zI a5)), x6]) (st' := []) rfl rfl rfl ?_
  obtain ⟨v1, ev1, h⟩ := z_l_ex h
  refine w_s (np := 86) (lv' := [some (eJ (zJ a0)), none, some (eI (zI s0)), some (eI (zI v1)), some (eI (zI a4)), some (eI (zI a5)), x6]) (st' := []) rfl (s_iinc (b := 1) rfl rfl ev1 rfl) rfl ?_
  clear ev1
  refine w_go (t1 := 4) rfl rfl ?_
  obtain ⟨w2, ew2, h⟩ := z_f_ex h
  subst ew2
  obtain ⟨w3, ew3, h⟩ := z_f_ex h
  subst ew3
  exact h4 _ _ _ _ _ M μ h hR hl
noncomputable def m_5_76 (a0 : Nat) (K : Nat → yM → Bool) (i4 : Nat → Nat → yM → Bool) (a2 a3 a4 a5 : Nat) (M : yM) : Bool := m_5_82 a0 K i4 a2 a3 a4 a5 a4 M
theorem m_5_76_ok {fg : eG} {rc rs d : Nat} {f : eFr} {F : List eFr} {μ0 : eM} {a0 : Nat} {K : Nat → yM → Bool} {i4 : Nat → Nat → yM → Bool} (hG : yG fg y_T) (hK : ∀ (r : Nat) (M : yM) (μ : eM), K r M = true → yR M μ → y_le μ0 μ → ex_fine fg rc rs (d + 1, (f.1, f.2.1, f.2.2.1, eI (zI r) :: f.2.2.2), F, μ)) (h4 : ∀ (a2 a3 : Nat) (x4 x5 x6 : Option eV) (M : yM) (μ : eM), i4 a2 a3 M = true → yR M μ → y_le μ0 μ → ex_fine fg rc rs (d, (5, 4, [some (eJ (zJ a0)), none, some (eI (zI a2)), some (eI (zI a3)), x4, x5, x6], []), f :: F, μ)) : ∀ (a2 a3 a4 a5 : Nat) (x6 : Option eV) (M : yM) (μ : eM), m_5_76 a0 K i4 a2 a3 a4 a5 M = true → yR M μ → y_le μ0 μ → ex_fine fg rc rs (d, (5, 76, [some (eJ (zJ a0)), none, some (eI (zI a2)), some (eI (zI a3)), some (eI (zI a4)), some (eI (zI a5)), x6], []), f :: F, μ) := by
  intro a2 a3 a4 a5 x6 M μ h hR hl
  unfold m_5_76 at h
  refine w_s (np := 78) (lv' := [some (eJ (zJ a0)), none, some (eI (zI a2)), some (eI (zI a3)), some (eI (zI a4)), some (eI (zI a5)), x6]) (st' := [eI (zI a4)]) rfl rfl rfl ?_
  refine w_go (t1 := 82) rfl rfl ?_
  exact m_5_82_ok hG hK h4 _ _ _ _ _ _ M μ h hR hl
noncomputable def m_5_58 (a0 : Nat) (K : Nat → yM → Bool) (i4 : Nat → Nat → yM → Bool) (i16 : Nat → Nat → Nat → Nat → yM → Bool) (a2 a3 a4 a5 a6 s0 : Nat) (M : yM) : Bool := z_l (z_add a5 1) fun v1 => z_f s0 fun w2 => z_f v1 fun w3 => i16 a2 a3 w2 w3 M
theorem m_5_58_ok {fg : eG} {rc rs d : Nat} {f : eFr} {F : List eFr} {μ0 : eM} {a0 : Nat} {K : Nat → yM → Bool} {i4 : Nat → Nat → yM → Bool} {i16 : Nat → Nat → Nat → Nat → yM → Bool} (hG : yG fg y_T) (hK : ∀ (r : Nat) (M : yM) (μ : eM), K r M = true → yR M μ → y_le μ0 μ → ex_fine fg rc rs (d + 1, (f.1, f.2.1, f.2.2.1, eI (zI r) :: f.2.2.2), F, μ)) (h4 : ∀ (a2 a3 : Nat) (x4 x5 x6 : Option eV) (M : yM) (μ : eM), i4 a2 a3 M = true → yR M μ → y_le μ0 μ → ex_fine fg rc rs (d, (5, 4, [some (eJ (zJ a0)), none, some (eI (zI a2)), some (eI (zI a3)), x4, x5, x6], []), f :: F, μ)) (h16 : ∀ (a2 a3 a4 a5 : Nat) (x6 : Option eV) (M : yM) (μ : eM), i16 a2 a3 a4 a5 M = true → yR M μ → y_le μ0 μ → ex_fine fg rc rs (d, (5, 16, [some (eJ (zJ a0)), none, some (eI (zI a2)), some (eI (zI a3)), some (eI (zI a4)), some (eI (zI a5)), x6], []), f :: F, μ)) : ∀ (a2 a3 a4 a5 a6 s0 : Nat) (M : yM) (μ : eM), m_5_58 a0 K i4 i16 a2 a3 a4 a5 a6 s0 M = true → yR M μ → y_le μ0 μ → ex_fine fg rc rs (d, (5, 58, [some (eJ (zJ a0)), none, some (eI (zI a2)), some (eI (zI a3)), some (eI (zI a4)), some (eI (zI a5)), some (eI (zI a6))], [eI (zI s0)]), f :: F, μ) := by
  intro a2 a3 a4 a5 a6 s0 M μ h hR hl
  unfold m_5_58 at h
  refine w_s (np := 60) (lv' := [some (eJ (zJ a0)), none, some (eI (zI a2)), some (eI (zI a3)), some (eI (zI s0)), some (eI (zI a5)), some (eI (zI a6))]) (st' := []) rfl rfl rfl ?_
  obtain ⟨v1, ev1, h⟩ := z_l_ex h
  refine w_s (np := 63) (lv' := [some (eJ (zJ a0)), none, some (eI (zI a2)), some (eI (zI a3)), some (eI (zI s0)), some (eI (zI v1)), some (eI (zI a6))]) (st' := []) rfl (s_iinc (b := 1) rfl rfl ev1 rfl) rfl ?_
  clear ev1
  refine w_go (t1 := 16) rfl rfl ?_
  obtain ⟨w2, ew2, h⟩ := z_f_ex h
  subst ew2
  obtain ⟨w3, ew3, h⟩ := z_f_ex h
  subst ew3
  exact h16 _ _ _ _ _ M μ h hR hl
noncomputable def m_5_16b (a0 : Nat) (K : Nat → yM → Bool) (i4 : Nat → Nat → yM → Bool) (i16 : Nat → Nat → Nat → Nat → yM → Bool) (a2 a3 a4 a5 : Nat) (M : yM) : Bool := z_l (z_add a3 10) fun v1 => z_if (z_lt a5 v1) (z_l (z_rem a5 10) fun v5 => z_l (z_mul 4 v5) fun v6 => f_if false (Nat.ble v6 63) (z_l (z_lshr a0 v6) fun v8 => z_l (z_l2i v8) fun v9 => z_l (z_and v9 15) fun v10 => z_if (z_e0 v10) (m_5_58 a0 K i4 i16 a2 a3 a4 a5 v10 a4 M) (z_l (z_mul 7 a4) fun v12 => z_l (z_add v12 v10) fun v13 => m_5_58 a0 K i4 i16 a2 a3 a4 a5 v10 v13 M))) (z_if (z_l0 a2) (m_5_76 a0 K i4 a2 a3 a4 a5 M) (z_if (z_lt a4 a2) (m_5_76 a0 K i4 a2 a3 a4 a5 M) (m_5_82 a0 K i4 a2 a3 a4 a5 a2 M)))
noncomputable def m_5_16 (a0 : Nat) (K : Nat → yM → Bool) (i4 : Nat → Nat → yM → Bool) (n : Nat) : Nat → Nat → Nat → Nat → yM → Bool := @Nat.rec (fun _ => Nat → Nat → Nat → Nat → yM → Bool) (fun _ _ _ _ _ => false) (fun _ ih => m_5_16b a0 K i4 ih) n
theorem m_5_16b_ok {fg : eG} {rc rs d : Nat} {f : eFr} {F : List eFr} {μ0 : eM} {a0 : Nat} {K : Nat → yM → Bool} {i4 : Nat → Nat → yM → Bool} {i16 : Nat → Nat → Nat → Nat → yM → Bool} (hG : yG fg y_T) (hK : ∀ (r : Nat) (M : yM) (μ : eM), K r M = true → yR M μ → y_le μ0 μ → ex_fine fg rc rs (d + 1, (f.1, f.2.1, f.2.2.1, eI (zI r) :: f.2.2.2), F, μ)) (h4 : ∀ (a2 a3 : Nat) (x4 x5 x6 : Option eV) (M : yM) (μ : eM), i4 a2 a3 M = true → yR M μ → y_le μ0 μ → ex_fine fg rc rs (d, (5, 4, [some (eJ (zJ a0)), none, some (eI (zI a2)), some (eI (zI a3)), x4, x5, x6], []), f :: F, μ)) (h16 : ∀ (a2 a3 a4 a5 : Nat) (x6 : Option eV) (M : yM) (μ : eM), i16 a2 a3 a4 a5 M = true → yR M μ → y_le μ0 μ → ex_fine fg rc rs (d, (5, 16, [some (eJ (zJ a0)), none, some (eI (zI a2)), some (eI (zI a3)), some (eI (zI a4)), some (eI (zI a5)), x6], []), f :: F, μ)) : ∀ (a2 a3 a4 a5 : Nat) (x6 : Option eV) (M : yM) (μ : eM), m_5_16b a0 K i4 i16 a2 a3 a4 a5 M = true → yR M μ → y_le μ0 μ → ex_fine fg rc rs (d, (5, 16, [some (eJ (zJ a0)), none, some (eI (zI a2)), some (eI (zI a3)), some (eI (zI a4)), some (eI (zI a5)), x6], []), f :: F, μ) := by
  intro a2 a3 a4 a5 x6 M μ h hR hl
  unfold m_5_16b at h
  refine w_s (np := 18) (lv' := [some (eJ (zJ a0)), none, some (eI (zI a2)), some (eI (zI a3)), some (eI (zI a4)), some (eI (zI a5)), x6]) (st' := [eI (zI a5)]) rfl rfl rfl ?_
  refine w_s (np := 19) (lv' := [some (eJ (zJ a0)), none, some (eI (zI a2)), some (eI (zI a3)), some (eI (zI a4)), some (eI (zI a5)), x6]) (st' := [eI (zI a3), eI (zI a5)]) rfl rfl rfl ?_
  refine w_s (np := 21) (lv' := [some (eJ (zJ a0)), none, some (eI (zI a2)), some (eI (zI a3)), some (eI (zI a4)), some (eI (zI a5)), x6]) (st' := [eI (zI 10), eI (zI a3), eI (zI a5)]) rfl rfl rfl ?_
  obtain ⟨v1, ev1, h⟩ := z_l_ex h
  refine w_s (np := 22) (lv' := [some (eJ (zJ a0)), none, some (eI (zI a2)), some (eI (zI a3)), some (eI (zI a4)), some (eI (zI a5)), x6]) (st' := [eI (zI v1), eI (zI a5)]) rfl (s_iadd ev1) rfl ?_
  clear ev1
  rcases z_if_t h with ⟨g2, h⟩ | ⟨g2, h⟩
  · refine v_ge_f (t1 := 66) rfl rfl g2 ?_
    refine w_s (np := 26) (lv' := [some (eJ (zJ a0)), none, some (eI (zI a2)), some (eI (zI a3)), some (eI (zI a4)), some (eI (zI a5)), x6]) (st' := [eJ (zJ a0)]) rfl rfl rfl ?_
    refine w_s (np := 27) (lv' := [some (eJ (zJ a0)), none, some (eI (zI a2)), some (eI (zI a3)), some (eI (zI a4)), some (eI (zI a5)), x6]) (st' := [eI (zI 4), eJ (zJ a0)]) rfl rfl rfl ?_
    refine w_s (np := 29) (lv' := [some (eJ (zJ a0)), none, some (eI (zI a2)), some (eI (zI a3)), some (eI (zI a4)), some (eI (zI a5)), x6]) (st' := [eI (zI a5), eI (zI 4), eJ (zJ a0)]) rfl rfl rfl ?_
    refine w_s (np := 31) (lv' := [some (eJ (zJ a0)), none, some (eI (zI a2)), some (eI (zI a3)), some (eI (zI a4)), some (eI (zI a5)), x6]) (st' := [eI (zI 10), eI (zI a5), eI (zI 4), eJ (zJ a0)]) rfl rfl rfl ?_
    obtain ⟨v5, ev5, h⟩ := z_l_ex h
    refine w_s (np := 32) (lv' := [some (eJ (zJ a0)), none, some (eI (zI a2)), some (eI (zI a3)), some (eI (zI a4)), some (eI (zI a5)), x6]) (st' := [eI (zI v5), eI (zI 4), eJ (zJ a0)]) rfl (s_irem ⟨by decide, by decide⟩ ev5) rfl ?_
    clear ev5
    obtain ⟨v6, ev6, h⟩ := z_l_ex h
    refine w_s (np := 33) (lv' := [some (eJ (zJ a0)), none, some (eI (zI a2)), some (eI (zI a3)), some (eI (zI a4)), some (eI (zI a5)), x6]) (st' := [eI (zI v6), eJ (zJ a0)]) rfl (s_imul ev6) rfl ?_
    clear ev6
    obtain ⟨g7, h⟩ := f_if_ok h
    obtain ⟨v8, ev8, h⟩ := z_l_ex h
    refine w_s (np := 34) (lv' := [some (eJ (zJ a0)), none, some (eI (zI a2)), some (eI (zI a3)), some (eI (zI a4)), some (eI (zI a5)), x6]) (st' := [eJ (zJ v8)]) rfl (s_lshr (Nat.ble_eq.mp g7) ev8) rfl ?_
    clear ev8
    obtain ⟨v9, ev9, h⟩ := z_l_ex h
    refine w_s (np := 35) (lv' := [some (eJ (zJ a0)), none, some (eI (zI a2)), some (eI (zI a3)), some (eI (zI a4)), some (eI (zI a5)), x6]) (st' := [eI (zI v9)]) rfl (s_l2i ev9) rfl ?_
    clear ev9
    refine w_s (np := 37) (lv' := [some (eJ (zJ a0)), none, some (eI (zI a2)), some (eI (zI a3)), some (eI (zI a4)), some (eI (zI a5)), x6]) (st' := [eI (zI 15), eI (zI v9)]) rfl rfl rfl ?_
    obtain ⟨v10, ev10, h⟩ := z_l_ex h
    refine w_s (np := 38) (lv' := [some (eJ (zJ a0)), none, some (eI (zI a2)), some (eI (zI a3)), some (eI (zI a4)), some (eI (zI a5)), x6]) (st' := [eI (zI v10)]) rfl (s_iand ev10) rfl ?_
    clear ev10
    refine w_s (np := 40) (lv' := [some (eJ (zJ a0)), none, some (eI (zI a2)), some (eI (zI a3)), some (eI (zI a4)), some (eI (zI a5)), some (eI (zI v10))]) (st' := []) rfl rfl rfl ?_
    refine w_s (np := 42) (lv' := [some (eJ (zJ a0)), none, some (eI (zI a2)), some (eI (zI a3)), some (eI (zI a4)), some (eI (zI a5)), some (eI (zI v10))]) (st' := [eI (zI v10)]) rfl rfl rfl ?_
    rcases z_if_t h with ⟨g11, h⟩ | ⟨g11, h⟩
    · refine v_ne0_f (t1 := 50) rfl rfl g11 ?_
      refine w_s (np := 47) (lv' := [some (eJ (zJ a0)), none, some (eI (zI a2)), some (eI (zI a3)), some (eI (zI a4)), some (eI (zI a5)), some (eI (zI v10))]) (st' := [eI (zI a4)]) rfl rfl rfl ?_
      refine w_go (t1 := 58) rfl rfl ?_
      exact m_5_58_ok hG hK h4 h16 _ _ _ _ _ _ M μ h hR hl
    · refine v_ne0_t (t1 := 50) rfl rfl g11 ?_
      refine w_s (np := 52) (lv' := [some (eJ (zJ a0)), none, some (eI (zI a2)), some (eI (zI a3)), some (eI (zI a4)), some (eI (zI a5)), some (eI (zI v10))]) (st' := [eI (zI 7)]) rfl rfl rfl ?_
      refine w_s (np := 54) (lv' := [some (eJ (zJ a0)), none, some (eI (zI a2)), some (eI (zI a3)), some (eI (zI a4)), some (eI (zI a5)), some (eI (zI v10))]) (st' := [eI (zI a4), eI (zI 7)]) rfl rfl rfl ?_
      obtain ⟨v12, ev12, h⟩ := z_l_ex h
      refine w_s (np := 55) (lv' := [some (eJ (zJ a0)), none, some (eI (zI a2)), some (eI (zI a3)), some (eI (zI a4)), some (eI (zI a5)), some (eI (zI v10))]) (st' := [eI (zI v12)]) rfl (s_imul ev12) rfl ?_
      clear ev12
      refine w_s (np := 57) (lv' := [some (eJ (zJ a0)), none, some (eI (zI a2)), some (eI (zI a3)), some (eI (zI a4)), some (eI (zI a5)), some (eI (zI v10))]) (st' := [eI (zI v10), eI (zI v12)]) rfl rfl rfl ?_
      obtain ⟨v13, ev13, h⟩ := z_l_ex h
      refine w_s (np := 58) (lv' := [some (eJ (zJ a0)), none, some (eI (zI a2)), some (eI (zI a3)), some (eI (zI a4)), some (eI (zI a5)), some (eI (zI v10))]) (st' := [eI (zI v13)]) rfl (s_iadd ev13) rfl ?_
      clear ev13
      exact m_5_58_ok hG hK h4 h16 _ _ _ _ _ _ M μ h hR hl
  · refine v_ge_t (t1 := 66) rfl rfl g2 ?_
    refine w_s (np := 67) (lv' := [some (eJ (zJ a0)), none, some (eI (zI a2)), some (eI (zI a3)), some (eI (zI a4)), some (eI (zI a5)), x6]) (st' := [eI (zI a2)]) rfl rfl rfl ?_
    rcases z_if_t h with ⟨g3, h⟩ | ⟨g3, h⟩
    · refine v_lt0_t (t1 := 76) rfl rfl g3 ?_
      exact m_5_76_ok hG hK h4 _ _ _ _ _ M μ h hR hl
    · refine v_lt0_f (t1 := 76) rfl rfl g3 ?_
      refine w_s (np := 72) (lv' := [some (eJ (zJ a0)), none, some (eI (zI a2)), some (eI (zI a3)), some (eI (zI a4)), some (eI (zI a5)), x6]) (st' := [eI (zI a4)]) rfl rfl rfl ?_
      refine w_s (np := 73) (lv' := [some (eJ (zJ a0)), none, some (eI (zI a2)), some (eI (zI a3)), some (eI (zI a4)), some (eI (zI a5)), x6]) (st' := [eI (zI a2), eI (zI a4)]) rfl rfl rfl ?_
      rcases z_if_t h with ⟨g4, h⟩ | ⟨g4, h⟩
      · refine v_ge_f (t1 := 81) rfl rfl g4 ?_
        exact m_5_76_ok hG hK h4 _ _ _ _ _ M μ h hR hl
      · refine v_ge_t (t1 := 81) rfl rfl g4 ?_
        refine w_s (np := 82) (lv' := [some (eJ (zJ a0)), none, some (eI (zI a2)), some (eI (zI a3)), some (eI (zI a4)), some (eI (zI a5)), x6]) (st' := [eI (zI a2)]) rfl rfl rfl ?_
        exact m_5_82_ok hG hK h4 _ _ _ _ _ _ M μ h hR hl
theorem m_5_16_ok {fg : eG} {rc rs d : Nat} {f : eFr} {F : List eFr} {μ0 : eM} {a0 : Nat} {K : Nat → yM → Bool} {i4 : Nat → Nat → yM → Bool} (hG : yG fg y_T) (hK : ∀ (r : Nat) (M : yM) (μ : eM), K r M = true → yR M μ → y_le μ0 μ → ex_fine fg rc rs (d + 1, (f.1, f.2.1, f.2.2.1, eI (zI r) :: f.2.2.2), F, μ)) (h4 : ∀ (a2 a3 : Nat) (x4 x5 x6 : Option eV) (M : yM) (μ : eM), i4 a2 a3 M = true → yR M μ → y_le μ0 μ → ex_fine fg rc rs (d, (5, 4, [some (eJ (zJ a0)), none, some (eI (zI a2)), some (eI (zI a3)), x4, x5, x6], []), f :: F, μ)) : ∀ n : Nat, ∀ (a2 a3 a4 a5 : Nat) (x6 : Option eV) (M : yM) (μ : eM), m_5_16 a0 K i4 n a2 a3 a4 a5 M = true → yR M μ → y_le μ0 μ → ex_fine fg rc rs (d, (5, 16, [some (eJ (zJ a0)), none, some (eI (zI a2)), some (eI (zI a3)), some (eI (zI a4)), some (eI (zI a5)), x6], []), f :: F, μ) := by
  intro n
  induction n with
  | zero =>
    intro a2 a3 a4 a5 x6 M μ h hR hl
    exact absurd h Bool.false_ne_true
  | succ n ih =>
    intro a2 a3 a4 a5 x6 M μ h hR hl
    exact m_5_16b_ok hG hK h4 ih a2 a3 a4 a5 x6 M μ h hR hl
noncomputable def m_5_4b (a0 : Nat) (K : Nat → yM → Bool) (i4 : Nat → Nat → yM → Bool) (a2 a3 : Nat) (M : yM) : Bool := z_if (z_lt a3 10) (m_5_16 a0 K i4 100000 a2 a3 0 a3 M) (K a2 M)
noncomputable def m_5_4 (a0 : Nat) (K : Nat → yM → Bool) (n : Nat) : Nat → Nat → yM → Bool := @Nat.rec (fun _ => Nat → Nat → yM → Bool) (fun _ _ _ => false) (fun _ ih => m_5_4b a0 K ih) n
theorem m_5_4b_ok {fg : eG} {rc rs d : Nat} {f : eFr} {F : List eFr} {μ0 : eM} {a0 : Nat} {K : Nat → yM → Bool} {i4 : Nat → Nat → yM → Bool} (hG : yG fg y_T) (hK : ∀ (r : Nat) (M : yM) (μ : eM), K r M = true → yR M μ → y_le μ0 μ → ex_fine fg rc rs (d + 1, (f.1, f.2.1, f.2.2.1, eI (zI r) :: f.2.2.2), F, μ)) (h4 : ∀ (a2 a3 : Nat) (x4 x5 x6 : Option eV) (M : yM) (μ : eM), i4 a2 a3 M = true → yR M μ → y_le μ0 μ → ex_fine fg rc rs (d, (5, 4, [some (eJ (zJ a0)), none, some (eI (zI a2)), some (eI (zI a3)), x4, x5, x6], []), f :: F, μ)) : ∀ (a2 a3 : Nat) (x4 x5 x6 : Option eV) (M : yM) (μ : eM), m_5_4b a0 K i4 a2 a3 M = true → yR M μ → y_le μ0 μ → ex_fine fg rc rs (d, (5, 4, [some (eJ (zJ a0)), none, some (eI (zI a2)), some (eI (zI a3)), x4, x5, x6], []), f :: F, μ) := by
  intro a2 a3 x4 x5 x6 M μ h hR hl
  unfold m_5_4b at h
  refine w_s (np := 5) (lv' := [some (eJ (zJ a0)), none, some (eI (zI a2)), some (eI (zI a3)), x4, x5, x6]) (st' := [eI (zI a3)]) rfl rfl rfl ?_
  refine w_s (np := 7) (lv' := [some (eJ (zJ a0)), none, some (eI (zI a2)), some (eI (zI a3)), x4, x5, x6]) (st' := [eI (zI 10), eI (zI a3)]) rfl rfl rfl ?_
  rcases z_if_t h with ⟨g1, h⟩ | ⟨g1, h⟩
  · refine v_ge_f (t1 := 89) rfl rfl g1 ?_
    refine w_s (np := 11) (lv' := [some (eJ (zJ a0)), none, some (eI (zI a2)), some (eI (zI a3)), x4, x5, x6]) (st' := [eI (zI 0)]) rfl rfl rfl ?_
    refine w_s (np := 13) (lv' := [some (eJ (zJ a0)), none, some (eI (zI a2)), some (eI (zI a3)), some (eI (zI 0)), x5, x6]) (st' := []) rfl rfl rfl ?_
    refine w_s (np := 14) (lv' := [some (eJ (zJ a0)), none, some (eI (zI a2)), some (eI (zI a3)), some (eI (zI 0)), x5, x6]) (st' := [eI (zI a3)]) rfl rfl rfl ?_
    refine w_s (np := 16) (lv' := [some (eJ (zJ a0)), none, some (eI (zI a2)), some (eI (zI a3)), some (eI (zI 0)), some (eI (zI a3)), x6]) (st' := []) rfl rfl rfl ?_
    exact m_5_16_ok hG hK h4 100000 _ _ _ _ _ M μ h hR hl
  · refine v_ge_t (t1 := 89) rfl rfl g1 ?_
    refine w_s (np := 90) (lv' := [some (eJ (zJ a0)), none, some (eI (zI a2)), some (eI (zI a3)), x4, x5, x6]) (st' := [eI (zI a2)]) rfl rfl rfl ?_
    exact v_ri rfl rfl (hK _ _ _ h hR hl)
theorem m_5_4_ok {fg : eG} {rc rs d : Nat} {f : eFr} {F : List eFr} {μ0 : eM} {a0 : Nat} {K : Nat → yM → Bool} (hG : yG fg y_T) (hK : ∀ (r : Nat) (M : yM) (μ : eM), K r M = true → yR M μ → y_le μ0 μ → ex_fine fg rc rs (d + 1, (f.1, f.2.1, f.2.2.1, eI (zI r) :: f.2.2.2), F, μ)) : ∀ n : Nat, ∀ (a2 a3 : Nat) (x4 x5 x6 : Option eV) (M : yM) (μ : eM), m_5_4 a0 K n a2 a3 M = true → yR M μ → y_le μ0 μ → ex_fine fg rc rs (d, (5, 4, [some (eJ (zJ a0)), none, some (eI (zI a2)), some (eI (zI a3)), x4, x5, x6], []), f :: F, μ) := by
  intro n
  induction n with
  | zero =>
    intro a2 a3 x4 x5 x6 M μ h hR hl
    exact absurd h Bool.false_ne_true
  | succ n ih =>
    intro a2 a3 x4 x5 x6 M μ h hR hl
    exact m_5_4b_ok hG hK ih a2 a3 x4 x5 x6 M μ h hR hl
/-! RhombInflator$Figures.leastNumber -/
noncomputable def m_5 (a0 : Nat) (M : yM) (K : Nat → yM → Bool) : Bool := m_5_4 a0 K 100000 4294967295 0 M
theorem m_5_ok {fg : eG} {rc rs d : Nat} {f : eFr} {F : List eFr} {M : yM} {μ0 : eM} {a0 : Nat} {K : Nat → yM → Bool} (hG : yG fg y_T) (h : m_5 a0 M K = true) (hR : yR M μ0) (hK : ∀ (r : Nat) (M : yM) (μ : eM), K r M = true → yR M μ → y_le μ0 μ → ex_fine fg rc rs (d + 1, (f.1, f.2.1, f.2.2.1, eI (zI r) :: f.2.2.2), F, μ)) : ex_fine fg rc rs (d, (5, 0, [some (eJ (zJ a0)), none, none, none, none, none, none], []), f :: F, μ0) := by
  unfold m_5 at h
  have hl := y_le_r μ0
  refine w_s (np := 1) (lv' := [some (eJ (zJ a0)), none, none, none, none, none, none]) (st' := [eI (zI 4294967295)]) rfl rfl rfl ?_
  refine w_s (np := 2) (lv' := [some (eJ (zJ a0)), none, some (eI (zI 4294967295)), none, none, none, none]) (st' := []) rfl rfl rfl ?_
  refine w_s (np := 3) (lv' := [some (eJ (zJ a0)), none, some (eI (zI 4294967295)), none, none, none, none]) (st' := [eI (zI 0)]) rfl rfl rfl ?_
  refine w_s (np := 4) (lv' := [some (eJ (zJ a0)), none, some (eI (zI 4294967295)), some (eI (zI 0)), none, none, none]) (st' := []) rfl rfl rfl ?_
  exact m_5_4_ok hG hK 100000 _ _ _ _ _ M μ0 h hR hl
noncomputable def m_6_13 (a0 a1 : Nat) (K : yM → Bool) (M : yM) : Bool := K M
theorem m_6_13_ok {fg : eG} {rc rs d : Nat} {f : eFr} {F : List eFr} {μ0 : eM} {a0 a1 : Nat} {K : yM → Bool} (hG : yG fg y_T) (hk : ev_kd μ0 a0 = some 0) (p0 : 0 < a0) (hK : ∀ (M : yM) (μ : eM), K M = true → yR M μ → y_le μ0 μ → ex_fine fg rc rs (d + 1, (f.1, f.2.1, f.2.2.1, f.2.2.2), F, μ)) : ∀ (M : yM) (μ : eM), m_6_13 a0 a1 K M = true → yR M μ → y_le μ0 μ → ex_fine fg rc rs (d, (6, 13, [some (eR a0), some (eI (zI a1)), none, none], []), f :: F, μ) := by
  intro M μ h hR hl
  unfold m_6_13 at h
  exact v_rv rfl rfl (hK _ _ h hR hl)
noncomputable def m_6_64b (a0 a1 : Nat) (K : yM → Bool) (i64 : Nat → Nat → yM → Bool) (a2 a3 : Nat) (M : yM) : Bool := z_if (z_lt a2 a3) (y_gf M a0 0 4 fun v22 => f_if false (Nat.ble 1 v22) (y_gf M a0 0 4 fun v27 => f_if false (Nat.ble 1 v27) (z_l (z_sub a3 1) fun v32 => y_lh 100 M v27 v32 fun v33 => y_sa 100 M v22 a3 v33 fun M35 => z_l (z_add a3 4294967295) fun v40 => z_f v40 fun w41 => i64 a2 w41 M35))) (y_gf M a0 0 4 fun v2 => f_if false (Nat.ble 1 v2) (y_sa 100 M v2 a2 a1 fun M7 => y_gf M7 a0 0 9 fun v12 => z_l (z_add v12 1) fun v15 => y_wf M7 a0 0 9 v15 fun M16 => K M16))
noncomputable def m_6_64 (a0 a1 : Nat) (K : yM → Bool) (n : Nat) : Nat → Nat → yM → Bool := @Nat.rec (fun _ => Nat → Nat → yM → Bool) (fun _ _ _ => false) (fun _ ih => m_6_64b a0 a1 K ih) n
theorem m_6_64b_ok {fg : eG} {rc rs d : Nat} {f : eFr} {F : List eFr} {μ0 : eM} {a0 a1 : Nat} {K : yM → Bool} {i64 : Nat → Nat → yM → Bool} (hG : yG fg y_T) (hk : ev_kd μ0 a0 = some 0) (p0 : 0 < a0) (hK : ∀ (M : yM) (μ : eM), K M = true → yR M μ → y_le μ0 μ → ex_fine fg rc rs (d + 1, (f.1, f.2.1, f.2.2.1, f.2.2.2), F, μ)) (h64 : ∀ (a2 a3 : Nat) (M : yM) (μ : eM), i64 a2 a3 M = true → yR M μ → y_le μ0 μ → ex_fine fg rc rs (d, (6, 64, [some (eR a0), some (eI (zI a1)), some (eI (zI a2)), some (eI (zI a3))], []), f :: F, μ)) : ∀ (a2 a3 : Nat) (M : yM) (μ : eM), m_6_64b a0 a1 K i64 a2 a3 M = true → yR M μ → y_le μ0 μ → ex_fine fg rc rs (d, (6, 64, [some (eR a0), some (eI (zI a1)), some (eI (zI a2)), some (eI (zI a3))], []), f :: F, μ) := by
  intro a2 a3 M μ h hR hl
  unfold m_6_64b at h
  refine w_s (np := 65) (lv' := [some (eR a0), some (eI (zI a1)), some (eI (zI a2)), some (eI (zI a3))]) (st' := [eI (zI a3)]) rfl rfl rfl ?_
  refine w_s (np := 66) (lv' := [some (eR a0), some (eI (zI a1)), some (eI (zI a2)), some (eI (zI a3))]) (st' := [eI (zI a2), eI (zI a3)]) rfl rfl rfl ?_
  rcases z_if_t h with ⟨g1, h⟩ | ⟨g1, h⟩
  · refine v_le_f (t1 := 89) rfl rfl g1 ?_
    refine w_s (np := 70) (lv' := [some (eR a0), some (eI (zI a1)), some (eI (zI a2)), some (eI (zI a3))]) (st' := [eR a0]) rfl (s_an rfl p0) rfl ?_
    obtain ⟨v22, h, k23, e24⟩ := y_gf_ok (ty := 3) h hR (by decide) rfl
    obtain ⟨g25, h⟩ := f_if_ok h
    have q26 : 0 < v22 := Nat.ble_eq.mp g25
    refine v_gf3 (np := 73) rfl rfl k23 e24 ?_
    clear k23 e24
    refine w_s (np := 74) (lv' := [some (eR a0), some (eI (zI a1)), some (eI (zI a2)), some (eI (zI a3))]) (st' := [eI (zI a3), eR v22]) rfl rfl rfl ?_
    refine w_s (np := 75) (lv' := [some (eR a0), some (eI (zI a1)), some (eI (zI a2)), some (eI (zI a3))]) (st' := [eR a0, eI (zI a3), eR v22]) rfl (s_an rfl p0) rfl ?_
    obtain ⟨v27, h, k28, e29⟩ := y_gf_ok (ty := 3) h hR (by decide) rfl
    obtain ⟨g30, h⟩ := f_if_ok h
    have q31 : 0 < v27 := Nat.ble_eq.mp g30
    refine v_gf3 (np := 78) rfl rfl k28 e29 ?_
    clear k28 e29
    refine w_s (np := 79) (lv' := [some (eR a0), some (eI (zI a1)), some (eI (zI a2)), some (eI (zI a3))]) (st' := [eI (zI a3), eR v27, eI (zI a3), eR v22]) rfl rfl rfl ?_
    refine w_s (np := 80) (lv' := [some (eR a0), some (eI (zI a1)), some (eI (zI a2)), some (eI (zI a3))]) (st' := [eI (zI 1), eI (zI a3), eR v27, eI (zI a3), eR v22]) rfl rfl rfl ?_
    obtain ⟨v32, ev32, h⟩ := z_l_ex h
    refine w_s (np := 81) (lv' := [some (eR a0), some (eI (zI a1)), some (eI (zI a2)), some (eI (zI a3))]) (st' := [eI (zI v32), eR v27, eI (zI a3), eR v22]) rfl (s_isub ev32) rfl ?_
    clear ev32
    obtain ⟨v33, h, k34⟩ := y_lh_ok (ty := 0) h hR hG (by decide) rfl (by decide)
    refine v_la (np := 82) rfl rfl k34 ?_
    clear k34
    obtain ⟨M35, μ36, h, k39, hR37, hl38⟩ := y_sa_ex (ty := 0) h hR hl rfl (by decide)
    refine v_sa (np := 83) rfl rfl k39 ?_
    clear k39
    obtain ⟨v40, ev40, h⟩ := z_l_ex h
    refine w_s (np := 86) (lv' := [some (eR a0), some (eI (zI a1)), some (eI (zI a2)), some (eI (zI v40))]) (st' := []) rfl (s_iinc (b := 4294967295) rfl rfl ev40 rfl) rfl ?_
    clear ev40
    refine w_go (t1 := 64) rfl rfl ?_
    obtain ⟨w41, ew41, h⟩ := z_f_ex h
    subst ew41
    exact h64 _ _ M35 μ36 h hR37 hl38
  · refine v_le_t (t1 := 89) rfl rfl g1 ?_
    refine w_s (np := 90) (lv' := [some (eR a0), some (eI (zI a1)), some (eI (zI a2)), some (eI (zI a3))]) (st' := [eR a0]) rfl (s_an rfl p0) rfl ?_
    obtain ⟨v2, h, k3, e4⟩ := y_gf_ok (ty := 3) h hR (by decide) rfl
    obtain ⟨g5, h⟩ := f_if_ok h
    have q6 : 0 < v2 := Nat.ble_eq.mp g5
    refine v_gf3 (np := 93) rfl rfl k3 e4 ?_
    clear k3 e4
    refine w_s (np := 94) (lv' := [some (eR a0), some (eI (zI a1)), some (eI (zI a2)), some (eI (zI a3))]) (st' := [eI (zI a2), eR v2]) rfl rfl rfl ?_
    refine w_s (np := 95) (lv' := [some (eR a0), some (eI (zI a1)), some (eI (zI a2)), some (eI (zI a3))]) (st' := [eI (zI a1), eI (zI a2), eR v2]) rfl rfl rfl ?_
    obtain ⟨M7, μ8, h, k11, hR9, hl10⟩ := y_sa_ex (ty := 0) h hR hl rfl (by decide)
    refine v_sa (np := 96) rfl rfl k11 ?_
    clear k11
    refine w_s (np := 97) (lv' := [some (eR a0), some (eI (zI a1)), some (eI (zI a2)), some (eI (zI a3))]) (st' := [eR a0]) rfl (s_an rfl p0) rfl ?_
    refine w_s (np := 98) (lv' := [some (eR a0), some (eI (zI a1)), some (eI (zI a2)), some (eI (zI a3))]) (st' := [eR a0, eR a0]) rfl rfl rfl ?_
    obtain ⟨v12, h, k13, e14⟩ := y_gf_ok (ty := 0) h hR9 (by decide) rfl
    refine v_gf0 (np := 101) rfl rfl k13 e14 ?_
    clear k13 e14
    refine w_s (np := 102) (lv' := [some (eR a0), some (eI (zI a1)), some (eI (zI a2)), some (eI (zI a3))]) (st' := [eI (zI 1), eI (zI v12), eR a0]) rfl rfl rfl ?_
    obtain ⟨v15, ev15, h⟩ := z_l_ex h
    refine w_s (np := 103) (lv' := [some (eR a0), some (eI (zI a1)), some (eI (zI a2)), some (eI (zI a3))]) (st' := [eI (zI v15), eR a0]) rfl (s_iadd ev15) rfl ?_
    clear ev15
    obtain ⟨M16, μ17, h, k20, hR18, hl19, e21⟩ := y_wf_ex (ty := 0) h hR9 hl10 rfl (by decide)
    refine v_pe0 (np := 106) rfl rfl k20 e21 ?_
    clear k20 e21
    exact v_rv rfl rfl (hK _ _ h hR18 hl19)
theorem m_6_64_ok {fg : eG} {rc rs d : Nat} {f : eFr} {F : List eFr} {μ0 : eM} {a0 a1 : Nat} {K : yM → Bool} (hG : yG fg y_T) (hk : ev_kd μ0 a0 = some 0) (p0 : 0 < a0) (hK : ∀ (M : yM) (μ : eM), K M = true → yR M μ → y_le μ0 μ → ex_fine fg rc rs (d + 1, (f.1, f.2.1, f.2.2.1, f.2.2.2), F, μ)) : ∀ n : Nat, ∀ (a2 a3 : Nat) (M : yM) (μ : eM), m_6_64 a0 a1 K n a2 a3 M = true → yR M μ → y_le μ0 μ → ex_fine fg rc rs (d, (6, 64, [some (eR a0), some (eI (zI a1)), some (eI (zI a2)), some (eI (zI a3))], []), f :: F, μ) := by
  intro n
  induction n with
  | zero =>
    intro a2 a3 M μ h hR hl
    exact absurd h Bool.false_ne_true
  | succ n ih =>
    intro a2 a3 M μ h hR hl
    exact m_6_64b_ok hG hk p0 hK ih a2 a3 M μ h hR hl
noncomputable def m_6_59 (a0 a1 : Nat) (K : yM → Bool) (a2 : Nat) (M : yM) : Bool := y_gf M a0 0 9 fun v1 => m_6_64 a0 a1 K 100000 a2 v1 M
theorem m_6_59_ok {fg : eG} {rc rs d : Nat} {f : eFr} {F : List eFr} {μ0 : eM} {a0 a1 : Nat} {K : yM → Bool} (hG : yG fg y_T) (hk : ev_kd μ0 a0 = some 0) (p0 : 0 < a0) (hK : ∀ (M : yM) (μ : eM), K M = true → yR M μ → y_le μ0 μ → ex_fine fg rc rs (d + 1, (f.1, f.2.1, f.2.2.1, f.2.2.2), F, μ)) : ∀ (a2 : Nat) (M : yM) (μ : eM), m_6_59 a0 a1 K a2 M = true → yR M μ → y_le μ0 μ → ex_fine fg rc rs (d, (6, 59, [some (eR a0), some (eI (zI a1)), some (eI (zI a2)), none], []), f :: F, μ) := by
  intro a2 M μ h hR hl
  unfold m_6_59 at h
  refine w_s (np := 60) (lv' := [some (eR a0), some (eI (zI a1)), some (eI (zI a2)), none]) (st' := [eR a0]) rfl (s_an rfl p0) rfl ?_
  obtain ⟨v1, h, k2, e3⟩ := y_gf_ok (ty := 0) h hR (by decide) rfl
  refine v_gf0 (np := 63) rfl rfl k2 e3 ?_
  clear k2 e3
  refine w_s (np := 64) (lv' := [some (eR a0), some (eI (zI a1)), some (eI (zI a2)), some (eI (zI v1))]) (st' := []) rfl rfl rfl ?_
  exact m_6_64_ok hG hk p0 hK 100000 _ _ M μ h hR hl
noncomputable def m_6_40 (a0 a1 : Nat) (K : yM → Bool) (a2 : Nat) (M : yM) : Bool := y_gf M a0 0 9 fun v1 => z_if (z_lt a2 v1) (y_gf M a0 0 4 fun v5 => f_if false (Nat.ble 1 v5) (y_lh 100 M v5 a2 fun v10 => z_if (z_eq v10 a1) (K M) (m_6_59 a0 a1 K a2 M))) (m_6_59 a0 a1 K a2 M)
theorem m_6_40_ok {fg : eG} {rc rs d : Nat} {f : eFr} {F : List eFr} {μ0 : eM} {a0 a1 : Nat} {K : yM → Bool} (hG : yG fg y_T) (hk : ev_kd μ0 a0 = some 0) (p0 : 0 < a0) (hK : ∀ (M : yM) (μ : eM), K M = true → yR M μ → y_le μ0 μ → ex_fine fg rc rs (d + 1, (f.1, f.2.1, f.2.2.1, f.2.2.2), F, μ)) : ∀ (a2 : Nat) (M : yM) (μ : eM), m_6_40 a0 a1 K a2 M = true → yR M μ → y_le μ0 μ → ex_fine fg rc rs (d, (6, 40, [some (eR a0), some (eI (zI a1)), some (eI (zI a2)), none], []), f :: F, μ) := by
  intro a2 M μ h hR hl
  unfold m_6_40 at h
  refine w_s (np := 41) (lv' := [some (eR a0), some (eI (zI a1)), some (eI (zI a2)), none]) (st' := [eI (zI a2)]) rfl rfl rfl ?_
  refine w_s (np := 42) (lv' := [some (eR a0), some (eI (zI a1)), some (eI (zI a2)), none]) (st' := [eR a0, eI (zI a2)]) rfl (s_an rfl p0) rfl ?_
  obtain ⟨v1, h, k2, e3⟩ := y_gf_ok (ty := 0) h hR (by decide) rfl
  refine v_gf0 (np := 45) rfl rfl k2 e3 ?_
  clear k2 e3
  rcases z_if_t h with ⟨g4, h⟩ | ⟨g4, h⟩
  · refine v_ge_f (t1 := 59) rfl rfl g4 ?_
    refine w_s (np := 49) (lv' := [some (eR a0), some (eI (zI a1)), some (eI (zI a2)), none]) (st' := [eR a0]) rfl (s_an rfl p0) rfl ?_
    obtain ⟨v5, h, k6, e7⟩ := y_gf_ok (ty := 3) h hR (by decide) rfl
    obtain ⟨g8, h⟩ := f_if_ok h
    have q9 : 0 < v5 := Nat.ble_eq.mp g8
    refine v_gf3 (np := 52) rfl rfl k6 e7 ?_
    clear k6 e7
    refine w_s (np := 53) (lv' := [some (eR a0), some (eI (zI a1)), some (eI (zI a2)), none]) (st' := [eI (zI a2), eR v5]) rfl rfl rfl ?_
    obtain ⟨v10, h, k11⟩ := y_lh_ok (ty := 0) h hR hG (by decide) rfl (by decide)
    refine v_la (np := 54) rfl rfl k11 ?_
    clear k11
    refine w_s (np := 55) (lv' := [some (eR a0), some (eI (zI a1)), some (eI (zI a2)), none]) (st' := [eI (zI a1), eI (zI v10)]) rfl rfl rfl ?_
    rcases z_if_t h with ⟨g12, h⟩ | ⟨g12, h⟩
    · refine v_ne_f (t1 := 59) rfl rfl g12 ?_
      exact v_rv rfl rfl (hK _ _ h hR hl)
    · refine v_ne_t (t1 := 59) rfl rfl g12 ?_
      exact m_6_59_ok hG hk p0 hK _ M μ h hR hl
  · refine v_ge_t (t1 := 59) rfl rfl g4 ?_
    exact m_6_59_ok hG hk p0 hK _ M μ h hR hl
noncomputable def m_6_16b (a0 a1 : Nat) (K : yM → Bool) (i16 : Nat → yM → Bool) (a2 : Nat) (M : yM) : Bool := y_gf M a0 0 9 fun v1 => z_if (z_lt a2 v1) (y_gf M a0 0 4 fun v5 => f_if false (Nat.ble 1 v5) (y_lh 100 M v5 a2 fun v10 => z_if (z_lt v10 a1) (z_l (z_add a2 1) fun v13 => z_f v13 fun w14 => i16 w14 M) (m_6_40 a0 a1 K a2 M))) (m_6_40 a0 a1 K a2 M)
noncomputable def m_6_16 (a0 a1 : Nat) (K : yM → Bool) (n : Nat) : Nat → yM → Bool := @Nat.rec (fun _ => Nat → yM → Bool) (fun _ _ => false) (fun _ ih => m_6_16b a0 a1 K ih) n
theorem m_6_16b_ok {fg : eG} {rc rs d : Nat} {f : eFr} {F : List eFr} {μ0 : eM} {a0 a1 : Nat} {K : yM → Bool} {i16 : Nat → yM → Bool} (hG : yG fg y_T) (hk : ev_kd μ0 a0 = some 0) (p0 : 0 < a0) (hK : ∀ (M : yM) (μ : eM), K M = true → yR M μ → y_le μ0 μ → ex_fine fg rc rs (d + 1, (f.1, f.2.1, f.2.2.1, f.2.2.2), F, μ)) (h16 : ∀ (a2 : Nat) (M : yM) (μ : eM), i16 a2 M = true → yR M μ → y_le μ0 μ → ex_fine fg rc rs (d, (6, 16, [some (eR a0), some (eI (zI a1)), some (eI (zI a2)), none], []), f :: F, μ)) : ∀ (a2 : Nat) (M : yM) (μ : eM), m_6_16b a0 a1 K i16 a2 M = true → yR M μ → y_le μ0 μ → ex_fine fg rc rs (d, (6, 16, [some (eR a0), some (eI (zI a1)), some (eI (zI a2)), none], []), f :: F, μ) := by
  intro a2 M μ h hR hl
  unfold m_6_16b at h
  refine w_s (np := 17) (lv' := [some (eR a0), some (eI (zI a1)), some (eI (zI a2)), none]) (st' := [eI (zI a2)]) rfl rfl rfl ?_
  refine w_s (np := 18) (lv' := [some (eR a0), some (eI (zI a1)), some (eI (zI a2)), none]) (st' := [eR a0, eI (zI a2)]) rfl (s_an rfl p0) rfl ?_
  obtain ⟨v1, h, k2, e3⟩ := y_gf_ok (ty := 0) h hR (by decide) rfl
  refine v_gf0 (np := 21) rfl rfl k2 e3 ?_
  clear k2 e3
  rcases z_if_t h with ⟨g4, h⟩ | ⟨g4, h⟩
  · refine v_ge_f (t1 := 40) rfl rfl g4 ?_
    refine w_s (np := 25) (lv' := [some (eR a0), some (eI (zI a1)), some (eI (zI a2)), none]) (st' := [eR a0]) rfl (s_an rfl p0) rfl ?_
    obtain ⟨v5, h, k6, e7⟩ := y_gf_ok (ty := 3) h hR (by decide) rfl
    obtain ⟨g8, h⟩ := f_if_ok h
    have q9 : 0 < v5 := Nat.ble_eq.mp g8
    refine v_gf3 (np := 28) rfl rfl k6 e7 ?_
    clear k6 e7
    refine w_s (np := 29) (lv' := [some (eR a0), some (eI (zI a1)), some (eI (zI a2)), none]) (st' := [eI (zI a2), eR v5]) rfl rfl rfl ?_
    obtain ⟨v10, h, k11⟩ := y_lh_ok (ty := 0) h hR hG (by decide) rfl (by decide)
    refine v_la (np := 30) rfl rfl k11 ?_
    clear k11
    refine w_s (np := 31) (lv' := [some (eR a0), some (eI (zI a1)), some (eI (zI a2)), none]) (st' := [eI (zI a1), eI (zI v10)]) rfl rfl rfl ?_
    rcases z_if_t h with ⟨g12, h⟩ | ⟨g12, h⟩
    · refine v_ge_f (t1 := 40) rfl rfl g12 ?_
      obtain ⟨v13, ev13, h⟩ := z_l_ex h
      refine w_s (np := 37) (lv' := [some (eR a0), some (eI (zI a1)), some (eI (zI v13)), none]) (st' := []) rfl (s_iinc (b := 1) rfl rfl ev13 rfl) rfl ?_
      clear ev13
      refine w_go (t1 := 16) rfl rfl ?_
      obtain ⟨w14, ew14, h⟩ := z_f_ex h
      subst ew14
      exact h16 _ M μ h hR hl
    · refine v_ge_t (t1 := 40) rfl rfl g12 ?_
      exact m_6_40_ok hG hk p0 hK _ M μ h hR hl
  · refine v_ge_t (t1 := 40) rfl rfl g4 ?_
    exact m_6_40_ok hG hk p0 hK _ M μ h hR hl
theorem m_6_16_ok {fg : eG} {rc rs d : Nat} {f : eFr} {F : List eFr} {μ0 : eM} {a0 a1 : Nat} {K : yM → Bool} (hG : yG fg y_T) (hk : ev_kd μ0 a0 = some 0) (p0 : 0 < a0) (hK : ∀ (M : yM) (μ : eM), K M = true → yR M μ → y_le μ0 μ → ex_fine fg rc rs (d + 1, (f.1, f.2.1, f.2.2.1, f.2.2.2), F, μ)) : ∀ n : Nat, ∀ (a2 : Nat) (M : yM) (μ : eM), m_6_16 a0 a1 K n a2 M = true → yR M μ → y_le μ0 μ → ex_fine fg rc rs (d, (6, 16, [some (eR a0), some (eI (zI a1)), some (eI (zI a2)), none], []), f :: F, μ) := by
  intro n
  induction n with
  | zero =>
    intro a2 M μ h hR hl
    exact absurd h Bool.false_ne_true
  | succ n ih =>
    intro a2 M μ h hR hl
    exact m_6_16b_ok hG hk p0 hK ih a2 M μ h hR hl
/-! RhombInflator$Figures.enlist -/
noncomputable def m_6 (a0 a1 : Nat) (M : yM) (K : yM → Bool) : Bool := z_if (z_l0 a1) (m_6_13 a0 a1 K M) (y_gf M a0 0 9 fun v2 => z_if (z_lt v2 64) (m_6_16 a0 a1 K 100000 0 M) (m_6_13 a0 a1 K M))
theorem m_6_ok {fg : eG} {rc rs d : Nat} {f : eFr} {F : List eFr} {M : yM} {μ0 : eM} {a0 a1 : Nat} {K : yM → Bool} (hG : yG fg y_T) (h : m_6 a0 a1 M K = true) (hR : yR M μ0) (hk : ev_kd μ0 a0 = some 0) (p0 : 0 < a0) (hK : ∀ (M : yM) (μ : eM), K M = true → yR M μ → y_le μ0 μ → ex_fine fg rc rs (d + 1, (f.1, f.2.1, f.2.2.1, f.2.2.2), F, μ)) : ex_fine fg rc rs (d, (6, 0, [some (eR a0), some (eI (zI a1)), none, none], []), f :: F, μ0) := by
  unfold m_6 at h
  have hl := y_le_r μ0
  refine w_s (np := 1) (lv' := [some (eR a0), some (eI (zI a1)), none, none]) (st' := [eI (zI a1)]) rfl rfl rfl ?_
  rcases z_if_t h with ⟨g1, h⟩ | ⟨g1, h⟩
  · refine v_lt0_t (t1 := 13) rfl rfl g1 ?_
    exact m_6_13_ok hG hk p0 hK M μ0 h hR hl
  · refine v_lt0_f (t1 := 13) rfl rfl g1 ?_
    refine w_s (np := 5) (lv' := [some (eR a0), some (eI (zI a1)), none, none]) (st' := [eR a0]) rfl (s_an rfl p0) rfl ?_
    obtain ⟨v2, h, k3, e4⟩ := y_gf_ok (ty := 0) h hR (by decide) rfl
    refine v_gf0 (np := 8) rfl rfl k3 e4 ?_
    clear k3 e4
    refine w_s (np := 10) (lv' := [some (eR a0), some (eI (zI a1)), none, none]) (st' := [eI (zI 64), eI (zI v2)]) rfl rfl rfl ?_
    rcases z_if_t h with ⟨g5, h⟩ | ⟨g5, h⟩
    · refine v_lt_t (t1 := 14) rfl rfl g5 ?_
      refine w_s (np := 15) (lv' := [some (eR a0), some (eI (zI a1)), none, none]) (st' := [eI (zI 0)]) rfl rfl rfl ?_
      refine w_s (np := 16) (lv' := [some (eR a0), some (eI (zI a1)), some (eI (zI 0)), none]) (st' := []) rfl rfl rfl ?_
      exact m_6_16_ok hG hk p0 hK 100000 _ M μ0 h hR hl
    · refine v_lt_f (t1 := 14) rfl rfl g5 ?_
      exact m_6_13_ok hG hk p0 hK M μ0 h hR hl
noncomputable def m_18_17 (a0 a1 : Nat) (K : Nat → yM → Bool) (s0 : Nat) (M : yM) : Bool := f_if false (Nat.ble s0 1) (K s0 M)
theorem m_18_17_ok {fg : eG} {rc rs d : Nat} {f : eFr} {F : List eFr} {μ0 : eM} {a0 a1 : Nat} {K : Nat → yM → Bool} (hG : yG fg y_T) (hk : ev_kd μ0 a0 = some 2) (p0 : 0 < a0) (hK : ∀ (r : Nat) (M : yM) (μ : eM), K r M = true → yR M μ → y_le μ0 μ → ex_fine fg rc rs (d + 1, (f.1, f.2.1, f.2.2.1, eI (zI r) :: f.2.2.2), F, μ)) : ∀ (s0 : Nat) (M : yM) (μ : eM), m_18_17 a0 a1 K s0 M = true → yR M μ → y_le μ0 μ → ex_fine fg rc rs (d, (18, 17, [some (eR a0), some (eI (zI a1))], [eI (zI s0)]), f :: F, μ) := by
  intro s0 M μ h hR hl
  unfold m_18_17 at h
  obtain ⟨g1, h⟩ := f_if_ok h
  exact v_rz rfl rfl g1 (hK _ _ _ h hR hl)
noncomputable def m_18_12 (a0 a1 : Nat) (K : Nat → yM → Bool) (M : yM) : Bool := m_18_17 a0 a1 K 1 M
theorem m_18_12_ok {fg : eG} {rc rs d : Nat} {f : eFr} {F : List eFr} {μ0 : eM} {a0 a1 : Nat} {K : Nat → yM → Bool} (hG : yG fg y_T) (hk : ev_kd μ0 a0 = some 2) (p0 : 0 < a0) (hK : ∀ (r : Nat) (M : yM) (μ : eM), K r M = true → yR M μ → y_le μ0 μ → ex_fine fg rc rs (d + 1, (f.1, f.2.1, f.2.2.1, eI (zI r) :: f.2.2.2), F, μ)) : ∀ (M : yM) (μ : eM), m_18_12 a0 a1 K M = true → yR M μ → y_le μ0 μ → ex_fine fg rc rs (d, (18, 12, [some (eR a0), some (eI (zI a1))], []), f :: F, μ) := by
  intro M μ h hR hl
  unfold m_18_12 at h
  refine w_s (np := 13) (lv' := [some (eR a0), some (eI (zI a1))]) (st' := [eI (zI 1)]) rfl rfl rfl ?_
  refine w_go (t1 := 17) rfl rfl ?_
  exact m_18_17_ok hG hk p0 hK _ M μ h hR hl
/-! RhombInflator$Patch.lacks -/
noncomputable def m_18 (a0 a1 : Nat) (M : yM) (K : Nat → yM → Bool) : Bool := z_if (z_l0 a1) (m_18_12 a0 a1 K M) (y_gf M a0 2 7 fun v2 => z_if (z_lt a1 v2) (m_18_17 a0 a1 K 0 M) (m_18_12 a0 a1 K M))
theorem m_18_ok {fg : eG} {rc rs d : Nat} {f : eFr} {F : List eFr} {M : yM} {μ0 : eM} {a0 a1 : Nat} {K : Nat → yM → Bool} (hG : yG fg y_T) (h : m_18 a0 a1 M K = true) (hR : yR M μ0) (hk : ev_kd μ0 a0 = some 2) (p0 : 0 < a0) (hK : ∀ (r : Nat) (M : yM) (μ : eM), K r M = true → yR M μ → y_le μ0 μ → ex_fine fg rc rs (d + 1, (f.1, f.2.1, f.2.2.1, eI (zI r) :: f.2.2.2), F, μ)) : ex_fine fg rc rs (d, (18, 0, [some (eR a0), some (eI (zI a1))], []), f :: F, μ0) := by
  unfold m_18 at h
  have hl := y_le_r μ0
  refine w_s (np := 1) (lv' := [some (eR a0), some (eI (zI a1))]) (st' := [eI (zI a1)]) rfl rfl rfl ?_
  rcases z_if_t h with ⟨g1, h⟩ | ⟨g1, h⟩
  · refine v_lt0_t (t1 := 12) rfl rfl g1 ?_
    exact m_18_12_ok hG hk p0 hK M μ0 h hR hl
  · refine v_lt0_f (t1 := 12) rfl rfl g1 ?_
    refine w_s (np := 5) (lv' := [some (eR a0), some (eI (zI a1))]) (st' := [eI (zI a1)]) rfl rfl rfl ?_
    refine w_s (np := 6) (lv' := [some (eR a0), some (eI (zI a1))]) (st' := [eR a0, eI (zI a1)]) rfl (s_an rfl p0) rfl ?_
    obtain ⟨v2, h, k3, e4⟩ := y_gf_ok (ty := 0) h hR (by decide) rfl
    refine v_gf0 (np := 9) rfl rfl k3 e4 ?_
    clear k3 e4
    rcases z_if_t h with ⟨g5, h⟩ | ⟨g5, h⟩
    · refine v_lt_t (t1 := 16) rfl rfl g5 ?_
      refine w_s (np := 17) (lv' := [some (eR a0), some (eI (zI a1))]) (st' := [eI (zI 0)]) rfl rfl rfl ?_
      exact m_18_17_ok hG hk p0 hK _ M μ0 h hR hl
    · refine v_lt_f (t1 := 16) rfl rfl g5 ?_
      exact m_18_12_ok hG hk p0 hK M μ0 h hR hl
noncomputable def m_116_46 (a0 a1 a2 : Nat) (K : Nat → yM → Bool) (a3 s0 : Nat) (M : yM) : Bool := K s0 M
theorem m_116_46_ok {fg : eG} {rc rs d : Nat} {f : eFr} {F : List eFr} {μ0 : eM} {a0 a1 a2 : Nat} {K : Nat → yM → Bool} (hG : yG fg y_T) (hk : ev_kd μ0 a0 = some 8) (p0 : 0 < a0) (hK : ∀ (r : Nat) (M : yM) (μ : eM), K r M = true → yR M μ → y_le μ0 μ → ex_fine fg rc rs (d + 2, (f.1, f.2.1, f.2.2.1, eI (zI r) :: f.2.2.2), F, μ)) : ∀ (a3 s0 : Nat) (M : yM) (μ : eM), m_116_46 a0 a1 a2 K a3 s0 M = true → yR M μ → y_le μ0 μ → ex_fine fg rc rs (d + 1, (116, 46, [some (eR a0), some (eI (zI a1)), some (eI (zI a2)), some (eI (zI a3))], [eI (zI s0)]), f :: F, μ) := by
  intro a3 s0 M μ h hR hl
  unfold m_116_46 at h
  exact v_ri rfl rfl (hK _ _ _ h hR hl)
noncomputable def m_116_34 (a0 a1 a2 : Nat) (K : Nat → yM → Bool) (s0 : Nat) (M : yM) : Bool := z_if (z_l0 s0) (m_116_46 a0 a1 a2 K s0 4294967295 M) (z_l (z_div s0 3) fun v2 => m_116_46 a0 a1 a2 K s0 v2 M)
theorem m_116_34_ok {fg : eG} {rc rs d : Nat} {f : eFr} {F : List eFr} {μ0 : eM} {a0 a1 a2 : Nat} {K : Nat → yM → Bool} (hG : yG fg y_T) (hk : ev_kd μ0 a0 = some 8) (p0 : 0 < a0) (hK : ∀ (r : Nat) (M : yM) (μ : eM), K r M = true → yR M μ → y_le μ0 μ → ex_fine fg rc rs (d + 2, (f.1, f.2.1, f.2.2.1, eI (zI r) :: f.2.2.2), F, μ)) : ∀ (s0 : Nat) (M : yM) (μ : eM), m_116_34 a0 a1 a2 K s0 M = true → yR M μ → y_le μ0 μ → ex_fine fg rc rs (d + 1, (116, 34, [some (eR a0), some (eI (zI a1)), some (eI (zI a2)), none], [eI (zI s0)]), f :: F, μ) := by
  intro s0 M μ h hR hl
  unfold m_116_34 at h
  refine w_s (np := 35) (lv' := [some (eR a0), some (eI (zI a1)), some (eI (zI a2)), some (eI (zI s0))]) (st' := []) rfl rfl rfl ?_
  refine w_s (np := 36) (lv' := [some (eR a0), some (eI (zI a1)), some (eI (zI a2)), some (eI (zI s0))]) (st' := [eI (zI s0)]) rfl rfl rfl ?_
  rcases z_if_t h with ⟨g1, h⟩ | ⟨g1, h⟩
  · refine v_ge0_f (t1 := 43) rfl rfl g1 ?_
    refine w_s (np := 40) (lv' := [some (eR a0), some (eI (zI a1)), some (eI (zI a2)), some (eI (zI s0))]) (st' := [eI (zI 4294967295)]) rfl rfl rfl ?_
    refine w_go (t1 := 46) rfl rfl ?_
    exact m_116_46_ok hG hk p0 hK _ _ M μ h hR hl
  · refine v_ge0_t (t1 := 43) rfl rfl g1 ?_
    refine w_s (np := 44) (lv' := [some (eR a0), some (eI (zI a1)), some (eI (zI a2)), some (eI (zI s0))]) (st' := [eI (zI s0)]) rfl rfl rfl ?_
    refine w_s (np := 45) (lv' := [some (eR a0), some (eI (zI a1)), some (eI (zI a2)), some (eI (zI s0))]) (st' := [eI (zI 3), eI (zI s0)]) rfl rfl rfl ?_
    obtain ⟨v2, ev2, h⟩ := z_l_ex h
    refine w_s (np := 46) (lv' := [some (eR a0), some (eI (zI a1)), some (eI (zI a2)), some (eI (zI s0))]) (st' := [eI (zI v2)]) rfl (s_idiv ⟨by decide, by decide⟩ ev2) rfl ?_
    clear ev2
    exact m_116_46_ok hG hk p0 hK _ _ M μ h hR hl
noncomputable def m_116_20 (a0 a1 a2 : Nat) (K : Nat → yM → Bool) (M : yM) : Bool := m_116_34 a0 a1 a2 K 4294967295 M
theorem m_116_20_ok {fg : eG} {rc rs d : Nat} {f : eFr} {F : List eFr} {μ0 : eM} {a0 a1 a2 : Nat} {K : Nat → yM → Bool} (hG : yG fg y_T) (hk : ev_kd μ0 a0 = some 8) (p0 : 0 < a0) (hK : ∀ (r : Nat) (M : yM) (μ : eM), K r M = true → yR M μ → y_le μ0 μ → ex_fine fg rc rs (d + 2, (f.1, f.2.1, f.2.2.1, eI (zI r) :: f.2.2.2), F, μ)) : ∀ (M : yM) (μ : eM), m_116_20 a0 a1 a2 K M = true → yR M μ → y_le μ0 μ → ex_fine fg rc rs (d + 1, (116, 20, [some (eR a0), some (eI (zI a1)), some (eI (zI a2)), none], []), f :: F, μ) := by
  intro M μ h hR hl
  unfold m_116_20 at h
  refine w_s (np := 21) (lv' := [some (eR a0), some (eI (zI a1)), some (eI (zI a2)), none]) (st' := [eI (zI 4294967295)]) rfl rfl rfl ?_
  refine w_go (t1 := 34) rfl rfl ?_
  exact m_116_34_ok hG hk p0 hK _ M μ h hR hl
/-! RhombInflator$Sides.neighbourOf -/
noncomputable def m_116 (a0 a1 a2 : Nat) (M : yM) (K : Nat → yM → Bool) : Bool := y_gf M a0 8 6 fun v1 => f_if false (Nat.ble 1 v1) (y_is M v1 2 (m_18 v1 a1 M fun v11 M6 => z_if (z_e0 v11) (z_if (z_l0 a2) (m_116_20 a0 a1 a2 K M6) (z_if (z_lt 2 a2) (m_116_20 a0 a1 a2 K M6) (y_gf M6 a0 8 0 fun v16 => f_if false (Nat.ble 1 v16) (z_l (z_mul 3 a1) fun v21 => z_l (z_add v21 a2) fun v22 => y_lh 100 M6 v16 v22 fun v23 => m_116_34 a0 a1 a2 K v23 M6)))) (m_116_20 a0 a1 a2 K M6)))
theorem m_116_ok {fg : eG} {rc rs d : Nat} {f : eFr} {F : List eFr} {M : yM} {μ0 : eM} {a0 a1 a2 : Nat} {K : Nat → yM → Bool} (hG : yG fg y_T) (h : m_116 a0 a1 a2 M K = true) (hR : yR M μ0) (hk : ev_kd μ0 a0 = some 8) (p0 : 0 < a0) (hK : ∀ (r : Nat) (M : yM) (μ : eM), K r M = true → yR M μ → y_le μ0 μ → ex_fine fg rc rs (d + 2, (f.1, f.2.1, f.2.2.1, eI (zI r) :: f.2.2.2), F, μ)) : ex_fine fg rc rs (d + 1, (116, 0, [some (eR a0), some (eI (zI a1)), some (eI (zI a2)), none], []), f :: F, μ0) := by
  unfold m_116 at h
  have hl := y_le_r μ0
  refine w_s (np := 1) (lv' := [some (eR a0), some (eI (zI a1)), some (eI (zI a2)), none]) (st' := [eR a0]) rfl (s_an rfl p0) rfl ?_
  obtain ⟨v1, h, k2, e3⟩ := y_gf_ok (ty := 3) h hR (by decide) rfl
  obtain ⟨g4, h⟩ := f_if_ok h
  have q5 : 0 < v1 := Nat.ble_eq.mp g4
  refine v_gf3 (np := 4) rfl rfl k2 e3 ?_
  clear k2 e3
  refine w_s (np := 5) (lv' := [some (eR a0), some (eI (zI a1)), some (eI (zI a2)), none]) (st' := [eI (zI a1), eR v1]) rfl rfl rfl ?_
  obtain ⟨k12, h⟩ := y_is_ok h hR
  refine w_cv (np := 8) (as := [eI (zI a1)]) (lv' := [some (eR v1), some (eI (zI a1))]) (rest := []) rfl rfl rfl (Nat.ble_eq.mp rfl) rfl rfl rfl k12 rfl ?_
  refine m_18_ok hG h hR k12 q5 ?_
  intro v11 M6 μ7 h hR8 hl10
  have hl9 := y_le.tr hl hl10
  show ex_fine fg rc rs (d + 1, (116, 8, [some (eR a0), some (eI (zI a1)), some (eI (zI a2)), none], [eI (zI v11)]), f :: F, μ7)
  rcases z_if_t h with ⟨g13, h⟩ | ⟨g13, h⟩
  · refine v_ne0_f (t1 := 20) rfl rfl g13 ?_
    refine w_s (np := 12) (lv' := [some (eR a0), some (eI (zI a1)), some (eI (zI a2)), none]) (st' := [eI (zI a2)]) rfl rfl rfl ?_
    rcases z_if_t h with ⟨g14, h⟩ | ⟨g14, h⟩
    · refine v_lt0_t (t1 := 20) rfl rfl g14 ?_
      exact m_116_20_ok hG hk p0 hK M6 μ7 h hR8 hl9
    · refine v_lt0_f (t1 := 20) rfl rfl g14 ?_
      refine w_s (np := 16) (lv' := [some (eR a0), some (eI (zI a1)), some (eI (zI a2)), none]) (st' := [eI (zI a2)]) rfl rfl rfl ?_
      refine w_s (np := 17) (lv' := [some (eR a0), some (eI (zI a1)), some (eI (zI a2)), none]) (st' := [eI (zI 2), eI (zI a2)]) rfl rfl rfl ?_
      rcases z_if_t h with ⟨g15, h⟩ | ⟨g15, h⟩
      · refine v_le_f (t1 := 24) rfl rfl g15 ?_
        exact m_116_20_ok hG hk p0 hK M6 μ7 h hR8 hl9
      · refine v_le_t (t1 := 24) rfl rfl g15 ?_
        refine w_s (np := 25) (lv' := [some (eR a0), some (eI (zI a1)), some (eI (zI a2)), none]) (st' := [eR a0]) rfl (s_an rfl p0) rfl ?_
        obtain ⟨v16, h, k17, e18⟩ := y_gf_ok (ty := 3) h hR8 (by decide) rfl
        obtain ⟨g19, h⟩ := f_if_ok h
        have q20 : 0 < v16 := Nat.ble_eq.mp g19
        refine v_gf3 (np := 28) rfl rfl k17 e18 ?_
        clear k17 e18
        refine w_s (np := 29) (lv' := [some (eR a0), some (eI (zI a1)), some (eI (zI a2)), none]) (st' := [eI (zI 3), eR v16]) rfl rfl rfl ?_
        refine w_s (np := 30) (lv' := [some (eR a0), some (eI (zI a1)), some (eI (zI a2)), none]) (st' := [eI (zI a1), eI (zI 3), eR v16]) rfl rfl rfl ?_
        obtain ⟨v21, ev21, h⟩ := z_l_ex h
        refine w_s (np := 31) (lv' := [some (eR a0), some (eI (zI a1)), some (eI (zI a2)), none]) (st' := [eI (zI v21), eR v16]) rfl (s_imul ev21) rfl ?_
        clear ev21
        refine w_s (np := 32) (lv' := [some (eR a0), some (eI (zI a1)), some (eI (zI a2)), none]) (st' := [eI (zI a2), eI (zI v21), eR v16]) rfl rfl rfl ?_
        obtain ⟨v22, ev22, h⟩ := z_l_ex h
        refine w_s (np := 33) (lv' := [some (eR a0), some (eI (zI a1)), some (eI (zI a2)), none]) (st' := [eI (zI v22), eR v16]) rfl (s_iadd ev22) rfl ?_
        clear ev22
        obtain ⟨v23, h, k24⟩ := y_lh_ok (ty := 0) h hR8 hG (by decide) rfl (by decide)
        refine v_la (np := 34) rfl rfl k24 ?_
        clear k24
        exact m_116_34_ok hG hk p0 hK _ M6 μ7 h hR8 hl9
  · refine v_ne0_t (t1 := 20) rfl rfl g13 ?_
    exact m_116_20_ok hG hk p0 hK M6 μ7 h hR8 hl9
noncomputable def m_117_87 (a0 a1 : Nat) (K : Nat → yM → Bool) (a2 a3 s0 : Nat) (M : yM) : Bool := K s0 M
theorem m_117_87_ok {fg : eG} {rc rs d : Nat} {f : eFr} {F : List eFr} {μ0 : eM} {a0 a1 : Nat} {K : Nat → yM → Bool} (hG : yG fg y_T) (hk : ev_kd μ0 a0 = some 8) (p0 : 0 < a0) (hK : ∀ (r : Nat) (M : yM) (μ : eM), K r M = true → yR M μ → y_le μ0 μ → ex_fine fg rc rs (d + 3, (f.1, f.2.1, f.2.2.1, eI (zI r) :: f.2.2.2), F, μ)) : ∀ (a2 a3 s0 : Nat) (M : yM) (μ : eM), m_117_87 a0 a1 K a2 a3 s0 M = true → yR M μ → y_le μ0 μ → ex_fine fg rc rs (d + 2, (117, 87, [some (eR a0), some (eI (zI a1)), some (eI (zI a2)), some (eI (zI a3))], [eI (zI s0)]), f :: F, μ) := by
  intro a2 a3 s0 M μ h hR hl
  unfold m_117_87 at h
  exact v_ri rfl rfl (hK _ _ _ h hR hl)
noncomputable def m_117_77 (a0 a1 : Nat) (K : Nat → yM → Bool) (a2 s0 : Nat) (M : yM) : Bool := z_if (z_e0 s0) (m_117_87 a0 a1 K a2 s0 4294967295 M) (m_117_87 a0 a1 K a2 s0 a2 M)
theorem m_117_77_ok {fg : eG} {rc rs d : Nat} {f : eFr} {F : List eFr} {μ0 : eM} {a0 a1 : Nat} {K : Nat → yM → Bool} (hG : yG fg y_T) (hk : ev_kd μ0 a0 = some 8) (p0 : 0 < a0) (hK : ∀ (r : Nat) (M : yM) (μ : eM), K r M = true → yR M μ → y_le μ0 μ → ex_fine fg rc rs (d + 3, (f.1, f.2.1, f.2.2.1, eI (zI r) :: f.2.2.2), F, μ)) : ∀ (a2 s0 : Nat) (M : yM) (μ : eM), m_117_77 a0 a1 K a2 s0 M = true → yR M μ → y_le μ0 μ → ex_fine fg rc rs (d + 2, (117, 77, [some (eR a0), some (eI (zI a1)), some (eI (zI a2)), none], [eI (zI s0)]), f :: F, μ) := by
  intro a2 s0 M μ h hR hl
  unfold m_117_77 at h
  refine w_s (np := 78) (lv' := [some (eR a0), some (eI (zI a1)), some (eI (zI a2)), some (eI (zI s0))]) (st' := []) rfl rfl rfl ?_
  refine w_s (np := 79) (lv' := [some (eR a0), some (eI (zI a1)), some (eI (zI a2)), some (eI (zI s0))]) (st' := [eI (zI s0)]) rfl rfl rfl ?_
  rcases z_if_t h with ⟨g1, h⟩ | ⟨g1, h⟩
  · refine v_eq0_t (t1 := 86) rfl rfl g1 ?_
    refine w_s (np := 87) (lv' := [some (eR a0), some (eI (zI a1)), some (eI (zI a2)), some (eI (zI s0))]) (st' := [eI (zI 4294967295)]) rfl rfl rfl ?_
    exact m_117_87_ok hG hk p0 hK _ _ _ M μ h hR hl
  · refine v_eq0_f (t1 := 86) rfl rfl g1 ?_
    refine w_s (np := 83) (lv' := [some (eR a0), some (eI (zI a1)), some (eI (zI a2)), some (eI (zI s0))]) (st' := [eI (zI a2)]) rfl rfl rfl ?_
    refine w_go (t1 := 87) rfl rfl ?_
    exact m_117_87_ok hG hk p0 hK _ _ _ M μ h hR hl
noncomputable def m_117_76 (a0 a1 : Nat) (K : Nat → yM → Bool) (a2 : Nat) (M : yM) : Bool := m_117_77 a0 a1 K a2 0 M
theorem m_117_76_ok {fg : eG} {rc rs d : Nat} {f : eFr} {F : List eFr} {μ0 : eM} {a0 a1 : Nat} {K : Nat → yM → Bool} (hG : yG fg y_T) (hk : ev_kd μ0 a0 = some 8) (p0 : 0 < a0) (hK : ∀ (r : Nat) (M : yM) (μ : eM), K r M = true → yR M μ → y_le μ0 μ → ex_fine fg rc rs (d + 3, (f.1, f.2.1, f.2.2.1, eI (zI r) :: f.2.2.2), F, μ)) : ∀ (a2 : Nat) (M : yM) (μ : eM), m_117_76 a0 a1 K a2 M = true → yR M μ → y_le μ0 μ → ex_fine fg rc rs (d + 2, (117, 76, [some (eR a0), some (eI (zI a1)), some (eI (zI a2)), none], []), f :: F, μ) := by
  intro a2 M μ h hR hl
  unfold m_117_76 at h
  refine w_s (np := 77) (lv' := [some (eR a0), some (eI (zI a1)), some (eI (zI a2)), none]) (st' := [eI (zI 0)]) rfl rfl rfl ?_
  exact m_117_77_ok hG hk p0 hK _ _ M μ h hR hl
/-! RhombInflator$Sides.twinOf -/
noncomputable def m_117 (a0 a1 : Nat) (M : yM) (K : Nat → yM → Bool) : Bool := m_116 a0 a1 2 M fun v6 M1 => z_if (z_l0 v6) (m_117_76 a0 a1 K v6 M1) (y_gf M1 a0 8 6 fun v8 => f_if false (Nat.ble 1 v8) (y_is M1 v8 2 (m_19 v8 v6 M1 fun v18 M13 => y_gf M13 a0 8 6 fun v20 => f_if false (Nat.ble 1 v20) (y_is M13 v20 2 (m_19 v20 a1 M13 fun v30 M25 => z_if (z_eq v18 v30) (y_gf M25 a0 8 6 fun v33 => f_if false (Nat.ble 1 v33) (y_is M25 v33 2 (m_21 v33 v6 1 M25 fun v43 M38 => y_gf M38 a0 8 6 fun v45 => f_if false (Nat.ble 1 v45) (y_is M38 v45 2 (m_21 v45 a1 1 M38 fun v55 M50 => z_if (z_eq v43 v55) (y_gf M50 a0 8 6 fun v58 => f_if false (Nat.ble 1 v58) (y_is M50 v58 2 (m_21 v58 v6 2 M50 fun v68 M63 => y_gf M63 a0 8 6 fun v70 => f_if false (Nat.ble 1 v70) (y_is M63 v70 2 (m_21 v70 a1 2 M63 fun v80 M75 => z_if (z_eq v68 v80) (m_117_77 a0 a1 K v6 1 M75) (m_117_76 a0 a1 K v6 M75)))))) (m_117_76 a0 a1 K v6 M50)))))) (m_117_76 a0 a1 K v6 M25))))))
theorem m_117_ok {fg : eG} {rc rs d : Nat} {f : eFr} {F : List eFr} {M : yM} {μ0 : eM} {a0 a1 : Nat} {K : Nat → yM → Bool} (hG : yG fg y_T) (h : m_117 a0 a1 M K = true) (hR : yR M μ0) (hk : ev_kd μ0 a0 = some 8) (p0 : 0 < a0) (hK : ∀ (r : Nat) (M : yM) (μ : eM), K r M = true → yR M μ → y_le μ0 μ → ex_fine fg rc rs (d + 3, (f.1, f.2.1, f.2.2.1, eI (zI r) :: f.2.2.2), F, μ)) : ex_fine fg rc rs (d + 2, (117, 0, [some (eR a0), some (eI (zI a1)), none, none], []), f :: F, μ0) := by
  unfold m_117 at h
  have hl := y_le_r μ0
  refine w_s (np := 1) (lv' := [some (eR a0), some (eI (zI a1)), none, none]) (st' := [eR a0]) rfl (s_an rfl p0) rfl ?_
  refine w_s (np := 2) (lv' := [some (eR a0), some (eI (zI a1)), none, none]) (st' := [eI (zI a1), eR a0]) rfl rfl rfl ?_
  refine w_s (np := 3) (lv' := [some (eR a0), some (eI (zI a1)), none, none]) (st' := [eI (zI 2), eI (zI a1), eR a0]) rfl rfl rfl ?_
  refine w_cv (np := 6) (as := [eI (zI a1), eI (zI 2)]) (lv' := [some (eR a0), some (eI (zI a1)), some (eI (zI 2)), none]) (rest := []) rfl rfl rfl (Nat.ble_eq.mp rfl) rfl rfl rfl (hl _ _ hk) rfl ?_
  refine m_116_ok hG h hR (hl _ _ hk) p0 ?_
  intro v6 M1 μ2 h hR3 hl5
  have hl4 := y_le.tr hl hl5
  show ex_fine fg rc rs (d + 2, (117, 6, [some (eR a0), some (eI (zI a1)), none, none], [eI (zI v6)]), f :: F, μ2)
  refine w_s (np := 7) (lv' := [some (eR a0), some (eI (zI a1)), some (eI (zI v6)), none]) (st' := []) rfl rfl rfl ?_
  refine w_s (np := 8) (lv' := [some (eR a0), some (eI (zI a1)), some (eI (zI v6)), none]) (st' := [eI (zI v6)]) rfl rfl rfl ?_
  rcases z_if_t h with ⟨g7, h⟩ | ⟨g7, h⟩
  · refine v_lt0_t (t1 := 76) rfl rfl g7 ?_
    exact m_117_76_ok hG hk p0 hK _ M1 μ2 h hR3 hl4
  · refine v_lt0_f (t1 := 76) rfl rfl g7 ?_
    refine w_s (np := 12) (lv' := [some (eR a0), some (eI (zI a1)), some (eI (zI v6)), none]) (st' := [eR a0]) rfl (s_an rfl p0) rfl ?_
    obtain ⟨v8, h, k9, e10⟩ := y_gf_ok (ty := 3) h hR3 (by decide) rfl
    obtain ⟨g11, h⟩ := f_if_ok h
    have q12 : 0 < v8 := Nat.ble_eq.mp g11
    refine v_gf3 (np := 15) rfl rfl k9 e10 ?_
    clear k9 e10
    refine w_s (np := 16) (lv' := [some (eR a0), some (eI (zI a1)), some (eI (zI v6)), none]) (st' := [eI (zI v6), eR v8]) rfl rfl rfl ?_
    obtain ⟨k19, h⟩ := y_is_ok h hR3
    refine w_cv (np := 19) (as := [eI (zI v6)]) (lv' := [some (eR v8), some (eI (zI v6))]) (rest := []) rfl rfl rfl (Nat.ble_eq.mp rfl) rfl rfl rfl k19 rfl ?_
    refine m_19_ok hG h hR3 k19 q12 ?_
    intro v18 M13 μ14 h hR15 hl17
    have hl16 := y_le.tr hl4 hl17
    show ex_fine fg rc rs (d + 2, (117, 19, [some (eR a0), some (eI (zI a1)), some (eI (zI v6)), none], [eI (zI v18)]), f :: F, μ14)
    refine w_s (np := 20) (lv' := [some (eR a0), some (eI (zI a1)), some (eI (zI v6)), none]) (st' := [eR a0, eI (zI v18)]) rfl (s_an rfl p0) rfl ?_
    obtain ⟨v20, h, k21, e22⟩ := y_gf_ok (ty := 3) h hR15 (by decide) rfl
    obtain ⟨g23, h⟩ := f_if_ok h
    have q24 : 0 < v20 := Nat.ble_eq.mp g23
    refine v_gf3 (np := 23) rfl rfl k21 e22 ?_
    clear k21 e22
    refine w_s (np := 24) (lv' := [some (eR a0), some (eI (zI a1)), some (eI (zI v6)), none]) (st' := [eI (zI a1), eR v20, eI (zI v18)]) rfl rfl rfl ?_
    obtain ⟨k31, h⟩ := y_is_ok h hR15
    refine w_cv (np := 27) (as := [eI (zI a1)]) (lv' := [some (eR v20), some (eI (zI a1))]) (rest := [eI (zI v18)]) rfl rfl rfl (Nat.ble_eq.mp rfl) rfl rfl rfl k31 rfl ?_
    refine m_19_ok hG h hR15 k31 q24 ?_
    intro v30 M25 μ26 h hR27 hl29
    have hl28 := y_le.tr hl16 hl29
    show ex_fine fg rc rs (d + 2, (117, 27, [some (eR a0), some (eI (zI a1)), some (eI (zI v6)), none], [eI (zI v30), eI (zI v18)]), f :: F, μ26)
    rcases z_if_t h with ⟨g32, h⟩ | ⟨g32, h⟩
    · refine v_ne_f (t1 := 76) rfl rfl g32 ?_
      refine w_s (np := 31) (lv' := [some (eR a0), some (eI (zI a1)), some (eI (zI v6)), none]) (st' := [eR a0]) rfl (s_an rfl p0) rfl ?_
      obtain ⟨v33, h, k34, e35⟩ := y_gf_ok (ty := 3) h hR27 (by decide) rfl
      obtain ⟨g36, h⟩ := f_if_ok h
      have q37 : 0 < v33 := Nat.ble_eq.mp g36
      refine v_gf3 (np := 34) rfl rfl k34 e35 ?_
      clear k34 e35
      refine w_s (np := 35) (lv' := [some (eR a0), some (eI (zI a1)), some (eI (zI v6)), none]) (st' := [eI (zI v6), eR v33]) rfl rfl rfl ?_
      refine w_s (np := 36) (lv' := [some (eR a0), some (eI (zI a1)), some (eI (zI v6)), none]) (st' := [eI (zI 1), eI (zI v6), eR v33]) rfl rfl rfl ?_
      obtain ⟨k44, h⟩ := y_is_ok h hR27
      refine w_cv (np := 39) (as := [eI (zI v6), eI (zI 1)]) (lv' := [some (eR v33), some (eI (zI v6)), some (eI (zI 1))]) (rest := []) rfl rfl rfl (Nat.ble_eq.mp rfl) rfl rfl rfl k44 rfl ?_
      refine m_21_ok hG h hR27 k44 q37 ?_
      intro v43 M38 μ39 h hR40 hl42
      have hl41 := y_le.tr hl28 hl42
      show ex_fine fg rc rs (d + 2, (117, 39, [some (eR a0), some (eI (zI a1)), some (eI (zI v6)), none], [eI (zI v43)]), f :: F, μ39)
      refine w_s (np := 40) (lv' := [some (eR a0), some (eI (zI a1)), some (eI (zI v6)), none]) (st' := [eR a0, eI (zI v43)]) rfl (s_an rfl p0) rfl ?_
      obtain ⟨v45, h, k46, e47⟩ := y_gf_ok (ty := 3) h hR40 (by decide) rfl
      obtain ⟨g48, h⟩ := f_if_ok h
      have q49 : 0 < v45 := Nat.ble_eq.mp g48
      refine v_gf3 (np := 43) rfl rfl k46 e47 ?_
      clear k46 e47
      refine w_s (np := 44) (lv' := [some (eR a0), some (eI (zI a1)), some (eI (zI v6)), none]) (st' := [eI (zI a1), eR v45, eI (zI v43)]) rfl rfl rfl ?_
      refine w_s (np := 45) (lv' := [some (eR a0), some (eI (zI a1)), some (eI (zI v6)), none]) (st' := [eI (zI 1), eI (zI a1), eR v45, eI (zI v43)]) rfl rfl rfl ?_
      obtain ⟨k56, h⟩ := y_is_ok h hR40
      refine w_cv (np := 48) (as := [eI (zI a1), eI (zI 1)]) (lv' := [some (eR v45), some (eI (zI a1)), some (eI (zI 1))]) (rest := [eI (zI v43)]) rfl rfl rfl (Nat.ble_eq.mp rfl) rfl rfl rfl k56 rfl ?_
      refine m_21_ok hG h hR40 k56 q49 ?_
      intro v55 M50 μ51 h hR52 hl54
      have hl53 := y_le.tr hl41 hl54
      show ex_fine fg rc rs (d + 2, (117, 48, [some (eR a0), some (eI (zI a1)), some (eI (zI v6)), none], [eI (zI v55), eI (zI v43)]), f :: F, μ51)
      rcases z_if_t h with ⟨g57, h⟩ | ⟨g57, h⟩
      · refine v_ne_f (t1 := 76) rfl rfl g57 ?_
        refine w_s (np := 52) (lv' := [some (eR a0), some (eI (zI a1)), some (eI (zI v6)), none]) (st' := [eR a0]) rfl (s_an rfl p0) rfl ?_
        obtain ⟨v58, h, k59, e60⟩ := y_gf_ok (ty := 3) h hR52 (by decide) rfl
        obtain ⟨g61, h⟩ := f_if_ok h
        have q62 : 0 < v58 := Nat.ble_eq.mp g61
        refine v_gf3 (np := 55) rfl rfl k59 e60 ?_
        clear k59 e60
        refine w_s (np := 56) (lv' := [some (eR a0), some (eI (zI a1)), some (eI (zI v6)), none]) (st' := [eI (zI v6), eR v58]) rfl rfl rfl ?_
        refine w_s (np := 57) (lv' := [some (eR a0), some (eI (zI a1)), some (eI (zI v6)), none]) (st' := [eI (zI 2), eI (zI v6), eR v58]) rfl rfl rfl ?_
        obtain ⟨k69, h⟩ := y_is_ok h hR52
        refine w_cv (np := 60) (as := [eI (zI v6), eI (zI 2)]) (lv' := [some (eR v58), some (eI (zI v6)), some (eI (zI 2))]) (rest := []) rfl rfl rfl (Nat.ble_eq.mp rfl) rfl rfl rfl k69 rfl ?_
        refine m_21_ok hG h hR52 k69 q62 ?_
        intro v68 M63 μ64 h hR65 hl67
        have hl66 := y_le.tr hl53 hl67
        show ex_fine fg rc rs (d + 2, (117, 60, [some (eR a0), some (eI (zI a1)), some (eI (zI v6)), none], [eI (zI v68)]), f :: F, μ64)
        refine w_s (np := 61) (lv' := [some (eR a0), some (eI (zI a1)), some (eI (zI v6)), none]) (st' := [eR a0, eI (zI v68)]) rfl (s_an rfl p0) rfl ?_
        obtain ⟨v70, h, k71, e72⟩ := y_gf_ok (ty := 3) h hR65 (by decide) rfl
        obtain ⟨g73, h⟩ := f_if_ok h
        have q74 : 0 < v70 := Nat.ble_eq.mp g73
        refine v_gf3 (np := 64) rfl rfl k71 e72 ?_
        clear k71 e72
        refine w_s (np := 65) (lv' := [some (eR a0), some (eI (zI a1)), some (eI (zI v6)), none]) (st' := [eI (zI a1), eR v70, eI (zI v68)]) rfl rfl rfl ?_
        refine w_s (np := 66) (lv' := [some (eR a0), some (eI (zI a1)), some (eI (zI v6)), none]) (st' := [eI (zI 2), eI (zI a1), eR v70, eI (zI v68)]) rfl rfl rfl ?_
        obtain ⟨k81, h⟩ := y_is_ok h hR65
        refine w_cv (np := 69) (as := [eI (zI a1), eI (zI 2)]) (lv' := [some (eR v70), some (eI (zI a1)), some (eI (zI 2))]) (rest := [eI (zI v68)]) rfl rfl rfl (Nat.ble_eq.mp rfl) rfl rfl rfl k81 rfl ?_
        refine m_21_ok hG h hR65 k81 q74 ?_
        intro v80 M75 μ76 h hR77 hl79
        have hl78 := y_le.tr hl66 hl79
        show ex_fine fg rc rs (d + 2, (117, 69, [some (eR a0), some (eI (zI a1)), some (eI (zI v6)), none], [eI (zI v80), eI (zI v68)]), f :: F, μ76)
        rcases z_if_t h with ⟨g82, h⟩ | ⟨g82, h⟩
        · refine v_ne_f (t1 := 76) rfl rfl g82 ?_
          refine w_s (np := 73) (lv' := [some (eR a0), some (eI (zI a1)), some (eI (zI v6)), none]) (st' := [eI (zI 1)]) rfl rfl rfl ?_
          refine w_go (t1 := 77) rfl rfl ?_
          exact m_117_77_ok hG hk p0 hK _ _ M75 μ76 h hR77 hl78
        · refine v_ne_t (t1 := 76) rfl rfl g82 ?_
          exact m_117_76_ok hG hk p0 hK _ M75 μ76 h hR77 hl78
      · refine v_ne_t (t1 := 76) rfl rfl g57 ?_
        exact m_117_76_ok hG hk p0 hK _ M50 μ51 h hR52 hl53
    · refine v_ne_t (t1 := 76) rfl rfl g32 ?_
      exact m_117_76_ok hG hk p0 hK _ M25 μ26 h hR27 hl28
noncomputable def m_2_169 (a0 : Nat) (K : yM → Bool) (i95 : Nat → yM → Bool) (a1 a2 s0 s1 s2 : Nat) (M : yM) : Bool := y_sa 100 M s2 s1 s0 fun M1 => y_gf M1 a0 0 3 fun v6 => f_if false (Nat.ble 1 v6) (y_lh 100 M1 v6 a1 fun v11 => m_6 a0 v11 M1 fun M13 => z_l (z_add a1 1) fun v18 => z_f v18 fun w19 => i95 w19 M13)
theorem m_2_169_ok {fg : eG} {rc rs d : Nat} {f : eFr} {F : List eFr} {μ0 : eM} {a0 : Nat} {K : yM → Bool} {i95 : Nat → yM → Bool} (hG : yG fg y_T) (hk : ev_kd μ0 a0 = some 0) (p0 : 0 < a0) (hK : ∀ (M : yM) (μ : eM), K M = true → yR M μ → y_le μ0 μ → ex_fine fg rc rs (d + 4, (f.1, f.2.1, f.2.2.1, f.2.2.2), F, μ)) (h95 : ∀ (a1 : Nat) (x2 : Option eV) (M : yM) (μ : eM), i95 a1 M = true → yR M μ → y_le μ0 μ → ex_fine fg rc rs (d + 3, (2, 95, [some (eR a0), some (eI (zI a1)), x2], []), f :: F, μ)) : ∀ (a1 a2 s0 s1 s2 : Nat) (M : yM) (μ : eM), m_2_169 a0 K i95 a1 a2 s0 s1 s2 M = true → yR M μ → y_le μ0 μ → 0 < s2 → ex_fine fg rc rs (d + 3, (2, 169, [some (eR a0), some (eI (zI a1)), some (eI (zI a2))], [eI (zI s0), eI (zI s1), eR s2]), f :: F, μ) := by
  intro a1 a2 s0 s1 s2 M μ h hR hl q2
  unfold m_2_169 at h
  obtain ⟨M1, μ2, h, k5, hR3, hl4⟩ := y_sa_ex (ty := 0) h hR hl rfl (by decide)
  refine v_sa (np := 170) rfl rfl k5 ?_
  clear k5
  refine w_s (np := 171) (lv' := [some (eR a0), some (eI (zI a1)), some (eI (zI a2))]) (st' := [eR a0]) rfl (s_an rfl p0) rfl ?_
  refine w_s (np := 172) (lv' := [some (eR a0), some (eI (zI a1)), some (eI (zI a2))]) (st' := [eR a0, eR a0]) rfl (s_an rfl p0) rfl ?_
  obtain ⟨v6, h, k7, e8⟩ := y_gf_ok (ty := 3) h hR3 (by decide) rfl
  obtain ⟨g9, h⟩ := f_if_ok h
  have q10 : 0 < v6 := Nat.ble_eq.mp g9
  refine v_gf3 (np := 175) rfl rfl k7 e8 ?_
  clear k7 e8
  refine w_s (np := 176) (lv' := [some (eR a0), some (eI (zI a1)), some (eI (zI a2))]) (st' := [eI (zI a1), eR v6, eR a0]) rfl rfl rfl ?_
  obtain ⟨v11, h, k12⟩ := y_lh_ok (ty := 0) h hR3 hG (by decide) rfl (by decide)
  refine v_la (np := 177) rfl rfl k12 ?_
  clear k12
  refine w_cv (np := 180) (as := [eI (zI v11)]) (lv' := [some (eR a0), some (eI (zI v11)), none, none]) (rest := []) rfl rfl rfl (Nat.ble_eq.mp rfl) rfl rfl rfl (hl4 _ _ hk) rfl ?_
  refine m_6_ok hG h hR3 (hl4 _ _ hk) p0 ?_
  intro M13 μ14 h hR15 hl17
  have hl16 := y_le.tr hl4 hl17
  show ex_fine fg rc rs (d + 3, (2, 180, [some (eR a0), some (eI (zI a1)), some (eI (zI a2))], []), f :: F, μ14)
  obtain ⟨v18, ev18, h⟩ := z_l_ex h
  refine w_s (np := 183) (lv' := [some (eR a0), some (eI (zI v18)), some (eI (zI a2))]) (st' := []) rfl (s_iinc (b := 1) rfl rfl ev18 rfl) rfl ?_
  clear ev18
  refine w_go (t1 := 95) rfl rfl ?_
  obtain ⟨w19, ew19, h⟩ := z_f_ex h
  subst ew19
  exact h95 _ _ M13 μ14 h hR15 hl16
noncomputable def m_2_168 (a0 : Nat) (K : yM → Bool) (i95 : Nat → yM → Bool) (a1 a2 s0 s1 : Nat) (M : yM) : Bool := m_2_169 a0 K i95 a1 a2 4294967295 s0 s1 M
theorem m_2_168_ok {fg : eG} {rc rs d : Nat} {f : eFr} {F : List eFr} {μ0 : eM} {a0 : Nat} {K : yM → Bool} {i95 : Nat → yM → Bool} (hG : yG fg y_T) (hk : ev_kd μ0 a0 = some 0) (p0 : 0 < a0) (hK : ∀ (M : yM) (μ : eM), K M = true → yR M μ → y_le μ0 μ → ex_fine fg rc rs (d + 4, (f.1, f.2.1, f.2.2.1, f.2.2.2), F, μ)) (h95 : ∀ (a1 : Nat) (x2 : Option eV) (M : yM) (μ : eM), i95 a1 M = true → yR M μ → y_le μ0 μ → ex_fine fg rc rs (d + 3, (2, 95, [some (eR a0), some (eI (zI a1)), x2], []), f :: F, μ)) : ∀ (a1 a2 s0 s1 : Nat) (M : yM) (μ : eM), m_2_168 a0 K i95 a1 a2 s0 s1 M = true → yR M μ → y_le μ0 μ → 0 < s1 → ex_fine fg rc rs (d + 3, (2, 168, [some (eR a0), some (eI (zI a1)), some (eI (zI a2))], [eI (zI s0), eR s1]), f :: F, μ) := by
  intro a1 a2 s0 s1 M μ h hR hl q1
  unfold m_2_168 at h
  refine w_s (np := 169) (lv' := [some (eR a0), some (eI (zI a1)), some (eI (zI a2))]) (st' := [eI (zI 4294967295), eI (zI s0), eR s1]) rfl rfl rfl ?_
  exact m_2_169_ok hG hk p0 hK h95 _ _ _ _ _ M μ h hR hl q1
noncomputable def m_2_134 (a0 : Nat) (K : yM → Bool) (i95 : Nat → yM → Bool) (a1 a2 s0 s1 s2 : Nat) (M : yM) : Bool := z_l (z_add s1 s0) fun v1 => y_wf M s2 0 8 v1 fun M2 => y_gf M2 a0 0 3 fun v8 => f_if false (Nat.ble 1 v8) (z_if (z_e0 a2) (m_2_168 a0 K i95 a1 a2 a1 v8 M2) (y_gf M2 a0 0 2 fun v14 => f_if false (Nat.ble 1 v14) (y_lh 103 M2 v14 a1 fun v19 => z_if (z_e0 v19) (y_gf M2 a0 0 1 fun v22 => f_if false (Nat.ble 1 v22) (y_lh 101 M2 v22 a1 fun v27 => m_5 v27 M2 fun v34 M29 => m_2_169 a0 K i95 a1 a2 v34 a1 v8 M29)) (m_2_168 a0 K i95 a1 a2 a1 v8 M2))))
theorem m_2_134_ok {fg : eG} {rc rs d : Nat} {f : eFr} {F : List eFr} {μ0 : eM} {a0 : Nat} {K : yM → Bool} {i95 : Nat → yM → Bool} (hG : yG fg y_T) (hk : ev_kd μ0 a0 = some 0) (p0 : 0 < a0) (hK : ∀ (M : yM) (μ : eM), K M = true → yR M μ → y_le μ0 μ → ex_fine fg rc rs (d + 4, (f.1, f.2.1, f.2.2.1, f.2.2.2), F, μ)) (h95 : ∀ (a1 : Nat) (x2 : Option eV) (M : yM) (μ : eM), i95 a1 M = true → yR M μ → y_le μ0 μ → ex_fine fg rc rs (d + 3, (2, 95, [some (eR a0), some (eI (zI a1)), x2], []), f :: F, μ)) : ∀ (a1 a2 s0 s1 s2 : Nat) (M : yM) (μ : eM), m_2_134 a0 K i95 a1 a2 s0 s1 s2 M = true → yR M μ → y_le μ0 μ → 0 < s2 → ex_fine fg rc rs (d + 3, (2, 134, [some (eR a0), some (eI (zI a1)), some (eI (zI a2))], [eI (zI s0), eI (zI s1), eR s2]), f :: F, μ) := by
  intro a1 a2 s0 s1 s2 M μ h hR hl q2
  unfold m_2_134 at h
  obtain ⟨v1, ev1, h⟩ := z_l_ex h
  refine w_s (np := 135) (lv' := [some (eR a0), some (eI (zI a1)), some (eI (zI a2))]) (st' := [eI (zI v1), eR s2]) rfl (s_iadd ev1) rfl ?_
  clear ev1
  obtain ⟨M2, μ3, h, k6, hR4, hl5, e7⟩ := y_wf_ex (ty := 0) h hR hl rfl (by decide)
  refine v_pe0 (np := 138) rfl rfl k6 e7 ?_
  clear k6 e7
  refine w_s (np := 139) (lv' := [some (eR a0), some (eI (zI a1)), some (eI (zI a2))]) (st' := [eR a0]) rfl (s_an rfl p0) rfl ?_
  obtain ⟨v8, h, k9, e10⟩ := y_gf_ok (ty := 3) h hR4 (by decide) rfl
  obtain ⟨g11, h⟩ := f_if_ok h
  have q12 : 0 < v8 := Nat.ble_eq.mp g11
  refine v_gf3 (np := 142) rfl rfl k9 e10 ?_
  clear k9 e10
  refine w_s (np := 143) (lv' := [some (eR a0), some (eI (zI a1)), some (eI (zI a2))]) (st' := [eI (zI a1), eR v8]) rfl rfl rfl ?_
  refine w_s (np := 144) (lv' := [some (eR a0), some (eI (zI a1)), some (eI (zI a2))]) (st' := [eI (zI a2), eI (zI a1), eR v8]) rfl rfl rfl ?_
  rcases z_if_t h with ⟨g13, h⟩ | ⟨g13, h⟩
  · refine v_eq0_t (t1 := 168) rfl rfl g13 ?_
    exact m_2_168_ok hG hk p0 hK h95 _ _ _ _ M2 μ3 h hR4 hl5 q12
  · refine v_eq0_f (t1 := 168) rfl rfl g13 ?_
    refine w_s (np := 148) (lv' := [some (eR a0), some (eI (zI a1)), some (eI (zI a2))]) (st' := [eR a0, eI (zI a1), eR v8]) rfl (s_an rfl p0) rfl ?_
    obtain ⟨v14, h, k15, e16⟩ := y_gf_ok (ty := 3) h hR4 (by decide) rfl
    obtain ⟨g17, h⟩ := f_if_ok h
    have q18 : 0 < v14 := Nat.ble_eq.mp g17
    refine v_gf3 (np := 151) rfl rfl k15 e16 ?_
    clear k15 e16
    refine w_s (np := 152) (lv' := [some (eR a0), some (eI (zI a1)), some (eI (zI a2))]) (st' := [eI (zI a1), eR v14, eI (zI a1), eR v8]) rfl rfl rfl ?_
    obtain ⟨v19, h, k20⟩ := y_lh_ok (ty := 0) h hR4 hG (by decide) rfl (by decide)
    refine v_bl3 (np := 153) rfl rfl k20 ?_
    clear k20
    rcases z_if_t h with ⟨g21, h⟩ | ⟨g21, h⟩
    · refine v_ne0_f (t1 := 168) rfl rfl g21 ?_
      refine w_s (np := 157) (lv' := [some (eR a0), some (eI (zI a1)), some (eI (zI a2))]) (st' := [eR a0, eI (zI a1), eR v8]) rfl (s_an rfl p0) rfl ?_
      obtain ⟨v22, h, k23, e24⟩ := y_gf_ok (ty := 3) h hR4 (by decide) rfl
      obtain ⟨g25, h⟩ := f_if_ok h
      have q26 : 0 < v22 := Nat.ble_eq.mp g25
      refine v_gf3 (np := 160) rfl rfl k23 e24 ?_
      clear k23 e24
      refine w_s (np := 161) (lv' := [some (eR a0), some (eI (zI a1)), some (eI (zI a2))]) (st' := [eI (zI a1), eR v22, eI (zI a1), eR v8]) rfl rfl rfl ?_
      obtain ⟨v27, h, k28⟩ := y_lh_ok (ty := 2) h hR4 hG (by decide) rfl (by decide)
      refine v_ll (np := 162) rfl rfl k28 ?_
      clear k28
      refine w_cs (np := 165) (as := [eJ (zJ v27)]) (lv' := [some (eJ (zJ v27)), none, none, none, none, none, none]) (rest := [eI (zI a1), eR v8]) rfl rfl rfl (Nat.ble_eq.mp rfl) rfl rfl rfl rfl ?_
      refine m_5_ok hG h hR4 ?_
      intro v34 M29 μ30 h hR31 hl33
      have hl32 := y_le.tr hl5 hl33
      show ex_fine fg rc rs (d + 3, (2, 165, [some (eR a0), some (eI (zI a1)), some (eI (zI a2))], [eI (zI v34), eI (zI a1), eR v8]), f :: F, μ30)
      refine w_go (t1 := 169) rfl rfl ?_
      exact m_2_169_ok hG hk p0 hK h95 _ _ _ _ _ M29 μ30 h hR31 hl32 q12
    · refine v_ne0_t (t1 := 168) rfl rfl g21 ?_
      exact m_2_168_ok hG hk p0 hK h95 _ _ _ _ M2 μ3 h hR4 hl5 q12
noncomputable def m_2_119 (a0 : Nat) (K : yM → Bool) (i95 : Nat → yM → Bool) (a1 s0 : Nat) (M : yM) : Bool := y_gf M a0 0 8 fun v1 => z_if (z_e0 s0) (m_2_134 a0 K i95 a1 s0 0 v1 a0 M) (m_2_134 a0 K i95 a1 s0 1 v1 a0 M)
theorem m_2_119_ok {fg : eG} {rc rs d : Nat} {f : eFr} {F : List eFr} {μ0 : eM} {a0 : Nat} {K : yM → Bool} {i95 : Nat → yM → Bool} (hG : yG fg y_T) (hk : ev_kd μ0 a0 = some 0) (p0 : 0 < a0) (hK : ∀ (M : yM) (μ : eM), K M = true → yR M μ → y_le μ0 μ → ex_fine fg rc rs (d + 4, (f.1, f.2.1, f.2.2.1, f.2.2.2), F, μ)) (h95 : ∀ (a1 : Nat) (x2 : Option eV) (M : yM) (μ : eM), i95 a1 M = true → yR M μ → y_le μ0 μ → ex_fine fg rc rs (d + 3, (2, 95, [some (eR a0), some (eI (zI a1)), x2], []), f :: F, μ)) : ∀ (a1 s0 : Nat) (x2 : Option eV) (M : yM) (μ : eM), m_2_119 a0 K i95 a1 s0 M = true → yR M μ → y_le μ0 μ → ex_fine fg rc rs (d + 3, (2, 119, [some (eR a0), some (eI (zI a1)), x2], [eI (zI s0)]), f :: F, μ) := by
  intro a1 s0 x2 M μ h hR hl
  unfold m_2_119 at h
  refine w_s (np := 120) (lv' := [some (eR a0), some (eI (zI a1)), some (eI (zI s0))]) (st' := []) rfl rfl rfl ?_
  refine w_s (np := 121) (lv' := [some (eR a0), some (eI (zI a1)), some (eI (zI s0))]) (st' := [eR a0]) rfl (s_an rfl p0) rfl ?_
  refine w_s (np := 122) (lv' := [some (eR a0), some (eI (zI a1)), some (eI (zI s0))]) (st' := [eR a0, eR a0]) rfl rfl rfl ?_
  obtain ⟨v1, h, k2, e3⟩ := y_gf_ok (ty := 0) h hR (by decide) rfl
  refine v_gf0 (np := 125) rfl rfl k2 e3 ?_
  clear k2 e3
  refine w_s (np := 126) (lv' := [some (eR a0), some (eI (zI a1)), some (eI (zI s0))]) (st' := [eI (zI s0), eI (zI v1), eR a0]) rfl rfl rfl ?_
  rcases z_if_t h with ⟨g4, h⟩ | ⟨g4, h⟩
  · refine v_eq0_t (t1 := 133) rfl rfl g4 ?_
    refine w_s (np := 134) (lv' := [some (eR a0), some (eI (zI a1)), some (eI (zI s0))]) (st' := [eI (zI 0), eI (zI v1), eR a0]) rfl rfl rfl ?_
    exact m_2_134_ok hG hk p0 hK h95 _ _ _ _ _ M μ h hR hl p0
  · refine v_eq0_f (t1 := 133) rfl rfl g4 ?_
    refine w_s (np := 130) (lv' := [some (eR a0), some (eI (zI a1)), some (eI (zI s0))]) (st' := [eI (zI 1), eI (zI v1), eR a0]) rfl rfl rfl ?_
    refine w_go (t1 := 134) rfl rfl ?_
    exact m_2_134_ok hG hk p0 hK h95 _ _ _ _ _ M μ h hR hl p0
noncomputable def m_2_95b (a0 : Nat) (K : yM → Bool) (i95 : Nat → yM → Bool) (a1 : Nat) (M : yM) : Bool := y_gf M a0 0 7 fun v1 => z_if (z_lt a1 v1) (y_gf M a0 0 0 fun v5 => f_if false (Nat.ble 1 v5) (y_lh 100 M v5 a1 fun v10 => z_if (z_eq v10 10) (m_2_119 a0 K i95 a1 1 M) (m_2_119 a0 K i95 a1 0 M))) (K M)
noncomputable def m_2_95 (a0 : Nat) (K : yM → Bool) (n : Nat) : Nat → yM → Bool := @Nat.rec (fun _ => Nat → yM → Bool) (fun _ _ => false) (fun _ ih => m_2_95b a0 K ih) n
theorem m_2_95b_ok {fg : eG} {rc rs d : Nat} {f : eFr} {F : List eFr} {μ0 : eM} {a0 : Nat} {K : yM → Bool} {i95 : Nat → yM → Bool} (hG : yG fg y_T) (hk : ev_kd μ0 a0 = some 0) (p0 : 0 < a0) (hK : ∀ (M : yM) (μ : eM), K M = true → yR M μ → y_le μ0 μ → ex_fine fg rc rs (d + 4, (f.1, f.2.1, f.2.2.1, f.2.2.2), F, μ)) (h95 : ∀ (a1 : Nat) (x2 : Option eV) (M : yM) (μ : eM), i95 a1 M = true → yR M μ → y_le μ0 μ → ex_fine fg rc rs (d + 3, (2, 95, [some (eR a0), some (eI (zI a1)), x2], []), f :: F, μ)) : ∀ (a1 : Nat) (x2 : Option eV) (M : yM) (μ : eM), m_2_95b a0 K i95 a1 M = true → yR M μ → y_le μ0 μ → ex_fine fg rc rs (d + 3, (2, 95, [some (eR a0), some (eI (zI a1)), x2], []), f :: F, μ) := by
  intro a1 x2 M μ h hR hl
  unfold m_2_95b at h
  refine w_s (np := 96) (lv' := [some (eR a0), some (eI (zI a1)), x2]) (st' := [eI (zI a1)]) rfl rfl rfl ?_
  refine w_s (np := 97) (lv' := [some (eR a0), some (eI (zI a1)), x2]) (st' := [eR a0, eI (zI a1)]) rfl (s_an rfl p0) rfl ?_
  obtain ⟨v1, h, k2, e3⟩ := y_gf_ok (ty := 0) h hR (by decide) rfl
  refine v_gf0 (np := 100) rfl rfl k2 e3 ?_
  clear k2 e3
  rcases z_if_t h with ⟨g4, h⟩ | ⟨g4, h⟩
  · refine v_ge_f (t1 := 186) rfl rfl g4 ?_
    refine w_s (np := 104) (lv' := [some (eR a0), some (eI (zI a1)), x2]) (st' := [eR a0]) rfl (s_an rfl p0) rfl ?_
    obtain ⟨v5, h, k6, e7⟩ := y_gf_ok (ty := 3) h hR (by decide) rfl
    obtain ⟨g8, h⟩ := f_if_ok h
    have q9 : 0 < v5 := Nat.ble_eq.mp g8
    refine v_gf3 (np := 107) rfl rfl k6 e7 ?_
    clear k6 e7
    refine w_s (np := 108) (lv' := [some (eR a0), some (eI (zI a1)), x2]) (st' := [eI (zI a1), eR v5]) rfl rfl rfl ?_
    obtain ⟨v10, h, k11⟩ := y_lh_ok (ty := 0) h hR hG (by decide) rfl (by decide)
    refine v_la (np := 109) rfl rfl k11 ?_
    clear k11
    refine w_s (np := 111) (lv' := [some (eR a0), some (eI (zI a1)), x2]) (st' := [eI (zI 10), eI (zI v10)]) rfl rfl rfl ?_
    rcases z_if_t h with ⟨g12, h⟩ | ⟨g12, h⟩
    · refine v_ne_f (t1 := 118) rfl rfl g12 ?_
      refine w_s (np := 115) (lv' := [some (eR a0), some (eI (zI a1)), x2]) (st' := [eI (zI 1)]) rfl rfl rfl ?_
      refine w_go (t1 := 119) rfl rfl ?_
      exact m_2_119_ok hG hk p0 hK h95 _ _ _ M μ h hR hl
    · refine v_ne_t (t1 := 118) rfl rfl g12 ?_
      refine w_s (np := 119) (lv' := [some (eR a0), some (eI (zI a1)), x2]) (st' := [eI (zI 0)]) rfl rfl rfl ?_
      exact m_2_119_ok hG hk p0 hK h95 _ _ _ M μ h hR hl
  · refine v_ge_t (t1 := 186) rfl rfl g4 ?_
    exact v_rv rfl rfl (hK _ _ h hR hl)
theorem m_2_95_ok {fg : eG} {rc rs d : Nat} {f : eFr} {F : List eFr} {μ0 : eM} {a0 : Nat} {K : yM → Bool} (hG : yG fg y_T) (hk : ev_kd μ0 a0 = some 0) (p0 : 0 < a0) (hK : ∀ (M : yM) (μ : eM), K M = true → yR M μ → y_le μ0 μ → ex_fine fg rc rs (d + 4, (f.1, f.2.1, f.2.2.1, f.2.2.2), F, μ)) : ∀ n : Nat, ∀ (a1 : Nat) (x2 : Option eV) (M : yM) (μ : eM), m_2_95 a0 K n a1 M = true → yR M μ → y_le μ0 μ → ex_fine fg rc rs (d + 3, (2, 95, [some (eR a0), some (eI (zI a1)), x2], []), f :: F, μ) := by
  intro n
  induction n with
  | zero =>
    intro a1 x2 M μ h hR hl
    exact absurd h Bool.false_ne_true
  | succ n ih =>
    intro a1 x2 M μ h hR hl
    exact m_2_95b_ok hG hk p0 hK ih a1 x2 M μ h hR hl
noncomputable def m_2_63b (a0 : Nat) (K : yM → Bool) (i63 : Nat → yM → Bool) (a1 : Nat) (M : yM) : Bool := y_gf M a0 0 5 fun v1 => f_if false (Nat.ble 1 v1) (y_gf M v1 2 7 fun v6 => z_if (z_lt a1 v6) (y_gf M a0 0 6 fun v10 => f_if false (Nat.ble 1 v10) (y_is M v10 8 (m_117 v10 a1 M fun v20 M15 => m_3 a0 a1 v20 M15 fun M22 => z_l (z_add a1 1) fun v27 => z_f v27 fun w28 => i63 w28 M22))) (m_2_95 a0 K 100000 0 M))
noncomputable def m_2_63 (a0 : Nat) (K : yM → Bool) (n : Nat) : Nat → yM → Bool := @Nat.rec (fun _ => Nat → yM → Bool) (fun _ _ => false) (fun _ ih => m_2_63b a0 K ih) n
theorem m_2_63b_ok {fg : eG} {rc rs d : Nat} {f : eFr} {F : List eFr} {μ0 : eM} {a0 : Nat} {K : yM → Bool} {i63 : Nat → yM → Bool} (hG : yG fg y_T) (hk : ev_kd μ0 a0 = some 0) (p0 : 0 < a0) (hK : ∀ (M : yM) (μ : eM), K M = true → yR M μ → y_le μ0 μ → ex_fine fg rc rs (d + 4, (f.1, f.2.1, f.2.2.1, f.2.2.2), F, μ)) (h63 : ∀ (a1 : Nat) (M : yM) (μ : eM), i63 a1 M = true → yR M μ → y_le μ0 μ → ex_fine fg rc rs (d + 3, (2, 63, [some (eR a0), some (eI (zI a1)), none], []), f :: F, μ)) : ∀ (a1 : Nat) (M : yM) (μ : eM), m_2_63b a0 K i63 a1 M = true → yR M μ → y_le μ0 μ → ex_fine fg rc rs (d + 3, (2, 63, [some (eR a0), some (eI (zI a1)), none], []), f :: F, μ) := by
  intro a1 M μ h hR hl
  unfold m_2_63b at h
  refine w_s (np := 64) (lv' := [some (eR a0), some (eI (zI a1)), none]) (st' := [eI (zI a1)]) rfl rfl rfl ?_
  refine w_s (np := 65) (lv' := [some (eR a0), some (eI (zI a1)), none]) (st' := [eR a0, eI (zI a1)]) rfl (s_an rfl p0) rfl ?_
  obtain ⟨v1, h, k2, e3⟩ := y_gf_ok (ty := 3) h hR (by decide) rfl
  obtain ⟨g4, h⟩ := f_if_ok h
  have q5 : 0 < v1 := Nat.ble_eq.mp g4
  refine v_gf3 (np := 68) rfl rfl k2 e3 ?_
  clear k2 e3
  obtain ⟨v6, h, k7, e8⟩ := y_gf_ok (ty := 0) h hR (by decide) rfl
  refine v_gf0 (np := 71) rfl rfl k7 e8 ?_
  clear k7 e8
  rcases z_if_t h with ⟨g9, h⟩ | ⟨g9, h⟩
  · refine v_ge_f (t1 := 93) rfl rfl g9 ?_
    refine w_s (np := 75) (lv' := [some (eR a0), some (eI (zI a1)), none]) (st' := [eR a0]) rfl (s_an rfl p0) rfl ?_
    refine w_s (np := 76) (lv' := [some (eR a0), some (eI (zI a1)), none]) (st' := [eI (zI a1), eR a0]) rfl rfl rfl ?_
    refine w_s (np := 77) (lv' := [some (eR a0), some (eI (zI a1)), none]) (st' := [eR a0, eI (zI a1), eR a0]) rfl (s_an rfl p0) rfl ?_
    obtain ⟨v10, h, k11, e12⟩ := y_gf_ok (ty := 3) h hR (by decide) rfl
    obtain ⟨g13, h⟩ := f_if_ok h
    have q14 : 0 < v10 := Nat.ble_eq.mp g13
    refine v_gf3 (np := 80) rfl rfl k11 e12 ?_
    clear k11 e12
    refine w_s (np := 81) (lv' := [some (eR a0), some (eI (zI a1)), none]) (st' := [eI (zI a1), eR v10, eI (zI a1), eR a0]) rfl rfl rfl ?_
    obtain ⟨k21, h⟩ := y_is_ok h hR
    refine w_cv (np := 84) (as := [eI (zI a1)]) (lv' := [some (eR v10), some (eI (zI a1)), none, none]) (rest := [eI (zI a1), eR a0]) rfl rfl rfl (Nat.ble_eq.mp rfl) rfl rfl rfl k21 rfl ?_
    refine m_117_ok hG h hR k21 q14 ?_
    intro v20 M15 μ16 h hR17 hl19
    have hl18 := y_le.tr hl hl19
    show ex_fine fg rc rs (d + 3, (2, 84, [some (eR a0), some (eI (zI a1)), none], [eI (zI v20), eI (zI a1), eR a0]), f :: F, μ16)
    refine w_cv (np := 87) (as := [eI (zI a1), eI (zI v20)]) (lv' := [some (eR a0), some (eI (zI a1)), some (eI (zI v20)), none, none, none, none, none]) (rest := []) rfl rfl rfl (Nat.ble_eq.mp rfl) rfl rfl rfl (hl18 _ _ hk) rfl ?_
    refine m_3_ok hG h hR17 (hl18 _ _ hk) p0 ?_
    intro M22 μ23 h hR24 hl26
    have hl25 := y_le.tr hl18 hl26
    show ex_fine fg rc rs (d + 3, (2, 87, [some (eR a0), some (eI (zI a1)), none], []), f :: F, μ23)
    obtain ⟨v27, ev27, h⟩ := z_l_ex h
    refine w_s (np := 90) (lv' := [some (eR a0), some (eI (zI v27)), none]) (st' := []) rfl (s_iinc (b := 1) rfl rfl ev27 rfl) rfl ?_
    clear ev27
    refine w_go (t1 := 63) rfl rfl ?_
    obtain ⟨w28, ew28, h⟩ := z_f_ex h
    subst ew28
    exact h63 _ M22 μ23 h hR24 hl25
  · refine v_ge_t (t1 := 93) rfl rfl g9 ?_
    refine w_s (np := 94) (lv' := [some (eR a0), some (eI (zI a1)), none]) (st' := [eI (zI 0)]) rfl rfl rfl ?_
    refine w_s (np := 95) (lv' := [some (eR a0), some (eI (zI 0)), none]) (st' := []) rfl rfl rfl ?_
    exact m_2_95_ok hG hk p0 hK 100000 _ _ M μ h hR hl
theorem m_2_63_ok {fg : eG} {rc rs d : Nat} {f : eFr} {F : List eFr} {μ0 : eM} {a0 : Nat} {K : yM → Bool} (hG : yG fg y_T) (hk : ev_kd μ0 a0 = some 0) (p0 : 0 < a0) (hK : ∀ (M : yM) (μ : eM), K M = true → yR M μ → y_le μ0 μ → ex_fine fg rc rs (d + 4, (f.1, f.2.1, f.2.2.1, f.2.2.2), F, μ)) : ∀ n : Nat, ∀ (a1 : Nat) (M : yM) (μ : eM), m_2_63 a0 K n a1 M = true → yR M μ → y_le μ0 μ → ex_fine fg rc rs (d + 3, (2, 63, [some (eR a0), some (eI (zI a1)), none], []), f :: F, μ) := by
  intro n
  induction n with
  | zero =>
    intro a1 M μ h hR hl
    exact absurd h Bool.false_ne_true
  | succ n ih =>
    intro a1 M μ h hR hl
    exact m_2_63b_ok hG hk p0 hK ih a1 M μ h hR hl
noncomputable def m_2_26b (a0 : Nat) (K : yM → Bool) (i26 : Nat → yM → Bool) (a1 : Nat) (M : yM) : Bool := y_gf M a0 0 7 fun v1 => z_if (z_lt a1 v1) (y_gf M a0 0 0 fun v5 => f_if false (Nat.ble 1 v5) (y_sa 100 M v5 a1 0 fun M10 => y_gf M10 a0 0 1 fun v15 => f_if false (Nat.ble 1 v15) (y_sa 101 M10 v15 a1 0 fun M20 => y_gf M20 a0 0 2 fun v25 => f_if false (Nat.ble 1 v25) (f_if false (Nat.ble 0 1) (y_sa 103 M20 v25 a1 0 fun M30 => z_l (z_add a1 1) fun v36 => z_f v36 fun w37 => i26 w37 M30))))) (m_2_63 a0 K 100000 0 M)
noncomputable def m_2_26 (a0 : Nat) (K : yM → Bool) (n : Nat) : Nat → yM → Bool := @Nat.rec (fun _ => Nat → yM → Bool) (fun _ _ => false) (fun _ ih => m_2_26b a0 K ih) n
theorem m_2_26b_ok {fg : eG} {rc rs d : Nat} {f : eFr} {F : List eFr} {μ0 : eM} {a0 : Nat} {K : yM → Bool} {i26 : Nat → yM → Bool} (hG : yG fg y_T) (hk : ev_kd μ0 a0 = some 0) (p0 : 0 < a0) (hK : ∀ (M : yM) (μ : eM), K M = true → yR M μ → y_le μ0 μ → ex_fine fg rc rs (d + 4, (f.1, f.2.1, f.2.2.1, f.2.2.2), F, μ)) (h26 : ∀ (a1 : Nat) (M : yM) (μ : eM), i26 a1 M = true → yR M μ → y_le μ0 μ → ex_fine fg rc rs (d + 3, (2, 26, [some (eR a0), some (eI (zI a1)), none], []), f :: F, μ)) : ∀ (a1 : Nat) (M : yM) (μ : eM), m_2_26b a0 K i26 a1 M = true → yR M μ → y_le μ0 μ → ex_fine fg rc rs (d + 3, (2, 26, [some (eR a0), some (eI (zI a1)), none], []), f :: F, μ) := by
  intro a1 M μ h hR hl
  unfold m_2_26b at h
  refine w_s (np := 27) (lv' := [some (eR a0), some (eI (zI a1)), none]) (st' := [eI (zI a1)]) rfl rfl rfl ?_
  refine w_s (np := 28) (lv' := [some (eR a0), some (eI (zI a1)), none]) (st' := [eR a0, eI (zI a1)]) rfl (s_an rfl p0) rfl ?_
  obtain ⟨v1, h, k2, e3⟩ := y_gf_ok (ty := 0) h hR (by decide) rfl
  refine v_gf0 (np := 31) rfl rfl k2 e3 ?_
  clear k2 e3
  rcases z_if_t h with ⟨g4, h⟩ | ⟨g4, h⟩
  · refine v_ge_f (t1 := 61) rfl rfl g4 ?_
    refine w_s (np := 35) (lv' := [some (eR a0), some (eI (zI a1)), none]) (st' := [eR a0]) rfl (s_an rfl p0) rfl ?_
    obtain ⟨v5, h, k6, e7⟩ := y_gf_ok (ty := 3) h hR (by decide) rfl
    obtain ⟨g8, h⟩ := f_if_ok h
    have q9 : 0 < v5 := Nat.ble_eq.mp g8
    refine v_gf3 (np := 38) rfl rfl k6 e7 ?_
    clear k6 e7
    refine w_s (np := 39) (lv' := [some (eR a0), some (eI (zI a1)), none]) (st' := [eI (zI a1), eR v5]) rfl rfl rfl ?_
    refine w_s (np := 40) (lv' := [some (eR a0), some (eI (zI a1)), none]) (st' := [eI (zI 0), eI (zI a1), eR v5]) rfl rfl rfl ?_
    obtain ⟨M10, μ11, h, k14, hR12, hl13⟩ := y_sa_ex (ty := 0) h hR hl rfl (by decide)
    refine v_sa (np := 41) rfl rfl k14 ?_
    clear k14
    refine w_s (np := 42) (lv' := [some (eR a0), some (eI (zI a1)), none]) (st' := [eR a0]) rfl (s_an rfl p0) rfl ?_
    obtain ⟨v15, h, k16, e17⟩ := y_gf_ok (ty := 3) h hR12 (by decide) rfl
    obtain ⟨g18, h⟩ := f_if_ok h
    have q19 : 0 < v15 := Nat.ble_eq.mp g18
    refine v_gf3 (np := 45) rfl rfl k16 e17 ?_
    clear k16 e17
    refine w_s (np := 46) (lv' := [some (eR a0), some (eI (zI a1)), none]) (st' := [eI (zI a1), eR v15]) rfl rfl rfl ?_
    refine w_s (np := 47) (lv' := [some (eR a0), some (eI (zI a1)), none]) (st' := [eJ (zJ 0), eI (zI a1), eR v15]) rfl rfl rfl ?_
    obtain ⟨M20, μ21, h, k24, hR22, hl23⟩ := y_sa_ex (ty := 2) h hR12 hl13 rfl (by decide)
    refine v_sl (np := 48) rfl rfl k24 ?_
    clear k24
    refine w_s (np := 49) (lv' := [some (eR a0), some (eI (zI a1)), none]) (st' := [eR a0]) rfl (s_an rfl p0) rfl ?_
    obtain ⟨v25, h, k26, e27⟩ := y_gf_ok (ty := 3) h hR22 (by decide) rfl
    obtain ⟨g28, h⟩ := f_if_ok h
    have q29 : 0 < v25 := Nat.ble_eq.mp g28
    refine v_gf3 (np := 52) rfl rfl k26 e27 ?_
    clear k26 e27
    refine w_s (np := 53) (lv' := [some (eR a0), some (eI (zI a1)), none]) (st' := [eI (zI a1), eR v25]) rfl rfl rfl ?_
    refine w_s (np := 54) (lv' := [some (eR a0), some (eI (zI a1)), none]) (st' := [eI (zI 0), eI (zI a1), eR v25]) rfl rfl rfl ?_
    obtain ⟨g35, h⟩ := f_if_ok h
    obtain ⟨M30, μ31, h, k34, hR32, hl33⟩ := y_sa_ex (ty := 0) h hR22 hl23 rfl (by decide)
    refine v_sb3 (np := 55) rfl rfl g35 k34 ?_
    clear k34
    obtain ⟨v36, ev36, h⟩ := z_l_ex h
    refine w_s (np := 58) (lv' := [some (eR a0), some (eI (zI v36)), none]) (st' := []) rfl (s_iinc (b := 1) rfl rfl ev36 rfl) rfl ?_
    clear ev36
    refine w_go (t1 := 26) rfl rfl ?_
    obtain ⟨w37, ew37, h⟩ := z_f_ex h
    subst ew37
    exact h26 _ M30 μ31 h hR32 hl33
  · refine v_ge_t (t1 := 61) rfl rfl g4 ?_
    refine w_s (np := 62) (lv' := [some (eR a0), some (eI (zI a1)), none]) (st' := [eI (zI 0)]) rfl rfl rfl ?_
    refine w_s (np := 63) (lv' := [some (eR a0), some (eI (zI 0)), none]) (st' := []) rfl rfl rfl ?_
    exact m_2_63_ok hG hk p0 hK 100000 _ M μ h hR hl
theorem m_2_26_ok {fg : eG} {rc rs d : Nat} {f : eFr} {F : List eFr} {μ0 : eM} {a0 : Nat} {K : yM → Bool} (hG : yG fg y_T) (hk : ev_kd μ0 a0 = some 0) (p0 : 0 < a0) (hK : ∀ (M : yM) (μ : eM), K M = true → yR M μ → y_le μ0 μ → ex_fine fg rc rs (d + 4, (f.1, f.2.1, f.2.2.1, f.2.2.2), F, μ)) : ∀ n : Nat, ∀ (a1 : Nat) (M : yM) (μ : eM), m_2_26 a0 K n a1 M = true → yR M μ → y_le μ0 μ → ex_fine fg rc rs (d + 3, (2, 26, [some (eR a0), some (eI (zI a1)), none], []), f :: F, μ) := by
  intro n
  induction n with
  | zero =>
    intro a1 M μ h hR hl
    exact absurd h Bool.false_ne_true
  | succ n ih =>
    intro a1 M μ h hR hl
    exact m_2_26b_ok hG hk p0 hK ih a1 M μ h hR hl
/-! RhombInflator$Figures.fill -/
noncomputable def m_2 (a0 : Nat) (M : yM) (K : yM → Bool) : Bool := y_gf M a0 0 5 fun v1 => f_if false (Nat.ble 1 v1) (y_gf M v1 2 4 fun v6 => f_if false (Nat.ble 1 v6) (y_gf M v6 3 2 fun v11 => y_wf M a0 0 7 v11 fun M14 => y_wf M14 a0 0 8 0 fun M20 => y_wf M20 a0 0 9 0 fun M26 => m_2_26 a0 K 100000 0 M26))
theorem m_2_ok {fg : eG} {rc rs d : Nat} {f : eFr} {F : List eFr} {M : yM} {μ0 : eM} {a0 : Nat} {K : yM → Bool} (hG : yG fg y_T) (h : m_2 a0 M K = true) (hR : yR M μ0) (hk : ev_kd μ0 a0 = some 0) (p0 : 0 < a0) (hK : ∀ (M : yM) (μ : eM), K M = true → yR M μ → y_le μ0 μ → ex_fine fg rc rs (d + 4, (f.1, f.2.1, f.2.2.1, f.2.2.2), F, μ)) : ex_fine fg rc rs (d + 3, (2, 0, [some (eR a0), none, none], []), f :: F, μ0) := by
  unfold m_2 at h
  have hl := y_le_r μ0
  refine w_s (np := 1) (lv' := [some (eR a0), none, none]) (st' := [eR a0]) rfl (s_an rfl p0) rfl ?_
  refine w_s (np := 2) (lv' := [some (eR a0), none, none]) (st' := [eR a0, eR a0]) rfl (s_an rfl p0) rfl ?_
  obtain ⟨v1, h, k2, e3⟩ := y_gf_ok (ty := 3) h hR (by decide) rfl
  obtain ⟨g4, h⟩ := f_if_ok h
  have q5 : 0 < v1 := Nat.ble_eq.mp g4
  refine v_gf3 (np := 5) rfl rfl k2 e3 ?_
  clear k2 e3
  obtain ⟨v6, h, k7, e8⟩ := y_gf_ok (ty := 3) h hR (by decide) rfl
  obtain ⟨g9, h⟩ := f_if_ok h
  have q10 : 0 < v6 := Nat.ble_eq.mp g9
  refine v_gf3 (np := 8) rfl rfl k7 e8 ?_
  clear k7 e8
  obtain ⟨v11, h, k12, e13⟩ := y_gf_ok (ty := 0) h hR (by decide) rfl
  refine v_gf0 (np := 11) rfl rfl k12 e13 ?_
  clear k12 e13
  obtain ⟨M14, μ15, h, k18, hR16, hl17, e19⟩ := y_wf_ex (ty := 0) h hR hl rfl (by decide)
  refine v_pe0 (np := 14) rfl rfl k18 e19 ?_
  clear k18 e19
  refine w_s (np := 15) (lv' := [some (eR a0), none, none]) (st' := [eR a0]) rfl (s_an rfl p0) rfl ?_
  refine w_s (np := 16) (lv' := [some (eR a0), none, none]) (st' := [eI (zI 0), eR a0]) rfl rfl rfl ?_
  obtain ⟨M20, μ21, h, k24, hR22, hl23, e25⟩ := y_wf_ex (ty := 0) h hR16 hl17 rfl (by decide)
  refine v_pe0 (np := 19) rfl rfl k24 e25 ?_
  clear k24 e25
  refine w_s (np := 20) (lv' := [some (eR a0), none, none]) (st' := [eR a0]) rfl (s_an rfl p0) rfl ?_
  refine w_s (np := 21) (lv' := [some (eR a0), none, none]) (st' := [eI (zI 0), eR a0]) rfl rfl rfl ?_
  obtain ⟨M26, μ27, h, k30, hR28, hl29, e31⟩ := y_wf_ex (ty := 0) h hR22 hl23 rfl (by decide)
  refine v_pe0 (np := 24) rfl rfl k30 e31 ?_
  clear k30 e31
  refine w_s (np := 25) (lv' := [some (eR a0), none, none]) (st' := [eI (zI 0)]) rfl rfl rfl ?_
  refine w_s (np := 26) (lv' := [some (eR a0), some (eI (zI 0)), none]) (st' := []) rfl rfl rfl ?_
  exact m_2_26_ok hG hk p0 hK 100000 _ M26 μ27 h hR28 hl29
noncomputable def m_9_22 (a0 a1 : Nat) (K : Nat → yM → Bool) (s0 : Nat) (M : yM) : Bool := K s0 M
theorem m_9_22_ok {fg : eG} {rc rs d : Nat} {f : eFr} {F : List eFr} {μ0 : eM} {a0 a1 : Nat} {K : Nat → yM → Bool} (hG : yG fg y_T) (hk : ev_kd μ0 a0 = some 0) (p0 : 0 < a0) (hK : ∀ (r : Nat) (M : yM) (μ : eM), K r M = true → yR M μ → y_le μ0 μ → ex_fine fg rc rs (d + 1, (f.1, f.2.1, f.2.2.1, eI (zI r) :: f.2.2.2), F, μ)) : ∀ (s0 : Nat) (M : yM) (μ : eM), m_9_22 a0 a1 K s0 M = true → yR M μ → y_le μ0 μ → ex_fine fg rc rs (d, (9, 22, [some (eR a0), some (eI (zI a1))], [eI (zI s0)]), f :: F, μ) := by
  intro s0 M μ h hR hl
  unfold m_9_22 at h
  exact v_ri rfl rfl (hK _ _ _ h hR hl)
noncomputable def m_9_12 (a0 a1 : Nat) (K : Nat → yM → Bool) (M : yM) : Bool := m_9_22 a0 a1 K 4294967295 M
theorem m_9_12_ok {fg : eG} {rc rs d : Nat} {f : eFr} {F : List eFr} {μ0 : eM} {a0 a1 : Nat} {K : Nat → yM → Bool} (hG : yG fg y_T) (hk : ev_kd μ0 a0 = some 0) (p0 : 0 < a0) (hK : ∀ (r : Nat) (M : yM) (μ : eM), K r M = true → yR M μ → y_le μ0 μ → ex_fine fg rc rs (d + 1, (f.1, f.2.1, f.2.2.1, eI (zI r) :: f.2.2.2), F, μ)) : ∀ (M : yM) (μ : eM), m_9_12 a0 a1 K M = true → yR M μ → y_le μ0 μ → ex_fine fg rc rs (d, (9, 12, [some (eR a0), some (eI (zI a1))], []), f :: F, μ) := by
  intro M μ h hR hl
  unfold m_9_12 at h
  refine w_s (np := 13) (lv' := [some (eR a0), some (eI (zI a1))]) (st' := [eI (zI 4294967295)]) rfl rfl rfl ?_
  refine w_go (t1 := 22) rfl rfl ?_
  exact m_9_22_ok hG hk p0 hK _ M μ h hR hl
/-! RhombInflator$Figures.listed -/
noncomputable def m_9 (a0 a1 : Nat) (M : yM) (K : Nat → yM → Bool) : Bool := z_if (z_l0 a1) (m_9_12 a0 a1 K M) (y_gf M a0 0 9 fun v2 => z_if (z_lt a1 v2) (y_gf M a0 0 4 fun v6 => f_if false (Nat.ble 1 v6) (y_lh 100 M v6 a1 fun v11 => m_9_22 a0 a1 K v11 M)) (m_9_12 a0 a1 K M))
theorem m_9_ok {fg : eG} {rc rs d : Nat} {f : eFr} {F : List eFr} {M : yM} {μ0 : eM} {a0 a1 : Nat} {K : Nat → yM → Bool} (hG : yG fg y_T) (h : m_9 a0 a1 M K = true) (hR : yR M μ0) (hk : ev_kd μ0 a0 = some 0) (p0 : 0 < a0) (hK : ∀ (r : Nat) (M : yM) (μ : eM), K r M = true → yR M μ → y_le μ0 μ → ex_fine fg rc rs (d + 1, (f.1, f.2.1, f.2.2.1, eI (zI r) :: f.2.2.2), F, μ)) : ex_fine fg rc rs (d, (9, 0, [some (eR a0), some (eI (zI a1))], []), f :: F, μ0) := by
  unfold m_9 at h
  have hl := y_le_r μ0
  refine w_s (np := 1) (lv' := [some (eR a0), some (eI (zI a1))]) (st' := [eI (zI a1)]) rfl rfl rfl ?_
  rcases z_if_t h with ⟨g1, h⟩ | ⟨g1, h⟩
  · refine v_lt0_t (t1 := 12) rfl rfl g1 ?_
    exact m_9_12_ok hG hk p0 hK M μ0 h hR hl
  · refine v_lt0_f (t1 := 12) rfl rfl g1 ?_
    refine w_s (np := 5) (lv' := [some (eR a0), some (eI (zI a1))]) (st' := [eI (zI a1)]) rfl rfl rfl ?_
    refine w_s (np := 6) (lv' := [some (eR a0), some (eI (zI a1))]) (st' := [eR a0, eI (zI a1)]) rfl (s_an rfl p0) rfl ?_
    obtain ⟨v2, h, k3, e4⟩ := y_gf_ok (ty := 0) h hR (by decide) rfl
    refine v_gf0 (np := 9) rfl rfl k3 e4 ?_
    clear k3 e4
    rcases z_if_t h with ⟨g5, h⟩ | ⟨g5, h⟩
    · refine v_lt_t (t1 := 16) rfl rfl g5 ?_
      refine w_s (np := 17) (lv' := [some (eR a0), some (eI (zI a1))]) (st' := [eR a0]) rfl (s_an rfl p0) rfl ?_
      obtain ⟨v6, h, k7, e8⟩ := y_gf_ok (ty := 3) h hR (by decide) rfl
      obtain ⟨g9, h⟩ := f_if_ok h
      have q10 : 0 < v6 := Nat.ble_eq.mp g9
      refine v_gf3 (np := 20) rfl rfl k7 e8 ?_
      clear k7 e8
      refine w_s (np := 21) (lv' := [some (eR a0), some (eI (zI a1))]) (st' := [eI (zI a1), eR v6]) rfl rfl rfl ?_
      obtain ⟨v11, h, k12⟩ := y_lh_ok (ty := 0) h hR hG (by decide) rfl (by decide)
      refine v_la (np := 22) rfl rfl k12 ?_
      clear k12
      exact m_9_22_ok hG hk p0 hK _ M μ0 h hR hl
    · refine v_lt_f (t1 := 16) rfl rfl g5 ?_
      exact m_9_12_ok hG hk p0 hK M μ0 h hR hl
noncomputable def m_15_59 (a0 a1 a2 a3 : Nat) (K : yM → Bool) (M : yM) : Bool := K M
theorem m_15_59_ok {fg : eG} {rc rs d : Nat} {f : eFr} {F : List eFr} {μ0 : eM} {a0 a1 a2 a3 : Nat} {K : yM → Bool} (hG : yG fg y_T) (hk : ev_kd μ0 a0 = some 1) (p0 : 0 < a0) (hK : ∀ (M : yM) (μ : eM), K M = true → yR M μ → y_le μ0 μ → ex_fine fg rc rs (d + 2, (f.1, f.2.1, f.2.2.1, f.2.2.2), F, μ)) : ∀ (x4 : Option eV) (M : yM) (μ : eM), m_15_59 a0 a1 a2 a3 K M = true → yR M μ → y_le μ0 μ → ex_fine fg rc rs (d + 1, (15, 59, [some (eR a0), some (eI (zI a1)), some (eI (zI a2)), some (eI (zI a3)), x4], []), f :: F, μ) := by
  intro x4 M μ h hR hl
  unfold m_15_59 at h
  exact v_rv rfl rfl (hK _ _ h hR hl)
/-! RhombInflator$Firsts.note -/
noncomputable def m_15 (a0 a1 a2 a3 : Nat) (M : yM) (K : yM → Bool) : Bool := y_gf M a0 1 2 fun v1 => f_if false (Nat.ble 1 v1) (y_lh 100 M v1 a1 fun v6 => z_if (z_lt v6 64) (m_13 a0 a1 a2 M fun v14 M9 => z_if (z_l0 v14) (z_l (z_mul a1 64) fun v16 => y_gf M9 a0 1 2 fun v17 => f_if false (Nat.ble 1 v17) (y_lh 100 M9 v17 a1 fun v22 => z_l (z_add v16 v22) fun v24 => y_gf M9 a0 1 0 fun v25 => f_if false (Nat.ble 1 v25) (y_sa 100 M9 v25 v24 a2 fun M30 => y_gf M30 a0 1 1 fun v35 => f_if false (Nat.ble 1 v35) (y_sa 100 M30 v35 v24 a3 fun M40 => y_gf M40 a0 1 2 fun v45 => f_if false (Nat.ble 1 v45) (y_lh 100 M40 v45 a1 fun v50 => z_l (z_add v50 1) fun v52 => y_sa 100 M40 v45 a1 v52 fun M53 => m_15_59 a0 a1 a2 a3 K M53))))) (m_15_59 a0 a1 a2 a3 K M9)) (m_15_59 a0 a1 a2 a3 K M))
theorem m_15_ok {fg : eG} {rc rs d : Nat} {f : eFr} {F : List eFr} {M : yM} {μ0 : eM} {a0 a1 a2 a3 : Nat} {K : yM → Bool} (hG : yG fg y_T) (h : m_15 a0 a1 a2 a3 M K = true) (hR : yR M μ0) (hk : ev_kd μ0 a0 = some 1) (p0 : 0 < a0) (hK : ∀ (M : yM) (μ : eM), K M = true → yR M μ → y_le μ0 μ → ex_fine fg rc rs (d + 2, (f.1, f.2.1, f.2.2.1, f.2.2.2), F, μ)) : ex_fine fg rc rs (d + 1, (15, 0, [some (eR a0), some (eI (zI a1)), some (eI (zI a2)), some (eI (zI a3)), none], []), f :: F, μ0) := by
  unfold m_15 at h
  have hl := y_le_r μ0
  refine w_s (np := 1) (lv' := [some (eR a0), some (eI (zI a1)), some (eI (zI a2)), some (eI (zI a3)), none]) (st' := [eR a0]) rfl (s_an rfl p0) rfl ?_
  obtain ⟨v1, h, k2, e3⟩ := y_gf_ok (ty := 3) h hR (by decide) rfl
  obtain ⟨g4, h⟩ := f_if_ok h
  have q5 : 0 < v1 := Nat.ble_eq.mp g4
  refine v_gf3 (np := 4) rfl rfl k2 e3 ?_
  clear k2 e3
  refine w_s (np := 5) (lv' := [some (eR a0), some (eI (zI a1)), some (eI (zI a2)), some (eI (zI a3)), none]) (st' := [eI (zI a1), eR v1]) rfl rfl rfl ?_
  obtain ⟨v6, h, k7⟩ := y_lh_ok (ty := 0) h hR hG (by decide) rfl (by decide)
  refine v_la (np := 6) rfl rfl k7 ?_
  clear k7
  refine w_s (np := 8) (lv' := [some (eR a0), some (eI (zI a1)), some (eI (zI a2)), some (eI (zI a3)), none]) (st' := [eI (zI 64), eI (zI v6)]) rfl rfl rfl ?_
  rcases z_if_t h with ⟨g8, h⟩ | ⟨g8, h⟩
  · refine v_ge_f (t1 := 59) rfl rfl g8 ?_
    refine w_s (np := 12) (lv' := [some (eR a0), some (eI (zI a1)), some (eI (zI a2)), some (eI (zI a3)), none]) (st' := [eR a0]) rfl (s_an rfl p0) rfl ?_
    refine w_s (np := 13) (lv' := [some (eR a0), some (eI (zI a1)), some (eI (zI a2)), some (eI (zI a3)), none]) (st' := [eI (zI a1), eR a0]) rfl rfl rfl ?_
    refine w_s (np := 14) (lv' := [some (eR a0), some (eI (zI a1)), some (eI (zI a2)), some (eI (zI a3)), none]) (st' := [eI (zI a2), eI (zI a1), eR a0]) rfl rfl rfl ?_
    refine w_cv (np := 17) (as := [eI (zI a1), eI (zI a2)]) (lv' := [some (eR a0), some (eI (zI a1)), some (eI (zI a2)), none, none]) (rest := []) rfl rfl rfl (Nat.ble_eq.mp rfl) rfl rfl rfl (hl _ _ hk) rfl ?_
    refine m_13_ok hG h hR (hl _ _ hk) p0 ?_
    intro v14 M9 μ10 h hR11 hl13
    have hl12 := y_le.tr hl hl13
    show ex_fine fg rc rs (d + 1, (15, 17, [some (eR a0), some (eI (zI a1)), some (eI (zI a2)), some (eI (zI a3)), none], [eI (zI v14)]), f :: F, μ10)
    rcases z_if_t h with ⟨g15, h⟩ | ⟨g15, h⟩
    · refine v_ge0_f (t1 := 59) rfl rfl g15 ?_
      refine w_s (np := 21) (lv' := [some (eR a0), some (eI (zI a1)), some (eI (zI a2)), some (eI (zI a3)), none]) (st' := [eI (zI a1)]) rfl rfl rfl ?_
      refine w_s (np := 23) (lv' := [some (eR a0), some (eI (zI a1)), some (eI (zI a2)), some (eI (zI a3)), none]) (st' := [eI (zI 64), eI (zI a1)]) rfl rfl rfl ?_
      obtain ⟨v16, ev16, h⟩ := z_l_ex h
      refine w_s (np := 24) (lv' := [some (eR a0), some (eI (zI a1)), some (eI (zI a2)), some (eI (zI a3)), none]) (st' := [eI (zI v16)]) rfl (s_imul ev16) rfl ?_
      clear ev16
      refine w_s (np := 25) (lv' := [some (eR a0), some (eI (zI a1)), some (eI (zI a2)), some (eI (zI a3)), none]) (st' := [eR a0, eI (zI v16)]) rfl (s_an rfl p0) rfl ?_
      obtain ⟨v17, h, k18, e19⟩ := y_gf_ok (ty := 3) h hR11 (by decide) rfl
      obtain ⟨g20, h⟩ := f_if_ok h
      have q21 : 0 < v17 := Nat.ble_eq.mp g20
      refine v_gf3 (np := 28) rfl rfl k18 e19 ?_
      clear k18 e19
      refine w_s (np := 29) (lv' := [some (eR a0), some (eI (zI a1)), some (eI (zI a2)), some (eI (zI a3)), none]) (st' := [eI (zI a1), eR v17, eI (zI v16)]) rfl rfl rfl ?_
      obtain ⟨v22, h, k23⟩ := y_lh_ok (ty := 0) h hR11 hG (by decide) rfl (by decide)
      refine v_la (np := 30) rfl rfl k23 ?_
      clear k23
      obtain ⟨v24, ev24, h⟩ := z_l_ex h
      refine w_s (np := 31) (lv' := [some (eR a0), some (eI (zI a1)), some (eI (zI a2)), some (eI (zI a3)), none]) (st' := [eI (zI v24)]) rfl (s_iadd ev24) rfl ?_
      clear ev24
      refine w_s (np := 33) (lv' := [some (eR a0), some (eI (zI a1)), some (eI (zI a2)), some (eI (zI a3)), some (eI (zI v24))]) (st' := []) rfl rfl rfl ?_
      refine w_s (np := 34) (lv' := [some (eR a0), some (eI (zI a1)), some (eI (zI a2)), some (eI (zI a3)), some (eI (zI v24))]) (st' := [eR a0]) rfl (s_an rfl p0) rfl ?_
      obtain ⟨v25, h, k26, e27⟩ := y_gf_ok (ty := 3) h hR11 (by decide) rfl
      obtain ⟨g28, h⟩ := f_if_ok h
      have q29 : 0 < v25 := Nat.ble_eq.mp g28
      refine v_gf3 (np := 37) rfl rfl k26 e27 ?_
      clear k26 e27
      refine w_s (np := 39) (lv' := [some (eR a0), some (eI (zI a1)), some (eI (zI a2)), some (eI (zI a3)), some (eI (zI v24))]) (st' := [eI (zI v24), eR v25]) rfl rfl rfl ?_
      refine w_s (np := 40) (lv' := [some (eR a0), some (eI (zI a1)), some (eI (zI a2)), some (eI (zI a3)), some (eI (zI v24))]) (st' := [eI (zI a2), eI (zI v24), eR v25]) rfl rfl rfl ?_
      obtain ⟨M30, μ31, h, k34, hR32, hl33⟩ := y_sa_ex (ty := 0) h hR11 hl12 rfl (by decide)
      refine v_sa (np := 41) rfl rfl k34 ?_
      clear k34
      refine w_s (np := 42) (lv' := [some (eR a0), some (eI (zI a1)), some (eI (zI a2)), some (eI (zI a3)), some (eI (zI v24))]) (st' := [eR a0]) rfl (s_an rfl p0) rfl ?_
      obtain ⟨v35, h, k36, e37⟩ := y_gf_ok (ty := 3) h hR32 (by decide) rfl
      obtain ⟨g38, h⟩ := f_if_ok h
      have q39 : 0 < v35 := Nat.ble_eq.mp g38
      refine v_gf3 (np := 45) rfl rfl k36 e37 ?_
      clear k36 e37
      refine w_s (np := 47) (lv' := [some (eR a0), some (eI (zI a1)), some (eI (zI a2)), some (eI (zI a3)), some (eI (zI v24))]) (st' := [eI (zI v24), eR v35]) rfl rfl rfl ?_
      refine w_s (np := 48) (lv' := [some (eR a0), some (eI (zI a1)), some (eI (zI a2)), some (eI (zI a3)), some (eI (zI v24))]) (st' := [eI (zI a3), eI (zI v24), eR v35]) rfl rfl rfl ?_
      obtain ⟨M40, μ41, h, k44, hR42, hl43⟩ := y_sa_ex (ty := 0) h hR32 hl33 rfl (by decide)
      refine v_sa (np := 49) rfl rfl k44 ?_
      clear k44
      refine w_s (np := 50) (lv' := [some (eR a0), some (eI (zI a1)), some (eI (zI a2)), some (eI (zI a3)), some (eI (zI v24))]) (st' := [eR a0]) rfl (s_an rfl p0) rfl ?_
      obtain ⟨v45, h, k46, e47⟩ := y_gf_ok (ty := 3) h hR42 (by decide) rfl
      obtain ⟨g48, h⟩ := f_if_ok h
      have q49 : 0 < v45 := Nat.ble_eq.mp g48
      refine v_gf3 (np := 53) rfl rfl k46 e47 ?_
      clear k46 e47
      refine w_s (np := 54) (lv' := [some (eR a0), some (eI (zI a1)), some (eI (zI a2)), some (eI (zI a3)), some (eI (zI v24))]) (st' := [eI (zI a1), eR v45]) rfl rfl rfl ?_
      refine w_s (np := 55) (lv' := [some (eR a0), some (eI (zI a1)), some (eI (zI a2)), some (eI (zI a3)), some (eI (zI v24))]) (st' := [eI (zI a1), eR v45, eI (zI a1), eR v45]) rfl rfl rfl ?_
      obtain ⟨v50, h, k51⟩ := y_lh_ok (ty := 0) h hR42 hG (by decide) rfl (by decide)
      refine v_la (np := 56) rfl rfl k51 ?_
      clear k51
      refine w_s (np := 57) (lv' := [some (eR a0), some (eI (zI a1)), some (eI (zI a2)), some (eI (zI a3)), some (eI (zI v24))]) (st' := [eI (zI 1), eI (zI v50), eI (zI a1), eR v45]) rfl rfl rfl ?_
      obtain ⟨v52, ev52, h⟩ := z_l_ex h
      refine w_s (np := 58) (lv' := [some (eR a0), some (eI (zI a1)), some (eI (zI a2)), some (eI (zI a3)), some (eI (zI v24))]) (st' := [eI (zI v52), eI (zI a1), eR v45]) rfl (s_iadd ev52) rfl ?_
      clear ev52
      obtain ⟨M53, μ54, h, k57, hR55, hl56⟩ := y_sa_ex (ty := 0) h hR42 hl43 rfl (by decide)
      refine v_sa (np := 59) rfl rfl k57 ?_
      clear k57
      exact m_15_59_ok hG hk p0 hK _ M53 μ54 h hR55 hl56
    · refine v_ge0_t (t1 := 59) rfl rfl g15 ?_
      exact m_15_59_ok hG hk p0 hK _ M9 μ10 h hR11 hl12
  · refine v_ge_t (t1 := 59) rfl rfl g8 ?_
    exact m_15_59_ok hG hk p0 hK _ M μ0 h hR hl
/-! RhombInflator$Points.<init> -/
noncomputable def m_42 (a0 : Nat) (M : yM) (K : yM → Bool) : Bool := y_na M 101 64 fun r1 M2 => y_wr M2 a0 3 0 r1 fun M10 => y_na M10 100 128 fun r16 M17 => y_wr M17 a0 3 1 r16 fun M25 => K M25
theorem m_42_ok {fg : eG} {rc rs d : Nat} {f : eFr} {F : List eFr} {M : yM} {μ0 : eM} {a0 : Nat} {K : yM → Bool} (hG : yG fg y_T) (h : m_42 a0 M K = true) (hR : yR M μ0) (hk : ev_kd μ0 a0 = some 3) (p0 : 0 < a0) (hK : ∀ (M : yM) (μ : eM), K M = true → yR M μ → y_le μ0 μ → ex_fine fg rc rs (d + 2, (f.1, f.2.1, f.2.2.1, f.2.2.2), F, μ)) : ex_fine fg rc rs (d + 1, (42, 0, [some (eR a0)], []), f :: F, μ0) := by
  unfold m_42 at h
  have hl := y_le_r μ0
  refine w_s (np := 1) (lv' := [some (eR a0)]) (st' := [eR a0]) rfl (s_an rfl p0) rfl ?_
  refine v_oi (np := 4) rfl rfl p0 rfl ?_
  refine w_s (np := 5) (lv' := [some (eR a0)]) (st' := [eR a0]) rfl (s_an rfl p0) rfl ?_
  refine w_s (np := 7) (lv' := [some (eR a0)]) (st' := [eI (zI 64), eR a0]) rfl rfl rfl ?_
  obtain ⟨r1, M2, μ3, h, q7, e8, g6, hR4, hl5, e9⟩ := y_na_ex h hR hl
  refine v_ae (np := 9) rfl rfl g6 e8 e9 ?_
  clear g6 e8 e9
  obtain ⟨M10, μ11, h, k14, hR12, hl13, e15⟩ := y_wr_ex h hR4 hl5 rfl
  refine v_pe3 (np := 12) rfl rfl k14 e15 ?_
  clear k14 e15
  refine w_s (np := 13) (lv' := [some (eR a0)]) (st' := [eR a0]) rfl (s_an rfl p0) rfl ?_
  refine w_s (np := 16) (lv' := [some (eR a0)]) (st' := [eI (zI 128), eR a0]) rfl rfl rfl ?_
  obtain ⟨r16, M17, μ18, h, q22, e23, g21, hR19, hl20, e24⟩ := y_na_ex h hR12 hl13
  refine v_ae (np := 18) rfl rfl g21 e23 e24 ?_
  clear g21 e23 e24
  obtain ⟨M25, μ26, h, k29, hR27, hl28, e30⟩ := y_wr_ex h hR19 hl20 rfl
  refine v_pe3 (np := 21) rfl rfl k29 e30 ?_
  clear k29 e30
  exact v_rv rfl rfl (hK _ _ h hR27 hl28)
/-! RhombInflator$Patch.<init> -/
noncomputable def m_16 (a0 : Nat) (M : yM) (K : yM → Bool) : Bool := y_na M 100 50 fun r1 M2 => y_wr M2 a0 2 0 r1 fun M10 => y_na M10 100 50 fun r16 M17 => y_wr M17 a0 2 1 r16 fun M25 => y_na M25 100 150 fun r31 M32 => y_wr M32 a0 2 2 r31 fun M40 => y_na M40 100 100 fun r46 M47 => y_wr M47 a0 2 3 r46 fun M55 => y_no M55 3 3 fun r61 M62 => y_is M62 r61 3 (m_42 r61 M62 fun M70 => y_wr M70 a0 2 4 r61 fun M76 => K M76)
theorem m_16_ok {fg : eG} {rc rs d : Nat} {f : eFr} {F : List eFr} {M : yM} {μ0 : eM} {a0 : Nat} {K : yM → Bool} (hG : yG fg y_T) (h : m_16 a0 M K = true) (hR : yR M μ0) (hk : ev_kd μ0 a0 = some 2) (p0 : 0 < a0) (hK : ∀ (M : yM) (μ : eM), K M = true → yR M μ → y_le μ0 μ → ex_fine fg rc rs (d + 3, (f.1, f.2.1, f.2.2.1, f.2.2.2), F, μ)) : ex_fine fg rc rs (d + 2, (16, 0, [some (eR a0)], []), f :: F, μ0) := by
  unfold m_16 at h
  have hl := y_le_r μ0
  refine w_s (np := 1) (lv' := [some (eR a0)]) (st' := [eR a0]) rfl (s_an rfl p0) rfl ?_
  refine v_oi (np := 4) rfl rfl p0 rfl ?_
  refine w_s (np := 5) (lv' := [some (eR a0)]) (st' := [eR a0]) rfl (s_an rfl p0) rfl ?_
  refine w_s (np := 7) (lv' := [some (eR a0)]) (st' := [eI (zI 50), eR a0]) rfl rfl rfl ?_
  obtain ⟨r1, M2, μ3, h, q7, e8, g6, hR4, hl5, e9⟩ := y_na_ex h hR hl
  refine v_ae (np := 9) rfl rfl g6 e8 e9 ?_
  clear g6 e8 e9
  obtain ⟨M10, μ11, h, k14, hR12, hl13, e15⟩ := y_wr_ex h hR4 hl5 rfl
  refine v_pe3 (np := 12) rfl rfl k14 e15 ?_
  clear k14 e15
  refine w_s (np := 13) (lv' := [some (eR a0)]) (st' := [eR a0]) rfl (s_an rfl p0) rfl ?_
  refine w_s (np := 15) (lv' := [some (eR a0)]) (st' := [eI (zI 50), eR a0]) rfl rfl rfl ?_
  obtain ⟨r16, M17, μ18, h, q22, e23, g21, hR19, hl20, e24⟩ := y_na_ex h hR12 hl13
  refine v_ae (np := 17) rfl rfl g21 e23 e24 ?_
  clear g21 e23 e24
  obtain ⟨M25, μ26, h, k29, hR27, hl28, e30⟩ := y_wr_ex h hR19 hl20 rfl
  refine v_pe3 (np := 20) rfl rfl k29 e30 ?_
  clear k29 e30
  refine w_s (np := 21) (lv' := [some (eR a0)]) (st' := [eR a0]) rfl (s_an rfl p0) rfl ?_
  refine w_s (np := 24) (lv' := [some (eR a0)]) (st' := [eI (zI 150), eR a0]) rfl rfl rfl ?_
  obtain ⟨r31, M32, μ33, h, q37, e38, g36, hR34, hl35, e39⟩ := y_na_ex h hR27 hl28
  refine v_ae (np := 26) rfl rfl g36 e38 e39 ?_
  clear g36 e38 e39
  obtain ⟨M40, μ41, h, k44, hR42, hl43, e45⟩ := y_wr_ex h hR34 hl35 rfl
  refine v_pe3 (np := 29) rfl rfl k44 e45 ?_
  clear k44 e45
  refine w_s (np := 30) (lv' := [some (eR a0)]) (st' := [eR a0]) rfl (s_an rfl p0) rfl ?_
  refine w_s (np := 32) (lv' := [some (eR a0)]) (st' := [eI (zI 100), eR a0]) rfl rfl rfl ?_
  obtain ⟨r46, M47, μ48, h, q52, e53, g51, hR49, hl50, e54⟩ := y_na_ex h hR42 hl43
  refine v_ae (np := 34) rfl rfl g51 e53 e54 ?_
  clear g51 e53 e54
  obtain ⟨M55, μ56, h, k59, hR57, hl58, e60⟩ := y_wr_ex h hR49 hl50 rfl
  refine v_pe3 (np := 37) rfl rfl k59 e60 ?_
  clear k59 e60
  refine w_s (np := 38) (lv' := [some (eR a0)]) (st' := [eR a0]) rfl (s_an rfl p0) rfl ?_
  obtain ⟨r61, M62, μ63, h, g66, q67, e68, hR64, hl65, e69⟩ := y_no_ex h hR57 hl58
  refine v_ne (np := 41) rfl rfl rfl e68 e69 ?_
  clear e68 e69
  refine w_s (np := 42) (lv' := [some (eR a0)]) (st' := [eR r61, eR r61, eR a0]) rfl rfl rfl ?_
  obtain ⟨k75, h⟩ := y_is_ok h hR64
  refine v_ci (np := 45) (as := []) (lv' := [some (eR r61)]) (rest := [eR r61, eR a0]) rfl rfl rfl (Nat.ble_eq.mp rfl) rfl rfl rfl g66 rfl ?_
  refine m_42_ok hG h hR64 k75 q67 ?_
  intro M70 μ71 h hR72 hl74
  have hl73 := y_le.tr hl65 hl74
  show ex_fine fg rc rs (d + 2, (16, 45, [some (eR a0)], [eR r61, eR a0]), f :: F, μ71)
  obtain ⟨M76, μ77, h, k80, hR78, hl79, e81⟩ := y_wr_ex h hR72 hl73 rfl
  refine v_pe3 (np := 48) rfl rfl k80 e81 ?_
  clear k80 e81
  exact v_rv rfl rfl (hK _ _ h hR78 hl79)
/-! RhombInflator$Patch.shape -/
noncomputable def m_28 (a0 a1 a2 a3 a4 a5 : Nat) (M : yM) (K : yM → Bool) : Bool := y_gf M a0 2 0 fun v1 => f_if false (Nat.ble 1 v1) (y_sa 100 M v1 a1 a2 fun M6 => y_gf M6 a0 2 1 fun v11 => f_if false (Nat.ble 1 v11) (y_sa 100 M6 v11 a1 a3 fun M16 => y_gf M16 a0 2 3 fun v21 => f_if false (Nat.ble 1 v21) (z_l (z_mul 2 a1) fun v26 => m_361 a4 10 M16 fun v32 M27 => y_sa 100 M27 v21 v26 v32 fun M33 => y_gf M33 a0 2 3 fun v38 => f_if false (Nat.ble 1 v38) (z_l (z_mul 2 a1) fun v43 => z_l (z_add v43 1) fun v44 => m_361 a5 10 M33 fun v50 M45 => y_sa 100 M45 v38 v44 v50 fun M51 => K M51))))
theorem m_28_ok {fg : eG} {rc rs d : Nat} {f : eFr} {F : List eFr} {M : yM} {μ0 : eM} {a0 a1 a2 a3 a4 a5 : Nat} {K : yM → Bool} (hG : yG fg y_T) (h : m_28 a0 a1 a2 a3 a4 a5 M K = true) (hR : yR M μ0) (hk : ev_kd μ0 a0 = some 2) (p0 : 0 < a0) (hK : ∀ (M : yM) (μ : eM), K M = true → yR M μ → y_le μ0 μ → ex_fine fg rc rs (d + 2, (f.1, f.2.1, f.2.2.1, f.2.2.2), F, μ)) : ex_fine fg rc rs (d + 1, (28, 0, [some (eR a0), some (eI (zI a1)), some (eI (zI a2)), some (eI (zI a3)), some (eI (zI a4)), some (eI (zI a5))], []), f :: F, μ0) := by
  unfold m_28 at h
  have hl := y_le_r μ0
  refine w_s (np := 1) (lv' := [some (eR a0), some (eI (zI a1)), some (eI (zI a2)), some (eI (zI a3)), some (eI (zI a4)), some (eI (zI a5))]) (st' := [eR a0]) rfl (s_an rfl p0) rfl ?_
  obtain ⟨v1, h, k2, e3⟩ := y_gf_ok (ty := 3) h hR (by decide) rfl
  obtain ⟨g4, h⟩ := f_if_ok h
  have q5 : 0 < v1 := Nat.ble_eq.mp g4
  refine v_gf3 (np := 4) rfl rfl k2 e3 ?_
  clear k2 e3
  refine w_s (np := 5) (lv' := [some (eR a0), some (eI (zI a1)), some (eI (zI a2)), some (eI (zI a3)), some (eI (zI a4)), some (eI (zI a5))]) (st' := [eI (zI a1), eR v1]) rfl rfl rfl ?_
  refine w_s (np := 6) (lv' := [some (eR a0), some (eI (zI a1)), some (eI (zI a2)), some (eI (zI a3)), some (eI (zI a4)), some (eI (zI a5))]) (st' := [eI (zI a2), eI (zI a1), eR v1]) rfl rfl rfl ?_
  obtain ⟨M6, μ7, h, k10, hR8, hl9⟩ := y_sa_ex (ty := 0) h hR hl rfl (by decide)
  refine v_sa (np := 7) rfl rfl k10 ?_
  clear k10
  refine w_s (np := 8) (lv' := [some (eR a0), some (eI (zI a1)), some (eI (zI a2)), some (eI (zI a3)), some (eI (zI a4)), some (eI (zI a5))]) (st' := [eR a0]) rfl (s_an rfl p0) rfl ?_
  obtain ⟨v11, h, k12, e13⟩ := y_gf_ok (ty := 3) h hR8 (by decide) rfl
  obtain ⟨g14, h⟩ := f_if_ok h
  have q15 : 0 < v11 := Nat.ble_eq.mp g14
  refine v_gf3 (np := 11) rfl rfl k12 e13 ?_
  clear k12 e13
  refine w_s (np := 12) (lv' := [some (eR a0), some (eI (zI a1)), some (eI (zI a2)), some (eI (zI a3)), some (eI (zI a4)), some (eI (zI a5))]) (st' := [eI (zI a1), eR v11]) rfl rfl rfl ?_
  refine w_s (np := 13) (lv' := [some (eR a0), some (eI (zI a1)), some (eI (zI a2)), some (eI (zI a3)), some (eI (zI a4)), some (eI (zI a5))]) (st' := [eI (zI a3), eI (zI a1), eR v11]) rfl rfl rfl ?_
  obtain ⟨M16, μ17, h, k20, hR18, hl19⟩ := y_sa_ex (ty := 0) h hR8 hl9 rfl (by decide)
  refine v_sa (np := 14) rfl rfl k20 ?_
  clear k20
  refine w_s (np := 15) (lv' := [some (eR a0), some (eI (zI a1)), some (eI (zI a2)), some (eI (zI a3)), some (eI (zI a4)), some (eI (zI a5))]) (st' := [eR a0]) rfl (s_an rfl p0) rfl ?_
  obtain ⟨v21, h, k22, e23⟩ := y_gf_ok (ty := 3) h hR18 (by decide) rfl
  obtain ⟨g24, h⟩ := f_if_ok h
  have q25 : 0 < v21 := Nat.ble_eq.mp g24
  refine v_gf3 (np := 18) rfl rfl k22 e23 ?_
  clear k22 e23
  refine w_s (np := 19) (lv' := [some (eR a0), some (eI (zI a1)), some (eI (zI a2)), some (eI (zI a3)), some (eI (zI a4)), some (eI (zI a5))]) (st' := [eI (zI 2), eR v21]) rfl rfl rfl ?_
  refine w_s (np := 20) (lv' := [some (eR a0), some (eI (zI a1)), some (eI (zI a2)), some (eI (zI a3)), some (eI (zI a4)), some (eI (zI a5))]) (st' := [eI (zI a1), eI (zI 2), eR v21]) rfl rfl rfl ?_
  obtain ⟨v26, ev26, h⟩ := z_l_ex h
  refine w_s (np := 21) (lv' := [some (eR a0), some (eI (zI a1)), some (eI (zI a2)), some (eI (zI a3)), some (eI (zI a4)), some (eI (zI a5))]) (st' := [eI (zI v26), eR v21]) rfl (s_imul ev26) rfl ?_
  clear ev26
  refine w_s (np := 23) (lv' := [some (eR a0), some (eI (zI a1)), some (eI (zI a2)), some (eI (zI a3)), some (eI (zI a4)), some (eI (zI a5))]) (st' := [eI (zI a4), eI (zI v26), eR v21]) rfl rfl rfl ?_
  refine w_s (np := 25) (lv' := [some (eR a0), some (eI (zI a1)), some (eI (zI a2)), some (eI (zI a3)), some (eI (zI a4)), some (eI (zI a5))]) (st' := [eI (zI 10), eI (zI a4), eI (zI v26), eR v21]) rfl rfl rfl ?_
  refine w_cs (np := 28) (as := [eI (zI a4), eI (zI 10)]) (lv' := [some (eI (zI a4)), some (eI (zI 10)), none]) (rest := [eI (zI v26), eR v21]) rfl rfl rfl (Nat.ble_eq.mp rfl) rfl rfl rfl rfl ?_
  refine m_361_ok hG h hR18 ?_
  intro v32 M27 μ28 h hR29 hl31
  have hl30 := y_le.tr hl19 hl31
  show ex_fine fg rc rs (d + 1, (28, 28, [some (eR a0), some (eI (zI a1)), some (eI (zI a2)), some (eI (zI a3)), some (eI (zI a4)), some (eI (zI a5))], [eI (zI v32), eI (zI v26), eR v21]), f :: F, μ28)
  obtain ⟨M33, μ34, h, k37, hR35, hl36⟩ := y_sa_ex (ty := 0) h hR29 hl30 rfl (by decide)
  refine v_sa (np := 29) rfl rfl k37 ?_
  clear k37
  refine w_s (np := 30) (lv' := [some (eR a0), some (eI (zI a1)), some (eI (zI a2)), some (eI (zI a3)), some (eI (zI a4)), some (eI (zI a5))]) (st' := [eR a0]) rfl (s_an rfl p0) rfl ?_
  obtain ⟨v38, h, k39, e40⟩ := y_gf_ok (ty := 3) h hR35 (by decide) rfl
  obtain ⟨g41, h⟩ := f_if_ok h
  have q42 : 0 < v38 := Nat.ble_eq.mp g41
  refine v_gf3 (np := 33) rfl rfl k39 e40 ?_
  clear k39 e40
  refine w_s (np := 34) (lv' := [some (eR a0), some (eI (zI a1)), some (eI (zI a2)), some (eI (zI a3)), some (eI (zI a4)), some (eI (zI a5))]) (st' := [eI (zI 2), eR v38]) rfl rfl rfl ?_
  refine w_s (np := 35) (lv' := [some (eR a0), some (eI (zI a1)), some (eI (zI a2)), some (eI (zI a3)), some (eI (zI a4)), some (eI (zI a5))]) (st' := [eI (zI a1), eI (zI 2), eR v38]) rfl rfl rfl ?_
  obtain ⟨v43, ev43, h⟩ := z_l_ex h
  refine w_s (np := 36) (lv' := [some (eR a0), some (eI (zI a1)), some (eI (zI a2)), some (eI (zI a3)), some (eI (zI a4)), some (eI (zI a5))]) (st' := [eI (zI v43), eR v38]) rfl (s_imul ev43) rfl ?_
  clear ev43
  refine w_s (np := 37) (lv' := [some (eR a0), some (eI (zI a1)), some (eI (zI a2)), some (eI (zI a3)), some (eI (zI a4)), some (eI (zI a5))]) (st' := [eI (zI 1), eI (zI v43), eR v38]) rfl rfl rfl ?_
  obtain ⟨v44, ev44, h⟩ := z_l_ex h
  refine w_s (np := 38) (lv' := [some (eR a0), some (eI (zI a1)), some (eI (zI a2)), some (eI (zI a3)), some (eI (zI a4)), some (eI (zI a5))]) (st' := [eI (zI v44), eR v38]) rfl (s_iadd ev44) rfl ?_
  clear ev44
  refine w_s (np := 40) (lv' := [some (eR a0), some (eI (zI a1)), some (eI (zI a2)), some (eI (zI a3)), some (eI (zI a4)), some (eI (zI a5))]) (st' := [eI (zI a5), eI (zI v44), eR v38]) rfl rfl rfl ?_
  refine w_s (np := 42) (lv' := [some (eR a0), some (eI (zI a1)), some (eI (zI a2)), some (eI (zI a3)), some (eI (zI a4)), some (eI (zI a5))]) (st' := [eI (zI 10), eI (zI a5), eI (zI v44), eR v38]) rfl rfl rfl ?_
  refine w_cs (np := 45) (as := [eI (zI a5), eI (zI 10)]) (lv' := [some (eI (zI a5)), some (eI (zI 10)), none]) (rest := [eI (zI v44), eR v38]) rfl rfl rfl (Nat.ble_eq.mp rfl) rfl rfl rfl rfl ?_
  refine m_361_ok hG h hR35 ?_
  intro v50 M45 μ46 h hR47 hl49
  have hl48 := y_le.tr hl36 hl49
  show ex_fine fg rc rs (d + 1, (28, 45, [some (eR a0), some (eI (zI a1)), some (eI (zI a2)), some (eI (zI a3)), some (eI (zI a4)), some (eI (zI a5))], [eI (zI v50), eI (zI v44), eR v38]), f :: F, μ46)
  obtain ⟨M51, μ52, h, k55, hR53, hl54⟩ := y_sa_ex (ty := 0) h hR47 hl48 rfl (by decide)
  refine v_sa (np := 46) rfl rfl k55 ?_
  clear k55
  exact v_rv rfl rfl (hK _ _ h hR53 hl54)
/-! RhombInflator$Patch.span -/
noncomputable def m_29 (a0 a1 a2 a3 a4 : Nat) (M : yM) (K : yM → Bool) : Bool := y_gf M a0 2 2 fun v1 => f_if false (Nat.ble 1 v1) (z_l (z_mul 3 a1) fun v6 => y_sa 100 M v1 v6 a2 fun M7 => y_gf M7 a0 2 2 fun v12 => f_if false (Nat.ble 1 v12) (z_l (z_mul 3 a1) fun v17 => z_l (z_add v17 1) fun v18 => y_sa 100 M7 v12 v18 a3 fun M19 => y_gf M19 a0 2 2 fun v24 => f_if false (Nat.ble 1 v24) (z_l (z_mul 3 a1) fun v29 => z_l (z_add v29 2) fun v30 => y_sa 100 M19 v24 v30 a4 fun M31 => K M31)))
theorem m_29_ok {fg : eG} {rc rs d : Nat} {f : eFr} {F : List eFr} {M : yM} {μ0 : eM} {a0 a1 a2 a3 a4 : Nat} {K : yM → Bool} (hG : yG fg y_T) (h : m_29 a0 a1 a2 a3 a4 M K = true) (hR : yR M μ0) (hk : ev_kd μ0 a0 = some 2) (p0 : 0 < a0) (hK : ∀ (M : yM) (μ : eM), K M = true → yR M μ → y_le μ0 μ → ex_fine fg rc rs (d + 1, (f.1, f.2.1, f.2.2.1, f.2.2.2), F, μ)) : ex_fine fg rc rs (d, (29, 0, [some (eR a0), some (eI (zI a1)), some (eI (zI a2)), some (eI (zI a3)), some (eI (zI a4))], []), f :: F, μ0) := by
  unfold m_29 at h
  have hl := y_le_r μ0
  refine w_s (np := 1) (lv' := [some (eR a0), some (eI (zI a1)), some (eI (zI a2)), some (eI (zI a3)), some (eI (zI a4))]) (st' := [eR a0]) rfl (s_an rfl p0) rfl ?_
  obtain ⟨v1, h, k2, e3⟩ := y_gf_ok (ty := 3) h hR (by decide) rfl
  obtain ⟨g4, h⟩ := f_if_ok h
  have q5 : 0 < v1 := Nat.ble_eq.mp g4
  refine v_gf3 (np := 4) rfl rfl k2 e3 ?_
  clear k2 e3
  refine w_s (np := 5) (lv' := [some (eR a0), some (eI (zI a1)), some (eI (zI a2)), some (eI (zI a3)), some (eI (zI a4))]) (st' := [eI (zI 3), eR v1]) rfl rfl rfl ?_
  refine w_s (np := 6) (lv' := [some (eR a0), some (eI (zI a1)), some (eI (zI a2)), some (eI (zI a3)), some (eI (zI a4))]) (st' := [eI (zI a1), eI (zI 3), eR v1]) rfl rfl rfl ?_
  obtain ⟨v6, ev6, h⟩ := z_l_ex h
  refine w_s (np := 7) (lv' := [some (eR a0), some (eI (zI a1)), some (eI (zI a2)), some (eI (zI a3)), some (eI (zI a4))]) (st' := [eI (zI v6), eR v1]) rfl (s_imul ev6) rfl ?_
  clear ev6
  refine w_s (np := 8) (lv' := [some (eR a0), some (eI (zI a1)), some (eI (zI a2)), some (eI (zI a3)), some (eI (zI a4))]) (st' := [eI (zI a2), eI (zI v6), eR v1]) rfl rfl rfl ?_
  obtain ⟨M7, μ8, h, k11, hR9, hl10⟩ := y_sa_ex (ty := 0) h hR hl rfl (by decide)
  refine v_sa (np := 9) rfl rfl k11 ?_
  clear k11
  refine w_s (np := 10) (lv' := [some (eR a0), some (eI (zI a1)), some (eI (zI a2)), some (eI (zI a3)), some (eI (zI a4))]) (st' := [eR a0]) rfl (s_an rfl p0) rfl ?_
  obtain ⟨v12, h, k13, e14⟩ := y_gf_ok (ty := 3) h hR9 (by decide) rfl
  obtain ⟨g15, h⟩ := f_if_ok h
  have q16 : 0 < v12 := Nat.ble_eq.mp g15
  refine v_gf3 (np := 13) rfl rfl k13 e14 ?_
  clear k13 e14
  refine w_s (np := 14) (lv' := [some (eR a0), some (eI (zI a1)), some (eI (zI a2)), some (eI (zI a3)), some (eI (zI a4))]) (st' := [eI (zI 3), eR v12]) rfl rfl rfl ?_
  refine w_s (np := 15) (lv' := [some (eR a0), some (eI (zI a1)), some (eI (zI a2)), some (eI (zI a3)), some (eI (zI a4))]) (st' := [eI (zI a1), eI (zI 3), eR v12]) rfl rfl rfl ?_
  obtain ⟨v17, ev17, h⟩ := z_l_ex h
  refine w_s (np := 16) (lv' := [some (eR a0), some (eI (zI a1)), some (eI (zI a2)), some (eI (zI a3)), some (eI (zI a4))]) (st' := [eI (zI v17), eR v12]) rfl (s_imul ev17) rfl ?_
  clear ev17
  refine w_s (np := 17) (lv' := [some (eR a0), some (eI (zI a1)), some (eI (zI a2)), some (eI (zI a3)), some (eI (zI a4))]) (st' := [eI (zI 1), eI (zI v17), eR v12]) rfl rfl rfl ?_
  obtain ⟨v18, ev18, h⟩ := z_l_ex h
  refine w_s (np := 18) (lv' := [some (eR a0), some (eI (zI a1)), some (eI (zI a2)), some (eI (zI a3)), some (eI (zI a4))]) (st' := [eI (zI v18), eR v12]) rfl (s_iadd ev18) rfl ?_
  clear ev18
  refine w_s (np := 19) (lv' := [some (eR a0), some (eI (zI a1)), some (eI (zI a2)), some (eI (zI a3)), some (eI (zI a4))]) (st' := [eI (zI a3), eI (zI v18), eR v12]) rfl rfl rfl ?_
  obtain ⟨M19, μ20, h, k23, hR21, hl22⟩ := y_sa_ex (ty := 0) h hR9 hl10 rfl (by decide)
  refine v_sa (np := 20) rfl rfl k23 ?_
  clear k23
  refine w_s (np := 21) (lv' := [some (eR a0), some (eI (zI a1)), some (eI (zI a2)), some (eI (zI a3)), some (eI (zI a4))]) (st' := [eR a0]) rfl (s_an rfl p0) rfl ?_
  obtain ⟨v24, h, k25, e26⟩ := y_gf_ok (ty := 3) h hR21 (by decide) rfl
  obtain ⟨g27, h⟩ := f_if_ok h
  have q28 : 0 < v24 := Nat.ble_eq.mp g27
  refine v_gf3 (np := 24) rfl rfl k25 e26 ?_
  clear k25 e26
  refine w_s (np := 25) (lv' := [some (eR a0), some (eI (zI a1)), some (eI (zI a2)), some (eI (zI a3)), some (eI (zI a4))]) (st' := [eI (zI 3), eR v24]) rfl rfl rfl ?_
  refine w_s (np := 26) (lv' := [some (eR a0), some (eI (zI a1)), some (eI (zI a2)), some (eI (zI a3)), some (eI (zI a4))]) (st' := [eI (zI a1), eI (zI 3), eR v24]) rfl rfl rfl ?_
  obtain ⟨v29, ev29, h⟩ := z_l_ex h
  refine w_s (np := 27) (lv' := [some (eR a0), some (eI (zI a1)), some (eI (zI a2)), some (eI (zI a3)), some (eI (zI a4))]) (st' := [eI (zI v29), eR v24]) rfl (s_imul ev29) rfl ?_
  clear ev29
  refine w_s (np := 28) (lv' := [some (eR a0), some (eI (zI a1)), some (eI (zI a2)), some (eI (zI a3)), some (eI (zI a4))]) (st' := [eI (zI 2), eI (zI v29), eR v24]) rfl rfl rfl ?_
  obtain ⟨v30, ev30, h⟩ := z_l_ex h
  refine w_s (np := 29) (lv' := [some (eR a0), some (eI (zI a1)), some (eI (zI a2)), some (eI (zI a3)), some (eI (zI a4))]) (st' := [eI (zI v30), eR v24]) rfl (s_iadd ev30) rfl ?_
  clear ev30
  refine w_s (np := 31) (lv' := [some (eR a0), some (eI (zI a1)), some (eI (zI a2)), some (eI (zI a3)), some (eI (zI a4))]) (st' := [eI (zI a4), eI (zI v30), eR v24]) rfl rfl rfl ?_
  obtain ⟨M31, μ32, h, k35, hR33, hl34⟩ := y_sa_ex (ty := 0) h hR21 hl22 rfl (by decide)
  refine v_sa (np := 32) rfl rfl k35 ?_
  clear k35
  exact v_rv rfl rfl (hK _ _ h hR33 hl34)
noncomputable def m_48_58 (a0 a1 : Nat) (K : Nat → yM → Bool) (a3 a4 a5 : Nat) (M : yM) : Bool := K a3 M
theorem m_48_58_ok {fg : eG} {rc rs d : Nat} {f : eFr} {F : List eFr} {μ0 : eM} {a0 a1 : Nat} {K : Nat → yM → Bool} (hG : yG fg y_T) (hk : ev_kd μ0 a0 = some 3) (p0 : 0 < a0) (hK : ∀ (r : Nat) (M : yM) (μ : eM), K r M = true → yR M μ → y_le μ0 μ → ex_fine fg rc rs (d + 1, (f.1, f.2.1, f.2.2.1, eI (zI r) :: f.2.2.2), F, μ)) : ∀ (a3 a4 a5 : Nat) (M : yM) (μ : eM), m_48_58 a0 a1 K a3 a4 a5 M = true → yR M μ → y_le μ0 μ → ex_fine fg rc rs (d, (48, 58, [some (eR a0), some (eJ (zJ a1)), none, some (eI (zI a3)), some (eI (zI a4)), some (eI (zI a5))], []), f :: F, μ) := by
  intro a3 a4 a5 M μ h hR hl
  unfold m_48_58 at h
  refine w_s (np := 59) (lv' := [some (eR a0), some (eJ (zJ a1)), none, some (eI (zI a3)), some (eI (zI a4)), some (eI (zI a5))]) (st' := [eI (zI a3)]) rfl rfl rfl ?_
  exact v_ri rfl rfl (hK _ _ _ h hR hl)
noncomputable def m_48_21b (a0 a1 : Nat) (K : Nat → yM → Bool) (i21 : Nat → Nat → yM → Bool) (a3 a4 : Nat) (M : yM) : Bool := y_gf M a0 3 1 fun v1 => f_if false (Nat.ble 1 v1) (y_ln y_T M v1 fun v6 => z_if (z_lt a4 v6) (y_gf M a0 3 1 fun v10 => f_if false (Nat.ble 1 v10) (y_lh 100 M v10 a3 fun v15 => z_if (z_e0 v15) (m_48_58 a0 a1 K a3 a4 v15 M) (y_gf M a0 3 0 fun v18 => f_if false (Nat.ble 1 v18) (z_l (z_sub v15 1) fun v23 => y_lh 101 M v18 v23 fun v24 => z_l (z_lcmp v24 a1) fun v26 => z_if (z_e0 v26) (m_48_58 a0 a1 K a3 a4 v15 M) (z_l (z_add a3 1) fun v28 => y_gf M a0 3 1 fun v29 => f_if false (Nat.ble 1 v29) (y_ln y_T M v29 fun v34 => z_l (z_sub v34 1) fun v37 => z_l (z_and v28 v37) fun v38 => z_l (z_add a4 1) fun v39 => z_f v38 fun w40 => z_f v39 fun w41 => i21 w40 w41 M)))))) (K a3 M))
noncomputable def m_48_21 (a0 a1 : Nat) (K : Nat → yM → Bool) (n : Nat) : Nat → Nat → yM → Bool := @Nat.rec (fun _ => Nat → Nat → yM → Bool) (fun _ _ _ => false) (fun _ ih => m_48_21b a0 a1 K ih) n
theorem m_48_21b_ok {fg : eG} {rc rs d : Nat} {f : eFr} {F : List eFr} {μ0 : eM} {a0 a1 : Nat} {K : Nat → yM → Bool} {i21 : Nat → Nat → yM → Bool} (hG : yG fg y_T) (hk : ev_kd μ0 a0 = some 3) (p0 : 0 < a0) (hK : ∀ (r : Nat) (M : yM) (μ : eM), K r M = true → yR M μ → y_le μ0 μ → ex_fine fg rc rs (d + 1, (f.1, f.2.1, f.2.2.1, eI (zI r) :: f.2.2.2), F, μ)) (h21 : ∀ (a3 a4 : Nat) (x5 : Option eV) (M : yM) (μ : eM), i21 a3 a4 M = true → yR M μ → y_le μ0 μ → ex_fine fg rc rs (d, (48, 21, [some (eR a0), some (eJ (zJ a1)), none, some (eI (zI a3)), some (eI (zI a4)), x5], []), f :: F, μ)) : ∀ (a3 a4 : Nat) (x5 : Option eV) (M : yM) (μ : eM), m_48_21b a0 a1 K i21 a3 a4 M = true → yR M μ → y_le μ0 μ → ex_fine fg rc rs (d, (48, 21, [some (eR a0), some (eJ (zJ a1)), none, some (eI (zI a3)), some (eI (zI a4)), x5], []), f :: F, μ) := by
  intro a3 a4 x5 M μ h hR hl
  unfold m_48_21b at h
  refine w_s (np := 23) (lv' := [some (eR a0), some (eJ (zJ a1)), none, some (eI (zI a3)), some (eI (zI a4)), x5]) (st' := [eI (zI a4)]) rfl rfl rfl ?_
  refine w_s (np := 24) (lv' := [some (eR a0), some (eJ (zJ a1)), none, some (eI (zI a3)), some (eI (zI a4)), x5]) (st' := [eR a0, eI (zI a4)]) rfl (s_an rfl p0) rfl ?_
  obtain ⟨v1, h, k2, e3⟩ := y_gf_ok (ty := 3) h hR (by decide) rfl
  obtain ⟨g4, h⟩ := f_if_ok h
  have q5 : 0 < v1 := Nat.ble_eq.mp g4
  refine v_gf3 (np := 27) rfl rfl k2 e3 ?_
  clear k2 e3
  obtain ⟨v6, h, n7, k8⟩ := y_ln_ok h hR hG
  refine v_ln (np := 28) rfl rfl k8 ?_
  rcases z_if_t h with ⟨g9, h⟩ | ⟨g9, h⟩
  · refine v_ge_f (t1 := 78) rfl rfl g9 ?_
    refine w_s (np := 32) (lv' := [some (eR a0), some (eJ (zJ a1)), none, some (eI (zI a3)), some (eI (zI a4)), x5]) (st' := [eR a0]) rfl (s_an rfl p0) rfl ?_
    obtain ⟨v10, h, k11, e12⟩ := y_gf_ok (ty := 3) h hR (by decide) rfl
    obtain ⟨g13, h⟩ := f_if_ok h
    have q14 : 0 < v10 := Nat.ble_eq.mp g13
    refine v_gf3 (np := 35) rfl rfl k11 e12 ?_
    clear k11 e12
    refine w_s (np := 36) (lv' := [some (eR a0), some (eJ (zJ a1)), none, some (eI (zI a3)), some (eI (zI a4)), x5]) (st' := [eI (zI a3), eR v10]) rfl rfl rfl ?_
    obtain ⟨v15, h, k16⟩ := y_lh_ok (ty := 0) h hR hG (by decide) rfl (by decide)
    refine v_la (np := 37) rfl rfl k16 ?_
    clear k16
    refine w_s (np := 39) (lv' := [some (eR a0), some (eJ (zJ a1)), none, some (eI (zI a3)), some (eI (zI a4)), some (eI (zI v15))]) (st' := []) rfl rfl rfl ?_
    refine w_s (np := 41) (lv' := [some (eR a0), some (eJ (zJ a1)), none, some (eI (zI a3)), some (eI (zI a4)), some (eI (zI v15))]) (st' := [eI (zI v15)]) rfl rfl rfl ?_
    rcases z_if_t h with ⟨g17, h⟩ | ⟨g17, h⟩
    · refine v_eq0_t (t1 := 58) rfl rfl g17 ?_
      exact m_48_58_ok hG hk p0 hK _ _ _ M μ h hR hl
    · refine v_eq0_f (t1 := 58) rfl rfl g17 ?_
      refine w_s (np := 45) (lv' := [some (eR a0), some (eJ (zJ a1)), none, some (eI (zI a3)), some (eI (zI a4)), some (eI (zI v15))]) (st' := [eR a0]) rfl (s_an rfl p0) rfl ?_
      obtain ⟨v18, h, k19, e20⟩ := y_gf_ok (ty := 3) h hR (by decide) rfl
      obtain ⟨g21, h⟩ := f_if_ok h
      have q22 : 0 < v18 := Nat.ble_eq.mp g21
      refine v_gf3 (np := 48) rfl rfl k19 e20 ?_
      clear k19 e20
      refine w_s (np := 50) (lv' := [some (eR a0), some (eJ (zJ a1)), none, some (eI (zI a3)), some (eI (zI a4)), some (eI (zI v15))]) (st' := [eI (zI v15), eR v18]) rfl rfl rfl ?_
      refine w_s (np := 51) (lv' := [some (eR a0), some (eJ (zJ a1)), none, some (eI (zI a3)), some (eI (zI a4)), some (eI (zI v15))]) (st' := [eI (zI 1), eI (zI v15), eR v18]) rfl rfl rfl ?_
      obtain ⟨v23, ev23, h⟩ := z_l_ex h
      refine w_s (np := 52) (lv' := [some (eR a0), some (eJ (zJ a1)), none, some (eI (zI a3)), some (eI (zI a4)), some (eI (zI v15))]) (st' := [eI (zI v23), eR v18]) rfl (s_isub ev23) rfl ?_
      clear ev23
      obtain ⟨v24, h, k25⟩ := y_lh_ok (ty := 2) h hR hG (by decide) rfl (by decide)
      refine v_ll (np := 53) rfl rfl k25 ?_
      clear k25
      refine w_s (np := 54) (lv' := [some (eR a0), some (eJ (zJ a1)), none, some (eI (zI a3)), some (eI (zI a4)), some (eI (zI v15))]) (st' := [eJ (zJ a1), eJ (zJ v24)]) rfl rfl rfl ?_
      obtain ⟨v26, ev26, h⟩ := z_l_ex h
      refine w_s (np := 55) (lv' := [some (eR a0), some (eJ (zJ a1)), none, some (eI (zI a3)), some (eI (zI a4)), some (eI (zI v15))]) (st' := [eI (zI v26)]) rfl (s_lcmp ev26) rfl ?_
      clear ev26
      rcases z_if_t h with ⟨g27, h⟩ | ⟨g27, h⟩
      · refine v_ne0_f (t1 := 60) rfl rfl g27 ?_
        exact m_48_58_ok hG hk p0 hK _ _ _ M μ h hR hl
      · refine v_ne0_t (t1 := 60) rfl rfl g27 ?_
        refine w_s (np := 61) (lv' := [some (eR a0), some (eJ (zJ a1)), none, some (eI (zI a3)), some (eI (zI a4)), some (eI (zI v15))]) (st' := [eI (zI a3)]) rfl rfl rfl ?_
        refine w_s (np := 62) (lv' := [some (eR a0), some (eJ (zJ a1)), none, some (eI (zI a3)), some (eI (zI a4)), some (eI (zI v15))]) (st' := [eI (zI 1), eI (zI a3)]) rfl rfl rfl ?_
        obtain ⟨v28, ev28, h⟩ := z_l_ex h
        refine w_s (np := 63) (lv' := [some (eR a0), some (eJ (zJ a1)), none, some (eI (zI a3)), some (eI (zI a4)), some (eI (zI v15))]) (st' := [eI (zI v28)]) rfl (s_iadd ev28) rfl ?_
        clear ev28
        refine w_s (np := 64) (lv' := [some (eR a0), some (eJ (zJ a1)), none, some (eI (zI a3)), some (eI (zI a4)), some (eI (zI v15))]) (st' := [eR a0, eI (zI v28)]) rfl (s_an rfl p0) rfl ?_
        obtain ⟨v29, h, k30, e31⟩ := y_gf_ok (ty := 3) h hR (by decide) rfl
        obtain ⟨g32, h⟩ := f_if_ok h
        have q33 : 0 < v29 := Nat.ble_eq.mp g32
        refine v_gf3 (np := 67) rfl rfl k30 e31 ?_
        clear k30 e31
        obtain ⟨v34, h, n35, k36⟩ := y_ln_ok h hR hG
        refine v_ln (np := 68) rfl rfl k36 ?_
        refine w_s (np := 69) (lv' := [some (eR a0), some (eJ (zJ a1)), none, some (eI (zI a3)), some (eI (zI a4)), some (eI (zI v15))]) (st' := [eI (zI 1), eI (zI v34), eI (zI v28)]) rfl rfl rfl ?_
        obtain ⟨v37, ev37, h⟩ := z_l_ex h
        refine w_s (np := 70) (lv' := [some (eR a0), some (eJ (zJ a1)), none, some (eI (zI a3)), some (eI (zI a4)), some (eI (zI v15))]) (st' := [eI (zI v37), eI (zI v28)]) rfl (s_isub ev37) rfl ?_
        clear ev37
        obtain ⟨v38, ev38, h⟩ := z_l_ex h
        refine w_s (np := 71) (lv' := [some (eR a0), some (eJ (zJ a1)), none, some (eI (zI a3)), some (eI (zI a4)), some (eI (zI v15))]) (st' := [eI (zI v38)]) rfl (s_iand ev38) rfl ?_
        clear ev38
        refine w_s (np := 72) (lv' := [some (eR a0), some (eJ (zJ a1)), none, some (eI (zI v38)), some (eI (zI a4)), some (eI (zI v15))]) (st' := []) rfl rfl rfl ?_
        obtain ⟨v39, ev39, h⟩ := z_l_ex h
        refine w_s (np := 75) (lv' := [some (eR a0), some (eJ (zJ a1)), none, some (eI (zI v38)), some (eI (zI v39)), some (eI (zI v15))]) (st' := []) rfl (s_iinc (b := 1) rfl rfl ev39 rfl) rfl ?_
        clear ev39
        refine w_go (t1 := 21) rfl rfl ?_
        obtain ⟨w40, ew40, h⟩ := z_f_ex h
        subst ew40
        obtain ⟨w41, ew41, h⟩ := z_f_ex h
        subst ew41
        exact h21 _ _ _ M μ h hR hl
  · refine v_ge_t (t1 := 78) rfl rfl g9 ?_
    refine w_s (np := 79) (lv' := [some (eR a0), some (eJ (zJ a1)), none, some (eI (zI a3)), some (eI (zI a4)), x5]) (st' := [eI (zI a3)]) rfl rfl rfl ?_
    exact v_ri rfl rfl (hK _ _ _ h hR hl)
theorem m_48_21_ok {fg : eG} {rc rs d : Nat} {f : eFr} {F : List eFr} {μ0 : eM} {a0 a1 : Nat} {K : Nat → yM → Bool} (hG : yG fg y_T) (hk : ev_kd μ0 a0 = some 3) (p0 : 0 < a0) (hK : ∀ (r : Nat) (M : yM) (μ : eM), K r M = true → yR M μ → y_le μ0 μ → ex_fine fg rc rs (d + 1, (f.1, f.2.1, f.2.2.1, eI (zI r) :: f.2.2.2), F, μ)) : ∀ n : Nat, ∀ (a3 a4 : Nat) (x5 : Option eV) (M : yM) (μ : eM), m_48_21 a0 a1 K n a3 a4 M = true → yR M μ → y_le μ0 μ → ex_fine fg rc rs (d, (48, 21, [some (eR a0), some (eJ (zJ a1)), none, some (eI (zI a3)), some (eI (zI a4)), x5], []), f :: F, μ) := by
  intro n
  induction n with
  | zero =>
    intro a3 a4 x5 M μ h hR hl
    exact absurd h Bool.false_ne_true
  | succ n ih =>
    intro a3 a4 x5 M μ h hR hl
    exact m_48_21b_ok hG hk p0 hK ih a3 a4 x5 M μ h hR hl
/-! RhombInflator$Points.slotFor -/
noncomputable def m_48 (a0 a1 : Nat) (M : yM) (K : Nat → yM → Bool) : Bool := z_l (z_lmul a1 11400714819323198485) fun v1 => z_l (z_lushr v1 48) fun v2 => z_l (z_l2i v2) fun v3 => y_gf M a0 3 1 fun v4 => f_if false (Nat.ble 1 v4) (y_ln y_T M v4 fun v9 => z_l (z_sub v9 1) fun v12 => z_l (z_and v3 v12) fun v13 => m_48_21 a0 a1 K 100000 v13 0 M)
theorem m_48_ok {fg : eG} {rc rs d : Nat} {f : eFr} {F : List eFr} {M : yM} {μ0 : eM} {a0 a1 : Nat} {K : Nat → yM → Bool} (hG : yG fg y_T) (h : m_48 a0 a1 M K = true) (hR : yR M μ0) (hk : ev_kd μ0 a0 = some 3) (p0 : 0 < a0) (hK : ∀ (r : Nat) (M : yM) (μ : eM), K r M = true → yR M μ → y_le μ0 μ → ex_fine fg rc rs (d + 1, (f.1, f.2.1, f.2.2.1, eI (zI r) :: f.2.2.2), F, μ)) : ex_fine fg rc rs (d, (48, 0, [some (eR a0), some (eJ (zJ a1)), none, none, none, none], []), f :: F, μ0) := by
  unfold m_48 at h
  have hl := y_le_r μ0
  refine w_s (np := 1) (lv' := [some (eR a0), some (eJ (zJ a1)), none, none, none, none]) (st' := [eJ (zJ a1)]) rfl rfl rfl ?_
  refine v_l2 (np := 4) (c := 11400714819323198485) rfl rfl (by decide) ?_
  obtain ⟨v1, ev1, h⟩ := z_l_ex h
  refine w_s (np := 5) (lv' := [some (eR a0), some (eJ (zJ a1)), none, none, none, none]) (st' := [eJ (zJ v1)]) rfl (s_lmul ev1) rfl ?_
  clear ev1
  refine w_s (np := 7) (lv' := [some (eR a0), some (eJ (zJ a1)), none, none, none, none]) (st' := [eI (zI 48), eJ (zJ v1)]) rfl rfl rfl ?_
  obtain ⟨v2, ev2, h⟩ := z_l_ex h
  refine w_s (np := 8) (lv' := [some (eR a0), some (eJ (zJ a1)), none, none, none, none]) (st' := [eJ (zJ v2)]) rfl (s_lushr (by decide) ev2) rfl ?_
  clear ev2
  obtain ⟨v3, ev3, h⟩ := z_l_ex h
  refine w_s (np := 9) (lv' := [some (eR a0), some (eJ (zJ a1)), none, none, none, none]) (st' := [eI (zI v3)]) rfl (s_l2i ev3) rfl ?_
  clear ev3
  refine w_s (np := 10) (lv' := [some (eR a0), some (eJ (zJ a1)), none, none, none, none]) (st' := [eR a0, eI (zI v3)]) rfl (s_an rfl p0) rfl ?_
  obtain ⟨v4, h, k5, e6⟩ := y_gf_ok (ty := 3) h hR (by decide) rfl
  obtain ⟨g7, h⟩ := f_if_ok h
  have q8 : 0 < v4 := Nat.ble_eq.mp g7
  refine v_gf3 (np := 13) rfl rfl k5 e6 ?_
  clear k5 e6
  obtain ⟨v9, h, n10, k11⟩ := y_ln_ok h hR hG
  refine v_ln (np := 14) rfl rfl k11 ?_
  refine w_s (np := 15) (lv' := [some (eR a0), some (eJ (zJ a1)), none, none, none, none]) (st' := [eI (zI 1), eI (zI v9), eI (zI v3)]) rfl rfl rfl ?_
  obtain ⟨v12, ev12, h⟩ := z_l_ex h
  refine w_s (np := 16) (lv' := [some (eR a0), some (eJ (zJ a1)), none, none, none, none]) (st' := [eI (zI v12), eI (zI v3)]) rfl (s_isub ev12) rfl ?_
  clear ev12
  obtain ⟨v13, ev13, h⟩ := z_l_ex h
  refine w_s (np := 17) (lv' := [some (eR a0), some (eJ (zJ a1)), none, none, none, none]) (st' := [eI (zI v13)]) rfl (s_iand ev13) rfl ?_
  clear ev13
  refine w_s (np := 18) (lv' := [some (eR a0), some (eJ (zJ a1)), none, some (eI (zI v13)), none, none]) (st' := []) rfl rfl rfl ?_
  refine w_s (np := 19) (lv' := [some (eR a0), some (eJ (zJ a1)), none, some (eI (zI v13)), none, none]) (st' := [eI (zI 0)]) rfl rfl rfl ?_
  refine w_s (np := 21) (lv' := [some (eR a0), some (eJ (zJ a1)), none, some (eI (zI v13)), some (eI (zI 0)), none]) (st' := []) rfl rfl rfl ?_
  exact m_48_21_ok hG hk p0 hK 100000 _ _ _ M μ0 h hR hl
noncomputable def m_363_10 (a0 a1 : Nat) (K : Nat → yM → Bool) (s0 : Nat) (M : yM) : Bool := K s0 M
theorem m_363_10_ok {fg : eG} {rc rs d : Nat} {f : eFr} {F : List eFr} {μ0 : eM} {a0 a1 : Nat} {K : Nat → yM → Bool} (hG : yG fg y_T) (hK : ∀ (r : Nat) (M : yM) (μ : eM), K r M = true → yR M μ → y_le μ0 μ → ex_fine fg rc rs (d + 1, (f.1, f.2.1, f.2.2.1, eI (zI r) :: f.2.2.2), F, μ)) : ∀ (s0 : Nat) (M : yM) (μ : eM), m_363_10 a0 a1 K s0 M = true → yR M μ → y_le μ0 μ → ex_fine fg rc rs (d, (363, 10, [some (eI (zI a0)), some (eI (zI a1))], [eI (zI s0)]), f :: F, μ) := by
  intro s0 M μ h hR hl
  unfold m_363_10 at h
  exact v_ri rfl rfl (hK _ _ _ h hR hl)
/-! java/lang/Math.max -/
noncomputable def m_363 (a0 a1 : Nat) (M : yM) (K : Nat → yM → Bool) : Bool := z_if (z_lt a0 a1) (m_363_10 a0 a1 K a1 M) (m_363_10 a0 a1 K a0 M)
theorem m_363_ok {fg : eG} {rc rs d : Nat} {f : eFr} {F : List eFr} {M : yM} {μ0 : eM} {a0 a1 : Nat} {K : Nat → yM → Bool} (hG : yG fg y_T) (h : m_363 a0 a1 M K = true) (hR : yR M μ0) (hK : ∀ (r : Nat) (M : yM) (μ : eM), K r M = true → yR M μ → y_le μ0 μ → ex_fine fg rc rs (d + 1, (f.1, f.2.1, f.2.2.1, eI (zI r) :: f.2.2.2), F, μ)) : ex_fine fg rc rs (d, (363, 0, [some (eI (zI a0)), some (eI (zI a1))], []), f :: F, μ0) := by
  unfold m_363 at h
  have hl := y_le_r μ0
  refine w_s (np := 1) (lv' := [some (eI (zI a0)), some (eI (zI a1))]) (st' := [eI (zI a0)]) rfl rfl rfl ?_
  refine w_s (np := 2) (lv' := [some (eI (zI a0)), some (eI (zI a1))]) (st' := [eI (zI a1), eI (zI a0)]) rfl rfl rfl ?_
  rcases z_if_t h with ⟨g1, h⟩ | ⟨g1, h⟩
  · refine v_lt_t (t1 := 9) rfl rfl g1 ?_
    refine w_s (np := 10) (lv' := [some (eI (zI a0)), some (eI (zI a1))]) (st' := [eI (zI a1)]) rfl rfl rfl ?_
    exact m_363_10_ok hG hK _ M μ0 h hR hl
  · refine v_lt_f (t1 := 9) rfl rfl g1 ?_
    refine w_s (np := 6) (lv' := [some (eI (zI a0)), some (eI (zI a1))]) (st' := [eI (zI a0)]) rfl rfl rfl ?_
    refine w_go (t1 := 10) rfl rfl ?_
    exact m_363_10_ok hG hK _ M μ0 h hR hl
noncomputable def m_46_57 (a0 a1 : Nat) (K : Nat → yM → Bool) (a3 : Nat) (M : yM) : Bool := y_gf M a0 3 1 fun v1 => f_if false (Nat.ble 1 v1) (y_lh 100 M v1 a3 fun v6 => z_l (z_sub v6 1) fun v8 => m_363 v8 0 M fun v14 M9 => K v14 M9)
theorem m_46_57_ok {fg : eG} {rc rs d : Nat} {f : eFr} {F : List eFr} {μ0 : eM} {a0 a1 : Nat} {K : Nat → yM → Bool} (hG : yG fg y_T) (hk : ev_kd μ0 a0 = some 3) (p0 : 0 < a0) (hK : ∀ (r : Nat) (M : yM) (μ : eM), K r M = true → yR M μ → y_le μ0 μ → ex_fine fg rc rs (d + 2, (f.1, f.2.1, f.2.2.1, eI (zI r) :: f.2.2.2), F, μ)) : ∀ (a3 : Nat) (M : yM) (μ : eM), m_46_57 a0 a1 K a3 M = true → yR M μ → y_le μ0 μ → ex_fine fg rc rs (d + 1, (46, 57, [some (eR a0), some (eJ (zJ a1)), none, some (eI (zI a3))], []), f :: F, μ) := by
  intro a3 M μ h hR hl
  unfold m_46_57 at h
  refine w_s (np := 58) (lv' := [some (eR a0), some (eJ (zJ a1)), none, some (eI (zI a3))]) (st' := [eR a0]) rfl (s_an rfl p0) rfl ?_
  obtain ⟨v1, h, k2, e3⟩ := y_gf_ok (ty := 3) h hR (by decide) rfl
  obtain ⟨g4, h⟩ := f_if_ok h
  have q5 : 0 < v1 := Nat.ble_eq.mp g4
  refine v_gf3 (np := 61) rfl rfl k2 e3 ?_
  clear k2 e3
  refine w_s (np := 62) (lv' := [some (eR a0), some (eJ (zJ a1)), none, some (eI (zI a3))]) (st' := [eI (zI a3), eR v1]) rfl rfl rfl ?_
  obtain ⟨v6, h, k7⟩ := y_lh_ok (ty := 0) h hR hG (by decide) rfl (by decide)
  refine v_la (np := 63) rfl rfl k7 ?_
  clear k7
  refine w_s (np := 64) (lv' := [some (eR a0), some (eJ (zJ a1)), none, some (eI (zI a3))]) (st' := [eI (zI 1), eI (zI v6)]) rfl rfl rfl ?_
  obtain ⟨v8, ev8, h⟩ := z_l_ex h
  refine w_s (np := 65) (lv' := [some (eR a0), some (eJ (zJ a1)), none, some (eI (zI a3))]) (st' := [eI (zI v8)]) rfl (s_isub ev8) rfl ?_
  clear ev8
  refine w_s (np := 66) (lv' := [some (eR a0), some (eJ (zJ a1)), none, some (eI (zI a3))]) (st' := [eI (zI 0), eI (zI v8)]) rfl rfl rfl ?_
  refine w_cs (np := 69) (as := [eI (zI v8), eI (zI 0)]) (lv' := [some (eI (zI v8)), some (eI (zI 0))]) (rest := []) rfl rfl rfl (Nat.ble_eq.mp rfl) rfl rfl rfl rfl ?_
  refine m_363_ok hG h hR ?_
  intro v14 M9 μ10 h hR11 hl13
  have hl12 := y_le.tr hl hl13
  show ex_fine fg rc rs (d + 1, (46, 69, [some (eR a0), some (eJ (zJ a1)), none, some (eI (zI a3))], [eI (zI v14)]), f :: F, μ10)
  exact v_ri rfl rfl (hK _ _ _ h hR11 hl12)
/-! RhombInflator$Points.add -/
noncomputable def m_46 (a0 a1 : Nat) (M : yM) (K : Nat → yM → Bool) : Bool := m_48 a0 a1 M fun v6 M1 => y_gf M1 a0 3 1 fun v7 => f_if false (Nat.ble 1 v7) (y_lh 100 M1 v7 v6 fun v12 => z_if (z_e0 v12) (y_gf M1 a0 3 2 fun v15 => y_gf M1 a0 3 0 fun v18 => f_if false (Nat.ble 1 v18) (y_ln y_T M1 v18 fun v23 => z_if (z_lt v15 v23) (y_gf M1 a0 3 0 fun v27 => f_if false (Nat.ble 1 v27) (y_gf M1 a0 3 2 fun v32 => y_sa 101 M1 v27 v32 a1 fun M35 => y_gf M35 a0 3 2 fun v40 => z_l (z_add v40 1) fun v43 => y_wf M35 a0 3 2 v43 fun M44 => y_gf M44 a0 3 1 fun v50 => f_if false (Nat.ble 1 v50) (y_gf M44 a0 3 2 fun v55 => y_sa 100 M44 v50 v6 v55 fun M58 => m_46_57 a0 a1 K v6 M58))) (m_46_57 a0 a1 K v6 M1))) (m_46_57 a0 a1 K v6 M1))
theorem m_46_ok {fg : eG} {rc rs d : Nat} {f : eFr} {F : List eFr} {M : yM} {μ0 : eM} {a0 a1 : Nat} {K : Nat → yM → Bool} (hG : yG fg y_T) (h : m_46 a0 a1 M K = true) (hR : yR M μ0) (hk : ev_kd μ0 a0 = some 3) (p0 : 0 < a0) (hK : ∀ (r : Nat) (M : yM) (μ : eM), K r M = true → yR M μ → y_le μ0 μ → ex_fine fg rc rs (d + 2, (f.1, f.2.1, f.2.2.1, eI (zI r) :: f.2.2.2), F, μ)) : ex_fine fg rc rs (d + 1, (46, 0, [some (eR a0), some (eJ (zJ a1)), none, none], []), f :: F, μ0) := by
  unfold m_46 at h
  have hl := y_le_r μ0
  refine w_s (np := 1) (lv' := [some (eR a0), some (eJ (zJ a1)), none, none]) (st' := [eR a0]) rfl (s_an rfl p0) rfl ?_
  refine w_s (np := 2) (lv' := [some (eR a0), some (eJ (zJ a1)), none, none]) (st' := [eJ (zJ a1), eR a0]) rfl rfl rfl ?_
  refine w_cv (np := 5) (as := [eJ (zJ a1)]) (lv' := [some (eR a0), some (eJ (zJ a1)), none, none, none, none]) (rest := []) rfl rfl rfl (Nat.ble_eq.mp rfl) rfl rfl rfl (hl _ _ hk) rfl ?_
  refine m_48_ok hG h hR (hl _ _ hk) p0 ?_
  intro v6 M1 μ2 h hR3 hl5
  have hl4 := y_le.tr hl hl5
  show ex_fine fg rc rs (d + 1, (46, 5, [some (eR a0), some (eJ (zJ a1)), none, none], [eI (zI v6)]), f :: F, μ2)
  refine w_s (np := 6) (lv' := [some (eR a0), some (eJ (zJ a1)), none, some (eI (zI v6))]) (st' := []) rfl rfl rfl ?_
  refine w_s (np := 7) (lv' := [some (eR a0), some (eJ (zJ a1)), none, some (eI (zI v6))]) (st' := [eR a0]) rfl (s_an rfl p0) rfl ?_
  obtain ⟨v7, h, k8, e9⟩ := y_gf_ok (ty := 3) h hR3 (by decide) rfl
  obtain ⟨g10, h⟩ := f_if_ok h
  have q11 : 0 < v7 := Nat.ble_eq.mp g10
  refine v_gf3 (np := 10) rfl rfl k8 e9 ?_
  clear k8 e9
  refine w_s (np := 11) (lv' := [some (eR a0), some (eJ (zJ a1)), none, some (eI (zI v6))]) (st' := [eI (zI v6), eR v7]) rfl rfl rfl ?_
  obtain ⟨v12, h, k13⟩ := y_lh_ok (ty := 0) h hR3 hG (by decide) rfl (by decide)
  refine v_la (np := 12) rfl rfl k13 ?_
  clear k13
  rcases z_if_t h with ⟨g14, h⟩ | ⟨g14, h⟩
  · refine v_ne0_f (t1 := 57) rfl rfl g14 ?_
    refine w_s (np := 16) (lv' := [some (eR a0), some (eJ (zJ a1)), none, some (eI (zI v6))]) (st' := [eR a0]) rfl (s_an rfl p0) rfl ?_
    obtain ⟨v15, h, k16, e17⟩ := y_gf_ok (ty := 0) h hR3 (by decide) rfl
    refine v_gf0 (np := 19) rfl rfl k16 e17 ?_
    clear k16 e17
    refine w_s (np := 20) (lv' := [some (eR a0), some (eJ (zJ a1)), none, some (eI (zI v6))]) (st' := [eR a0, eI (zI v15)]) rfl (s_an rfl p0) rfl ?_
    obtain ⟨v18, h, k19, e20⟩ := y_gf_ok (ty := 3) h hR3 (by decide) rfl
    obtain ⟨g21, h⟩ := f_if_ok h
    have q22 : 0 < v18 := Nat.ble_eq.mp g21
    refine v_gf3 (np := 23) rfl rfl k19 e20 ?_
    clear k19 e20
    obtain ⟨v23, h, n24, k25⟩ := y_ln_ok h hR3 hG
    refine v_ln (np := 24) rfl rfl k25 ?_
    rcases z_if_t h with ⟨g26, h⟩ | ⟨g26, h⟩
    · refine v_ge_f (t1 := 57) rfl rfl g26 ?_
      refine w_s (np := 28) (lv' := [some (eR a0), some (eJ (zJ a1)), none, some (eI (zI v6))]) (st' := [eR a0]) rfl (s_an rfl p0) rfl ?_
      obtain ⟨v27, h, k28, e29⟩ := y_gf_ok (ty := 3) h hR3 (by decide) rfl
      obtain ⟨g30, h⟩ := f_if_ok h
      have q31 : 0 < v27 := Nat.ble_eq.mp g30
      refine v_gf3 (np := 31) rfl rfl k28 e29 ?_
      clear k28 e29
      refine w_s (np := 32) (lv' := [some (eR a0), some (eJ (zJ a1)), none, some (eI (zI v6))]) (st' := [eR a0, eR v27]) rfl (s_an rfl p0) rfl ?_
      obtain ⟨v32, h, k33, e34⟩ := y_gf_ok (ty := 0) h hR3 (by decide) rfl
      refine v_gf0 (np := 35) rfl rfl k33 e34 ?_
      clear k33 e34
      refine w_s (np := 36) (lv' := [some (eR a0), some (eJ (zJ a1)), none, some (eI (zI v6))]) (st' := [eJ (zJ a1), eI (zI v32), eR v27]) rfl rfl rfl ?_
      obtain ⟨M35, μ36, h, k39, hR37, hl38⟩ := y_sa_ex (ty := 2) h hR3 hl4 rfl (by decide)
      refine v_sl (np := 37) rfl rfl k39 ?_
      clear k39
      refine w_s (np := 38) (lv' := [some (eR a0), some (eJ (zJ a1)), none, some (eI (zI v6))]) (st' := [eR a0]) rfl (s_an rfl p0) rfl ?_
      refine w_s (np := 39) (lv' := [some (eR a0), some (eJ (zJ a1)), none, some (eI (zI v6))]) (st' := [eR a0, eR a0]) rfl rfl rfl ?_
      obtain ⟨v40, h, k41, e42⟩ := y_gf_ok (ty := 0) h hR37 (by decide) rfl
      refine v_gf0 (np := 42) rfl rfl k41 e42 ?_
      clear k41 e42
      refine w_s (np := 43) (lv' := [some (eR a0), some (eJ (zJ a1)), none, some (eI (zI v6))]) (st' := [eI (zI 1), eI (zI v40), eR a0]) rfl rfl rfl ?_
      obtain ⟨v43, ev43, h⟩ := z_l_ex h
      refine w_s (np := 44) (lv' := [some (eR a0), some (eJ (zJ a1)), none, some (eI (zI v6))]) (st' := [eI (zI v43), eR a0]) rfl (s_iadd ev43) rfl ?_
      clear ev43
      obtain ⟨M44, μ45, h, k48, hR46, hl47, e49⟩ := y_wf_ex (ty := 0) h hR37 hl38 rfl (by decide)
      refine v_pe0 (np := 47) rfl rfl k48 e49 ?_
      clear k48 e49
      refine w_s (np := 48) (lv' := [some (eR a0), some (eJ (zJ a1)), none, some (eI (zI v6))]) (st' := [eR a0]) rfl (s_an rfl p0) rfl ?_
      obtain ⟨v50, h, k51, e52⟩ := y_gf_ok (ty := 3) h hR46 (by decide) rfl
      obtain ⟨g53, h⟩ := f_if_ok h
      have q54 : 0 < v50 := Nat.ble_eq.mp g53
      refine v_gf3 (np := 51) rfl rfl k51 e52 ?_
      clear k51 e52
      refine w_s (np := 52) (lv' := [some (eR a0), some (eJ (zJ a1)), none, some (eI (zI v6))]) (st' := [eI (zI v6), eR v50]) rfl rfl rfl ?_
      refine w_s (np := 53) (lv' := [some (eR a0), some (eJ (zJ a1)), none, some (eI (zI v6))]) (st' := [eR a0, eI (zI v6), eR v50]) rfl (s_an rfl p0) rfl ?_
      obtain ⟨v55, h, k56, e57⟩ := y_gf_ok (ty := 0) h hR46 (by decide) rfl
      refine v_gf0 (np := 56) rfl rfl k56 e57 ?_
      clear k56 e57
      obtain ⟨M58, μ59, h, k62, hR60, hl61⟩ := y_sa_ex (ty := 0) h hR46 hl47 rfl (by decide)
      refine v_sa (np := 57) rfl rfl k62 ?_
      clear k62
      exact m_46_57_ok hG hk p0 hK _ M58 μ59 h hR60 hl61
    · refine v_ge_t (t1 := 57) rfl rfl g26 ?_
      exact m_46_57_ok hG hk p0 hK _ M1 μ2 h hR3 hl4
  · refine v_ne0_t (t1 := 57) rfl rfl g14 ?_
    exact m_46_57_ok hG hk p0 hK _ M1 μ2 h hR3 hl4
/-! RhombInflator$Ring.step -/
noncomputable def m_74 (a0 : Nat) (M : yM) (K : Nat → yM → Bool) : Bool := m_361 a0 10 M fun v6 M1 => y_la y_T 101 M1 13 v6 fun v7 => K v7 M1
theorem m_74_ok {fg : eG} {rc rs d : Nat} {f : eFr} {F : List eFr} {M : yM} {μ0 : eM} {a0 : Nat} {K : Nat → yM → Bool} (hG : yG fg y_T) (h : m_74 a0 M K = true) (hR : yR M μ0) (hK : ∀ (r : Nat) (M : yM) (μ : eM), K r M = true → yR M μ → y_le μ0 μ → ex_fine fg rc rs (d + 2, (f.1, f.2.1, f.2.2.1, eJ (zJ r) :: f.2.2.2), F, μ)) : ex_fine fg rc rs (d + 1, (74, 0, [some (eI (zI a0))], []), f :: F, μ0) := by
  unfold m_74 at h
  have hl := y_le_r μ0
  refine v_gs (np := 3) rfl rfl ?_
  refine w_s (np := 4) (lv' := [some (eI (zI a0))]) (st' := [eI (zI a0), eR 13]) rfl rfl rfl ?_
  refine w_s (np := 6) (lv' := [some (eI (zI a0))]) (st' := [eI (zI 10), eI (zI a0), eR 13]) rfl rfl rfl ?_
  refine w_cs (np := 9) (as := [eI (zI a0), eI (zI 10)]) (lv' := [some (eI (zI a0)), some (eI (zI 10)), none]) (rest := [eR 13]) rfl rfl rfl (Nat.ble_eq.mp rfl) rfl rfl rfl rfl ?_
  refine m_361_ok hG h hR ?_
  intro v6 M1 μ2 h hR3 hl5
  have hl4 := y_le.tr hl hl5
  show ex_fine fg rc rs (d + 1, (74, 9, [some (eI (zI a0))], [eI (zI v6), eR 13]), f :: F, μ2)
  obtain ⟨v7, h, k8⟩ := y_la_ok (ty := 2) h hR3 hG (by decide) rfl (by decide)
  refine v_ll (np := 10) rfl rfl k8 ?_
  clear k8
  exact v_rl rfl rfl (hK _ _ _ h hR3 hl4)
/-! RhombInflator$Ring.plus -/
noncomputable def m_75 (a0 a2 : Nat) (M : yM) (K : Nat → yM → Bool) : Bool := z_l (z_land a0 9223231297218904063) fun v1 => z_l (z_land a2 9223231297218904063) fun v2 => z_l (z_ladd v1 v2) fun v3 => z_l (z_lxor a0 a2) fun v4 => z_l (z_land v4 9223512776490647552) fun v5 => z_l (z_lxor v3 v5) fun v6 => K v6 M
theorem m_75_ok {fg : eG} {rc rs d : Nat} {f : eFr} {F : List eFr} {M : yM} {μ0 : eM} {a0 a2 : Nat} {K : Nat → yM → Bool} (hG : yG fg y_T) (h : m_75 a0 a2 M K = true) (hR : yR M μ0) (hK : ∀ (r : Nat) (M : yM) (μ : eM), K r M = true → yR M μ → y_le μ0 μ → ex_fine fg rc rs (d + 1, (f.1, f.2.1, f.2.2.1, eJ (zJ r) :: f.2.2.2), F, μ)) : ex_fine fg rc rs (d, (75, 0, [some (eJ (zJ a0)), none, some (eJ (zJ a2)), none], []), f :: F, μ0) := by
  unfold m_75 at h
  have hl := y_le_r μ0
  refine w_s (np := 1) (lv' := [some (eJ (zJ a0)), none, some (eJ (zJ a2)), none]) (st' := [eJ (zJ a0)]) rfl rfl rfl ?_
  refine v_l2 (np := 4) (c := 9223231297218904063) rfl rfl (by decide) ?_
  obtain ⟨v1, ev1, h⟩ := z_l_ex h
  refine w_s (np := 5) (lv' := [some (eJ (zJ a0)), none, some (eJ (zJ a2)), none]) (st' := [eJ (zJ v1)]) rfl (s_land ev1) rfl ?_
  clear ev1
  refine w_s (np := 6) (lv' := [some (eJ (zJ a0)), none, some (eJ (zJ a2)), none]) (st' := [eJ (zJ a2), eJ (zJ v1)]) rfl rfl rfl ?_
  refine v_l2 (np := 9) (c := 9223231297218904063) rfl rfl (by decide) ?_
  obtain ⟨v2, ev2, h⟩ := z_l_ex h
  refine w_s (np := 10) (lv' := [some (eJ (zJ a0)), none, some (eJ (zJ a2)), none]) (st' := [eJ (zJ v2), eJ (zJ v1)]) rfl (s_land ev2) rfl ?_
  clear ev2
  obtain ⟨v3, ev3, h⟩ := z_l_ex h
  refine w_s (np := 11) (lv' := [some (eJ (zJ a0)), none, some (eJ (zJ a2)), none]) (st' := [eJ (zJ v3)]) rfl (s_ladd ev3) rfl ?_
  clear ev3
  refine w_s (np := 12) (lv' := [some (eJ (zJ a0)), none, some (eJ (zJ a2)), none]) (st' := [eJ (zJ a0), eJ (zJ v3)]) rfl rfl rfl ?_
  refine w_s (np := 13) (lv' := [some (eJ (zJ a0)), none, some (eJ (zJ a2)), none]) (st' := [eJ (zJ a2), eJ (zJ a0), eJ (zJ v3)]) rfl rfl rfl ?_
  obtain ⟨v4, ev4, h⟩ := z_l_ex h
  refine w_s (np := 14) (lv' := [some (eJ (zJ a0)), none, some (eJ (zJ a2)), none]) (st' := [eJ (zJ v4), eJ (zJ v3)]) rfl (s_lxor ev4) rfl ?_
  clear ev4
  refine v_l2 (np := 17) (c := 9223512776490647552) rfl rfl (by decide) ?_
  obtain ⟨v5, ev5, h⟩ := z_l_ex h
  refine w_s (np := 18) (lv' := [some (eJ (zJ a0)), none, some (eJ (zJ a2)), none]) (st' := [eJ (zJ v5), eJ (zJ v3)]) rfl (s_land ev5) rfl ?_
  clear ev5
  obtain ⟨v6, ev6, h⟩ := z_l_ex h
  refine w_s (np := 19) (lv' := [some (eJ (zJ a0)), none, some (eJ (zJ a2)), none]) (st' := [eJ (zJ v6)]) rfl (s_lxor ev6) rfl ?_
  clear ev6
  exact v_rl rfl rfl (hK _ _ _ h hR hl)
/-! RhombInflator$Patch.appendHalf -/
noncomputable def m_27 (a0 a1 a2 a4 a5 : Nat) (M : yM) (K : yM → Bool) : Bool := y_gf M a0 2 4 fun v1 => f_if false (Nat.ble 1 v1) (m_74 a4 M fun v11 M6 => m_75 a2 v11 M6 fun v17 M12 => y_is M12 v1 3 (m_46 v1 v17 M12 fun v23 M18 => y_gf M18 a0 2 4 fun v25 => f_if false (Nat.ble 1 v25) (m_74 a5 M18 fun v35 M30 => m_75 a2 v35 M30 fun v41 M36 => y_is M36 v25 3 (m_46 v25 v41 M36 fun v47 M42 => y_gf M42 a0 2 7 fun v49 => y_gf M42 a0 2 7 fun v52 => m_28 a0 v49 a1 v52 a4 a5 M42 fun M55 => y_gf M55 a0 2 7 fun v60 => y_gf M55 a0 2 4 fun v63 => f_if false (Nat.ble 1 v63) (y_is M55 v63 3 (m_46 v63 a2 M55 fun v73 M68 => m_29 a0 v60 v73 v23 v47 M68 fun M75 => y_gf M75 a0 2 7 fun v80 => z_l (z_add v80 1) fun v83 => y_wf M75 a0 2 7 v83 fun M84 => K M84))))))
theorem m_27_ok {fg : eG} {rc rs d : Nat} {f : eFr} {F : List eFr} {M : yM} {μ0 : eM} {a0 a1 a2 a4 a5 : Nat} {K : yM → Bool} (hG : yG fg y_T) (h : m_27 a0 a1 a2 a4 a5 M K = true) (hR : yR M μ0) (hk : ev_kd μ0 a0 = some 2) (p0 : 0 < a0) (hK : ∀ (M : yM) (μ : eM), K M = true → yR M μ → y_le μ0 μ → ex_fine fg rc rs (d + 3, (f.1, f.2.1, f.2.2.1, f.2.2.2), F, μ)) : ex_fine fg rc rs (d + 2, (27, 0, [some (eR a0), some (eI (zI a1)), some (eJ (zJ a2)), none, some (eI (zI a4)), some (eI (zI a5)), none, none], []), f :: F, μ0) := by
  unfold m_27 at h
  have hl := y_le_r μ0
  refine w_s (np := 1) (lv' := [some (eR a0), some (eI (zI a1)), some (eJ (zJ a2)), none, some (eI (zI a4)), some (eI (zI a5)), none, none]) (st' := [eR a0]) rfl (s_an rfl p0) rfl ?_
  obtain ⟨v1, h, k2, e3⟩ := y_gf_ok (ty := 3) h hR (by decide) rfl
  obtain ⟨g4, h⟩ := f_if_ok h
  have q5 : 0 < v1 := Nat.ble_eq.mp g4
  refine v_gf3 (np := 4) rfl rfl k2 e3 ?_
  clear k2 e3
  refine w_s (np := 5) (lv' := [some (eR a0), some (eI (zI a1)), some (eJ (zJ a2)), none, some (eI (zI a4)), some (eI (zI a5)), none, none]) (st' := [eJ (zJ a2), eR v1]) rfl rfl rfl ?_
  refine w_s (np := 7) (lv' := [some (eR a0), some (eI (zI a1)), some (eJ (zJ a2)), none, some (eI (zI a4)), some (eI (zI a5)), none, none]) (st' := [eI (zI a4), eJ (zJ a2), eR v1]) rfl rfl rfl ?_
  refine w_cs (np := 10) (as := [eI (zI a4)]) (lv' := [some (eI (zI a4))]) (rest := [eJ (zJ a2), eR v1]) rfl rfl rfl (Nat.ble_eq.mp rfl) rfl rfl rfl rfl ?_
  refine m_74_ok hG h hR ?_
  intro v11 M6 μ7 h hR8 hl10
  have hl9 := y_le.tr hl hl10
  show ex_fine fg rc rs (d + 2, (27, 10, [some (eR a0), some (eI (zI a1)), some (eJ (zJ a2)), none, some (eI (zI a4)), some (eI (zI a5)), none, none], [eJ (zJ v11), eJ (zJ a2), eR v1]), f :: F, μ7)
  refine w_cs (np := 13) (as := [eJ (zJ a2), eJ (zJ v11)]) (lv' := [some (eJ (zJ a2)), none, some (eJ (zJ v11)), none]) (rest := [eR v1]) rfl rfl rfl (Nat.ble_eq.mp rfl) rfl rfl rfl rfl ?_
  refine m_75_ok hG h hR8 ?_
  intro v17 M12 μ13 h hR14 hl16
  have hl15 := y_le.tr hl9 hl16
  show ex_fine fg rc rs (d + 2, (27, 13, [some (eR a0), some (eI (zI a1)), some (eJ (zJ a2)), none, some (eI (zI a4)), some (eI (zI a5)), none, none], [eJ (zJ v17), eR v1]), f :: F, μ13)
  obtain ⟨k24, h⟩ := y_is_ok h hR14
  refine w_cv (np := 16) (as := [eJ (zJ v17)]) (lv' := [some (eR v1), some (eJ (zJ v17)), none, none]) (rest := []) rfl rfl rfl (Nat.ble_eq.mp rfl) rfl rfl rfl k24 rfl ?_
  refine m_46_ok hG h hR14 k24 q5 ?_
  intro v23 M18 μ19 h hR20 hl22
  have hl21 := y_le.tr hl15 hl22
  show ex_fine fg rc rs (d + 2, (27, 16, [some (eR a0), some (eI (zI a1)), some (eJ (zJ a2)), none, some (eI (zI a4)), some (eI (zI a5)), none, none], [eI (zI v23)]), f :: F, μ19)
  refine w_s (np := 18) (lv' := [some (eR a0), some (eI (zI a1)), some (eJ (zJ a2)), none, some (eI (zI a4)), some (eI (zI a5)), some (eI (zI v23)), none]) (st' := []) rfl rfl rfl ?_
  refine w_s (np := 19) (lv' := [some (eR a0), some (eI (zI a1)), some (eJ (zJ a2)), none, some (eI (zI a4)), some (eI (zI a5)), some (eI (zI v23)), none]) (st' := [eR a0]) rfl (s_an rfl p0) rfl ?_
  obtain ⟨v25, h, k26, e27⟩ := y_gf_ok (ty := 3) h hR20 (by decide) rfl
  obtain ⟨g28, h⟩ := f_if_ok h
  have q29 : 0 < v25 := Nat.ble_eq.mp g28
  refine v_gf3 (np := 22) rfl rfl k26 e27 ?_
  clear k26 e27
  refine w_s (np := 23) (lv' := [some (eR a0), some (eI (zI a1)), some (eJ (zJ a2)), none, some (eI (zI a4)), some (eI (zI a5)), some (eI (zI v23)), none]) (st' := [eJ (zJ a2), eR v25]) rfl rfl rfl ?_
  refine w_s (np := 25) (lv' := [some (eR a0), some (eI (zI a1)), some (eJ (zJ a2)), none, some (eI (zI a4)), some (eI (zI a5)), some (eI (zI v23)), none]) (st' := [eI (zI a5), eJ (zJ a2), eR v25]) rfl rfl rfl ?_
  refine w_cs (np := 28) (as := [eI (zI a5)]) (lv' := [some (eI (zI a5))]) (rest := [eJ (zJ a2), eR v25]) rfl rfl rfl (Nat.ble_eq.mp rfl) rfl rfl rfl rfl ?_
  refine m_74_ok hG h hR20 ?_
  intro v35 M30 μ31 h hR32 hl34
  have hl33 := y_le.tr hl21 hl34
  show ex_fine fg rc rs (d + 2, (27, 28, [some (eR a0), some (eI (zI a1)), some (eJ (zJ a2)), none, some (eI (zI a4)), some (eI (zI a5)), some (eI (zI v23)), none], [eJ (zJ v35), eJ (zJ a2), eR v25]), f :: F, μ31)
  refine w_cs (np := 31) (as := [eJ (zJ a2), eJ (zJ v35)]) (lv' := [some (eJ (zJ a2)), none, some (eJ (zJ v35)), none]) (rest := [eR v25]) rfl rfl rfl (Nat.ble_eq.mp rfl) rfl rfl rfl rfl ?_
  refine m_75_ok hG h hR32 ?_
  intro v41 M36 μ37 h hR38 hl40
  have hl39 := y_le.tr hl33 hl40
  show ex_fine fg rc rs (d + 2, (27, 31, [some (eR a0), some (eI (zI a1)), some (eJ (zJ a2)), none, some (eI (zI a4)), some (eI (zI a5)), some (eI (zI v23)), none], [eJ (zJ v41), eR v25]), f :: F, μ37)
  obtain ⟨k48, h⟩ := y_is_ok h hR38
  refine w_cv (np := 34) (as := [eJ (zJ v41)]) (lv' := [some (eR v25), some (eJ (zJ v41)), none, none]) (rest := []) rfl rfl rfl (Nat.ble_eq.mp rfl) rfl rfl rfl k48 rfl ?_
  refine m_46_ok hG h hR38 k48 q29 ?_
  intro v47 M42 μ43 h hR44 hl46
  have hl45 := y_le.tr hl39 hl46
  show ex_fine fg rc rs (d + 2, (27, 34, [some (eR a0), some (eI (zI a1)), some (eJ (zJ a2)), none, some (eI (zI a4)), some (eI (zI a5)), some (eI (zI v23)), none], [eI (zI v47)]), f :: F, μ43)
  refine w_s (np := 36) (lv' := [some (eR a0), some (eI (zI a1)), some (eJ (zJ a2)), none, some (eI (zI a4)), some (eI (zI a5)), some (eI (zI v23)), some (eI (zI v47))]) (st' := []) rfl rfl rfl ?_
  refine w_s (np := 37) (lv' := [some (eR a0), some (eI (zI a1)), some (eJ (zJ a2)), none, some (eI (zI a4)), some (eI (zI a5)), some (eI (zI v23)), some (eI (zI v47))]) (st' := [eR a0]) rfl (s_an rfl p0) rfl ?_
  refine w_s (np := 38) (lv' := [some (eR a0), some (eI (zI a1)), some (eJ (zJ a2)), none, some (eI (zI a4)), some (eI (zI a5)), some (eI (zI v23)), some (eI (zI v47))]) (st' := [eR a0, eR a0]) rfl (s_an rfl p0) rfl ?_
  obtain ⟨v49, h, k50, e51⟩ := y_gf_ok (ty := 0) h hR44 (by decide) rfl
  refine v_gf0 (np := 41) rfl rfl k50 e51 ?_
  clear k50 e51
  refine w_s (np := 42) (lv' := [some (eR a0), some (eI (zI a1)), some (eJ (zJ a2)), none, some (eI (zI a4)), some (eI (zI a5)), some (eI (zI v23)), some (eI (zI v47))]) (st' := [eI (zI a1), eI (zI v49), eR a0]) rfl rfl rfl ?_
  refine w_s (np := 43) (lv' := [some (eR a0), some (eI (zI a1)), some (eJ (zJ a2)), none, some (eI (zI a4)), some (eI (zI a5)), some (eI (zI v23)), some (eI (zI v47))]) (st' := [eR a0, eI (zI a1), eI (zI v49), eR a0]) rfl (s_an rfl p0) rfl ?_
  obtain ⟨v52, h, k53, e54⟩ := y_gf_ok (ty := 0) h hR44 (by decide) rfl
  refine v_gf0 (np := 46) rfl rfl k53 e54 ?_
  clear k53 e54
  refine w_s (np := 48) (lv' := [some (eR a0), some (eI (zI a1)), some (eJ (zJ a2)), none, some (eI (zI a4)), some (eI (zI a5)), some (eI (zI v23)), some (eI (zI v47))]) (st' := [eI (zI a4), eI (zI v52), eI (zI a1), eI (zI v49), eR a0]) rfl rfl rfl ?_
  refine w_s (np := 50) (lv' := [some (eR a0), some (eI (zI a1)), some (eJ (zJ a2)), none, some (eI (zI a4)), some (eI (zI a5)), some (eI (zI v23)), some (eI (zI v47))]) (st' := [eI (zI a5), eI (zI a4), eI (zI v52), eI (zI a1), eI (zI v49), eR a0]) rfl rfl rfl ?_
  refine w_cv (np := 53) (as := [eI (zI v49), eI (zI a1), eI (zI v52), eI (zI a4), eI (zI a5)]) (lv' := [some (eR a0), some (eI (zI v49)), some (eI (zI a1)), some (eI (zI v52)), some (eI (zI a4)), some (eI (zI a5))]) (rest := []) rfl rfl rfl (Nat.ble_eq.mp rfl) rfl rfl rfl (hl45 _ _ hk) rfl ?_
  refine m_28_ok hG h hR44 (hl45 _ _ hk) p0 ?_
  intro M55 μ56 h hR57 hl59
  have hl58 := y_le.tr hl45 hl59
  show ex_fine fg rc rs (d + 2, (27, 53, [some (eR a0), some (eI (zI a1)), some (eJ (zJ a2)), none, some (eI (zI a4)), some (eI (zI a5)), some (eI (zI v23)), some (eI (zI v47))], []), f :: F, μ56)
  refine w_s (np := 54) (lv' := [some (eR a0), some (eI (zI a1)), some (eJ (zJ a2)), none, some (eI (zI a4)), some (eI (zI a5)), some (eI (zI v23)), some (eI (zI v47))]) (st' := [eR a0]) rfl (s_an rfl p0) rfl ?_
  refine w_s (np := 55) (lv' := [some (eR a0), some (eI (zI a1)), some (eJ (zJ a2)), none, some (eI (zI a4)), some (eI (zI a5)), some (eI (zI v23)), some (eI (zI v47))]) (st' := [eR a0, eR a0]) rfl (s_an rfl p0) rfl ?_
  obtain ⟨v60, h, k61, e62⟩ := y_gf_ok (ty := 0) h hR57 (by decide) rfl
  refine v_gf0 (np := 58) rfl rfl k61 e62 ?_
  clear k61 e62
  refine w_s (np := 59) (lv' := [some (eR a0), some (eI (zI a1)), some (eJ (zJ a2)), none, some (eI (zI a4)), some (eI (zI a5)), some (eI (zI v23)), some (eI (zI v47))]) (st' := [eR a0, eI (zI v60), eR a0]) rfl (s_an rfl p0) rfl ?_
  obtain ⟨v63, h, k64, e65⟩ := y_gf_ok (ty := 3) h hR57 (by decide) rfl
  obtain ⟨g66, h⟩ := f_if_ok h
  have q67 : 0 < v63 := Nat.ble_eq.mp g66
  refine v_gf3 (np := 62) rfl rfl k64 e65 ?_
  clear k64 e65
  refine w_s (np := 63) (lv' := [some (eR a0), some (eI (zI a1)), some (eJ (zJ a2)), none, some (eI (zI a4)), some (eI (zI a5)), some (eI (zI v23)), some (eI (zI v47))]) (st' := [eJ (zJ a2), eR v63, eI (zI v60), eR a0]) rfl rfl rfl ?_
  obtain ⟨k74, h⟩ := y_is_ok h hR57
  refine w_cv (np := 66) (as := [eJ (zJ a2)]) (lv' := [some (eR v63), some (eJ (zJ a2)), none, none]) (rest := [eI (zI v60), eR a0]) rfl rfl rfl (Nat.ble_eq.mp rfl) rfl rfl rfl k74 rfl ?_
  refine m_46_ok hG h hR57 k74 q67 ?_
  intro v73 M68 μ69 h hR70 hl72
  have hl71 := y_le.tr hl58 hl72
  show ex_fine fg rc rs (d + 2, (27, 66, [some (eR a0), some (eI (zI a1)), some (eJ (zJ a2)), none, some (eI (zI a4)), some (eI (zI a5)), some (eI (zI v23)), some (eI (zI v47))], [eI (zI v73), eI (zI v60), eR a0]), f :: F, μ69)
  refine w_s (np := 68) (lv' := [some (eR a0), some (eI (zI a1)), some (eJ (zJ a2)), none, some (eI (zI a4)), some (eI (zI a5)), some (eI (zI v23)), some (eI (zI v47))]) (st' := [eI (zI v23), eI (zI v73), eI (zI v60), eR a0]) rfl rfl rfl ?_
  refine w_s (np := 70) (lv' := [some (eR a0), some (eI (zI a1)), some (eJ (zJ a2)), none, some (eI (zI a4)), some (eI (zI a5)), some (eI (zI v23)), some (eI (zI v47))]) (st' := [eI (zI v47), eI (zI v23), eI (zI v73), eI (zI v60), eR a0]) rfl rfl rfl ?_
  refine w_cv (np := 73) (as := [eI (zI v60), eI (zI v73), eI (zI v23), eI (zI v47)]) (lv' := [some (eR a0), some (eI (zI v60)), some (eI (zI v73)), some (eI (zI v23)), some (eI (zI v47))]) (rest := []) rfl rfl rfl (Nat.ble_eq.mp rfl) rfl rfl rfl (hl71 _ _ hk) rfl ?_
  refine m_29_ok hG h hR70 (hl71 _ _ hk) p0 ?_
  intro M75 μ76 h hR77 hl79
  have hl78 := y_le.tr hl71 hl79
  show ex_fine fg rc rs (d + 2, (27, 73, [some (eR a0), some (eI (zI a1)), some (eJ (zJ a2)), none, some (eI (zI a4)), some (eI (zI a5)), some (eI (zI v23)), some (eI (zI v47))], []), f :: F, μ76)
  refine w_s (np := 74) (lv' := [some (eR a0), some (eI (zI a1)), some (eJ (zJ a2)), none, some (eI (zI a4)), some (eI (zI a5)), some (eI (zI v23)), some (eI (zI v47))]) (st' := [eR a0]) rfl (s_an rfl p0) rfl ?_
  refine w_s (np := 75) (lv' := [some (eR a0), some (eI (zI a1)), some (eJ (zJ a2)), none, some (eI (zI a4)), some (eI (zI a5)), some (eI (zI v23)), some (eI (zI v47))]) (st' := [eR a0, eR a0]) rfl rfl rfl ?_
  obtain ⟨v80, h, k81, e82⟩ := y_gf_ok (ty := 0) h hR77 (by decide) rfl
  refine v_gf0 (np := 78) rfl rfl k81 e82 ?_
  clear k81 e82
  refine w_s (np := 79) (lv' := [some (eR a0), some (eI (zI a1)), some (eJ (zJ a2)), none, some (eI (zI a4)), some (eI (zI a5)), some (eI (zI v23)), some (eI (zI v47))]) (st' := [eI (zI 1), eI (zI v80), eR a0]) rfl rfl rfl ?_
  obtain ⟨v83, ev83, h⟩ := z_l_ex h
  refine w_s (np := 80) (lv' := [some (eR a0), some (eI (zI a1)), some (eJ (zJ a2)), none, some (eI (zI a4)), some (eI (zI a5)), some (eI (zI v23)), some (eI (zI v47))]) (st' := [eI (zI v83), eR a0]) rfl (s_iadd ev83) rfl ?_
  clear ev83
  obtain ⟨M84, μ85, h, k88, hR86, hl87, e89⟩ := y_wf_ex (ty := 0) h hR77 hl78 rfl (by decide)
  refine v_pe0 (np := 83) rfl rfl k88 e89 ?_
  clear k88 e89
  exact v_rv rfl rfl (hK _ _ h hR86 hl87)
