/-! grow, with cuts at its depths; with what it calls left open; fill, cut at its loop -/
noncomputable def mg_14_90b (a0 a1 : Nat) (K : yM → Bool) (i55 : Nat → yM → Bool) (i90 : Nat → Nat → yM → Bool) (a2 a3 : Nat) (M : yM) : Bool := y_gf M a0 1 3 fun v1 => f_if false (Nat.ble 1 v1) (y_gf M v1 0 9 fun v6 => z_if (z_lt a3 v6) (y_gf M a0 1 3 fun v12 => f_if false (Nat.ble 1 v12) (y_is M v12 0 (m_9 v12 a3 M fun v22 M17 => m_15 a0 a1 v22 a2 M17 fun M24 => z_l (z_add a3 1) fun v29 => z_f v29 fun w30 => i90 a2 w30 M24))) (z_l (z_add a2 1) fun v10 => z_f v10 fun w11 => i55 w11 M))
noncomputable def mg_14_90 (a0 a1 : Nat) (K : yM → Bool) (i55 : Nat → yM → Bool) (n : Nat) : Nat → Nat → yM → Bool := @Nat.rec (fun _ => Nat → Nat → yM → Bool) (fun _ _ _ => false) (fun _ ih => mg_14_90b a0 a1 K i55 ih) n
theorem mg_14_90b_ok {fg : eG} {rc rs d : Nat} {f : eFr} {F : List eFr} {μ0 : eM} {a0 a1 : Nat} {K : yM → Bool} {i55 : Nat → yM → Bool} {i90 : Nat → Nat → yM → Bool} (hG : yG fg y_T) (hk : ev_kd μ0 a0 = some 1) (p0 : 0 < a0) (hK : ∀ (M : yM) (μ : eM), K M = true → yR M μ → y_le μ0 μ → ex_fine fg rc rs (d + 6, (f.1, f.2.1, f.2.2.1, f.2.2.2), F, μ)) (h55 : ∀ (a2 : Nat) (x3 : Option eV) (M : yM) (μ : eM), i55 a2 M = true → yR M μ → y_le μ0 μ → ex_fine fg rc rs (d + 5, (14, 55, [some (eR a0), some (eI (zI a1)), some (eI (zI a2)), x3], []), f :: F, μ)) (h90 : ∀ (a2 a3 : Nat) (M : yM) (μ : eM), i90 a2 a3 M = true → yR M μ → y_le μ0 μ → ex_fine fg rc rs (d + 5, (14, 90, [some (eR a0), some (eI (zI a1)), some (eI (zI a2)), some (eI (zI a3))], []), f :: F, μ)) : ∀ (a2 a3 : Nat) (M : yM) (μ : eM), mg_14_90b a0 a1 K i55 i90 a2 a3 M = true → yR M μ → y_le μ0 μ → ex_fine fg rc rs (d + 5, (14, 90, [some (eR a0), some (eI (zI a1)), some (eI (zI a2)), some (eI (zI a3))], []), f :: F, μ) := by
  intro a2 a3 M μ h hR hl
  unfold mg_14_90b at h
  refine w_s (np := 91) (lv' := [some (eR a0), some (eI (zI a1)), some (eI (zI a2)), some (eI (zI a3))]) (st' := [eI (zI a3)]) rfl rfl rfl ?_
  refine w_s (np := 92) (lv' := [some (eR a0), some (eI (zI a1)), some (eI (zI a2)), some (eI (zI a3))]) (st' := [eR a0, eI (zI a3)]) rfl (s_an rfl p0) rfl ?_
  obtain ⟨v1, h, k2, e3⟩ := y_gf_ok (ty := 3) h hR (by decide) rfl
  obtain ⟨g4, h⟩ := f_if_ok h
  have q5 : 0 < v1 := Nat.ble_eq.mp g4
  refine v_gf3 (np := 95) rfl rfl k2 e3 ?_
  clear k2 e3
  obtain ⟨v6, h, k7, e8⟩ := y_gf_ok (ty := 0) h hR (by decide) rfl
  refine v_gf0 (np := 98) rfl rfl k7 e8 ?_
  clear k7 e8
  rcases z_if_t h with ⟨g9, h⟩ | ⟨g9, h⟩
  · refine v_ge_f (t1 := 121) rfl rfl g9 ?_
    refine w_s (np := 102) (lv' := [some (eR a0), some (eI (zI a1)), some (eI (zI a2)), some (eI (zI a3))]) (st' := [eR a0]) rfl (s_an rfl p0) rfl ?_
    refine w_s (np := 103) (lv' := [some (eR a0), some (eI (zI a1)), some (eI (zI a2)), some (eI (zI a3))]) (st' := [eI (zI a1), eR a0]) rfl rfl rfl ?_
    refine w_s (np := 104) (lv' := [some (eR a0), some (eI (zI a1)), some (eI (zI a2)), some (eI (zI a3))]) (st' := [eR a0, eI (zI a1), eR a0]) rfl (s_an rfl p0) rfl ?_
    obtain ⟨v12, h, k13, e14⟩ := y_gf_ok (ty := 3) h hR (by decide) rfl
    obtain ⟨g15, h⟩ := f_if_ok h
    have q16 : 0 < v12 := Nat.ble_eq.mp g15
    refine v_gf3 (np := 107) rfl rfl k13 e14 ?_
    clear k13 e14
    refine w_s (np := 108) (lv' := [some (eR a0), some (eI (zI a1)), some (eI (zI a2)), some (eI (zI a3))]) (st' := [eI (zI a3), eR v12, eI (zI a1), eR a0]) rfl rfl rfl ?_
    obtain ⟨k23, h⟩ := y_is_ok h hR
    refine w_cv (np := 111) (as := [eI (zI a3)]) (lv' := [some (eR v12), some (eI (zI a3))]) (rest := [eI (zI a1), eR a0]) rfl rfl rfl (Nat.ble_eq.mp rfl) rfl rfl rfl k23 rfl ?_
    refine m_9_ok hG h hR k23 q16 ?_
    intro v22 M17 μ18 h hR19 hl21
    have hl20 := y_le.tr hl hl21
    show ex_fine fg rc rs (d + 5, (14, 111, [some (eR a0), some (eI (zI a1)), some (eI (zI a2)), some (eI (zI a3))], [eI (zI v22), eI (zI a1), eR a0]), f :: F, μ18)
    refine w_s (np := 112) (lv' := [some (eR a0), some (eI (zI a1)), some (eI (zI a2)), some (eI (zI a3))]) (st' := [eI (zI a2), eI (zI v22), eI (zI a1), eR a0]) rfl rfl rfl ?_
    refine w_cv (np := 115) (as := [eI (zI a1), eI (zI v22), eI (zI a2)]) (lv' := [some (eR a0), some (eI (zI a1)), some (eI (zI v22)), some (eI (zI a2)), none]) (rest := []) rfl rfl rfl (Nat.ble_eq.mp rfl) rfl rfl rfl (hl20 _ _ hk) rfl ?_
    refine m_15_ok hG h hR19 (hl20 _ _ hk) p0 ?_
    intro M24 μ25 h hR26 hl28
    have hl27 := y_le.tr hl20 hl28
    show ex_fine fg rc rs (d + 5, (14, 115, [some (eR a0), some (eI (zI a1)), some (eI (zI a2)), some (eI (zI a3))], []), f :: F, μ25)
    obtain ⟨v29, ev29, h⟩ := z_l_ex h
    refine w_s (np := 118) (lv' := [some (eR a0), some (eI (zI a1)), some (eI (zI a2)), some (eI (zI v29))]) (st' := []) rfl (s_iinc (b := 1) rfl rfl ev29 rfl) rfl ?_
    clear ev29
    refine w_go (t1 := 90) rfl rfl ?_
    obtain ⟨w30, ew30, h⟩ := z_f_ex h
    subst ew30
    exact h90 _ _ M24 μ25 h hR26 hl27
  · refine v_ge_t (t1 := 121) rfl rfl g9 ?_
    obtain ⟨v10, ev10, h⟩ := z_l_ex h
    refine w_s (np := 124) (lv' := [some (eR a0), some (eI (zI a1)), some (eI (zI v10)), some (eI (zI a3))]) (st' := []) rfl (s_iinc (b := 1) rfl rfl ev10 rfl) rfl ?_
    clear ev10
    refine w_go (t1 := 55) rfl rfl ?_
    obtain ⟨w11, ew11, h⟩ := z_f_ex h
    subst ew11
    exact h55 _ _ M μ h hR hl
theorem mg_14_90_ok {fg : eG} {rc rs d : Nat} {f : eFr} {F : List eFr} {μ0 : eM} {a0 a1 : Nat} {K : yM → Bool} {i55 : Nat → yM → Bool} (hG : yG fg y_T) (hk : ev_kd μ0 a0 = some 1) (p0 : 0 < a0) (hK : ∀ (M : yM) (μ : eM), K M = true → yR M μ → y_le μ0 μ → ex_fine fg rc rs (d + 6, (f.1, f.2.1, f.2.2.1, f.2.2.2), F, μ)) (h55 : ∀ (a2 : Nat) (x3 : Option eV) (M : yM) (μ : eM), i55 a2 M = true → yR M μ → y_le μ0 μ → ex_fine fg rc rs (d + 5, (14, 55, [some (eR a0), some (eI (zI a1)), some (eI (zI a2)), x3], []), f :: F, μ)) : ∀ n : Nat, ∀ (a2 a3 : Nat) (M : yM) (μ : eM), mg_14_90 a0 a1 K i55 n a2 a3 M = true → yR M μ → y_le μ0 μ → ex_fine fg rc rs (d + 5, (14, 90, [some (eR a0), some (eI (zI a1)), some (eI (zI a2)), some (eI (zI a3))], []), f :: F, μ) := by
  intro n
  induction n with
  | zero =>
    intro a2 a3 M μ h hR hl
    exact absurd h Bool.false_ne_true
  | succ n ih =>
    intro a2 a3 M μ h hR hl
    exact mg_14_90b_ok hG hk p0 hK h55 ih a2 a3 M μ h hR hl
noncomputable def mg_14_55b (a0 a1 : Nat) (K : yM → Bool) (i55 : Nat → yM → Bool) (a2 : Nat) (M : yM) : Bool := z_if (z_lt 5 a2) (K M) (y_gf M a0 1 3 fun v2 => f_if false (Nat.ble 1 v2) (y_gf M v2 0 5 fun v7 => f_if false (Nat.ble 1 v7) (y_is M v7 2 (m_30 v7 a2 M fun M12 => y_gf M12 a0 1 3 fun v18 => f_if false (Nat.ble 1 v18) (y_gf M12 v18 0 6 fun v23 => f_if false (Nat.ble 1 v23) (y_is M12 v23 8 (m_107 v23 M12 fun M28 => y_gf M28 a0 1 3 fun v34 => f_if false (Nat.ble 1 v34) (y_is M28 v34 0 (m_2 v34 M28 fun M39 => mg_14_90 a0 a1 K i55 100000 a2 0 M39)))))))))
noncomputable def mg_14_55 (a0 a1 : Nat) (K : yM → Bool) (n : Nat) : Nat → yM → Bool := @Nat.rec (fun _ => Nat → yM → Bool) (fun _ _ => false) (fun _ ih => mg_14_55b a0 a1 K ih) n
theorem mg_14_55b_ok {fg : eG} {rc rs d : Nat} {f : eFr} {F : List eFr} {μ0 : eM} {a0 a1 : Nat} {K : yM → Bool} {i55 : Nat → yM → Bool} (hG : yG fg y_T) (hk : ev_kd μ0 a0 = some 1) (p0 : 0 < a0) (hK : ∀ (M : yM) (μ : eM), K M = true → yR M μ → y_le μ0 μ → ex_fine fg rc rs (d + 6, (f.1, f.2.1, f.2.2.1, f.2.2.2), F, μ)) (h55 : ∀ (a2 : Nat) (x3 : Option eV) (M : yM) (μ : eM), i55 a2 M = true → yR M μ → y_le μ0 μ → ex_fine fg rc rs (d + 5, (14, 55, [some (eR a0), some (eI (zI a1)), some (eI (zI a2)), x3], []), f :: F, μ)) : ∀ (a2 : Nat) (x3 : Option eV) (M : yM) (μ : eM), mg_14_55b a0 a1 K i55 a2 M = true → yR M μ → y_le μ0 μ → ex_fine fg rc rs (d + 5, (14, 55, [some (eR a0), some (eI (zI a1)), some (eI (zI a2)), x3], []), f :: F, μ) := by
  intro a2 x3 M μ h hR hl
  unfold mg_14_55b at h
  refine w_s (np := 56) (lv' := [some (eR a0), some (eI (zI a1)), some (eI (zI a2)), x3]) (st' := [eI (zI a2)]) rfl rfl rfl ?_
  refine w_s (np := 57) (lv' := [some (eR a0), some (eI (zI a1)), some (eI (zI a2)), x3]) (st' := [eI (zI 5), eI (zI a2)]) rfl rfl rfl ?_
  rcases z_if_t h with ⟨g1, h⟩ | ⟨g1, h⟩
  · refine v_gt_t (t1 := 127) rfl rfl g1 ?_
    exact v_rv rfl rfl (hK _ _ h hR hl)
  · refine v_gt_f (t1 := 127) rfl rfl g1 ?_
    refine w_s (np := 61) (lv' := [some (eR a0), some (eI (zI a1)), some (eI (zI a2)), x3]) (st' := [eR a0]) rfl (s_an rfl p0) rfl ?_
    obtain ⟨v2, h, k3, e4⟩ := y_gf_ok (ty := 3) h hR (by decide) rfl
    obtain ⟨g5, h⟩ := f_if_ok h
    have q6 : 0 < v2 := Nat.ble_eq.mp g5
    refine v_gf3 (np := 64) rfl rfl k3 e4 ?_
    clear k3 e4
    obtain ⟨v7, h, k8, e9⟩ := y_gf_ok (ty := 3) h hR (by decide) rfl
    obtain ⟨g10, h⟩ := f_if_ok h
    have q11 : 0 < v7 := Nat.ble_eq.mp g10
    refine v_gf3 (np := 67) rfl rfl k8 e9 ?_
    clear k8 e9
    refine w_s (np := 68) (lv' := [some (eR a0), some (eI (zI a1)), some (eI (zI a2)), x3]) (st' := [eI (zI a2), eR v7]) rfl rfl rfl ?_
    obtain ⟨k17, h⟩ := y_is_ok h hR
    refine w_cv (np := 71) (as := [eI (zI a2)]) (lv' := [some (eR v7), some (eI (zI a2)), none]) (rest := []) rfl rfl rfl (Nat.ble_eq.mp rfl) rfl rfl rfl k17 rfl ?_
    refine m_30_ok hG h hR k17 q11 ?_
    intro M12 μ13 h hR14 hl16
    have hl15 := y_le.tr hl hl16
    show ex_fine fg rc rs (d + 5, (14, 71, [some (eR a0), some (eI (zI a1)), some (eI (zI a2)), x3], []), f :: F, μ13)
    refine w_s (np := 72) (lv' := [some (eR a0), some (eI (zI a1)), some (eI (zI a2)), x3]) (st' := [eR a0]) rfl (s_an rfl p0) rfl ?_
    obtain ⟨v18, h, k19, e20⟩ := y_gf_ok (ty := 3) h hR14 (by decide) rfl
    obtain ⟨g21, h⟩ := f_if_ok h
    have q22 : 0 < v18 := Nat.ble_eq.mp g21
    refine v_gf3 (np := 75) rfl rfl k19 e20 ?_
    clear k19 e20
    obtain ⟨v23, h, k24, e25⟩ := y_gf_ok (ty := 3) h hR14 (by decide) rfl
    obtain ⟨g26, h⟩ := f_if_ok h
    have q27 : 0 < v23 := Nat.ble_eq.mp g26
    refine v_gf3 (np := 78) rfl rfl k24 e25 ?_
    clear k24 e25
    obtain ⟨k33, h⟩ := y_is_ok h hR14
    refine w_cv (np := 81) (as := []) (lv' := [some (eR v23), none]) (rest := []) rfl rfl rfl (Nat.ble_eq.mp rfl) rfl rfl rfl k33 rfl ?_
    refine m_107_ok hG h hR14 k33 q27 ?_
    intro M28 μ29 h hR30 hl32
    have hl31 := y_le.tr hl15 hl32
    show ex_fine fg rc rs (d + 5, (14, 81, [some (eR a0), some (eI (zI a1)), some (eI (zI a2)), x3], []), f :: F, μ29)
    refine w_s (np := 82) (lv' := [some (eR a0), some (eI (zI a1)), some (eI (zI a2)), x3]) (st' := [eR a0]) rfl (s_an rfl p0) rfl ?_
    obtain ⟨v34, h, k35, e36⟩ := y_gf_ok (ty := 3) h hR30 (by decide) rfl
    obtain ⟨g37, h⟩ := f_if_ok h
    have q38 : 0 < v34 := Nat.ble_eq.mp g37
    refine v_gf3 (np := 85) rfl rfl k35 e36 ?_
    clear k35 e36
    obtain ⟨k44, h⟩ := y_is_ok h hR30
    refine w_cv (np := 88) (as := []) (lv' := [some (eR v34), none, none]) (rest := []) rfl rfl rfl (Nat.ble_eq.mp rfl) rfl rfl rfl k44 rfl ?_
    refine m_2_ok hG h hR30 k44 q38 ?_
    intro M39 μ40 h hR41 hl43
    have hl42 := y_le.tr hl31 hl43
    show ex_fine fg rc rs (d + 5, (14, 88, [some (eR a0), some (eI (zI a1)), some (eI (zI a2)), x3], []), f :: F, μ40)
    refine w_s (np := 89) (lv' := [some (eR a0), some (eI (zI a1)), some (eI (zI a2)), x3]) (st' := [eI (zI 0)]) rfl rfl rfl ?_
    refine w_s (np := 90) (lv' := [some (eR a0), some (eI (zI a1)), some (eI (zI a2)), some (eI (zI 0))]) (st' := []) rfl rfl rfl ?_
    exact mg_14_90_ok hG hk p0 hK h55 100000 _ _ M39 μ40 h hR41 hl42
theorem mg_14_55_ok {fg : eG} {rc rs d : Nat} {f : eFr} {F : List eFr} {μ0 : eM} {a0 a1 : Nat} {K : yM → Bool} (hG : yG fg y_T) (hk : ev_kd μ0 a0 = some 1) (p0 : 0 < a0) (hK : ∀ (M : yM) (μ : eM), K M = true → yR M μ → y_le μ0 μ → ex_fine fg rc rs (d + 6, (f.1, f.2.1, f.2.2.1, f.2.2.2), F, μ)) : ∀ n : Nat, ∀ (a2 : Nat) (x3 : Option eV) (M : yM) (μ : eM), mg_14_55 a0 a1 K n a2 M = true → yR M μ → y_le μ0 μ → ex_fine fg rc rs (d + 5, (14, 55, [some (eR a0), some (eI (zI a1)), some (eI (zI a2)), x3], []), f :: F, μ) := by
  intro n
  induction n with
  | zero =>
    intro a2 x3 M μ h hR hl
    exact absurd h Bool.false_ne_true
  | succ n ih =>
    intro a2 x3 M μ h hR hl
    exact mg_14_55b_ok hG hk p0 hK ih a2 x3 M μ h hR hl
noncomputable def mg_14_35 (a0 a1 : Nat) (K : yM → Bool) (i55 : Nat → yM → Bool) (M : yM) : Bool := y_gf M a0 1 2 fun v1 => f_if false (Nat.ble 1 v1) (y_sa 100 M v1 a1 0 fun M6 => y_gf M6 a0 1 3 fun v11 => f_if false (Nat.ble 1 v11) (y_gf M6 v11 0 5 fun v16 => f_if false (Nat.ble 1 v16) (y_is M6 v16 2 (m_26 v16 a1 M6 fun M21 => z_f 0 fun w27 => i55 w27 M21))))
theorem mg_14_35_ok {fg : eG} {rc rs d : Nat} {f : eFr} {F : List eFr} {μ0 : eM} {a0 a1 : Nat} {K : yM → Bool} {i55 : Nat → yM → Bool} (hG : yG fg y_T) (hk : ev_kd μ0 a0 = some 1) (p0 : 0 < a0) (hK : ∀ (M : yM) (μ : eM), K M = true → yR M μ → y_le μ0 μ → ex_fine fg rc rs (d + 6, (f.1, f.2.1, f.2.2.1, f.2.2.2), F, μ)) (h55 : ∀ (a2 : Nat) (x3 : Option eV) (M : yM) (μ : eM), i55 a2 M = true → yR M μ → y_le μ0 μ → ex_fine fg rc rs (d + 5, (14, 55, [some (eR a0), some (eI (zI a1)), some (eI (zI a2)), x3], []), f :: F, μ)) : ∀ (x2 : Option eV) (M : yM) (μ : eM), mg_14_35 a0 a1 K i55 M = true → yR M μ → y_le μ0 μ → ex_fine fg rc rs (d + 5, (14, 35, [some (eR a0), some (eI (zI a1)), x2, none], []), f :: F, μ) := by
  intro x2 M μ h hR hl
  unfold mg_14_35 at h
  refine w_s (np := 36) (lv' := [some (eR a0), some (eI (zI a1)), x2, none]) (st' := [eR a0]) rfl (s_an rfl p0) rfl ?_
  obtain ⟨v1, h, k2, e3⟩ := y_gf_ok (ty := 3) h hR (by decide) rfl
  obtain ⟨g4, h⟩ := f_if_ok h
  have q5 : 0 < v1 := Nat.ble_eq.mp g4
  refine v_gf3 (np := 39) rfl rfl k2 e3 ?_
  clear k2 e3
  refine w_s (np := 40) (lv' := [some (eR a0), some (eI (zI a1)), x2, none]) (st' := [eI (zI a1), eR v1]) rfl rfl rfl ?_
  refine w_s (np := 41) (lv' := [some (eR a0), some (eI (zI a1)), x2, none]) (st' := [eI (zI 0), eI (zI a1), eR v1]) rfl rfl rfl ?_
  obtain ⟨M6, μ7, h, k10, hR8, hl9⟩ := y_sa_ex (ty := 0) h hR hl rfl (by decide)
  refine v_sa (np := 42) rfl rfl k10 ?_
  clear k10
  refine w_s (np := 43) (lv' := [some (eR a0), some (eI (zI a1)), x2, none]) (st' := [eR a0]) rfl (s_an rfl p0) rfl ?_
  obtain ⟨v11, h, k12, e13⟩ := y_gf_ok (ty := 3) h hR8 (by decide) rfl
  obtain ⟨g14, h⟩ := f_if_ok h
  have q15 : 0 < v11 := Nat.ble_eq.mp g14
  refine v_gf3 (np := 46) rfl rfl k12 e13 ?_
  clear k12 e13
  obtain ⟨v16, h, k17, e18⟩ := y_gf_ok (ty := 3) h hR8 (by decide) rfl
  obtain ⟨g19, h⟩ := f_if_ok h
  have q20 : 0 < v16 := Nat.ble_eq.mp g19
  refine v_gf3 (np := 49) rfl rfl k17 e18 ?_
  clear k17 e18
  refine w_s (np := 50) (lv' := [some (eR a0), some (eI (zI a1)), x2, none]) (st' := [eI (zI a1), eR v16]) rfl rfl rfl ?_
  obtain ⟨k26, h⟩ := y_is_ok h hR8
  refine w_cv (np := 53) (as := [eI (zI a1)]) (lv' := [some (eR v16), some (eI (zI a1)), none]) (rest := []) rfl rfl rfl (Nat.ble_eq.mp rfl) rfl rfl rfl k26 rfl ?_
  refine m_26_ok hG h hR8 k26 q20 ?_
  intro M21 μ22 h hR23 hl25
  have hl24 := y_le.tr hl9 hl25
  show ex_fine fg rc rs (d + 5, (14, 53, [some (eR a0), some (eI (zI a1)), x2, none], []), f :: F, μ22)
  refine w_s (np := 54) (lv' := [some (eR a0), some (eI (zI a1)), x2, none]) (st' := [eI (zI 0)]) rfl rfl rfl ?_
  refine w_s (np := 55) (lv' := [some (eR a0), some (eI (zI a1)), some (eI (zI 0)), none]) (st' := []) rfl rfl rfl ?_
  obtain ⟨w27, ew27, h⟩ := z_f_ex h
  subst ew27
  exact h55 _ _ M21 μ22 h hR23 hl24
/-! RhombInflator$Firsts.grow -/
noncomputable def mg_14 (i55 : Nat → yM → Bool) (a0 a1 : Nat) (M : yM) (K : yM → Bool) : Bool := y_gf M a0 1 3 fun v1 => z_if (Nat.beq v1 0) (y_no M 2 8 fun r5 M6 => y_is M6 r5 2 (m_16 r5 M6 fun M14 => y_no M14 0 10 fun r20 M21 => y_no M21 8 15 fun r29 M30 => y_is M30 r29 8 (m_106 r29 r5 M30 fun M38 => y_is M38 r20 0 (m_1 r20 r5 r29 M38 fun M44 => y_wr M44 a0 1 3 r20 fun M50 => mg_14_35 a0 a1 K i55 M50)))) (mg_14_35 a0 a1 K i55 M)
theorem mg_14_ok {fg : eG} {rc rs d : Nat} {f : eFr} {F : List eFr} {M : yM} {μ0 : eM} {i55 : Nat → yM → Bool} {a0 a1 : Nat} {K : yM → Bool} (hG : yG fg y_T) (h : mg_14 i55 a0 a1 M K = true) (hR : yR M μ0) (hk : ev_kd μ0 a0 = some 1) (p0 : 0 < a0) (h55 : ∀ (a2 : Nat) (x3 : Option eV) (M : yM) (μ : eM), i55 a2 M = true → yR M μ → y_le μ0 μ → ex_fine fg rc rs (d + 5, (14, 55, [some (eR a0), some (eI (zI a1)), some (eI (zI a2)), x3], []), f :: F, μ)) (hK : ∀ (M : yM) (μ : eM), K M = true → yR M μ → y_le μ0 μ → ex_fine fg rc rs (d + 6, (f.1, f.2.1, f.2.2.1, f.2.2.2), F, μ)) : ex_fine fg rc rs (d + 5, (14, 0, [some (eR a0), some (eI (zI a1)), none, none], []), f :: F, μ0) := by
  unfold mg_14 at h
  have hl := y_le_r μ0
  refine w_s (np := 1) (lv' := [some (eR a0), some (eI (zI a1)), none, none]) (st' := [eR a0]) rfl (s_an rfl p0) rfl ?_
  obtain ⟨v1, h, k2, e3⟩ := y_gf_ok (ty := 3) h hR (by decide) rfl
  refine v_gf3 (np := 4) rfl rfl k2 e3 ?_
  clear k2 e3
  rcases z_if_t h with ⟨g4, h⟩ | ⟨g4, h⟩
  · refine v_nn_f (t1 := 35) rfl rfl g4 ?_
    obtain ⟨r5, M6, μ7, h, g10, q11, e12, hR8, hl9, e13⟩ := y_no_ex h hR hl
    refine v_ne (np := 10) rfl rfl rfl e12 e13 ?_
    clear e12 e13
    refine w_s (np := 11) (lv' := [some (eR a0), some (eI (zI a1)), none, none]) (st' := [eR r5, eR r5]) rfl rfl rfl ?_
    obtain ⟨k19, h⟩ := y_is_ok h hR8
    refine v_ci (np := 14) (as := []) (lv' := [some (eR r5)]) (rest := [eR r5]) rfl rfl rfl (Nat.ble_eq.mp rfl) rfl rfl rfl g10 rfl ?_
    refine m_16_ok hG h hR8 k19 q11 ?_
    intro M14 μ15 h hR16 hl18
    have hl17 := y_le.tr hl9 hl18
    show ex_fine fg rc rs (d + 5, (14, 14, [some (eR a0), some (eI (zI a1)), none, none], [eR r5]), f :: F, μ15)
    refine w_s (np := 15) (lv' := [some (eR a0), some (eI (zI a1)), some (eR r5), none]) (st' := []) rfl (s_sn (Nat.ble_eq.mp rfl) q11 rfl) rfl ?_
    refine w_s (np := 16) (lv' := [some (eR a0), some (eI (zI a1)), some (eR r5), none]) (st' := [eR a0]) rfl (s_an rfl p0) rfl ?_
    obtain ⟨r20, M21, μ22, h, g25, q26, e27, hR23, hl24, e28⟩ := y_no_ex h hR16 hl17
    refine v_ne (np := 19) rfl rfl rfl e27 e28 ?_
    clear e27 e28
    refine w_s (np := 20) (lv' := [some (eR a0), some (eI (zI a1)), some (eR r5), none]) (st' := [eR r20, eR r20, eR a0]) rfl rfl rfl ?_
    refine w_s (np := 21) (lv' := [some (eR a0), some (eI (zI a1)), some (eR r5), none]) (st' := [eR r5, eR r20, eR r20, eR a0]) rfl (s_an rfl q11) rfl ?_
    obtain ⟨r29, M30, μ31, h, g34, q35, e36, hR32, hl33, e37⟩ := y_no_ex h hR23 hl24
    refine v_ne (np := 24) rfl rfl rfl e36 e37 ?_
    clear e36 e37
    refine w_s (np := 25) (lv' := [some (eR a0), some (eI (zI a1)), some (eR r5), none]) (st' := [eR r29, eR r29, eR r5, eR r20, eR r20, eR a0]) rfl rfl rfl ?_
    refine w_s (np := 26) (lv' := [some (eR a0), some (eI (zI a1)), some (eR r5), none]) (st' := [eR r5, eR r29, eR r29, eR r5, eR r20, eR r20, eR a0]) rfl (s_an rfl q11) rfl ?_
    obtain ⟨k43, h⟩ := y_is_ok h hR32
    refine v_ci (np := 29) (as := [eR r5]) (lv' := [some (eR r29), some (eR r5)]) (rest := [eR r29, eR r5, eR r20, eR r20, eR a0]) rfl rfl rfl (Nat.ble_eq.mp rfl) rfl rfl rfl g34 rfl ?_
    refine m_106_ok hG h hR32 k43 q35 q11 ?_
    intro M38 μ39 h hR40 hl42
    have hl41 := y_le.tr hl33 hl42
    show ex_fine fg rc rs (d + 5, (14, 29, [some (eR a0), some (eI (zI a1)), some (eR r5), none], [eR r29, eR r5, eR r20, eR r20, eR a0]), f :: F, μ39)
    obtain ⟨k49, h⟩ := y_is_ok h hR40
    refine v_ci (np := 32) (as := [eR r5, eR r29]) (lv' := [some (eR r20), some (eR r5), some (eR r29)]) (rest := [eR r20, eR a0]) rfl rfl rfl (Nat.ble_eq.mp rfl) rfl rfl rfl g25 rfl ?_
    refine m_1_ok hG h hR40 k49 q26 q11 q35 ?_
    intro M44 μ45 h hR46 hl48
    have hl47 := y_le.tr hl41 hl48
    show ex_fine fg rc rs (d + 5, (14, 32, [some (eR a0), some (eI (zI a1)), some (eR r5), none], [eR r20, eR a0]), f :: F, μ45)
    obtain ⟨M50, μ51, h, k54, hR52, hl53, e55⟩ := y_wr_ex h hR46 hl47 rfl
    refine v_pe3 (np := 35) rfl rfl k54 e55 ?_
    clear k54 e55
    exact mg_14_35_ok hG hk p0 hK h55 _ M50 μ51 h hR52 hl53
  · refine v_nn_t (t1 := 35) rfl rfl g4 ?_
    exact mg_14_35_ok hG hk p0 hK h55 _ M μ0 h hR hl
noncomputable def mh_14_90b (c30 : Nat → Nat → yM → (yM → Bool) → Bool) (c107 : Nat → yM → (yM → Bool) → Bool) (c2 : Nat → yM → (yM → Bool) → Bool) (a0 a1 : Nat) (K : yM → Bool) (i55 : Nat → yM → Bool) (i90 : Nat → Nat → yM → Bool) (a2 a3 : Nat) (M : yM) : Bool := y_gf M a0 1 3 fun v1 => f_if false (Nat.ble 1 v1) (y_gf M v1 0 9 fun v6 => z_if (z_lt a3 v6) (y_gf M a0 1 3 fun v12 => f_if false (Nat.ble 1 v12) (y_is M v12 0 (m_9 v12 a3 M fun v22 M17 => m_15 a0 a1 v22 a2 M17 fun M24 => z_l (z_add a3 1) fun v29 => z_f v29 fun w30 => i90 a2 w30 M24))) (z_l (z_add a2 1) fun v10 => z_f v10 fun w11 => i55 w11 M))
noncomputable def mh_14_90 (c30 : Nat → Nat → yM → (yM → Bool) → Bool) (c107 : Nat → yM → (yM → Bool) → Bool) (c2 : Nat → yM → (yM → Bool) → Bool) (a0 a1 : Nat) (K : yM → Bool) (i55 : Nat → yM → Bool) (n : Nat) : Nat → Nat → yM → Bool := @Nat.rec (fun _ => Nat → Nat → yM → Bool) (fun _ _ _ => false) (fun _ ih => mh_14_90b c30 c107 c2 a0 a1 K i55 ih) n
theorem mh_14_90b_ok {fg : eG} {rc rs d : Nat} {f : eFr} {F : List eFr} {μ0 : eM} {c30 : Nat → Nat → yM → (yM → Bool) → Bool} {c107 : Nat → yM → (yM → Bool) → Bool} {c2 : Nat → yM → (yM → Bool) → Bool} {a0 a1 : Nat} {K : yM → Bool} {i55 : Nat → yM → Bool} {i90 : Nat → Nat → yM → Bool} (hc30 : ∀ (d : Nat) (f : eFr) (F : List eFr) (b0 b1 : Nat) (M : yM) (μ : eM) (K : yM → Bool), c30 b0 b1 M K = true → yR M μ → ev_kd μ b0 = some 2 → 0 < b0 → (∀ (M : yM) (μ2 : eM), K M = true → yR M μ2 → y_le μ μ2 → ex_fine fg rc rs (d + 5, (f.1, f.2.1, f.2.2.1, f.2.2.2), F, μ2)) → ex_fine fg rc rs (d + 4, (30, 0, [some (eR b0), some (eI (zI b1)), none], []), f :: F, μ)) (hc107 : ∀ (d : Nat) (f : eFr) (F : List eFr) (b0 : Nat) (M : yM) (μ : eM) (K : yM → Bool), c107 b0 M K = true → yR M μ → ev_kd μ b0 = some 8 → 0 < b0 → (∀ (M : yM) (μ2 : eM), K M = true → yR M μ2 → y_le μ μ2 → ex_fine fg rc rs (d + 5, (f.1, f.2.1, f.2.2.1, f.2.2.2), F, μ2)) → ex_fine fg rc rs (d + 4, (107, 0, [some (eR b0), none], []), f :: F, μ)) (hc2 : ∀ (d : Nat) (f : eFr) (F : List eFr) (b0 : Nat) (M : yM) (μ : eM) (K : yM → Bool), c2 b0 M K = true → yR M μ → ev_kd μ b0 = some 0 → 0 < b0 → (∀ (M : yM) (μ2 : eM), K M = true → yR M μ2 → y_le μ μ2 → ex_fine fg rc rs (d + 4, (f.1, f.2.1, f.2.2.1, f.2.2.2), F, μ2)) → ex_fine fg rc rs (d + 3, (2, 0, [some (eR b0), none, none], []), f :: F, μ)) (hG : yG fg y_T) (hk : ev_kd μ0 a0 = some 1) (p0 : 0 < a0) (hK : ∀ (M : yM) (μ : eM), K M = true → yR M μ → y_le μ0 μ → ex_fine fg rc rs (d + 6, (f.1, f.2.1, f.2.2.1, f.2.2.2), F, μ)) (h55 : ∀ (a2 : Nat) (x3 : Option eV) (M : yM) (μ : eM), i55 a2 M = true → yR M μ → y_le μ0 μ → ex_fine fg rc rs (d + 5, (14, 55, [some (eR a0), some (eI (zI a1)), some (eI (zI a2)), x3], []), f :: F, μ)) (h90 : ∀ (a2 a3 : Nat) (M : yM) (μ : eM), i90 a2 a3 M = true → yR M μ → y_le μ0 μ → ex_fine fg rc rs (d + 5, (14, 90, [some (eR a0), some (eI (zI a1)), some (eI (zI a2)), some (eI (zI a3))], []), f :: F, μ)) : ∀ (a2 a3 : Nat) (M : yM) (μ : eM), mh_14_90b c30 c107 c2 a0 a1 K i55 i90 a2 a3 M = true → yR M μ → y_le μ0 μ → ex_fine fg rc rs (d + 5, (14, 90, [some (eR a0), some (eI (zI a1)), some (eI (zI a2)), some (eI (zI a3))], []), f :: F, μ) := by
  intro a2 a3 M μ h hR hl
  unfold mh_14_90b at h
  refine w_s (np := 91) (lv' := [some (eR a0), some (eI (zI a1)), some (eI (zI a2)), some (eI (zI a3))]) (st' := [eI (zI a3)]) rfl rfl rfl ?_
  refine w_s (np := 92) (lv' := [some (eR a0), some (eI (zI a1)), some (eI (zI a2)), some (eI (zI a3))]) (st' := [eR a0, eI (zI a3)]) rfl (s_an rfl p0) rfl ?_
  obtain ⟨v1, h, k2, e3⟩ := y_gf_ok (ty := 3) h hR (by decide) rfl
  obtain ⟨g4, h⟩ := f_if_ok h
  have q5 : 0 < v1 := Nat.ble_eq.mp g4
  refine v_gf3 (np := 95) rfl rfl k2 e3 ?_
  clear k2 e3
  obtain ⟨v6, h, k7, e8⟩ := y_gf_ok (ty := 0) h hR (by decide) rfl
  refine v_gf0 (np := 98) rfl rfl k7 e8 ?_
  clear k7 e8
  rcases z_if_t h with ⟨g9, h⟩ | ⟨g9, h⟩
  · refine v_ge_f (t1 := 121) rfl rfl g9 ?_
    refine w_s (np := 102) (lv' := [some (eR a0), some (eI (zI a1)), some (eI (zI a2)), some (eI (zI a3))]) (st' := [eR a0]) rfl (s_an rfl p0) rfl ?_
    refine w_s (np := 103) (lv' := [some (eR a0), some (eI (zI a1)), some (eI (zI a2)), some (eI (zI a3))]) (st' := [eI (zI a1), eR a0]) rfl rfl rfl ?_
    refine w_s (np := 104) (lv' := [some (eR a0), some (eI (zI a1)), some (eI (zI a2)), some (eI (zI a3))]) (st' := [eR a0, eI (zI a1), eR a0]) rfl (s_an rfl p0) rfl ?_
    obtain ⟨v12, h, k13, e14⟩ := y_gf_ok (ty := 3) h hR (by decide) rfl
    obtain ⟨g15, h⟩ := f_if_ok h
    have q16 : 0 < v12 := Nat.ble_eq.mp g15
    refine v_gf3 (np := 107) rfl rfl k13 e14 ?_
    clear k13 e14
    refine w_s (np := 108) (lv' := [some (eR a0), some (eI (zI a1)), some (eI (zI a2)), some (eI (zI a3))]) (st' := [eI (zI a3), eR v12, eI (zI a1), eR a0]) rfl rfl rfl ?_
    obtain ⟨k23, h⟩ := y_is_ok h hR
    refine w_cv (np := 111) (as := [eI (zI a3)]) (lv' := [some (eR v12), some (eI (zI a3))]) (rest := [eI (zI a1), eR a0]) rfl rfl rfl (Nat.ble_eq.mp rfl) rfl rfl rfl k23 rfl ?_
    refine m_9_ok hG h hR k23 q16 ?_
    intro v22 M17 μ18 h hR19 hl21
    have hl20 := y_le.tr hl hl21
    show ex_fine fg rc rs (d + 5, (14, 111, [some (eR a0), some (eI (zI a1)), some (eI (zI a2)), some (eI (zI a3))], [eI (zI v22), eI (zI a1), eR a0]), f :: F, μ18)
    refine w_s (np := 112) (lv' := [some (eR a0), some (eI (zI a1)), some (eI (zI a2)), some (eI (zI a3))]) (st' := [eI (zI a2), eI (zI v22), eI (zI a1), eR a0]) rfl rfl rfl ?_
    refine w_cv (np := 115) (as := [eI (zI a1), eI (zI v22), eI (zI a2)]) (lv' := [some (eR a0), some (eI (zI a1)), some (eI (zI v22)), some (eI (zI a2)), none]) (rest := []) rfl rfl rfl (Nat.ble_eq.mp rfl) rfl rfl rfl (hl20 _ _ hk) rfl ?_
    refine m_15_ok hG h hR19 (hl20 _ _ hk) p0 ?_
    intro M24 μ25 h hR26 hl28
    have hl27 := y_le.tr hl20 hl28
    show ex_fine fg rc rs (d + 5, (14, 115, [some (eR a0), some (eI (zI a1)), some (eI (zI a2)), some (eI (zI a3))], []), f :: F, μ25)
    obtain ⟨v29, ev29, h⟩ := z_l_ex h
    refine w_s (np := 118) (lv' := [some (eR a0), some (eI (zI a1)), some (eI (zI a2)), some (eI (zI v29))]) (st' := []) rfl (s_iinc (b := 1) rfl rfl ev29 rfl) rfl ?_
    clear ev29
    refine w_go (t1 := 90) rfl rfl ?_
    obtain ⟨w30, ew30, h⟩ := z_f_ex h
    subst ew30
    exact h90 _ _ M24 μ25 h hR26 hl27
  · refine v_ge_t (t1 := 121) rfl rfl g9 ?_
    obtain ⟨v10, ev10, h⟩ := z_l_ex h
    refine w_s (np := 124) (lv' := [some (eR a0), some (eI (zI a1)), some (eI (zI v10)), some (eI (zI a3))]) (st' := []) rfl (s_iinc (b := 1) rfl rfl ev10 rfl) rfl ?_
    clear ev10
    refine w_go (t1 := 55) rfl rfl ?_
    obtain ⟨w11, ew11, h⟩ := z_f_ex h
    subst ew11
    exact h55 _ _ M μ h hR hl
theorem mh_14_90_ok {fg : eG} {rc rs d : Nat} {f : eFr} {F : List eFr} {μ0 : eM} {c30 : Nat → Nat → yM → (yM → Bool) → Bool} {c107 : Nat → yM → (yM → Bool) → Bool} {c2 : Nat → yM → (yM → Bool) → Bool} {a0 a1 : Nat} {K : yM → Bool} {i55 : Nat → yM → Bool} (hc30 : ∀ (d : Nat) (f : eFr) (F : List eFr) (b0 b1 : Nat) (M : yM) (μ : eM) (K : yM → Bool), c30 b0 b1 M K = true → yR M μ → ev_kd μ b0 = some 2 → 0 < b0 → (∀ (M : yM) (μ2 : eM), K M = true → yR M μ2 → y_le μ μ2 → ex_fine fg rc rs (d + 5, (f.1, f.2.1, f.2.2.1, f.2.2.2), F, μ2)) → ex_fine fg rc rs (d + 4, (30, 0, [some (eR b0), some (eI (zI b1)), none], []), f :: F, μ)) (hc107 : ∀ (d : Nat) (f : eFr) (F : List eFr) (b0 : Nat) (M : yM) (μ : eM) (K : yM → Bool), c107 b0 M K = true → yR M μ → ev_kd μ b0 = some 8 → 0 < b0 → (∀ (M : yM) (μ2 : eM), K M = true → yR M μ2 → y_le μ μ2 → ex_fine fg rc rs (d + 5, (f.1, f.2.1, f.2.2.1, f.2.2.2), F, μ2)) → ex_fine fg rc rs (d + 4, (107, 0, [some (eR b0), none], []), f :: F, μ)) (hc2 : ∀ (d : Nat) (f : eFr) (F : List eFr) (b0 : Nat) (M : yM) (μ : eM) (K : yM → Bool), c2 b0 M K = true → yR M μ → ev_kd μ b0 = some 0 → 0 < b0 → (∀ (M : yM) (μ2 : eM), K M = true → yR M μ2 → y_le μ μ2 → ex_fine fg rc rs (d + 4, (f.1, f.2.1, f.2.2.1, f.2.2.2), F, μ2)) → ex_fine fg rc rs (d + 3, (2, 0, [some (eR b0), none, none], []), f :: F, μ)) (hG : yG fg y_T) (hk : ev_kd μ0 a0 = some 1) (p0 : 0 < a0) (hK : ∀ (M : yM) (μ : eM), K M = true → yR M μ → y_le μ0 μ → ex_fine fg rc rs (d + 6, (f.1, f.2.1, f.2.2.1, f.2.2.2), F, μ)) (h55 : ∀ (a2 : Nat) (x3 : Option eV) (M : yM) (μ : eM), i55 a2 M = true → yR M μ → y_le μ0 μ → ex_fine fg rc rs (d + 5, (14, 55, [some (eR a0), some (eI (zI a1)), some (eI (zI a2)), x3], []), f :: F, μ)) : ∀ n : Nat, ∀ (a2 a3 : Nat) (M : yM) (μ : eM), mh_14_90 c30 c107 c2 a0 a1 K i55 n a2 a3 M = true → yR M μ → y_le μ0 μ → ex_fine fg rc rs (d + 5, (14, 90, [some (eR a0), some (eI (zI a1)), some (eI (zI a2)), some (eI (zI a3))], []), f :: F, μ) := by
  intro n
  induction n with
  | zero =>
    intro a2 a3 M μ h hR hl
    exact absurd h Bool.false_ne_true
  | succ n ih =>
    intro a2 a3 M μ h hR hl
    exact mh_14_90b_ok hc30 hc107 hc2 hG hk p0 hK h55 ih a2 a3 M μ h hR hl
noncomputable def mh_14_55b (c30 : Nat → Nat → yM → (yM → Bool) → Bool) (c107 : Nat → yM → (yM → Bool) → Bool) (c2 : Nat → yM → (yM → Bool) → Bool) (a0 a1 : Nat) (K : yM → Bool) (i55 : Nat → yM → Bool) (a2 : Nat) (M : yM) : Bool := z_if (z_lt 5 a2) (K M) (y_gf M a0 1 3 fun v2 => f_if false (Nat.ble 1 v2) (y_gf M v2 0 5 fun v7 => f_if false (Nat.ble 1 v7) (y_is M v7 2 (c30 v7 a2 M fun M12 => y_gf M12 a0 1 3 fun v18 => f_if false (Nat.ble 1 v18) (y_gf M12 v18 0 6 fun v23 => f_if false (Nat.ble 1 v23) (y_is M12 v23 8 (c107 v23 M12 fun M28 => y_gf M28 a0 1 3 fun v34 => f_if false (Nat.ble 1 v34) (y_is M28 v34 0 (c2 v34 M28 fun M39 => mh_14_90 c30 c107 c2 a0 a1 K i55 100000 a2 0 M39)))))))))
noncomputable def mh_14_55 (c30 : Nat → Nat → yM → (yM → Bool) → Bool) (c107 : Nat → yM → (yM → Bool) → Bool) (c2 : Nat → yM → (yM → Bool) → Bool) (a0 a1 : Nat) (K : yM → Bool) (n : Nat) : Nat → yM → Bool := @Nat.rec (fun _ => Nat → yM → Bool) (fun _ _ => false) (fun _ ih => mh_14_55b c30 c107 c2 a0 a1 K ih) n
theorem mh_14_55b_ok {fg : eG} {rc rs d : Nat} {f : eFr} {F : List eFr} {μ0 : eM} {c30 : Nat → Nat → yM → (yM → Bool) → Bool} {c107 : Nat → yM → (yM → Bool) → Bool} {c2 : Nat → yM → (yM → Bool) → Bool} {a0 a1 : Nat} {K : yM → Bool} {i55 : Nat → yM → Bool} (hc30 : ∀ (d : Nat) (f : eFr) (F : List eFr) (b0 b1 : Nat) (M : yM) (μ : eM) (K : yM → Bool), c30 b0 b1 M K = true → yR M μ → ev_kd μ b0 = some 2 → 0 < b0 → (∀ (M : yM) (μ2 : eM), K M = true → yR M μ2 → y_le μ μ2 → ex_fine fg rc rs (d + 5, (f.1, f.2.1, f.2.2.1, f.2.2.2), F, μ2)) → ex_fine fg rc rs (d + 4, (30, 0, [some (eR b0), some (eI (zI b1)), none], []), f :: F, μ)) (hc107 : ∀ (d : Nat) (f : eFr) (F : List eFr) (b0 : Nat) (M : yM) (μ : eM) (K : yM → Bool), c107 b0 M K = true → yR M μ → ev_kd μ b0 = some 8 → 0 < b0 → (∀ (M : yM) (μ2 : eM), K M = true → yR M μ2 → y_le μ μ2 → ex_fine fg rc rs (d + 5, (f.1, f.2.1, f.2.2.1, f.2.2.2), F, μ2)) → ex_fine fg rc rs (d + 4, (107, 0, [some (eR b0), none], []), f :: F, μ)) (hc2 : ∀ (d : Nat) (f : eFr) (F : List eFr) (b0 : Nat) (M : yM) (μ : eM) (K : yM → Bool), c2 b0 M K = true → yR M μ → ev_kd μ b0 = some 0 → 0 < b0 → (∀ (M : yM) (μ2 : eM), K M = true → yR M μ2 → y_le μ μ2 → ex_fine fg rc rs (d + 4, (f.1, f.2.1, f.2.2.1, f.2.2.2), F, μ2)) → ex_fine fg rc rs (d + 3, (2, 0, [some (eR b0), none, none], []), f :: F, μ)) (hG : yG fg y_T) (hk : ev_kd μ0 a0 = some 1) (p0 : 0 < a0) (hK : ∀ (M : yM) (μ : eM), K M = true → yR M μ → y_le μ0 μ → ex_fine fg rc rs (d + 6, (f.1, f.2.1, f.2.2.1, f.2.2.2), F, μ)) (h55 : ∀ (a2 : Nat) (x3 : Option eV) (M : yM) (μ : eM), i55 a2 M = true → yR M μ → y_le μ0 μ → ex_fine fg rc rs (d + 5, (14, 55, [some (eR a0), some (eI (zI a1)), some (eI (zI a2)), x3], []), f :: F, μ)) : ∀ (a2 : Nat) (x3 : Option eV) (M : yM) (μ : eM), mh_14_55b c30 c107 c2 a0 a1 K i55 a2 M = true → yR M μ → y_le μ0 μ → ex_fine fg rc rs (d + 5, (14, 55, [some (eR a0), some (eI (zI a1)), some (eI (zI a2)), x3], []), f :: F, μ) := by
  intro a2 x3 M μ h hR hl
  unfold mh_14_55b at h
  refine w_s (np := 56) (lv' := [some (eR a0), some (eI (zI a1)), some (eI (zI a2)), x3]) (st' := [eI (zI a2)]) rfl rfl rfl ?_
  refine w_s (np := 57) (lv' := [some (eR a0), some (eI (zI a1)), some (eI (zI a2)), x3]) (st' := [eI (zI 5), eI (zI a2)]) rfl rfl rfl ?_
  rcases z_if_t h with ⟨g1, h⟩ | ⟨g1, h⟩
  · refine v_gt_t (t1 := 127) rfl rfl g1 ?_
    exact v_rv rfl rfl (hK _ _ h hR hl)
  · refine v_gt_f (t1 := 127) rfl rfl g1 ?_
    refine w_s (np := 61) (lv' := [some (eR a0), some (eI (zI a1)), some (eI (zI a2)), x3]) (st' := [eR a0]) rfl (s_an rfl p0) rfl ?_
    obtain ⟨v2, h, k3, e4⟩ := y_gf_ok (ty := 3) h hR (by decide) rfl
    obtain ⟨g5, h⟩ := f_if_ok h
    have q6 : 0 < v2 := Nat.ble_eq.mp g5
    refine v_gf3 (np := 64) rfl rfl k3 e4 ?_
    clear k3 e4
    obtain ⟨v7, h, k8, e9⟩ := y_gf_ok (ty := 3) h hR (by decide) rfl
    obtain ⟨g10, h⟩ := f_if_ok h
    have q11 : 0 < v7 := Nat.ble_eq.mp g10
    refine v_gf3 (np := 67) rfl rfl k8 e9 ?_
    clear k8 e9
    refine w_s (np := 68) (lv' := [some (eR a0), some (eI (zI a1)), some (eI (zI a2)), x3]) (st' := [eI (zI a2), eR v7]) rfl rfl rfl ?_
    obtain ⟨k17, h⟩ := y_is_ok h hR
    refine w_cv (np := 71) (as := [eI (zI a2)]) (lv' := [some (eR v7), some (eI (zI a2)), none]) (rest := []) rfl rfl rfl (Nat.ble_eq.mp rfl) rfl rfl rfl k17 rfl ?_
    refine hc30 _ _ _ _ _ _ _ _ h hR k17 q11 ?_
    intro M12 μ13 h hR14 hl16
    have hl15 := y_le.tr hl hl16
    show ex_fine fg rc rs (d + 5, (14, 71, [some (eR a0), some (eI (zI a1)), some (eI (zI a2)), x3], []), f :: F, μ13)
    refine w_s (np := 72) (lv' := [some (eR a0), some (eI (zI a1)), some (eI (zI a2)), x3]) (st' := [eR a0]) rfl (s_an rfl p0) rfl ?_
    obtain ⟨v18, h, k19, e20⟩ := y_gf_ok (ty := 3) h hR14 (by decide) rfl
    obtain ⟨g21, h⟩ := f_if_ok h
    have q22 : 0 < v18 := Nat.ble_eq.mp g21
    refine v_gf3 (np := 75) rfl rfl k19 e20 ?_
    clear k19 e20
    obtain ⟨v23, h, k24, e25⟩ := y_gf_ok (ty := 3) h hR14 (by decide) rfl
    obtain ⟨g26, h⟩ := f_if_ok h
    have q27 : 0 < v23 := Nat.ble_eq.mp g26
    refine v_gf3 (np := 78) rfl rfl k24 e25 ?_
    clear k24 e25
    obtain ⟨k33, h⟩ := y_is_ok h hR14
    refine w_cv (np := 81) (as := []) (lv' := [some (eR v23), none]) (rest := []) rfl rfl rfl (Nat.ble_eq.mp rfl) rfl rfl rfl k33 rfl ?_
    refine hc107 _ _ _ _ _ _ _ h hR14 k33 q27 ?_
    intro M28 μ29 h hR30 hl32
    have hl31 := y_le.tr hl15 hl32
    show ex_fine fg rc rs (d + 5, (14, 81, [some (eR a0), some (eI (zI a1)), some (eI (zI a2)), x3], []), f :: F, μ29)
    refine w_s (np := 82) (lv' := [some (eR a0), some (eI (zI a1)), some (eI (zI a2)), x3]) (st' := [eR a0]) rfl (s_an rfl p0) rfl ?_
    obtain ⟨v34, h, k35, e36⟩ := y_gf_ok (ty := 3) h hR30 (by decide) rfl
    obtain ⟨g37, h⟩ := f_if_ok h
    have q38 : 0 < v34 := Nat.ble_eq.mp g37
    refine v_gf3 (np := 85) rfl rfl k35 e36 ?_
    clear k35 e36
    obtain ⟨k44, h⟩ := y_is_ok h hR30
    refine w_cv (np := 88) (as := []) (lv' := [some (eR v34), none, none]) (rest := []) rfl rfl rfl (Nat.ble_eq.mp rfl) rfl rfl rfl k44 rfl ?_
    refine hc2 _ _ _ _ _ _ _ h hR30 k44 q38 ?_
    intro M39 μ40 h hR41 hl43
    have hl42 := y_le.tr hl31 hl43
    show ex_fine fg rc rs (d + 5, (14, 88, [some (eR a0), some (eI (zI a1)), some (eI (zI a2)), x3], []), f :: F, μ40)
    refine w_s (np := 89) (lv' := [some (eR a0), some (eI (zI a1)), some (eI (zI a2)), x3]) (st' := [eI (zI 0)]) rfl rfl rfl ?_
    refine w_s (np := 90) (lv' := [some (eR a0), some (eI (zI a1)), some (eI (zI a2)), some (eI (zI 0))]) (st' := []) rfl rfl rfl ?_
    exact mh_14_90_ok hc30 hc107 hc2 hG hk p0 hK h55 100000 _ _ M39 μ40 h hR41 hl42
theorem mh_14_55_ok {fg : eG} {rc rs d : Nat} {f : eFr} {F : List eFr} {μ0 : eM} {c30 : Nat → Nat → yM → (yM → Bool) → Bool} {c107 : Nat → yM → (yM → Bool) → Bool} {c2 : Nat → yM → (yM → Bool) → Bool} {a0 a1 : Nat} {K : yM → Bool} (hc30 : ∀ (d : Nat) (f : eFr) (F : List eFr) (b0 b1 : Nat) (M : yM) (μ : eM) (K : yM → Bool), c30 b0 b1 M K = true → yR M μ → ev_kd μ b0 = some 2 → 0 < b0 → (∀ (M : yM) (μ2 : eM), K M = true → yR M μ2 → y_le μ μ2 → ex_fine fg rc rs (d + 5, (f.1, f.2.1, f.2.2.1, f.2.2.2), F, μ2)) → ex_fine fg rc rs (d + 4, (30, 0, [some (eR b0), some (eI (zI b1)), none], []), f :: F, μ)) (hc107 : ∀ (d : Nat) (f : eFr) (F : List eFr) (b0 : Nat) (M : yM) (μ : eM) (K : yM → Bool), c107 b0 M K = true → yR M μ → ev_kd μ b0 = some 8 → 0 < b0 → (∀ (M : yM) (μ2 : eM), K M = true → yR M μ2 → y_le μ μ2 → ex_fine fg rc rs (d + 5, (f.1, f.2.1, f.2.2.1, f.2.2.2), F, μ2)) → ex_fine fg rc rs (d + 4, (107, 0, [some (eR b0), none], []), f :: F, μ)) (hc2 : ∀ (d : Nat) (f : eFr) (F : List eFr) (b0 : Nat) (M : yM) (μ : eM) (K : yM → Bool), c2 b0 M K = true → yR M μ → ev_kd μ b0 = some 0 → 0 < b0 → (∀ (M : yM) (μ2 : eM), K M = true → yR M μ2 → y_le μ μ2 → ex_fine fg rc rs (d + 4, (f.1, f.2.1, f.2.2.1, f.2.2.2), F, μ2)) → ex_fine fg rc rs (d + 3, (2, 0, [some (eR b0), none, none], []), f :: F, μ)) (hG : yG fg y_T) (hk : ev_kd μ0 a0 = some 1) (p0 : 0 < a0) (hK : ∀ (M : yM) (μ : eM), K M = true → yR M μ → y_le μ0 μ → ex_fine fg rc rs (d + 6, (f.1, f.2.1, f.2.2.1, f.2.2.2), F, μ)) : ∀ n : Nat, ∀ (a2 : Nat) (x3 : Option eV) (M : yM) (μ : eM), mh_14_55 c30 c107 c2 a0 a1 K n a2 M = true → yR M μ → y_le μ0 μ → ex_fine fg rc rs (d + 5, (14, 55, [some (eR a0), some (eI (zI a1)), some (eI (zI a2)), x3], []), f :: F, μ) := by
  intro n
  induction n with
  | zero =>
    intro a2 x3 M μ h hR hl
    exact absurd h Bool.false_ne_true
  | succ n ih =>
    intro a2 x3 M μ h hR hl
    exact mh_14_55b_ok hc30 hc107 hc2 hG hk p0 hK ih a2 x3 M μ h hR hl
noncomputable def mh_14_35 (c30 : Nat → Nat → yM → (yM → Bool) → Bool) (c107 : Nat → yM → (yM → Bool) → Bool) (c2 : Nat → yM → (yM → Bool) → Bool) (a0 a1 : Nat) (K : yM → Bool) (i55 : Nat → yM → Bool) (M : yM) : Bool := y_gf M a0 1 2 fun v1 => f_if false (Nat.ble 1 v1) (y_sa 100 M v1 a1 0 fun M6 => y_gf M6 a0 1 3 fun v11 => f_if false (Nat.ble 1 v11) (y_gf M6 v11 0 5 fun v16 => f_if false (Nat.ble 1 v16) (y_is M6 v16 2 (m_26 v16 a1 M6 fun M21 => z_f 0 fun w27 => i55 w27 M21))))
theorem mh_14_35_ok {fg : eG} {rc rs d : Nat} {f : eFr} {F : List eFr} {μ0 : eM} {c30 : Nat → Nat → yM → (yM → Bool) → Bool} {c107 : Nat → yM → (yM → Bool) → Bool} {c2 : Nat → yM → (yM → Bool) → Bool} {a0 a1 : Nat} {K : yM → Bool} {i55 : Nat → yM → Bool} (hc30 : ∀ (d : Nat) (f : eFr) (F : List eFr) (b0 b1 : Nat) (M : yM) (μ : eM) (K : yM → Bool), c30 b0 b1 M K = true → yR M μ → ev_kd μ b0 = some 2 → 0 < b0 → (∀ (M : yM) (μ2 : eM), K M = true → yR M μ2 → y_le μ μ2 → ex_fine fg rc rs (d + 5, (f.1, f.2.1, f.2.2.1, f.2.2.2), F, μ2)) → ex_fine fg rc rs (d + 4, (30, 0, [some (eR b0), some (eI (zI b1)), none], []), f :: F, μ)) (hc107 : ∀ (d : Nat) (f : eFr) (F : List eFr) (b0 : Nat) (M : yM) (μ : eM) (K : yM → Bool), c107 b0 M K = true → yR M μ → ev_kd μ b0 = some 8 → 0 < b0 → (∀ (M : yM) (μ2 : eM), K M = true → yR M μ2 → y_le μ μ2 → ex_fine fg rc rs (d + 5, (f.1, f.2.1, f.2.2.1, f.2.2.2), F, μ2)) → ex_fine fg rc rs (d + 4, (107, 0, [some (eR b0), none], []), f :: F, μ)) (hc2 : ∀ (d : Nat) (f : eFr) (F : List eFr) (b0 : Nat) (M : yM) (μ : eM) (K : yM → Bool), c2 b0 M K = true → yR M μ → ev_kd μ b0 = some 0 → 0 < b0 → (∀ (M : yM) (μ2 : eM), K M = true → yR M μ2 → y_le μ μ2 → ex_fine fg rc rs (d + 4, (f.1, f.2.1, f.2.2.1, f.2.2.2), F, μ2)) → ex_fine fg rc rs (d + 3, (2, 0, [some (eR b0), none, none], []), f :: F, μ)) (hG : yG fg y_T) (hk : ev_kd μ0 a0 = some 1) (p0 : 0 < a0) (hK : ∀ (M : yM) (μ : eM), K M = true → yR M μ → y_le μ0 μ → ex_fine fg rc rs (d + 6, (f.1, f.2.1, f.2.2.1, f.2.2.2), F, μ)) (h55 : ∀ (a2 : Nat) (x3 : Option eV) (M : yM) (μ : eM), i55 a2 M = true → yR M μ → y_le μ0 μ → ex_fine fg rc rs (d + 5, (14, 55, [some (eR a0), some (eI (zI a1)), some (eI (zI a2)), x3], []), f :: F, μ)) : ∀ (x2 : Option eV) (M : yM) (μ : eM), mh_14_35 c30 c107 c2 a0 a1 K i55 M = true → yR M μ → y_le μ0 μ → ex_fine fg rc rs (d + 5, (14, 35, [some (eR a0), some (eI (zI a1)), x2, none], []), f :: F, μ) := by
  intro x2 M μ h hR hl
  unfold mh_14_35 at h
  refine w_s (np := 36) (lv' := [some (eR a0), some (eI (zI a1)), x2, none]) (st' := [eR a0]) rfl (s_an rfl p0) rfl ?_
  obtain ⟨v1, h, k2, e3⟩ := y_gf_ok (ty := 3) h hR (by decide) rfl
  obtain ⟨g4, h⟩ := f_if_ok h
  have q5 : 0 < v1 := Nat.ble_eq.mp g4
  refine v_gf3 (np := 39) rfl rfl k2 e3 ?_
  clear k2 e3
  refine w_s (np := 40) (lv' := [some (eR a0), some (eI (zI a1)), x2, none]) (st' := [eI (zI a1), eR v1]) rfl rfl rfl ?_
  refine w_s (np := 41) (lv' := [some (eR a0), some (eI (zI a1)), x2, none]) (st' := [eI (zI 0), eI (zI a1), eR v1]) rfl rfl rfl ?_
  obtain ⟨M6, μ7, h, k10, hR8, hl9⟩ := y_sa_ex (ty := 0) h hR hl rfl (by decide)
  refine v_sa (np := 42) rfl rfl k10 ?_
  clear k10
  refine w_s (np := 43) (lv' := [some (eR a0), some (eI (zI a1)), x2, none]) (st' := [eR a0]) rfl (s_an rfl p0) rfl ?_
  obtain ⟨v11, h, k12, e13⟩ := y_gf_ok (ty := 3) h hR8 (by decide) rfl
  obtain ⟨g14, h⟩ := f_if_ok h
  have q15 : 0 < v11 := Nat.ble_eq.mp g14
  refine v_gf3 (np := 46) rfl rfl k12 e13 ?_
  clear k12 e13
  obtain ⟨v16, h, k17, e18⟩ := y_gf_ok (ty := 3) h hR8 (by decide) rfl
  obtain ⟨g19, h⟩ := f_if_ok h
  have q20 : 0 < v16 := Nat.ble_eq.mp g19
  refine v_gf3 (np := 49) rfl rfl k17 e18 ?_
  clear k17 e18
  refine w_s (np := 50) (lv' := [some (eR a0), some (eI (zI a1)), x2, none]) (st' := [eI (zI a1), eR v16]) rfl rfl rfl ?_
  obtain ⟨k26, h⟩ := y_is_ok h hR8
  refine w_cv (np := 53) (as := [eI (zI a1)]) (lv' := [some (eR v16), some (eI (zI a1)), none]) (rest := []) rfl rfl rfl (Nat.ble_eq.mp rfl) rfl rfl rfl k26 rfl ?_
  refine m_26_ok hG h hR8 k26 q20 ?_
  intro M21 μ22 h hR23 hl25
  have hl24 := y_le.tr hl9 hl25
  show ex_fine fg rc rs (d + 5, (14, 53, [some (eR a0), some (eI (zI a1)), x2, none], []), f :: F, μ22)
  refine w_s (np := 54) (lv' := [some (eR a0), some (eI (zI a1)), x2, none]) (st' := [eI (zI 0)]) rfl rfl rfl ?_
  refine w_s (np := 55) (lv' := [some (eR a0), some (eI (zI a1)), some (eI (zI 0)), none]) (st' := []) rfl rfl rfl ?_
  obtain ⟨w27, ew27, h⟩ := z_f_ex h
  subst ew27
  exact h55 _ _ M21 μ22 h hR23 hl24
/-! RhombInflator$Firsts.grow -/
noncomputable def mh_14 (c30 : Nat → Nat → yM → (yM → Bool) → Bool) (c107 : Nat → yM → (yM → Bool) → Bool) (c2 : Nat → yM → (yM → Bool) → Bool) (i55 : Nat → yM → Bool) (a0 a1 : Nat) (M : yM) (K : yM → Bool) : Bool := y_gf M a0 1 3 fun v1 => z_if (Nat.beq v1 0) (y_no M 2 8 fun r5 M6 => y_is M6 r5 2 (m_16 r5 M6 fun M14 => y_no M14 0 10 fun r20 M21 => y_no M21 8 15 fun r29 M30 => y_is M30 r29 8 (m_106 r29 r5 M30 fun M38 => y_is M38 r20 0 (m_1 r20 r5 r29 M38 fun M44 => y_wr M44 a0 1 3 r20 fun M50 => mh_14_35 c30 c107 c2 a0 a1 K i55 M50)))) (mh_14_35 c30 c107 c2 a0 a1 K i55 M)
theorem mh_14_ok {fg : eG} {rc rs d : Nat} {f : eFr} {F : List eFr} {M : yM} {μ0 : eM} {c30 : Nat → Nat → yM → (yM → Bool) → Bool} {c107 : Nat → yM → (yM → Bool) → Bool} {c2 : Nat → yM → (yM → Bool) → Bool} {i55 : Nat → yM → Bool} {a0 a1 : Nat} {K : yM → Bool} (hc30 : ∀ (d : Nat) (f : eFr) (F : List eFr) (b0 b1 : Nat) (M : yM) (μ : eM) (K : yM → Bool), c30 b0 b1 M K = true → yR M μ → ev_kd μ b0 = some 2 → 0 < b0 → (∀ (M : yM) (μ2 : eM), K M = true → yR M μ2 → y_le μ μ2 → ex_fine fg rc rs (d + 5, (f.1, f.2.1, f.2.2.1, f.2.2.2), F, μ2)) → ex_fine fg rc rs (d + 4, (30, 0, [some (eR b0), some (eI (zI b1)), none], []), f :: F, μ)) (hc107 : ∀ (d : Nat) (f : eFr) (F : List eFr) (b0 : Nat) (M : yM) (μ : eM) (K : yM → Bool), c107 b0 M K = true → yR M μ → ev_kd μ b0 = some 8 → 0 < b0 → (∀ (M : yM) (μ2 : eM), K M = true → yR M μ2 → y_le μ μ2 → ex_fine fg rc rs (d + 5, (f.1, f.2.1, f.2.2.1, f.2.2.2), F, μ2)) → ex_fine fg rc rs (d + 4, (107, 0, [some (eR b0), none], []), f :: F, μ)) (hc2 : ∀ (d : Nat) (f : eFr) (F : List eFr) (b0 : Nat) (M : yM) (μ : eM) (K : yM → Bool), c2 b0 M K = true → yR M μ → ev_kd μ b0 = some 0 → 0 < b0 → (∀ (M : yM) (μ2 : eM), K M = true → yR M μ2 → y_le μ μ2 → ex_fine fg rc rs (d + 4, (f.1, f.2.1, f.2.2.1, f.2.2.2), F, μ2)) → ex_fine fg rc rs (d + 3, (2, 0, [some (eR b0), none, none], []), f :: F, μ)) (hG : yG fg y_T) (h : mh_14 c30 c107 c2 i55 a0 a1 M K = true) (hR : yR M μ0) (hk : ev_kd μ0 a0 = some 1) (p0 : 0 < a0) (h55 : ∀ (a2 : Nat) (x3 : Option eV) (M : yM) (μ : eM), i55 a2 M = true → yR M μ → y_le μ0 μ → ex_fine fg rc rs (d + 5, (14, 55, [some (eR a0), some (eI (zI a1)), some (eI (zI a2)), x3], []), f :: F, μ)) (hK : ∀ (M : yM) (μ : eM), K M = true → yR M μ → y_le μ0 μ → ex_fine fg rc rs (d + 6, (f.1, f.2.1, f.2.2.1, f.2.2.2), F, μ)) : ex_fine fg rc rs (d + 5, (14, 0, [some (eR a0), some (eI (zI a1)), none, none], []), f :: F, μ0) := by
  unfold mh_14 at h
  have hl := y_le_r μ0
  refine w_s (np := 1) (lv' := [some (eR a0), some (eI (zI a1)), none, none]) (st' := [eR a0]) rfl (s_an rfl p0) rfl ?_
  obtain ⟨v1, h, k2, e3⟩ := y_gf_ok (ty := 3) h hR (by decide) rfl
  refine v_gf3 (np := 4) rfl rfl k2 e3 ?_
  clear k2 e3
  rcases z_if_t h with ⟨g4, h⟩ | ⟨g4, h⟩
  · refine v_nn_f (t1 := 35) rfl rfl g4 ?_
    obtain ⟨r5, M6, μ7, h, g10, q11, e12, hR8, hl9, e13⟩ := y_no_ex h hR hl
    refine v_ne (np := 10) rfl rfl rfl e12 e13 ?_
    clear e12 e13
    refine w_s (np := 11) (lv' := [some (eR a0), some (eI (zI a1)), none, none]) (st' := [eR r5, eR r5]) rfl rfl rfl ?_
    obtain ⟨k19, h⟩ := y_is_ok h hR8
    refine v_ci (np := 14) (as := []) (lv' := [some (eR r5)]) (rest := [eR r5]) rfl rfl rfl (Nat.ble_eq.mp rfl) rfl rfl rfl g10 rfl ?_
    refine m_16_ok hG h hR8 k19 q11 ?_
    intro M14 μ15 h hR16 hl18
    have hl17 := y_le.tr hl9 hl18
    show ex_fine fg rc rs (d + 5, (14, 14, [some (eR a0), some (eI (zI a1)), none, none], [eR r5]), f :: F, μ15)
    refine w_s (np := 15) (lv' := [some (eR a0), some (eI (zI a1)), some (eR r5), none]) (st' := []) rfl (s_sn (Nat.ble_eq.mp rfl) q11 rfl) rfl ?_
    refine w_s (np := 16) (lv' := [some (eR a0), some (eI (zI a1)), some (eR r5), none]) (st' := [eR a0]) rfl (s_an rfl p0) rfl ?_
    obtain ⟨r20, M21, μ22, h, g25, q26, e27, hR23, hl24, e28⟩ := y_no_ex h hR16 hl17
    refine v_ne (np := 19) rfl rfl rfl e27 e28 ?_
    clear e27 e28
    refine w_s (np := 20) (lv' := [some (eR a0), some (eI (zI a1)), some (eR r5), none]) (st' := [eR r20, eR r20, eR a0]) rfl rfl rfl ?_
    refine w_s (np := 21) (lv' := [some (eR a0), some (eI (zI a1)), some (eR r5), none]) (st' := [eR r5, eR r20, eR r20, eR a0]) rfl (s_an rfl q11) rfl ?_
    obtain ⟨r29, M30, μ31, h, g34, q35, e36, hR32, hl33, e37⟩ := y_no_ex h hR23 hl24
    refine v_ne (np := 24) rfl rfl rfl e36 e37 ?_
    clear e36 e37
    refine w_s (np := 25) (lv' := [some (eR a0), some (eI (zI a1)), some (eR r5), none]) (st' := [eR r29, eR r29, eR r5, eR r20, eR r20, eR a0]) rfl rfl rfl ?_
    refine w_s (np := 26) (lv' := [some (eR a0), some (eI (zI a1)), some (eR r5), none]) (st' := [eR r5, eR r29, eR r29, eR r5, eR r20, eR r20, eR a0]) rfl (s_an rfl q11) rfl ?_
    obtain ⟨k43, h⟩ := y_is_ok h hR32
    refine v_ci (np := 29) (as := [eR r5]) (lv' := [some (eR r29), some (eR r5)]) (rest := [eR r29, eR r5, eR r20, eR r20, eR a0]) rfl rfl rfl (Nat.ble_eq.mp rfl) rfl rfl rfl g34 rfl ?_
    refine m_106_ok hG h hR32 k43 q35 q11 ?_
    intro M38 μ39 h hR40 hl42
    have hl41 := y_le.tr hl33 hl42
    show ex_fine fg rc rs (d + 5, (14, 29, [some (eR a0), some (eI (zI a1)), some (eR r5), none], [eR r29, eR r5, eR r20, eR r20, eR a0]), f :: F, μ39)
    obtain ⟨k49, h⟩ := y_is_ok h hR40
    refine v_ci (np := 32) (as := [eR r5, eR r29]) (lv' := [some (eR r20), some (eR r5), some (eR r29)]) (rest := [eR r20, eR a0]) rfl rfl rfl (Nat.ble_eq.mp rfl) rfl rfl rfl g25 rfl ?_
    refine m_1_ok hG h hR40 k49 q26 q11 q35 ?_
    intro M44 μ45 h hR46 hl48
    have hl47 := y_le.tr hl41 hl48
    show ex_fine fg rc rs (d + 5, (14, 32, [some (eR a0), some (eI (zI a1)), some (eR r5), none], [eR r20, eR a0]), f :: F, μ45)
    obtain ⟨M50, μ51, h, k54, hR52, hl53, e55⟩ := y_wr_ex h hR46 hl47 rfl
    refine v_pe3 (np := 35) rfl rfl k54 e55 ?_
    clear k54 e55
    exact mh_14_35_ok hc30 hc107 hc2 hG hk p0 hK h55 _ M50 μ51 h hR52 hl53
  · refine v_nn_t (t1 := 35) rfl rfl g4 ?_
    exact mh_14_35_ok hc30 hc107 hc2 hG hk p0 hK h55 _ M μ0 h hR hl
noncomputable def mg_107_10b (a0 : Nat) (K : yM → Bool) (i10 : Nat → yM → Bool) (a1 : Nat) (M : yM) : Bool := y_gf M a0 8 6 fun v1 => f_if false (Nat.ble 1 v1) (y_gf M v1 2 7 fun v6 => z_l (z_mul 3 v6) fun v9 => z_if (z_lt a1 v9) (m_108 a0 a1 M fun M16 => z_l (z_add a1 1) fun v21 => z_f v21 fun w22 => i10 w22 M16) (m_112 a0 M fun M11 => K M11))
noncomputable def mg_107_10 (a0 : Nat) (K : yM → Bool) (n : Nat) : Nat → yM → Bool := @Nat.rec (fun _ => Nat → yM → Bool) (fun _ _ => false) (fun _ ih => mg_107_10b a0 K ih) n
theorem mg_107_10b_ok {fg : eG} {rc rs d : Nat} {f : eFr} {F : List eFr} {μ0 : eM} {a0 : Nat} {K : yM → Bool} {i10 : Nat → yM → Bool} (hG : yG fg y_T) (hk : ev_kd μ0 a0 = some 8) (p0 : 0 < a0) (hK : ∀ (M : yM) (μ : eM), K M = true → yR M μ → y_le μ0 μ → ex_fine fg rc rs (d + 5, (f.1, f.2.1, f.2.2.1, f.2.2.2), F, μ)) (h10 : ∀ (a1 : Nat) (M : yM) (μ : eM), i10 a1 M = true → yR M μ → y_le μ0 μ → ex_fine fg rc rs (d + 4, (107, 10, [some (eR a0), some (eI (zI a1))], []), f :: F, μ)) : ∀ (a1 : Nat) (M : yM) (μ : eM), mg_107_10b a0 K i10 a1 M = true → yR M μ → y_le μ0 μ → ex_fine fg rc rs (d + 4, (107, 10, [some (eR a0), some (eI (zI a1))], []), f :: F, μ) := by
  intro a1 M μ h hR hl
  unfold mg_107_10b at h
  refine w_s (np := 11) (lv' := [some (eR a0), some (eI (zI a1))]) (st' := [eI (zI a1)]) rfl rfl rfl ?_
  refine w_s (np := 12) (lv' := [some (eR a0), some (eI (zI a1))]) (st' := [eI (zI 3), eI (zI a1)]) rfl rfl rfl ?_
  refine w_s (np := 13) (lv' := [some (eR a0), some (eI (zI a1))]) (st' := [eR a0, eI (zI 3), eI (zI a1)]) rfl (s_an rfl p0) rfl ?_
  obtain ⟨v1, h, k2, e3⟩ := y_gf_ok (ty := 3) h hR (by decide) rfl
  obtain ⟨g4, h⟩ := f_if_ok h
  have q5 : 0 < v1 := Nat.ble_eq.mp g4
  refine v_gf3 (np := 16) rfl rfl k2 e3 ?_
  clear k2 e3
  obtain ⟨v6, h, k7, e8⟩ := y_gf_ok (ty := 0) h hR (by decide) rfl
  refine v_gf0 (np := 19) rfl rfl k7 e8 ?_
  clear k7 e8
  obtain ⟨v9, ev9, h⟩ := z_l_ex h
  refine w_s (np := 20) (lv' := [some (eR a0), some (eI (zI a1))]) (st' := [eI (zI v9), eI (zI a1)]) rfl (s_imul ev9) rfl ?_
  clear ev9
  rcases z_if_t h with ⟨g10, h⟩ | ⟨g10, h⟩
  · refine v_ge_f (t1 := 34) rfl rfl g10 ?_
    refine w_s (np := 24) (lv' := [some (eR a0), some (eI (zI a1))]) (st' := [eR a0]) rfl (s_an rfl p0) rfl ?_
    refine w_s (np := 25) (lv' := [some (eR a0), some (eI (zI a1))]) (st' := [eI (zI a1), eR a0]) rfl rfl rfl ?_
    refine w_cv (np := 28) (as := [eI (zI a1)]) (lv' := [some (eR a0), some (eI (zI a1)), none, none, none]) (rest := []) rfl rfl rfl (Nat.ble_eq.mp rfl) rfl rfl rfl (hl _ _ hk) rfl ?_
    refine m_108_ok hG h hR (hl _ _ hk) p0 ?_
    intro M16 μ17 h hR18 hl20
    have hl19 := y_le.tr hl hl20
    show ex_fine fg rc rs (d + 4, (107, 28, [some (eR a0), some (eI (zI a1))], []), f :: F, μ17)
    obtain ⟨v21, ev21, h⟩ := z_l_ex h
    refine w_s (np := 31) (lv' := [some (eR a0), some (eI (zI v21))]) (st' := []) rfl (s_iinc (b := 1) rfl rfl ev21 rfl) rfl ?_
    clear ev21
    refine w_go (t1 := 10) rfl rfl ?_
    obtain ⟨w22, ew22, h⟩ := z_f_ex h
    subst ew22
    exact h10 _ M16 μ17 h hR18 hl19
  · refine v_ge_t (t1 := 34) rfl rfl g10 ?_
    refine w_s (np := 35) (lv' := [some (eR a0), some (eI (zI a1))]) (st' := [eR a0]) rfl (s_an rfl p0) rfl ?_
    refine w_cv (np := 38) (as := []) (lv' := [some (eR a0), none]) (rest := []) rfl rfl rfl (Nat.ble_eq.mp rfl) rfl rfl rfl (hl _ _ hk) rfl ?_
    refine m_112_ok hG h hR (hl _ _ hk) p0 ?_
    intro M11 μ12 h hR13 hl15
    have hl14 := y_le.tr hl hl15
    show ex_fine fg rc rs (d + 4, (107, 38, [some (eR a0), some (eI (zI a1))], []), f :: F, μ12)
    exact v_rv rfl rfl (hK _ _ h hR13 hl14)
theorem mg_107_10_ok {fg : eG} {rc rs d : Nat} {f : eFr} {F : List eFr} {μ0 : eM} {a0 : Nat} {K : yM → Bool} (hG : yG fg y_T) (hk : ev_kd μ0 a0 = some 8) (p0 : 0 < a0) (hK : ∀ (M : yM) (μ : eM), K M = true → yR M μ → y_le μ0 μ → ex_fine fg rc rs (d + 5, (f.1, f.2.1, f.2.2.1, f.2.2.2), F, μ)) : ∀ n : Nat, ∀ (a1 : Nat) (M : yM) (μ : eM), mg_107_10 a0 K n a1 M = true → yR M μ → y_le μ0 μ → ex_fine fg rc rs (d + 4, (107, 10, [some (eR a0), some (eI (zI a1))], []), f :: F, μ) := by
  intro n
  induction n with
  | zero =>
    intro a1 M μ h hR hl
    exact absurd h Bool.false_ne_true
  | succ n ih =>
    intro a1 M μ h hR hl
    exact mg_107_10b_ok hG hk p0 hK ih a1 M μ h hR hl
/-! RhombInflator$Sides.fill -/
noncomputable def mg_107 (i10 : Nat → yM → Bool) (a0 : Nat) (M : yM) (K : yM → Bool) : Bool := y_gf M a0 8 1 fun v1 => f_if false (Nat.ble 1 v1) (m_365 v1 4294967295 M fun M6 => z_f 0 fun w11 => i10 w11 M6)
theorem mg_107_ok {fg : eG} {rc rs d : Nat} {f : eFr} {F : List eFr} {M : yM} {μ0 : eM} {i10 : Nat → yM → Bool} {a0 : Nat} {K : yM → Bool} (hG : yG fg y_T) (h : mg_107 i10 a0 M K = true) (hR : yR M μ0) (hk : ev_kd μ0 a0 = some 8) (p0 : 0 < a0) (h10 : ∀ (a1 : Nat) (M : yM) (μ : eM), i10 a1 M = true → yR M μ → y_le μ0 μ → ex_fine fg rc rs (d + 4, (107, 10, [some (eR a0), some (eI (zI a1))], []), f :: F, μ)) (hK : ∀ (M : yM) (μ : eM), K M = true → yR M μ → y_le μ0 μ → ex_fine fg rc rs (d + 5, (f.1, f.2.1, f.2.2.1, f.2.2.2), F, μ)) : ex_fine fg rc rs (d + 4, (107, 0, [some (eR a0), none], []), f :: F, μ0) := by
  unfold mg_107 at h
  have hl := y_le_r μ0
  refine w_s (np := 1) (lv' := [some (eR a0), none]) (st' := [eR a0]) rfl (s_an rfl p0) rfl ?_
  obtain ⟨v1, h, k2, e3⟩ := y_gf_ok (ty := 3) h hR (by decide) rfl
  obtain ⟨g4, h⟩ := f_if_ok h
  have q5 : 0 < v1 := Nat.ble_eq.mp g4
  refine v_gf3 (np := 4) rfl rfl k2 e3 ?_
  clear k2 e3
  refine w_s (np := 5) (lv' := [some (eR a0), none]) (st' := [eI (zI 4294967295), eR v1]) rfl rfl rfl ?_
  refine w_cs (np := 8) (as := [eR v1, eI (zI 4294967295)]) (lv' := [some (eR v1), some (eI (zI 4294967295)), none, none]) (rest := []) rfl rfl rfl (Nat.ble_eq.mp rfl) rfl rfl rfl rfl ?_
  refine m_365_ok hG h hR q5 ?_
  intro M6 μ7 h hR8 hl10
  have hl9 := y_le.tr hl hl10
  show ex_fine fg rc rs (d + 4, (107, 8, [some (eR a0), none], []), f :: F, μ7)
  refine w_s (np := 9) (lv' := [some (eR a0), none]) (st' := [eI (zI 0)]) rfl rfl rfl ?_
  refine w_s (np := 10) (lv' := [some (eR a0), some (eI (zI 0))]) (st' := []) rfl rfl rfl ?_
  obtain ⟨w11, ew11, h⟩ := z_f_ex h
  subst ew11
  exact h10 _ M6 μ7 h hR8 hl9
