/-! RhombInflator$Points.empty -/
noncomputable def m_43 (a0 : Nat) (M : yM) (K : yM → Bool) : Bool := y_wf M a0 3 2 0 fun M1 => y_gf M1 a0 3 1 fun v7 => f_if false (Nat.ble 1 v7) (m_365 v7 0 M1 fun M12 => K M12)
theorem m_43_ok {fg : eG} {rc rs d : Nat} {f : eFr} {F : List eFr} {M : yM} {μ0 : eM} {a0 : Nat} {K : yM → Bool} (hG : yG fg y_T) (h : m_43 a0 M K = true) (hR : yR M μ0) (hk : ev_kd μ0 a0 = some 3) (p0 : 0 < a0) (hK : ∀ (M : yM) (μ : eM), K M = true → yR M μ → y_le μ0 μ → ex_fine fg rc rs (d + 2, (f.1, f.2.1, f.2.2.1, f.2.2.2), F, μ)) : ex_fine fg rc rs (d + 1, (43, 0, [some (eR a0)], []), f :: F, μ0) := by
  unfold m_43 at h
  have hl := y_le_r μ0
  refine w_s (np := 1) (lv' := [some (eR a0)]) (st' := [eR a0]) rfl (s_an rfl p0) rfl ?_
  refine w_s (np := 2) (lv' := [some (eR a0)]) (st' := [eI (zI 0), eR a0]) rfl rfl rfl ?_
  obtain ⟨M1, μ2, h, k5, hR3, hl4, e6⟩ := y_wf_ex (ty := 0) h hR hl rfl (by decide)
  refine v_pe0 (np := 5) rfl rfl k5 e6 ?_
  clear k5 e6
  refine w_s (np := 6) (lv' := [some (eR a0)]) (st' := [eR a0]) rfl (s_an rfl p0) rfl ?_
  obtain ⟨v7, h, k8, e9⟩ := y_gf_ok (ty := 3) h hR3 (by decide) rfl
  obtain ⟨g10, h⟩ := f_if_ok h
  have q11 : 0 < v7 := Nat.ble_eq.mp g10
  refine v_gf3 (np := 9) rfl rfl k8 e9 ?_
  clear k8 e9
  refine w_s (np := 10) (lv' := [some (eR a0)]) (st' := [eI (zI 0), eR v7]) rfl rfl rfl ?_
  refine w_cs (np := 13) (as := [eR v7, eI (zI 0)]) (lv' := [some (eR v7), some (eI (zI 0)), none, none]) (rest := []) rfl rfl rfl (Nat.ble_eq.mp rfl) rfl rfl rfl rfl ?_
  refine m_365_ok hG h hR3 q11 ?_
  intro M12 μ13 h hR14 hl16
  have hl15 := y_le.tr hl4 hl16
  show ex_fine fg rc rs (d + 1, (43, 13, [some (eR a0)], []), f :: F, μ13)
  exact v_rv rfl rfl (hK _ _ h hR14 hl15)
noncomputable def m_26_109 (a0 a1 : Nat) (K : yM → Bool) (M : yM) : Bool := K M
theorem m_26_109_ok {fg : eG} {rc rs d : Nat} {f : eFr} {F : List eFr} {μ0 : eM} {a0 a1 : Nat} {K : yM → Bool} (hG : yG fg y_T) (hk : ev_kd μ0 a0 = some 2) (p0 : 0 < a0) (hK : ∀ (M : yM) (μ : eM), K M = true → yR M μ → y_le μ0 μ → ex_fine fg rc rs (d + 4, (f.1, f.2.1, f.2.2.1, f.2.2.2), F, μ)) : ∀ (x2 : Option eV) (M : yM) (μ : eM), m_26_109 a0 a1 K M = true → yR M μ → y_le μ0 μ → ex_fine fg rc rs (d + 3, (26, 109, [some (eR a0), some (eI (zI a1)), x2], []), f :: F, μ) := by
  intro x2 M μ h hR hl
  unfold m_26_109 at h
  exact v_rv rfl rfl (hK _ _ h hR hl)
noncomputable def m_26_85 (a0 a1 : Nat) (K : yM → Bool) (M : yM) : Bool := z_if (z_eq a1 3) (m_74 0 M fun v7 M2 => m_74 3 M2 fun v13 M8 => m_75 v7 v13 M8 fun v19 M14 => m_27 a0 1 v19 8 5 M14 fun M20 => m_26_109 a0 a1 K M20) (m_26_109 a0 a1 K M)
theorem m_26_85_ok {fg : eG} {rc rs d : Nat} {f : eFr} {F : List eFr} {μ0 : eM} {a0 a1 : Nat} {K : yM → Bool} (hG : yG fg y_T) (hk : ev_kd μ0 a0 = some 2) (p0 : 0 < a0) (hK : ∀ (M : yM) (μ : eM), K M = true → yR M μ → y_le μ0 μ → ex_fine fg rc rs (d + 4, (f.1, f.2.1, f.2.2.1, f.2.2.2), F, μ)) : ∀ (x2 : Option eV) (M : yM) (μ : eM), m_26_85 a0 a1 K M = true → yR M μ → y_le μ0 μ → ex_fine fg rc rs (d + 3, (26, 85, [some (eR a0), some (eI (zI a1)), x2], []), f :: F, μ) := by
  intro x2 M μ h hR hl
  unfold m_26_85 at h
  refine w_s (np := 86) (lv' := [some (eR a0), some (eI (zI a1)), x2]) (st' := [eI (zI a1)]) rfl rfl rfl ?_
  refine w_s (np := 87) (lv' := [some (eR a0), some (eI (zI a1)), x2]) (st' := [eI (zI 3), eI (zI a1)]) rfl rfl rfl ?_
  rcases z_if_t h with ⟨g1, h⟩ | ⟨g1, h⟩
  · refine v_ne_f (t1 := 109) rfl rfl g1 ?_
    refine w_s (np := 91) (lv' := [some (eR a0), some (eI (zI a1)), x2]) (st' := [eR a0]) rfl (s_an rfl p0) rfl ?_
    refine w_s (np := 92) (lv' := [some (eR a0), some (eI (zI a1)), x2]) (st' := [eI (zI 1), eR a0]) rfl rfl rfl ?_
    refine w_s (np := 93) (lv' := [some (eR a0), some (eI (zI a1)), x2]) (st' := [eI (zI 0), eI (zI 1), eR a0]) rfl rfl rfl ?_
    refine w_cs (np := 96) (as := [eI (zI 0)]) (lv' := [some (eI (zI 0))]) (rest := [eI (zI 1), eR a0]) rfl rfl rfl (Nat.ble_eq.mp rfl) rfl rfl rfl rfl ?_
    refine m_74_ok hG h hR ?_
    intro v7 M2 μ3 h hR4 hl6
    have hl5 := y_le.tr hl hl6
    show ex_fine fg rc rs (d + 3, (26, 96, [some (eR a0), some (eI (zI a1)), x2], [eJ (zJ v7), eI (zI 1), eR a0]), f :: F, μ3)
    refine w_s (np := 97) (lv' := [some (eR a0), some (eI (zI a1)), x2]) (st' := [eI (zI 3), eJ (zJ v7), eI (zI 1), eR a0]) rfl rfl rfl ?_
    refine w_cs (np := 100) (as := [eI (zI 3)]) (lv' := [some (eI (zI 3))]) (rest := [eJ (zJ v7), eI (zI 1), eR a0]) rfl rfl rfl (Nat.ble_eq.mp rfl) rfl rfl rfl rfl ?_
    refine m_74_ok hG h hR4 ?_
    intro v13 M8 μ9 h hR10 hl12
    have hl11 := y_le.tr hl5 hl12
    show ex_fine fg rc rs (d + 3, (26, 100, [some (eR a0), some (eI (zI a1)), x2], [eJ (zJ v13), eJ (zJ v7), eI (zI 1), eR a0]), f :: F, μ9)
    refine w_cs (np := 103) (as := [eJ (zJ v7), eJ (zJ v13)]) (lv' := [some (eJ (zJ v7)), none, some (eJ (zJ v13)), none]) (rest := [eI (zI 1), eR a0]) rfl rfl rfl (Nat.ble_eq.mp rfl) rfl rfl rfl rfl ?_
    refine m_75_ok hG h hR10 ?_
    intro v19 M14 μ15 h hR16 hl18
    have hl17 := y_le.tr hl11 hl18
    show ex_fine fg rc rs (d + 3, (26, 103, [some (eR a0), some (eI (zI a1)), x2], [eJ (zJ v19), eI (zI 1), eR a0]), f :: F, μ15)
    refine w_s (np := 105) (lv' := [some (eR a0), some (eI (zI a1)), x2]) (st' := [eI (zI 8), eJ (zJ v19), eI (zI 1), eR a0]) rfl rfl rfl ?_
    refine w_s (np := 106) (lv' := [some (eR a0), some (eI (zI a1)), x2]) (st' := [eI (zI 5), eI (zI 8), eJ (zJ v19), eI (zI 1), eR a0]) rfl rfl rfl ?_
    refine w_cv (np := 109) (as := [eI (zI 1), eJ (zJ v19), eI (zI 8), eI (zI 5)]) (lv' := [some (eR a0), some (eI (zI 1)), some (eJ (zJ v19)), none, some (eI (zI 8)), some (eI (zI 5)), none, none]) (rest := []) rfl rfl rfl (Nat.ble_eq.mp rfl) rfl rfl rfl (hl17 _ _ hk) rfl ?_
    refine m_27_ok hG h hR16 (hl17 _ _ hk) p0 ?_
    intro M20 μ21 h hR22 hl24
    have hl23 := y_le.tr hl17 hl24
    show ex_fine fg rc rs (d + 3, (26, 109, [some (eR a0), some (eI (zI a1)), x2], []), f :: F, μ21)
    exact m_26_109_ok hG hk p0 hK _ M20 μ21 h hR22 hl23
  · refine v_ne_t (t1 := 109) rfl rfl g1 ?_
    exact m_26_109_ok hG hk p0 hK _ M μ h hR hl
noncomputable def m_26_28b (a0 a1 : Nat) (K : yM → Bool) (i28 : Nat → yM → Bool) (a2 : Nat) (M : yM) : Bool := z_if (z_lt a2 10) (z_l (z_add a2 1) fun v2 => z_l (z_rem a2 2) fun v3 => z_l (z_sub v2 v3) fun v4 => z_l (z_rem a2 2) fun v5 => z_l (z_add a2 v5) fun v6 => m_27 a0 0 0 v4 v6 M fun M7 => z_l (z_add a2 1) fun v12 => z_f v12 fun w13 => i28 w13 M7) (m_26_85 a0 a1 K M)
noncomputable def m_26_28 (a0 a1 : Nat) (K : yM → Bool) (n : Nat) : Nat → yM → Bool := @Nat.rec (fun _ => Nat → yM → Bool) (fun _ _ => false) (fun _ ih => m_26_28b a0 a1 K ih) n
theorem m_26_28b_ok {fg : eG} {rc rs d : Nat} {f : eFr} {F : List eFr} {μ0 : eM} {a0 a1 : Nat} {K : yM → Bool} {i28 : Nat → yM → Bool} (hG : yG fg y_T) (hk : ev_kd μ0 a0 = some 2) (p0 : 0 < a0) (hK : ∀ (M : yM) (μ : eM), K M = true → yR M μ → y_le μ0 μ → ex_fine fg rc rs (d + 4, (f.1, f.2.1, f.2.2.1, f.2.2.2), F, μ)) (h28 : ∀ (a2 : Nat) (M : yM) (μ : eM), i28 a2 M = true → yR M μ → y_le μ0 μ → ex_fine fg rc rs (d + 3, (26, 28, [some (eR a0), some (eI (zI a1)), some (eI (zI a2))], []), f :: F, μ)) : ∀ (a2 : Nat) (M : yM) (μ : eM), m_26_28b a0 a1 K i28 a2 M = true → yR M μ → y_le μ0 μ → ex_fine fg rc rs (d + 3, (26, 28, [some (eR a0), some (eI (zI a1)), some (eI (zI a2))], []), f :: F, μ) := by
  intro a2 M μ h hR hl
  unfold m_26_28b at h
  refine w_s (np := 29) (lv' := [some (eR a0), some (eI (zI a1)), some (eI (zI a2))]) (st' := [eI (zI a2)]) rfl rfl rfl ?_
  refine w_s (np := 31) (lv' := [some (eR a0), some (eI (zI a1)), some (eI (zI a2))]) (st' := [eI (zI 10), eI (zI a2)]) rfl rfl rfl ?_
  rcases z_if_t h with ⟨g1, h⟩ | ⟨g1, h⟩
  · refine v_ge_f (t1 := 58) rfl rfl g1 ?_
    refine w_s (np := 35) (lv' := [some (eR a0), some (eI (zI a1)), some (eI (zI a2))]) (st' := [eR a0]) rfl (s_an rfl p0) rfl ?_
    refine w_s (np := 36) (lv' := [some (eR a0), some (eI (zI a1)), some (eI (zI a2))]) (st' := [eI (zI 0), eR a0]) rfl rfl rfl ?_
    refine w_s (np := 37) (lv' := [some (eR a0), some (eI (zI a1)), some (eI (zI a2))]) (st' := [eJ (zJ 0), eI (zI 0), eR a0]) rfl rfl rfl ?_
    refine w_s (np := 38) (lv' := [some (eR a0), some (eI (zI a1)), some (eI (zI a2))]) (st' := [eI (zI a2), eJ (zJ 0), eI (zI 0), eR a0]) rfl rfl rfl ?_
    refine w_s (np := 39) (lv' := [some (eR a0), some (eI (zI a1)), some (eI (zI a2))]) (st' := [eI (zI 1), eI (zI a2), eJ (zJ 0), eI (zI 0), eR a0]) rfl rfl rfl ?_
    obtain ⟨v2, ev2, h⟩ := z_l_ex h
    refine w_s (np := 40) (lv' := [some (eR a0), some (eI (zI a1)), some (eI (zI a2))]) (st' := [eI (zI v2), eJ (zJ 0), eI (zI 0), eR a0]) rfl (s_iadd ev2) rfl ?_
    clear ev2
    refine w_s (np := 41) (lv' := [some (eR a0), some (eI (zI a1)), some (eI (zI a2))]) (st' := [eI (zI a2), eI (zI v2), eJ (zJ 0), eI (zI 0), eR a0]) rfl rfl rfl ?_
    refine w_s (np := 42) (lv' := [some (eR a0), some (eI (zI a1)), some (eI (zI a2))]) (st' := [eI (zI 2), eI (zI a2), eI (zI v2), eJ (zJ 0), eI (zI 0), eR a0]) rfl rfl rfl ?_
    obtain ⟨v3, ev3, h⟩ := z_l_ex h
    refine w_s (np := 43) (lv' := [some (eR a0), some (eI (zI a1)), some (eI (zI a2))]) (st' := [eI (zI v3), eI (zI v2), eJ (zJ 0), eI (zI 0), eR a0]) rfl (s_irem ⟨by decide, by decide⟩ ev3) rfl ?_
    clear ev3
    obtain ⟨v4, ev4, h⟩ := z_l_ex h
    refine w_s (np := 44) (lv' := [some (eR a0), some (eI (zI a1)), some (eI (zI a2))]) (st' := [eI (zI v4), eJ (zJ 0), eI (zI 0), eR a0]) rfl (s_isub ev4) rfl ?_
    clear ev4
    refine w_s (np := 45) (lv' := [some (eR a0), some (eI (zI a1)), some (eI (zI a2))]) (st' := [eI (zI a2), eI (zI v4), eJ (zJ 0), eI (zI 0), eR a0]) rfl rfl rfl ?_
    refine w_s (np := 46) (lv' := [some (eR a0), some (eI (zI a1)), some (eI (zI a2))]) (st' := [eI (zI a2), eI (zI a2), eI (zI v4), eJ (zJ 0), eI (zI 0), eR a0]) rfl rfl rfl ?_
    refine w_s (np := 47) (lv' := [some (eR a0), some (eI (zI a1)), some (eI (zI a2))]) (st' := [eI (zI 2), eI (zI a2), eI (zI a2), eI (zI v4), eJ (zJ 0), eI (zI 0), eR a0]) rfl rfl rfl ?_
    obtain ⟨v5, ev5, h⟩ := z_l_ex h
    refine w_s (np := 48) (lv' := [some (eR a0), some (eI (zI a1)), some (eI (zI a2))]) (st' := [eI (zI v5), eI (zI a2), eI (zI v4), eJ (zJ 0), eI (zI 0), eR a0]) rfl (s_irem ⟨by decide, by decide⟩ ev5) rfl ?_
    clear ev5
    obtain ⟨v6, ev6, h⟩ := z_l_ex h
    refine w_s (np := 49) (lv' := [some (eR a0), some (eI (zI a1)), some (eI (zI a2))]) (st' := [eI (zI v6), eI (zI v4), eJ (zJ 0), eI (zI 0), eR a0]) rfl (s_iadd ev6) rfl ?_
    clear ev6
    refine w_cv (np := 52) (as := [eI (zI 0), eJ (zJ 0), eI (zI v4), eI (zI v6)]) (lv' := [some (eR a0), some (eI (zI 0)), some (eJ (zJ 0)), none, some (eI (zI v4)), some (eI (zI v6)), none, none]) (rest := []) rfl rfl rfl (Nat.ble_eq.mp rfl) rfl rfl rfl (hl _ _ hk) rfl ?_
    refine m_27_ok hG h hR (hl _ _ hk) p0 ?_
    intro M7 μ8 h hR9 hl11
    have hl10 := y_le.tr hl hl11
    show ex_fine fg rc rs (d + 3, (26, 52, [some (eR a0), some (eI (zI a1)), some (eI (zI a2))], []), f :: F, μ8)
    obtain ⟨v12, ev12, h⟩ := z_l_ex h
    refine w_s (np := 55) (lv' := [some (eR a0), some (eI (zI a1)), some (eI (zI v12))]) (st' := []) rfl (s_iinc (b := 1) rfl rfl ev12 rfl) rfl ?_
    clear ev12
    refine w_go (t1 := 28) rfl rfl ?_
    obtain ⟨w13, ew13, h⟩ := z_f_ex h
    subst ew13
    exact h28 _ M7 μ8 h hR9 hl10
  · refine v_ge_t (t1 := 58) rfl rfl g1 ?_
    refine w_go (t1 := 85) rfl rfl ?_
    exact m_26_85_ok hG hk p0 hK _ M μ h hR hl
theorem m_26_28_ok {fg : eG} {rc rs d : Nat} {f : eFr} {F : List eFr} {μ0 : eM} {a0 a1 : Nat} {K : yM → Bool} (hG : yG fg y_T) (hk : ev_kd μ0 a0 = some 2) (p0 : 0 < a0) (hK : ∀ (M : yM) (μ : eM), K M = true → yR M μ → y_le μ0 μ → ex_fine fg rc rs (d + 4, (f.1, f.2.1, f.2.2.1, f.2.2.2), F, μ)) : ∀ n : Nat, ∀ (a2 : Nat) (M : yM) (μ : eM), m_26_28 a0 a1 K n a2 M = true → yR M μ → y_le μ0 μ → ex_fine fg rc rs (d + 3, (26, 28, [some (eR a0), some (eI (zI a1)), some (eI (zI a2))], []), f :: F, μ) := by
  intro n
  induction n with
  | zero =>
    intro a2 M μ h hR hl
    exact absurd h Bool.false_ne_true
  | succ n ih =>
    intro a2 M μ h hR hl
    exact m_26_28b_ok hG hk p0 hK ih a2 M μ h hR hl
/-! RhombInflator$Patch.begin -/
noncomputable def m_26 (a0 a1 : Nat) (M : yM) (K : yM → Bool) : Bool := y_wf M a0 2 5 a1 fun M1 => y_wf M1 a0 2 6 0 fun M7 => y_wf M7 a0 2 7 0 fun M13 => y_gf M13 a0 2 4 fun v19 => f_if false (Nat.ble 1 v19) (y_is M13 v19 3 (m_43 v19 M13 fun M24 => z_if (z_e0 a1) (m_26_28 a0 a1 K 100000 0 M24) (z_if (z_eq a1 1) (m_27 a0 0 0 0 1 M24 fun M37 => m_26_85 a0 a1 K M37) (m_27 a0 1 0 0 3 M24 fun M32 => m_26_85 a0 a1 K M32))))
theorem m_26_ok {fg : eG} {rc rs d : Nat} {f : eFr} {F : List eFr} {M : yM} {μ0 : eM} {a0 a1 : Nat} {K : yM → Bool} (hG : yG fg y_T) (h : m_26 a0 a1 M K = true) (hR : yR M μ0) (hk : ev_kd μ0 a0 = some 2) (p0 : 0 < a0) (hK : ∀ (M : yM) (μ : eM), K M = true → yR M μ → y_le μ0 μ → ex_fine fg rc rs (d + 4, (f.1, f.2.1, f.2.2.1, f.2.2.2), F, μ)) : ex_fine fg rc rs (d + 3, (26, 0, [some (eR a0), some (eI (zI a1)), none], []), f :: F, μ0) := by
  unfold m_26 at h
  have hl := y_le_r μ0
  refine w_s (np := 1) (lv' := [some (eR a0), some (eI (zI a1)), none]) (st' := [eR a0]) rfl (s_an rfl p0) rfl ?_
  refine w_s (np := 2) (lv' := [some (eR a0), some (eI (zI a1)), none]) (st' := [eI (zI a1), eR a0]) rfl rfl rfl ?_
  obtain ⟨M1, μ2, h, k5, hR3, hl4, e6⟩ := y_wf_ex (ty := 0) h hR hl rfl (by decide)
  refine v_pe0 (np := 5) rfl rfl k5 e6 ?_
  clear k5 e6
  refine w_s (np := 6) (lv' := [some (eR a0), some (eI (zI a1)), none]) (st' := [eR a0]) rfl (s_an rfl p0) rfl ?_
  refine w_s (np := 7) (lv' := [some (eR a0), some (eI (zI a1)), none]) (st' := [eI (zI 0), eR a0]) rfl rfl rfl ?_
  obtain ⟨M7, μ8, h, k11, hR9, hl10, e12⟩ := y_wf_ex (ty := 0) h hR3 hl4 rfl (by decide)
  refine v_pe0 (np := 10) rfl rfl k11 e12 ?_
  clear k11 e12
  refine w_s (np := 11) (lv' := [some (eR a0), some (eI (zI a1)), none]) (st' := [eR a0]) rfl (s_an rfl p0) rfl ?_
  refine w_s (np := 12) (lv' := [some (eR a0), some (eI (zI a1)), none]) (st' := [eI (zI 0), eR a0]) rfl rfl rfl ?_
  obtain ⟨M13, μ14, h, k17, hR15, hl16, e18⟩ := y_wf_ex (ty := 0) h hR9 hl10 rfl (by decide)
  refine v_pe0 (np := 15) rfl rfl k17 e18 ?_
  clear k17 e18
  refine w_s (np := 16) (lv' := [some (eR a0), some (eI (zI a1)), none]) (st' := [eR a0]) rfl (s_an rfl p0) rfl ?_
  obtain ⟨v19, h, k20, e21⟩ := y_gf_ok (ty := 3) h hR15 (by decide) rfl
  obtain ⟨g22, h⟩ := f_if_ok h
  have q23 : 0 < v19 := Nat.ble_eq.mp g22
  refine v_gf3 (np := 19) rfl rfl k20 e21 ?_
  clear k20 e21
  obtain ⟨k29, h⟩ := y_is_ok h hR15
  refine w_cv (np := 22) (as := []) (lv' := [some (eR v19)]) (rest := []) rfl rfl rfl (Nat.ble_eq.mp rfl) rfl rfl rfl k29 rfl ?_
  refine m_43_ok hG h hR15 k29 q23 ?_
  intro M24 μ25 h hR26 hl28
  have hl27 := y_le.tr hl16 hl28
  show ex_fine fg rc rs (d + 3, (26, 22, [some (eR a0), some (eI (zI a1)), none], []), f :: F, μ25)
  refine w_s (np := 23) (lv' := [some (eR a0), some (eI (zI a1)), none]) (st' := [eI (zI a1)]) rfl rfl rfl ?_
  rcases z_if_t h with ⟨g30, h⟩ | ⟨g30, h⟩
  · refine v_ne0_f (t1 := 61) rfl rfl g30 ?_
    refine w_s (np := 27) (lv' := [some (eR a0), some (eI (zI a1)), none]) (st' := [eI (zI 0)]) rfl rfl rfl ?_
    refine w_s (np := 28) (lv' := [some (eR a0), some (eI (zI a1)), some (eI (zI 0))]) (st' := []) rfl rfl rfl ?_
    exact m_26_28_ok hG hk p0 hK 100000 _ M24 μ25 h hR26 hl27
  · refine v_ne0_t (t1 := 61) rfl rfl g30 ?_
    refine w_s (np := 62) (lv' := [some (eR a0), some (eI (zI a1)), none]) (st' := [eI (zI a1)]) rfl rfl rfl ?_
    refine w_s (np := 63) (lv' := [some (eR a0), some (eI (zI a1)), none]) (st' := [eI (zI 1), eI (zI a1)]) rfl rfl rfl ?_
    rcases z_if_t h with ⟨g31, h⟩ | ⟨g31, h⟩
    · refine v_ne_f (t1 := 77) rfl rfl g31 ?_
      refine w_s (np := 67) (lv' := [some (eR a0), some (eI (zI a1)), none]) (st' := [eR a0]) rfl (s_an rfl p0) rfl ?_
      refine w_s (np := 68) (lv' := [some (eR a0), some (eI (zI a1)), none]) (st' := [eI (zI 0), eR a0]) rfl rfl rfl ?_
      refine w_s (np := 69) (lv' := [some (eR a0), some (eI (zI a1)), none]) (st' := [eJ (zJ 0), eI (zI 0), eR a0]) rfl rfl rfl ?_
      refine w_s (np := 70) (lv' := [some (eR a0), some (eI (zI a1)), none]) (st' := [eI (zI 0), eJ (zJ 0), eI (zI 0), eR a0]) rfl rfl rfl ?_
      refine w_s (np := 71) (lv' := [some (eR a0), some (eI (zI a1)), none]) (st' := [eI (zI 1), eI (zI 0), eJ (zJ 0), eI (zI 0), eR a0]) rfl rfl rfl ?_
      refine w_cv (np := 74) (as := [eI (zI 0), eJ (zJ 0), eI (zI 0), eI (zI 1)]) (lv' := [some (eR a0), some (eI (zI 0)), some (eJ (zJ 0)), none, some (eI (zI 0)), some (eI (zI 1)), none, none]) (rest := []) rfl rfl rfl (Nat.ble_eq.mp rfl) rfl rfl rfl (hl27 _ _ hk) rfl ?_
      refine m_27_ok hG h hR26 (hl27 _ _ hk) p0 ?_
      intro M37 μ38 h hR39 hl41
      have hl40 := y_le.tr hl27 hl41
      show ex_fine fg rc rs (d + 3, (26, 74, [some (eR a0), some (eI (zI a1)), none], []), f :: F, μ38)
      refine w_go (t1 := 85) rfl rfl ?_
      exact m_26_85_ok hG hk p0 hK _ M37 μ38 h hR39 hl40
    · refine v_ne_t (t1 := 77) rfl rfl g31 ?_
      refine w_s (np := 78) (lv' := [some (eR a0), some (eI (zI a1)), none]) (st' := [eR a0]) rfl (s_an rfl p0) rfl ?_
      refine w_s (np := 79) (lv' := [some (eR a0), some (eI (zI a1)), none]) (st' := [eI (zI 1), eR a0]) rfl rfl rfl ?_
      refine w_s (np := 80) (lv' := [some (eR a0), some (eI (zI a1)), none]) (st' := [eJ (zJ 0), eI (zI 1), eR a0]) rfl rfl rfl ?_
      refine w_s (np := 81) (lv' := [some (eR a0), some (eI (zI a1)), none]) (st' := [eI (zI 0), eJ (zJ 0), eI (zI 1), eR a0]) rfl rfl rfl ?_
      refine w_s (np := 82) (lv' := [some (eR a0), some (eI (zI a1)), none]) (st' := [eI (zI 3), eI (zI 0), eJ (zJ 0), eI (zI 1), eR a0]) rfl rfl rfl ?_
      refine w_cv (np := 85) (as := [eI (zI 1), eJ (zJ 0), eI (zI 0), eI (zI 3)]) (lv' := [some (eR a0), some (eI (zI 1)), some (eJ (zJ 0)), none, some (eI (zI 0)), some (eI (zI 3)), none, none]) (rest := []) rfl rfl rfl (Nat.ble_eq.mp rfl) rfl rfl rfl (hl27 _ _ hk) rfl ?_
      refine m_27_ok hG h hR26 (hl27 _ _ hk) p0 ?_
      intro M32 μ33 h hR34 hl36
      have hl35 := y_le.tr hl27 hl36
      show ex_fine fg rc rs (d + 3, (26, 85, [some (eR a0), some (eI (zI a1)), none], []), f :: F, μ33)
      exact m_26_85_ok hG hk p0 hK _ M32 μ33 h hR34 hl35
noncomputable def m_364_10 (a0 a1 : Nat) (K : Nat → yM → Bool) (s0 : Nat) (M : yM) : Bool := K s0 M
theorem m_364_10_ok {fg : eG} {rc rs d : Nat} {f : eFr} {F : List eFr} {μ0 : eM} {a0 a1 : Nat} {K : Nat → yM → Bool} (hG : yG fg y_T) (hK : ∀ (r : Nat) (M : yM) (μ : eM), K r M = true → yR M μ → y_le μ0 μ → ex_fine fg rc rs (d + 1, (f.1, f.2.1, f.2.2.1, eI (zI r) :: f.2.2.2), F, μ)) : ∀ (s0 : Nat) (M : yM) (μ : eM), m_364_10 a0 a1 K s0 M = true → yR M μ → y_le μ0 μ → ex_fine fg rc rs (d, (364, 10, [some (eI (zI a0)), some (eI (zI a1))], [eI (zI s0)]), f :: F, μ) := by
  intro s0 M μ h hR hl
  unfold m_364_10 at h
  exact v_ri rfl rfl (hK _ _ _ h hR hl)
/-! java/lang/Math.min -/
noncomputable def m_364 (a0 a1 : Nat) (M : yM) (K : Nat → yM → Bool) : Bool := z_if (z_lt a1 a0) (m_364_10 a0 a1 K a1 M) (m_364_10 a0 a1 K a0 M)
theorem m_364_ok {fg : eG} {rc rs d : Nat} {f : eFr} {F : List eFr} {M : yM} {μ0 : eM} {a0 a1 : Nat} {K : Nat → yM → Bool} (hG : yG fg y_T) (h : m_364 a0 a1 M K = true) (hR : yR M μ0) (hK : ∀ (r : Nat) (M : yM) (μ : eM), K r M = true → yR M μ → y_le μ0 μ → ex_fine fg rc rs (d + 1, (f.1, f.2.1, f.2.2.1, eI (zI r) :: f.2.2.2), F, μ)) : ex_fine fg rc rs (d, (364, 0, [some (eI (zI a0)), some (eI (zI a1))], []), f :: F, μ0) := by
  unfold m_364 at h
  have hl := y_le_r μ0
  refine w_s (np := 1) (lv' := [some (eI (zI a0)), some (eI (zI a1))]) (st' := [eI (zI a0)]) rfl rfl rfl ?_
  refine w_s (np := 2) (lv' := [some (eI (zI a0)), some (eI (zI a1))]) (st' := [eI (zI a1), eI (zI a0)]) rfl rfl rfl ?_
  rcases z_if_t h with ⟨g1, h⟩ | ⟨g1, h⟩
  · refine v_gt_t (t1 := 9) rfl rfl g1 ?_
    refine w_s (np := 10) (lv' := [some (eI (zI a0)), some (eI (zI a1))]) (st' := [eI (zI a1)]) rfl rfl rfl ?_
    exact m_364_10_ok hG hK _ M μ0 h hR hl
  · refine v_gt_f (t1 := 9) rfl rfl g1 ?_
    refine w_s (np := 6) (lv' := [some (eI (zI a0)), some (eI (zI a1))]) (st' := [eI (zI a0)]) rfl rfl rfl ?_
    refine w_go (t1 := 10) rfl rfl ?_
    exact m_364_10_ok hG hK _ M μ0 h hR hl
/-! java/util/Arrays.copyOf -/
noncomputable def m_366 (a0 a1 : Nat) (M : yM) (K : Nat → yM → Bool) : Bool := y_ln y_T M a0 fun v1 => z_if (z_eq a1 v1) (false) (y_na M 100 a1 fun r5 M6 => y_ln y_T M6 a0 fun v14 => m_364 v14 a1 M6 fun v22 M17 => y_cp M17 a0 r5 v22 fun M23 => K r5 M23)
theorem m_366_ok {fg : eG} {rc rs d : Nat} {f : eFr} {F : List eFr} {M : yM} {μ0 : eM} {a0 a1 : Nat} {K : Nat → yM → Bool} (hG : yG fg y_T) (h : m_366 a0 a1 M K = true) (hR : yR M μ0) (p0 : 0 < a0) (hK : ∀ (r : Nat) (M : yM) (μ : eM), K r M = true → yR M μ → y_le μ0 μ → ex_fine fg rc rs (d + 2, (f.1, f.2.1, f.2.2.1, eR r :: f.2.2.2), F, μ)) : ex_fine fg rc rs (d + 1, (366, 0, [some (eR a0), some (eI (zI a1)), none], []), f :: F, μ0) := by
  unfold m_366 at h
  have hl := y_le_r μ0
  refine w_s (np := 1) (lv' := [some (eR a0), some (eI (zI a1)), none]) (st' := [eI (zI a1)]) rfl rfl rfl ?_
  refine w_s (np := 2) (lv' := [some (eR a0), some (eI (zI a1)), none]) (st' := [eR a0, eI (zI a1)]) rfl (s_an rfl p0) rfl ?_
  obtain ⟨v1, h, n2, k3⟩ := y_ln_ok h hR hG
  refine v_ln (np := 3) rfl rfl k3 ?_
  rcases z_if_t h with ⟨g4, h⟩ | ⟨g4, h⟩
  · refine v_ne_f (t1 := 14) rfl rfl g4 ?_
    refine w_s (np := 7) (lv' := [some (eR a0), some (eI (zI a1)), none]) (st' := [eR a0]) rfl (s_an rfl p0) rfl ?_
    exact absurd h Bool.false_ne_true
  · refine v_ne_t (t1 := 14) rfl rfl g4 ?_
    refine w_s (np := 15) (lv' := [some (eR a0), some (eI (zI a1)), none]) (st' := [eI (zI a1)]) rfl rfl rfl ?_
    obtain ⟨r5, M6, μ7, h, q11, e12, g10, hR8, hl9, e13⟩ := y_na_ex h hR hl
    refine v_ae (np := 17) rfl rfl g10 e12 e13 ?_
    clear g10 e12 e13
    refine w_s (np := 18) (lv' := [some (eR a0), some (eI (zI a1)), some (eR r5)]) (st' := []) rfl (s_sn (Nat.ble_eq.mp rfl) q11 rfl) rfl ?_
    refine w_s (np := 19) (lv' := [some (eR a0), some (eI (zI a1)), some (eR r5)]) (st' := [eR a0]) rfl (s_an rfl p0) rfl ?_
    refine w_s (np := 20) (lv' := [some (eR a0), some (eI (zI a1)), some (eR r5)]) (st' := [eI (zI 0), eR a0]) rfl rfl rfl ?_
    refine w_s (np := 21) (lv' := [some (eR a0), some (eI (zI a1)), some (eR r5)]) (st' := [eR r5, eI (zI 0), eR a0]) rfl (s_an rfl q11) rfl ?_
    refine w_s (np := 22) (lv' := [some (eR a0), some (eI (zI a1)), some (eR r5)]) (st' := [eI (zI 0), eR r5, eI (zI 0), eR a0]) rfl rfl rfl ?_
    refine w_s (np := 23) (lv' := [some (eR a0), some (eI (zI a1)), some (eR r5)]) (st' := [eR a0, eI (zI 0), eR r5, eI (zI 0), eR a0]) rfl (s_an rfl p0) rfl ?_
    obtain ⟨v14, h, n15, k16⟩ := y_ln_ok h hR8 hG
    refine v_ln (np := 24) rfl rfl k16 ?_
    refine w_s (np := 25) (lv' := [some (eR a0), some (eI (zI a1)), some (eR r5)]) (st' := [eI (zI a1), eI (zI v14), eI (zI 0), eR r5, eI (zI 0), eR a0]) rfl rfl rfl ?_
    refine w_cs (np := 28) (as := [eI (zI v14), eI (zI a1)]) (lv' := [some (eI (zI v14)), some (eI (zI a1))]) (rest := [eI (zI 0), eR r5, eI (zI 0), eR a0]) rfl rfl rfl (Nat.ble_eq.mp rfl) rfl rfl rfl rfl ?_
    refine m_364_ok hG h hR8 ?_
    intro v22 M17 μ18 h hR19 hl21
    have hl20 := y_le.tr hl9 hl21
    show ex_fine fg rc rs (d + 1, (366, 28, [some (eR a0), some (eI (zI a1)), some (eR r5)], [eI (zI v22), eI (zI 0), eR r5, eI (zI 0), eR a0]), f :: F, μ18)
    obtain ⟨M23, μ24, g28, g29, g30, h, g31, g32, g33, g34, g35, g36, hR25, hl26, e27⟩ := y_cp_ex h hR19 hl20
    refine v_ce (np := 31) rfl rfl g31 g32 g33 g34 g35 g36 rfl rfl rfl e27 ?_
    refine w_s (np := 32) (lv' := [some (eR a0), some (eI (zI a1)), some (eR r5)]) (st' := [eR r5]) rfl (s_an rfl q11) rfl ?_
    exact v_ra rfl rfl (hK _ _ _ h hR25 hl26)
/-! RhombInflator$Patch.makeRoom -/
noncomputable def m_17 (a0 : Nat) (M : yM) (K : yM → Bool) : Bool := y_gf M a0 2 0 fun v1 => f_if false (Nat.ble 1 v1) (m_366 v1 890 M fun v11 M6 => f_if false (Nat.ble 1 v11) (y_wr M6 a0 2 0 v11 fun M14 => y_gf M14 a0 2 1 fun v20 => f_if false (Nat.ble 1 v20) (m_366 v20 890 M14 fun v30 M25 => f_if false (Nat.ble 1 v30) (y_wr M25 a0 2 1 v30 fun M33 => y_gf M33 a0 2 2 fun v39 => f_if false (Nat.ble 1 v39) (m_366 v39 2670 M33 fun v49 M44 => f_if false (Nat.ble 1 v49) (y_wr M44 a0 2 2 v49 fun M52 => y_gf M52 a0 2 3 fun v58 => f_if false (Nat.ble 1 v58) (m_366 v58 1780 M52 fun v68 M63 => f_if false (Nat.ble 1 v68) (y_wr M63 a0 2 3 v68 fun M71 => K M71))))))))
theorem m_17_ok {fg : eG} {rc rs d : Nat} {f : eFr} {F : List eFr} {M : yM} {μ0 : eM} {a0 : Nat} {K : yM → Bool} (hG : yG fg y_T) (h : m_17 a0 M K = true) (hR : yR M μ0) (hk : ev_kd μ0 a0 = some 2) (p0 : 0 < a0) (hK : ∀ (M : yM) (μ : eM), K M = true → yR M μ → y_le μ0 μ → ex_fine fg rc rs (d + 3, (f.1, f.2.1, f.2.2.1, f.2.2.2), F, μ)) : ex_fine fg rc rs (d + 2, (17, 0, [some (eR a0)], []), f :: F, μ0) := by
  unfold m_17 at h
  have hl := y_le_r μ0
  refine w_s (np := 1) (lv' := [some (eR a0)]) (st' := [eR a0]) rfl (s_an rfl p0) rfl ?_
  refine w_s (np := 2) (lv' := [some (eR a0)]) (st' := [eR a0, eR a0]) rfl (s_an rfl p0) rfl ?_
  obtain ⟨v1, h, k2, e3⟩ := y_gf_ok (ty := 3) h hR (by decide) rfl
  obtain ⟨g4, h⟩ := f_if_ok h
  have q5 : 0 < v1 := Nat.ble_eq.mp g4
  refine v_gf3 (np := 5) rfl rfl k2 e3 ?_
  clear k2 e3
  refine w_s (np := 8) (lv' := [some (eR a0)]) (st' := [eI (zI 890), eR v1, eR a0]) rfl rfl rfl ?_
  refine w_cs (np := 11) (as := [eR v1, eI (zI 890)]) (lv' := [some (eR v1), some (eI (zI 890)), none]) (rest := [eR a0]) rfl rfl rfl (Nat.ble_eq.mp rfl) rfl rfl rfl rfl ?_
  refine m_366_ok hG h hR q5 ?_
  intro v11 M6 μ7 h hR8 hl10
  have hl9 := y_le.tr hl hl10
  obtain ⟨g12, h⟩ := f_if_ok h
  have q13 : 0 < v11 := Nat.ble_eq.mp g12
  show ex_fine fg rc rs (d + 2, (17, 11, [some (eR a0)], [eR v11, eR a0]), f :: F, μ7)
  obtain ⟨M14, μ15, h, k18, hR16, hl17, e19⟩ := y_wr_ex h hR8 hl9 rfl
  refine v_pe3 (np := 14) rfl rfl k18 e19 ?_
  clear k18 e19
  refine w_s (np := 15) (lv' := [some (eR a0)]) (st' := [eR a0]) rfl (s_an rfl p0) rfl ?_
  refine w_s (np := 16) (lv' := [some (eR a0)]) (st' := [eR a0, eR a0]) rfl (s_an rfl p0) rfl ?_
  obtain ⟨v20, h, k21, e22⟩ := y_gf_ok (ty := 3) h hR16 (by decide) rfl
  obtain ⟨g23, h⟩ := f_if_ok h
  have q24 : 0 < v20 := Nat.ble_eq.mp g23
  refine v_gf3 (np := 19) rfl rfl k21 e22 ?_
  clear k21 e22
  refine w_s (np := 22) (lv' := [some (eR a0)]) (st' := [eI (zI 890), eR v20, eR a0]) rfl rfl rfl ?_
  refine w_cs (np := 25) (as := [eR v20, eI (zI 890)]) (lv' := [some (eR v20), some (eI (zI 890)), none]) (rest := [eR a0]) rfl rfl rfl (Nat.ble_eq.mp rfl) rfl rfl rfl rfl ?_
  refine m_366_ok hG h hR16 q24 ?_
  intro v30 M25 μ26 h hR27 hl29
  have hl28 := y_le.tr hl17 hl29
  obtain ⟨g31, h⟩ := f_if_ok h
  have q32 : 0 < v30 := Nat.ble_eq.mp g31
  show ex_fine fg rc rs (d + 2, (17, 25, [some (eR a0)], [eR v30, eR a0]), f :: F, μ26)
  obtain ⟨M33, μ34, h, k37, hR35, hl36, e38⟩ := y_wr_ex h hR27 hl28 rfl
  refine v_pe3 (np := 28) rfl rfl k37 e38 ?_
  clear k37 e38
  refine w_s (np := 29) (lv' := [some (eR a0)]) (st' := [eR a0]) rfl (s_an rfl p0) rfl ?_
  refine w_s (np := 30) (lv' := [some (eR a0)]) (st' := [eR a0, eR a0]) rfl (s_an rfl p0) rfl ?_
  obtain ⟨v39, h, k40, e41⟩ := y_gf_ok (ty := 3) h hR35 (by decide) rfl
  obtain ⟨g42, h⟩ := f_if_ok h
  have q43 : 0 < v39 := Nat.ble_eq.mp g42
  refine v_gf3 (np := 33) rfl rfl k40 e41 ?_
  clear k40 e41
  refine w_s (np := 36) (lv' := [some (eR a0)]) (st' := [eI (zI 2670), eR v39, eR a0]) rfl rfl rfl ?_
  refine w_cs (np := 39) (as := [eR v39, eI (zI 2670)]) (lv' := [some (eR v39), some (eI (zI 2670)), none]) (rest := [eR a0]) rfl rfl rfl (Nat.ble_eq.mp rfl) rfl rfl rfl rfl ?_
  refine m_366_ok hG h hR35 q43 ?_
  intro v49 M44 μ45 h hR46 hl48
  have hl47 := y_le.tr hl36 hl48
  obtain ⟨g50, h⟩ := f_if_ok h
  have q51 : 0 < v49 := Nat.ble_eq.mp g50
  show ex_fine fg rc rs (d + 2, (17, 39, [some (eR a0)], [eR v49, eR a0]), f :: F, μ45)
  obtain ⟨M52, μ53, h, k56, hR54, hl55, e57⟩ := y_wr_ex h hR46 hl47 rfl
  refine v_pe3 (np := 42) rfl rfl k56 e57 ?_
  clear k56 e57
  refine w_s (np := 43) (lv' := [some (eR a0)]) (st' := [eR a0]) rfl (s_an rfl p0) rfl ?_
  refine w_s (np := 44) (lv' := [some (eR a0)]) (st' := [eR a0, eR a0]) rfl (s_an rfl p0) rfl ?_
  obtain ⟨v58, h, k59, e60⟩ := y_gf_ok (ty := 3) h hR54 (by decide) rfl
  obtain ⟨g61, h⟩ := f_if_ok h
  have q62 : 0 < v58 := Nat.ble_eq.mp g61
  refine v_gf3 (np := 47) rfl rfl k59 e60 ?_
  clear k59 e60
  refine w_s (np := 50) (lv' := [some (eR a0)]) (st' := [eI (zI 1780), eR v58, eR a0]) rfl rfl rfl ?_
  refine w_cs (np := 53) (as := [eR v58, eI (zI 1780)]) (lv' := [some (eR v58), some (eI (zI 1780)), none]) (rest := [eR a0]) rfl rfl rfl (Nat.ble_eq.mp rfl) rfl rfl rfl rfl ?_
  refine m_366_ok hG h hR54 q62 ?_
  intro v68 M63 μ64 h hR65 hl67
  have hl66 := y_le.tr hl55 hl67
  obtain ⟨g69, h⟩ := f_if_ok h
  have q70 : 0 < v68 := Nat.ble_eq.mp g69
  show ex_fine fg rc rs (d + 2, (17, 53, [some (eR a0)], [eR v68, eR a0]), f :: F, μ64)
  obtain ⟨M71, μ72, h, k75, hR73, hl74, e76⟩ := y_wr_ex h hR65 hl66 rfl
  refine v_pe3 (np := 56) rfl rfl k75 e76 ?_
  clear k75 e76
  exact v_rv rfl rfl (hK _ _ h hR73 hl74)
noncomputable def m_25_25 (a0 a1 : Nat) (K : Nat → yM → Bool) (i4 : Nat → Nat → yM → Bool) (a2 a3 : Nat) (M : yM) : Bool := z_l (z_add a3 1) fun v1 => z_f v1 fun w2 => i4 a2 w2 M
theorem m_25_25_ok {fg : eG} {rc rs d : Nat} {f : eFr} {F : List eFr} {μ0 : eM} {a0 a1 : Nat} {K : Nat → yM → Bool} {i4 : Nat → Nat → yM → Bool} (hG : yG fg y_T) (hk : ev_kd μ0 a0 = some 2) (p0 : 0 < a0) (hK : ∀ (r : Nat) (M : yM) (μ : eM), K r M = true → yR M μ → y_le μ0 μ → ex_fine fg rc rs (d + 1, (f.1, f.2.1, f.2.2.1, eI (zI r) :: f.2.2.2), F, μ)) (h4 : ∀ (a2 a3 : Nat) (M : yM) (μ : eM), i4 a2 a3 M = true → yR M μ → y_le μ0 μ → ex_fine fg rc rs (d, (25, 4, [some (eR a0), some (eI (zI a1)), some (eI (zI a2)), some (eI (zI a3))], []), f :: F, μ)) : ∀ (a2 a3 : Nat) (M : yM) (μ : eM), m_25_25 a0 a1 K i4 a2 a3 M = true → yR M μ → y_le μ0 μ → ex_fine fg rc rs (d, (25, 25, [some (eR a0), some (eI (zI a1)), some (eI (zI a2)), some (eI (zI a3))], []), f :: F, μ) := by
  intro a2 a3 M μ h hR hl
  unfold m_25_25 at h
  obtain ⟨v1, ev1, h⟩ := z_l_ex h
  refine w_s (np := 28) (lv' := [some (eR a0), some (eI (zI a1)), some (eI (zI a2)), some (eI (zI v1))]) (st' := []) rfl (s_iinc (b := 1) rfl rfl ev1 rfl) rfl ?_
  clear ev1
  refine w_go (t1 := 4) rfl rfl ?_
  obtain ⟨w2, ew2, h⟩ := z_f_ex h
  subst ew2
  exact h4 _ _ M μ h hR hl
noncomputable def m_25_4b (a0 a1 : Nat) (K : Nat → yM → Bool) (i4 : Nat → Nat → yM → Bool) (a2 a3 : Nat) (M : yM) : Bool := y_gf M a0 2 7 fun v1 => z_if (z_lt a3 v1) (y_gf M a0 2 0 fun v5 => f_if false (Nat.ble 1 v5) (y_lh 100 M v5 a3 fun v10 => z_if (z_eq v10 a1) (z_l (z_add a2 1) fun v13 => m_25_25 a0 a1 K i4 v13 a3 M) (m_25_25 a0 a1 K i4 a2 a3 M))) (K a2 M)
noncomputable def m_25_4 (a0 a1 : Nat) (K : Nat → yM → Bool) (n : Nat) : Nat → Nat → yM → Bool := @Nat.rec (fun _ => Nat → Nat → yM → Bool) (fun _ _ _ => false) (fun _ ih => m_25_4b a0 a1 K ih) n
theorem m_25_4b_ok {fg : eG} {rc rs d : Nat} {f : eFr} {F : List eFr} {μ0 : eM} {a0 a1 : Nat} {K : Nat → yM → Bool} {i4 : Nat → Nat → yM → Bool} (hG : yG fg y_T) (hk : ev_kd μ0 a0 = some 2) (p0 : 0 < a0) (hK : ∀ (r : Nat) (M : yM) (μ : eM), K r M = true → yR M μ → y_le μ0 μ → ex_fine fg rc rs (d + 1, (f.1, f.2.1, f.2.2.1, eI (zI r) :: f.2.2.2), F, μ)) (h4 : ∀ (a2 a3 : Nat) (M : yM) (μ : eM), i4 a2 a3 M = true → yR M μ → y_le μ0 μ → ex_fine fg rc rs (d, (25, 4, [some (eR a0), some (eI (zI a1)), some (eI (zI a2)), some (eI (zI a3))], []), f :: F, μ)) : ∀ (a2 a3 : Nat) (M : yM) (μ : eM), m_25_4b a0 a1 K i4 a2 a3 M = true → yR M μ → y_le μ0 μ → ex_fine fg rc rs (d, (25, 4, [some (eR a0), some (eI (zI a1)), some (eI (zI a2)), some (eI (zI a3))], []), f :: F, μ) := by
  intro a2 a3 M μ h hR hl
  unfold m_25_4b at h
  refine w_s (np := 5) (lv' := [some (eR a0), some (eI (zI a1)), some (eI (zI a2)), some (eI (zI a3))]) (st' := [eI (zI a3)]) rfl rfl rfl ?_
  refine w_s (np := 6) (lv' := [some (eR a0), some (eI (zI a1)), some (eI (zI a2)), some (eI (zI a3))]) (st' := [eR a0, eI (zI a3)]) rfl (s_an rfl p0) rfl ?_
  obtain ⟨v1, h, k2, e3⟩ := y_gf_ok (ty := 0) h hR (by decide) rfl
  refine v_gf0 (np := 9) rfl rfl k2 e3 ?_
  clear k2 e3
  rcases z_if_t h with ⟨g4, h⟩ | ⟨g4, h⟩
  · refine v_ge_f (t1 := 31) rfl rfl g4 ?_
    refine w_s (np := 13) (lv' := [some (eR a0), some (eI (zI a1)), some (eI (zI a2)), some (eI (zI a3))]) (st' := [eR a0]) rfl (s_an rfl p0) rfl ?_
    obtain ⟨v5, h, k6, e7⟩ := y_gf_ok (ty := 3) h hR (by decide) rfl
    obtain ⟨g8, h⟩ := f_if_ok h
    have q9 : 0 < v5 := Nat.ble_eq.mp g8
    refine v_gf3 (np := 16) rfl rfl k6 e7 ?_
    clear k6 e7
    refine w_s (np := 17) (lv' := [some (eR a0), some (eI (zI a1)), some (eI (zI a2)), some (eI (zI a3))]) (st' := [eI (zI a3), eR v5]) rfl rfl rfl ?_
    obtain ⟨v10, h, k11⟩ := y_lh_ok (ty := 0) h hR hG (by decide) rfl (by decide)
    refine v_la (np := 18) rfl rfl k11 ?_
    clear k11
    refine w_s (np := 19) (lv' := [some (eR a0), some (eI (zI a1)), some (eI (zI a2)), some (eI (zI a3))]) (st' := [eI (zI a1), eI (zI v10)]) rfl rfl rfl ?_
    rcases z_if_t h with ⟨g12, h⟩ | ⟨g12, h⟩
    · refine v_ne_f (t1 := 25) rfl rfl g12 ?_
      obtain ⟨v13, ev13, h⟩ := z_l_ex h
      refine w_s (np := 25) (lv' := [some (eR a0), some (eI (zI a1)), some (eI (zI v13)), some (eI (zI a3))]) (st' := []) rfl (s_iinc (b := 1) rfl rfl ev13 rfl) rfl ?_
      clear ev13
      exact m_25_25_ok hG hk p0 hK h4 _ _ M μ h hR hl
    · refine v_ne_t (t1 := 25) rfl rfl g12 ?_
      exact m_25_25_ok hG hk p0 hK h4 _ _ M μ h hR hl
  · refine v_ge_t (t1 := 31) rfl rfl g4 ?_
    refine w_s (np := 32) (lv' := [some (eR a0), some (eI (zI a1)), some (eI (zI a2)), some (eI (zI a3))]) (st' := [eI (zI a2)]) rfl rfl rfl ?_
    exact v_ri rfl rfl (hK _ _ _ h hR hl)
theorem m_25_4_ok {fg : eG} {rc rs d : Nat} {f : eFr} {F : List eFr} {μ0 : eM} {a0 a1 : Nat} {K : Nat → yM → Bool} (hG : yG fg y_T) (hk : ev_kd μ0 a0 = some 2) (p0 : 0 < a0) (hK : ∀ (r : Nat) (M : yM) (μ : eM), K r M = true → yR M μ → y_le μ0 μ → ex_fine fg rc rs (d + 1, (f.1, f.2.1, f.2.2.1, eI (zI r) :: f.2.2.2), F, μ)) : ∀ n : Nat, ∀ (a2 a3 : Nat) (M : yM) (μ : eM), m_25_4 a0 a1 K n a2 a3 M = true → yR M μ → y_le μ0 μ → ex_fine fg rc rs (d, (25, 4, [some (eR a0), some (eI (zI a1)), some (eI (zI a2)), some (eI (zI a3))], []), f :: F, μ) := by
  intro n
  induction n with
  | zero =>
    intro a2 a3 M μ h hR hl
    exact absurd h Bool.false_ne_true
  | succ n ih =>
    intro a2 a3 M μ h hR hl
    exact m_25_4b_ok hG hk p0 hK ih a2 a3 M μ h hR hl
/-! RhombInflator$Patch.countOf -/
noncomputable def m_25 (a0 a1 : Nat) (M : yM) (K : Nat → yM → Bool) : Bool := m_25_4 a0 a1 K 100000 0 0 M
theorem m_25_ok {fg : eG} {rc rs d : Nat} {f : eFr} {F : List eFr} {M : yM} {μ0 : eM} {a0 a1 : Nat} {K : Nat → yM → Bool} (hG : yG fg y_T) (h : m_25 a0 a1 M K = true) (hR : yR M μ0) (hk : ev_kd μ0 a0 = some 2) (p0 : 0 < a0) (hK : ∀ (r : Nat) (M : yM) (μ : eM), K r M = true → yR M μ → y_le μ0 μ → ex_fine fg rc rs (d + 1, (f.1, f.2.1, f.2.2.1, eI (zI r) :: f.2.2.2), F, μ)) : ex_fine fg rc rs (d, (25, 0, [some (eR a0), some (eI (zI a1)), none, none], []), f :: F, μ0) := by
  unfold m_25 at h
  have hl := y_le_r μ0
  refine w_s (np := 1) (lv' := [some (eR a0), some (eI (zI a1)), none, none]) (st' := [eI (zI 0)]) rfl rfl rfl ?_
  refine w_s (np := 2) (lv' := [some (eR a0), some (eI (zI a1)), some (eI (zI 0)), none]) (st' := []) rfl rfl rfl ?_
  refine w_s (np := 3) (lv' := [some (eR a0), some (eI (zI a1)), some (eI (zI 0)), none]) (st' := [eI (zI 0)]) rfl rfl rfl ?_
  refine w_s (np := 4) (lv' := [some (eR a0), some (eI (zI a1)), some (eI (zI 0)), some (eI (zI 0))]) (st' := []) rfl rfl rfl ?_
  exact m_25_4_ok hG hk p0 hK 100000 _ _ M μ0 h hR hl
noncomputable def m_44_22 (a0 a1 : Nat) (K : Nat → yM → Bool) (s0 : Nat) (M : yM) : Bool := K s0 M
theorem m_44_22_ok {fg : eG} {rc rs d : Nat} {f : eFr} {F : List eFr} {μ0 : eM} {a0 a1 : Nat} {K : Nat → yM → Bool} (hG : yG fg y_T) (hk : ev_kd μ0 a0 = some 3) (p0 : 0 < a0) (hK : ∀ (r : Nat) (M : yM) (μ : eM), K r M = true → yR M μ → y_le μ0 μ → ex_fine fg rc rs (d + 1, (f.1, f.2.1, f.2.2.1, eJ (zJ r) :: f.2.2.2), F, μ)) : ∀ (s0 : Nat) (M : yM) (μ : eM), m_44_22 a0 a1 K s0 M = true → yR M μ → y_le μ0 μ → ex_fine fg rc rs (d, (44, 22, [some (eR a0), some (eI (zI a1))], [eJ (zJ s0)]), f :: F, μ) := by
  intro s0 M μ h hR hl
  unfold m_44_22 at h
  exact v_rl rfl rfl (hK _ _ _ h hR hl)
noncomputable def m_44_21 (a0 a1 : Nat) (K : Nat → yM → Bool) (M : yM) : Bool := m_44_22 a0 a1 K 0 M
theorem m_44_21_ok {fg : eG} {rc rs d : Nat} {f : eFr} {F : List eFr} {μ0 : eM} {a0 a1 : Nat} {K : Nat → yM → Bool} (hG : yG fg y_T) (hk : ev_kd μ0 a0 = some 3) (p0 : 0 < a0) (hK : ∀ (r : Nat) (M : yM) (μ : eM), K r M = true → yR M μ → y_le μ0 μ → ex_fine fg rc rs (d + 1, (f.1, f.2.1, f.2.2.1, eJ (zJ r) :: f.2.2.2), F, μ)) : ∀ (M : yM) (μ : eM), m_44_21 a0 a1 K M = true → yR M μ → y_le μ0 μ → ex_fine fg rc rs (d, (44, 21, [some (eR a0), some (eI (zI a1))], []), f :: F, μ) := by
  intro M μ h hR hl
  unfold m_44_21 at h
  refine w_s (np := 22) (lv' := [some (eR a0), some (eI (zI a1))]) (st' := [eJ (zJ 0)]) rfl rfl rfl ?_
  exact m_44_22_ok hG hk p0 hK _ M μ h hR hl
/-! RhombInflator$Points.keyAt -/
noncomputable def m_44 (a0 a1 : Nat) (M : yM) (K : Nat → yM → Bool) : Bool := z_if (z_l0 a1) (m_44_21 a0 a1 K M) (y_gf M a0 3 2 fun v2 => z_if (z_lt a1 v2) (y_gf M a0 3 0 fun v6 => f_if false (Nat.ble 1 v6) (y_lh 101 M v6 a1 fun v11 => m_44_22 a0 a1 K v11 M)) (m_44_21 a0 a1 K M))
theorem m_44_ok {fg : eG} {rc rs d : Nat} {f : eFr} {F : List eFr} {M : yM} {μ0 : eM} {a0 a1 : Nat} {K : Nat → yM → Bool} (hG : yG fg y_T) (h : m_44 a0 a1 M K = true) (hR : yR M μ0) (hk : ev_kd μ0 a0 = some 3) (p0 : 0 < a0) (hK : ∀ (r : Nat) (M : yM) (μ : eM), K r M = true → yR M μ → y_le μ0 μ → ex_fine fg rc rs (d + 1, (f.1, f.2.1, f.2.2.1, eJ (zJ r) :: f.2.2.2), F, μ)) : ex_fine fg rc rs (d, (44, 0, [some (eR a0), some (eI (zI a1))], []), f :: F, μ0) := by
  unfold m_44 at h
  have hl := y_le_r μ0
  refine w_s (np := 1) (lv' := [some (eR a0), some (eI (zI a1))]) (st' := [eI (zI a1)]) rfl rfl rfl ?_
  rcases z_if_t h with ⟨g1, h⟩ | ⟨g1, h⟩
  · refine v_lt0_t (t1 := 21) rfl rfl g1 ?_
    exact m_44_21_ok hG hk p0 hK M μ0 h hR hl
  · refine v_lt0_f (t1 := 21) rfl rfl g1 ?_
    refine w_s (np := 5) (lv' := [some (eR a0), some (eI (zI a1))]) (st' := [eI (zI a1)]) rfl rfl rfl ?_
    refine w_s (np := 6) (lv' := [some (eR a0), some (eI (zI a1))]) (st' := [eR a0, eI (zI a1)]) rfl (s_an rfl p0) rfl ?_
    obtain ⟨v2, h, k3, e4⟩ := y_gf_ok (ty := 0) h hR (by decide) rfl
    refine v_gf0 (np := 9) rfl rfl k3 e4 ?_
    clear k3 e4
    rcases z_if_t h with ⟨g5, h⟩ | ⟨g5, h⟩
    · refine v_ge_f (t1 := 21) rfl rfl g5 ?_
      refine w_s (np := 13) (lv' := [some (eR a0), some (eI (zI a1))]) (st' := [eR a0]) rfl (s_an rfl p0) rfl ?_
      obtain ⟨v6, h, k7, e8⟩ := y_gf_ok (ty := 3) h hR (by decide) rfl
      obtain ⟨g9, h⟩ := f_if_ok h
      have q10 : 0 < v6 := Nat.ble_eq.mp g9
      refine v_gf3 (np := 16) rfl rfl k7 e8 ?_
      clear k7 e8
      refine w_s (np := 17) (lv' := [some (eR a0), some (eI (zI a1))]) (st' := [eI (zI a1), eR v6]) rfl rfl rfl ?_
      obtain ⟨v11, h, k12⟩ := y_lh_ok (ty := 2) h hR hG (by decide) rfl (by decide)
      refine v_ll (np := 18) rfl rfl k12 ?_
      clear k12
      refine w_go (t1 := 22) rfl rfl ?_
      exact m_44_22_ok hG hk p0 hK _ M μ0 h hR hl
    · refine v_ge_t (t1 := 21) rfl rfl g5 ?_
      exact m_44_21_ok hG hk p0 hK M μ0 h hR hl
/-! RhombInflator$Patch.cutThin -/
noncomputable def m_32 (a0 a1 a2 : Nat) (M : yM) (K : yM → Bool) : Bool := y_gf M a0 2 2 fun v1 => f_if false (Nat.ble 1 v1) (z_l (z_mul 3 a1) fun v6 => y_lh 100 M v1 v6 fun v7 => y_gf M a0 2 2 fun v9 => f_if false (Nat.ble 1 v9) (z_l (z_mul 3 a1) fun v14 => z_l (z_add v14 1) fun v15 => y_lh 100 M v9 v15 fun v16 => y_gf M a0 2 2 fun v18 => f_if false (Nat.ble 1 v18) (z_l (z_mul 3 a1) fun v23 => z_l (z_add v23 2) fun v24 => y_lh 100 M v18 v24 fun v25 => y_gf M a0 2 3 fun v27 => f_if false (Nat.ble 1 v27) (z_l (z_mul 2 a1) fun v32 => y_lh 100 M v27 v32 fun v33 => m_24 a0 a1 M fun v40 M35 => y_gf M35 a0 2 1 fun v41 => f_if false (Nat.ble 1 v41) (y_lh 100 M35 v41 a1 fun v46 => z_l (z_mul 3 v46) fun v48 => y_gf M35 a0 2 4 fun v49 => f_if false (Nat.ble 1 v49) (y_gf M35 a0 2 4 fun v54 => f_if false (Nat.ble 1 v54) (y_is M35 v54 3 (m_44 v54 v7 M35 fun v64 M59 => m_74 v33 M59 fun v71 M66 => m_75 v64 v71 M66 fun v77 M72 => y_is M72 v49 3 (m_46 v49 v77 M72 fun v83 M78 => z_l (z_mul 7 v40) fun v85 => z_l (z_add v33 v85) fun v86 => z_l (z_mul 8 v40) fun v87 => z_l (z_add v33 v87) fun v88 => m_28 a0 a2 0 v48 v86 v88 M78 fun M89 => m_29 a0 a2 v25 v83 v16 M89 fun M94 => z_l (z_add a2 1) fun v99 => z_l (z_add v48 1) fun v100 => z_l (z_mul 2 v40) fun v101 => z_l (z_add v33 v101) fun v102 => z_l (z_mul 5 v40) fun v103 => z_l (z_add v33 v103) fun v104 => m_28 a0 v99 1 v100 v102 v104 M94 fun M105 => z_l (z_add a2 1) fun v110 => m_29 a0 v110 v83 v25 v7 M105 fun M111 => K M111)))))))))
theorem m_32_ok {fg : eG} {rc rs d : Nat} {f : eFr} {F : List eFr} {M : yM} {μ0 : eM} {a0 a1 a2 : Nat} {K : yM → Bool} (hG : yG fg y_T) (h : m_32 a0 a1 a2 M K = true) (hR : yR M μ0) (hk : ev_kd μ0 a0 = some 2) (p0 : 0 < a0) (hK : ∀ (M : yM) (μ : eM), K M = true → yR M μ → y_le μ0 μ → ex_fine fg rc rs (d + 3, (f.1, f.2.1, f.2.2.1, f.2.2.2), F, μ)) : ex_fine fg rc rs (d + 2, (32, 0, [some (eR a0), some (eI (zI a1)), some (eI (zI a2)), none, none, none, none, none, none, none], []), f :: F, μ0) := by
  unfold m_32 at h
  have hl := y_le_r μ0
  refine w_s (np := 1) (lv' := [some (eR a0), some (eI (zI a1)), some (eI (zI a2)), none, none, none, none, none, none, none]) (st' := [eR a0]) rfl (s_an rfl p0) rfl ?_
  obtain ⟨v1, h, k2, e3⟩ := y_gf_ok (ty := 3) h hR (by decide) rfl
  obtain ⟨g4, h⟩ := f_if_ok h
  have q5 : 0 < v1 := Nat.ble_eq.mp g4
  refine v_gf3 (np := 4) rfl rfl k2 e3 ?_
  clear k2 e3
  refine w_s (np := 5) (lv' := [some (eR a0), some (eI (zI a1)), some (eI (zI a2)), none, none, none, none, none, none, none]) (st' := [eI (zI 3), eR v1]) rfl rfl rfl ?_
  refine w_s (np := 6) (lv' := [some (eR a0), some (eI (zI a1)), some (eI (zI a2)), none, none, none, none, none, none, none]) (st' := [eI (zI a1), eI (zI 3), eR v1]) rfl rfl rfl ?_
  obtain ⟨v6, ev6, h⟩ := z_l_ex h
  refine w_s (np := 7) (lv' := [some (eR a0), some (eI (zI a1)), some (eI (zI a2)), none, none, none, none, none, none, none]) (st' := [eI (zI v6), eR v1]) rfl (s_imul ev6) rfl ?_
  clear ev6
  obtain ⟨v7, h, k8⟩ := y_lh_ok (ty := 0) h hR hG (by decide) rfl (by decide)
  refine v_la (np := 8) rfl rfl k8 ?_
  clear k8
  refine w_s (np := 9) (lv' := [some (eR a0), some (eI (zI a1)), some (eI (zI a2)), some (eI (zI v7)), none, none, none, none, none, none]) (st' := []) rfl rfl rfl ?_
  refine w_s (np := 10) (lv' := [some (eR a0), some (eI (zI a1)), some (eI (zI a2)), some (eI (zI v7)), none, none, none, none, none, none]) (st' := [eR a0]) rfl (s_an rfl p0) rfl ?_
  obtain ⟨v9, h, k10, e11⟩ := y_gf_ok (ty := 3) h hR (by decide) rfl
  obtain ⟨g12, h⟩ := f_if_ok h
  have q13 : 0 < v9 := Nat.ble_eq.mp g12
  refine v_gf3 (np := 13) rfl rfl k10 e11 ?_
  clear k10 e11
  refine w_s (np := 14) (lv' := [some (eR a0), some (eI (zI a1)), some (eI (zI a2)), some (eI (zI v7)), none, none, none, none, none, none]) (st' := [eI (zI 3), eR v9]) rfl rfl rfl ?_
  refine w_s (np := 15) (lv' := [some (eR a0), some (eI (zI a1)), some (eI (zI a2)), some (eI (zI v7)), none, none, none, none, none, none]) (st' := [eI (zI a1), eI (zI 3), eR v9]) rfl rfl rfl ?_
  obtain ⟨v14, ev14, h⟩ := z_l_ex h
  refine w_s (np := 16) (lv' := [some (eR a0), some (eI (zI a1)), some (eI (zI a2)), some (eI (zI v7)), none, none, none, none, none, none]) (st' := [eI (zI v14), eR v9]) rfl (s_imul ev14) rfl ?_
  clear ev14
  refine w_s (np := 17) (lv' := [some (eR a0), some (eI (zI a1)), some (eI (zI a2)), some (eI (zI v7)), none, none, none, none, none, none]) (st' := [eI (zI 1), eI (zI v14), eR v9]) rfl rfl rfl ?_
  obtain ⟨v15, ev15, h⟩ := z_l_ex h
  refine w_s (np := 18) (lv' := [some (eR a0), some (eI (zI a1)), some (eI (zI a2)), some (eI (zI v7)), none, none, none, none, none, none]) (st' := [eI (zI v15), eR v9]) rfl (s_iadd ev15) rfl ?_
  clear ev15
  obtain ⟨v16, h, k17⟩ := y_lh_ok (ty := 0) h hR hG (by decide) rfl (by decide)
  refine v_la (np := 19) rfl rfl k17 ?_
  clear k17
  refine w_s (np := 21) (lv' := [some (eR a0), some (eI (zI a1)), some (eI (zI a2)), some (eI (zI v7)), some (eI (zI v16)), none, none, none, none, none]) (st' := []) rfl rfl rfl ?_
  refine w_s (np := 22) (lv' := [some (eR a0), some (eI (zI a1)), some (eI (zI a2)), some (eI (zI v7)), some (eI (zI v16)), none, none, none, none, none]) (st' := [eR a0]) rfl (s_an rfl p0) rfl ?_
  obtain ⟨v18, h, k19, e20⟩ := y_gf_ok (ty := 3) h hR (by decide) rfl
  obtain ⟨g21, h⟩ := f_if_ok h
  have q22 : 0 < v18 := Nat.ble_eq.mp g21
  refine v_gf3 (np := 25) rfl rfl k19 e20 ?_
  clear k19 e20
  refine w_s (np := 26) (lv' := [some (eR a0), some (eI (zI a1)), some (eI (zI a2)), some (eI (zI v7)), some (eI (zI v16)), none, none, none, none, none]) (st' := [eI (zI 3), eR v18]) rfl rfl rfl ?_
  refine w_s (np := 27) (lv' := [some (eR a0), some (eI (zI a1)), some (eI (zI a2)), some (eI (zI v7)), some (eI (zI v16)), none, none, none, none, none]) (st' := [eI (zI a1), eI (zI 3), eR v18]) rfl rfl rfl ?_
  obtain ⟨v23, ev23, h⟩ := z_l_ex h
  refine w_s (np := 28) (lv' := [some (eR a0), some (eI (zI a1)), some (eI (zI a2)), some (eI (zI v7)), some (eI (zI v16)), none, none, none, none, none]) (st' := [eI (zI v23), eR v18]) rfl (s_imul ev23) rfl ?_
  clear ev23
  refine w_s (np := 29) (lv' := [some (eR a0), some (eI (zI a1)), some (eI (zI a2)), some (eI (zI v7)), some (eI (zI v16)), none, none, none, none, none]) (st' := [eI (zI 2), eI (zI v23), eR v18]) rfl rfl rfl ?_
  obtain ⟨v24, ev24, h⟩ := z_l_ex h
  refine w_s (np := 30) (lv' := [some (eR a0), some (eI (zI a1)), some (eI (zI a2)), some (eI (zI v7)), some (eI (zI v16)), none, none, none, none, none]) (st' := [eI (zI v24), eR v18]) rfl (s_iadd ev24) rfl ?_
  clear ev24
  obtain ⟨v25, h, k26⟩ := y_lh_ok (ty := 0) h hR hG (by decide) rfl (by decide)
  refine v_la (np := 31) rfl rfl k26 ?_
  clear k26
  refine w_s (np := 33) (lv' := [some (eR a0), some (eI (zI a1)), some (eI (zI a2)), some (eI (zI v7)), some (eI (zI v16)), some (eI (zI v25)), none, none, none, none]) (st' := []) rfl rfl rfl ?_
  refine w_s (np := 34) (lv' := [some (eR a0), some (eI (zI a1)), some (eI (zI a2)), some (eI (zI v7)), some (eI (zI v16)), some (eI (zI v25)), none, none, none, none]) (st' := [eR a0]) rfl (s_an rfl p0) rfl ?_
  obtain ⟨v27, h, k28, e29⟩ := y_gf_ok (ty := 3) h hR (by decide) rfl
  obtain ⟨g30, h⟩ := f_if_ok h
  have q31 : 0 < v27 := Nat.ble_eq.mp g30
  refine v_gf3 (np := 37) rfl rfl k28 e29 ?_
  clear k28 e29
  refine w_s (np := 38) (lv' := [some (eR a0), some (eI (zI a1)), some (eI (zI a2)), some (eI (zI v7)), some (eI (zI v16)), some (eI (zI v25)), none, none, none, none]) (st' := [eI (zI 2), eR v27]) rfl rfl rfl ?_
  refine w_s (np := 39) (lv' := [some (eR a0), some (eI (zI a1)), some (eI (zI a2)), some (eI (zI v7)), some (eI (zI v16)), some (eI (zI v25)), none, none, none, none]) (st' := [eI (zI a1), eI (zI 2), eR v27]) rfl rfl rfl ?_
  obtain ⟨v32, ev32, h⟩ := z_l_ex h
  refine w_s (np := 40) (lv' := [some (eR a0), some (eI (zI a1)), some (eI (zI a2)), some (eI (zI v7)), some (eI (zI v16)), some (eI (zI v25)), none, none, none, none]) (st' := [eI (zI v32), eR v27]) rfl (s_imul ev32) rfl ?_
  clear ev32
  obtain ⟨v33, h, k34⟩ := y_lh_ok (ty := 0) h hR hG (by decide) rfl (by decide)
  refine v_la (np := 41) rfl rfl k34 ?_
  clear k34
  refine w_s (np := 43) (lv' := [some (eR a0), some (eI (zI a1)), some (eI (zI a2)), some (eI (zI v7)), some (eI (zI v16)), some (eI (zI v25)), some (eI (zI v33)), none, none, none]) (st' := []) rfl rfl rfl ?_
  refine w_s (np := 44) (lv' := [some (eR a0), some (eI (zI a1)), some (eI (zI a2)), some (eI (zI v7)), some (eI (zI v16)), some (eI (zI v25)), some (eI (zI v33)), none, none, none]) (st' := [eR a0]) rfl (s_an rfl p0) rfl ?_
  refine w_s (np := 45) (lv' := [some (eR a0), some (eI (zI a1)), some (eI (zI a2)), some (eI (zI v7)), some (eI (zI v16)), some (eI (zI v25)), some (eI (zI v33)), none, none, none]) (st' := [eI (zI a1), eR a0]) rfl rfl rfl ?_
  refine w_cv (np := 48) (as := [eI (zI a1)]) (lv' := [some (eR a0), some (eI (zI a1))]) (rest := []) rfl rfl rfl (Nat.ble_eq.mp rfl) rfl rfl rfl (hl _ _ hk) rfl ?_
  refine m_24_ok hG h hR (hl _ _ hk) p0 ?_
  intro v40 M35 μ36 h hR37 hl39
  have hl38 := y_le.tr hl hl39
  show ex_fine fg rc rs (d + 2, (32, 48, [some (eR a0), some (eI (zI a1)), some (eI (zI a2)), some (eI (zI v7)), some (eI (zI v16)), some (eI (zI v25)), some (eI (zI v33)), none, none, none], [eI (zI v40)]), f :: F, μ36)
  refine w_s (np := 50) (lv' := [some (eR a0), some (eI (zI a1)), some (eI (zI a2)), some (eI (zI v7)), some (eI (zI v16)), some (eI (zI v25)), some (eI (zI v33)), some (eI (zI v40)), none, none]) (st' := []) rfl rfl rfl ?_
  refine w_s (np := 51) (lv' := [some (eR a0), some (eI (zI a1)), some (eI (zI a2)), some (eI (zI v7)), some (eI (zI v16)), some (eI (zI v25)), some (eI (zI v33)), some (eI (zI v40)), none, none]) (st' := [eI (zI 3)]) rfl rfl rfl ?_
  refine w_s (np := 52) (lv' := [some (eR a0), some (eI (zI a1)), some (eI (zI a2)), some (eI (zI v7)), some (eI (zI v16)), some (eI (zI v25)), some (eI (zI v33)), some (eI (zI v40)), none, none]) (st' := [eR a0, eI (zI 3)]) rfl (s_an rfl p0) rfl ?_
  obtain ⟨v41, h, k42, e43⟩ := y_gf_ok (ty := 3) h hR37 (by decide) rfl
  obtain ⟨g44, h⟩ := f_if_ok h
  have q45 : 0 < v41 := Nat.ble_eq.mp g44
  refine v_gf3 (np := 55) rfl rfl k42 e43 ?_
  clear k42 e43
  refine w_s (np := 56) (lv' := [some (eR a0), some (eI (zI a1)), some (eI (zI a2)), some (eI (zI v7)), some (eI (zI v16)), some (eI (zI v25)), some (eI (zI v33)), some (eI (zI v40)), none, none]) (st' := [eI (zI a1), eR v41, eI (zI 3)]) rfl rfl rfl ?_
  obtain ⟨v46, h, k47⟩ := y_lh_ok (ty := 0) h hR37 hG (by decide) rfl (by decide)
  refine v_la (np := 57) rfl rfl k47 ?_
  clear k47
  obtain ⟨v48, ev48, h⟩ := z_l_ex h
  refine w_s (np := 58) (lv' := [some (eR a0), some (eI (zI a1)), some (eI (zI a2)), some (eI (zI v7)), some (eI (zI v16)), some (eI (zI v25)), some (eI (zI v33)), some (eI (zI v40)), none, none]) (st' := [eI (zI v48)]) rfl (s_imul ev48) rfl ?_
  clear ev48
  refine w_s (np := 60) (lv' := [some (eR a0), some (eI (zI a1)), some (eI (zI a2)), some (eI (zI v7)), some (eI (zI v16)), some (eI (zI v25)), some (eI (zI v33)), some (eI (zI v40)), some (eI (zI v48)), none]) (st' := []) rfl rfl rfl ?_
  refine w_s (np := 61) (lv' := [some (eR a0), some (eI (zI a1)), some (eI (zI a2)), some (eI (zI v7)), some (eI (zI v16)), some (eI (zI v25)), some (eI (zI v33)), some (eI (zI v40)), some (eI (zI v48)), none]) (st' := [eR a0]) rfl (s_an rfl p0) rfl ?_
  obtain ⟨v49, h, k50, e51⟩ := y_gf_ok (ty := 3) h hR37 (by decide) rfl
  obtain ⟨g52, h⟩ := f_if_ok h
  have q53 : 0 < v49 := Nat.ble_eq.mp g52
  refine v_gf3 (np := 64) rfl rfl k50 e51 ?_
  clear k50 e51
  refine w_s (np := 65) (lv' := [some (eR a0), some (eI (zI a1)), some (eI (zI a2)), some (eI (zI v7)), some (eI (zI v16)), some (eI (zI v25)), some (eI (zI v33)), some (eI (zI v40)), some (eI (zI v48)), none]) (st' := [eR a0, eR v49]) rfl (s_an rfl p0) rfl ?_
  obtain ⟨v54, h, k55, e56⟩ := y_gf_ok (ty := 3) h hR37 (by decide) rfl
  obtain ⟨g57, h⟩ := f_if_ok h
  have q58 : 0 < v54 := Nat.ble_eq.mp g57
  refine v_gf3 (np := 68) rfl rfl k55 e56 ?_
  clear k55 e56
  refine w_s (np := 69) (lv' := [some (eR a0), some (eI (zI a1)), some (eI (zI a2)), some (eI (zI v7)), some (eI (zI v16)), some (eI (zI v25)), some (eI (zI v33)), some (eI (zI v40)), some (eI (zI v48)), none]) (st' := [eI (zI v7), eR v54, eR v49]) rfl rfl rfl ?_
  obtain ⟨k65, h⟩ := y_is_ok h hR37
  refine w_cv (np := 72) (as := [eI (zI v7)]) (lv' := [some (eR v54), some (eI (zI v7))]) (rest := [eR v49]) rfl rfl rfl (Nat.ble_eq.mp rfl) rfl rfl rfl k65 rfl ?_
  refine m_44_ok hG h hR37 k65 q58 ?_
  intro v64 M59 μ60 h hR61 hl63
  have hl62 := y_le.tr hl38 hl63
  show ex_fine fg rc rs (d + 2, (32, 72, [some (eR a0), some (eI (zI a1)), some (eI (zI a2)), some (eI (zI v7)), some (eI (zI v16)), some (eI (zI v25)), some (eI (zI v33)), some (eI (zI v40)), some (eI (zI v48)), none], [eJ (zJ v64), eR v49]), f :: F, μ60)
  refine w_s (np := 74) (lv' := [some (eR a0), some (eI (zI a1)), some (eI (zI a2)), some (eI (zI v7)), some (eI (zI v16)), some (eI (zI v25)), some (eI (zI v33)), some (eI (zI v40)), some (eI (zI v48)), none]) (st' := [eI (zI v33), eJ (zJ v64), eR v49]) rfl rfl rfl ?_
  refine w_cs (np := 77) (as := [eI (zI v33)]) (lv' := [some (eI (zI v33))]) (rest := [eJ (zJ v64), eR v49]) rfl rfl rfl (Nat.ble_eq.mp rfl) rfl rfl rfl rfl ?_
  refine m_74_ok hG h hR61 ?_
  intro v71 M66 μ67 h hR68 hl70
  have hl69 := y_le.tr hl62 hl70
  show ex_fine fg rc rs (d + 2, (32, 77, [some (eR a0), some (eI (zI a1)), some (eI (zI a2)), some (eI (zI v7)), some (eI (zI v16)), some (eI (zI v25)), some (eI (zI v33)), some (eI (zI v40)), some (eI (zI v48)), none], [eJ (zJ v71), eJ (zJ v64), eR v49]), f :: F, μ67)
  refine w_cs (np := 80) (as := [eJ (zJ v64), eJ (zJ v71)]) (lv' := [some (eJ (zJ v64)), none, some (eJ (zJ v71)), none]) (rest := [eR v49]) rfl rfl rfl (Nat.ble_eq.mp rfl) rfl rfl rfl rfl ?_
  refine m_75_ok hG h hR68 ?_
  intro v77 M72 μ73 h hR74 hl76
  have hl75 := y_le.tr hl69 hl76
  show ex_fine fg rc rs (d + 2, (32, 80, [some (eR a0), some (eI (zI a1)), some (eI (zI a2)), some (eI (zI v7)), some (eI (zI v16)), some (eI (zI v25)), some (eI (zI v33)), some (eI (zI v40)), some (eI (zI v48)), none], [eJ (zJ v77), eR v49]), f :: F, μ73)
  obtain ⟨k84, h⟩ := y_is_ok h hR74
  refine w_cv (np := 83) (as := [eJ (zJ v77)]) (lv' := [some (eR v49), some (eJ (zJ v77)), none, none]) (rest := []) rfl rfl rfl (Nat.ble_eq.mp rfl) rfl rfl rfl k84 rfl ?_
  refine m_46_ok hG h hR74 k84 q53 ?_
  intro v83 M78 μ79 h hR80 hl82
  have hl81 := y_le.tr hl75 hl82
  show ex_fine fg rc rs (d + 2, (32, 83, [some (eR a0), some (eI (zI a1)), some (eI (zI a2)), some (eI (zI v7)), some (eI (zI v16)), some (eI (zI v25)), some (eI (zI v33)), some (eI (zI v40)), some (eI (zI v48)), none], [eI (zI v83)]), f :: F, μ79)
  refine w_s (np := 85) (lv' := [some (eR a0), some (eI (zI a1)), some (eI (zI a2)), some (eI (zI v7)), some (eI (zI v16)), some (eI (zI v25)), some (eI (zI v33)), some (eI (zI v40)), some (eI (zI v48)), some (eI (zI v83))]) (st' := []) rfl rfl rfl ?_
  refine w_s (np := 86) (lv' := [some (eR a0), some (eI (zI a1)), some (eI (zI a2)), some (eI (zI v7)), some (eI (zI v16)), some (eI (zI v25)), some (eI (zI v33)), some (eI (zI v40)), some (eI (zI v48)), some (eI (zI v83))]) (st' := [eR a0]) rfl (s_an rfl p0) rfl ?_
  refine w_s (np := 87) (lv' := [some (eR a0), some (eI (zI a1)), some (eI (zI a2)), some (eI (zI v7)), some (eI (zI v16)), some (eI (zI v25)), some (eI (zI v33)), some (eI (zI v40)), some (eI (zI v48)), some (eI (zI v83))]) (st' := [eI (zI a2), eR a0]) rfl rfl rfl ?_
  refine w_s (np := 88) (lv' := [some (eR a0), some (eI (zI a1)), some (eI (zI a2)), some (eI (zI v7)), some (eI (zI v16)), some (eI (zI v25)), some (eI (zI v33)), some (eI (zI v40)), some (eI (zI v48)), some (eI (zI v83))]) (st' := [eI (zI 0), eI (zI a2), eR a0]) rfl rfl rfl ?_
  refine w_s (np := 90) (lv' := [some (eR a0), some (eI (zI a1)), some (eI (zI a2)), some (eI (zI v7)), some (eI (zI v16)), some (eI (zI v25)), some (eI (zI v33)), some (eI (zI v40)), some (eI (zI v48)), some (eI (zI v83))]) (st' := [eI (zI v48), eI (zI 0), eI (zI a2), eR a0]) rfl rfl rfl ?_
  refine w_s (np := 92) (lv' := [some (eR a0), some (eI (zI a1)), some (eI (zI a2)), some (eI (zI v7)), some (eI (zI v16)), some (eI (zI v25)), some (eI (zI v33)), some (eI (zI v40)), some (eI (zI v48)), some (eI (zI v83))]) (st' := [eI (zI v33), eI (zI v48), eI (zI 0), eI (zI a2), eR a0]) rfl rfl rfl ?_
  refine w_s (np := 94) (lv' := [some (eR a0), some (eI (zI a1)), some (eI (zI a2)), some (eI (zI v7)), some (eI (zI v16)), some (eI (zI v25)), some (eI (zI v33)), some (eI (zI v40)), some (eI (zI v48)), some (eI (zI v83))]) (st' := [eI (zI 7), eI (zI v33), eI (zI v48), eI (zI 0), eI (zI a2), eR a0]) rfl rfl rfl ?_
  refine w_s (np := 96) (lv' := [some (eR a0), some (eI (zI a1)), some (eI (zI a2)), some (eI (zI v7)), some (eI (zI v16)), some (eI (zI v25)), some (eI (zI v33)), some (eI (zI v40)), some (eI (zI v48)), some (eI (zI v83))]) (st' := [eI (zI v40), eI (zI 7), eI (zI v33), eI (zI v48), eI (zI 0), eI (zI a2), eR a0]) rfl rfl rfl ?_
  obtain ⟨v85, ev85, h⟩ := z_l_ex h
  refine w_s (np := 97) (lv' := [some (eR a0), some (eI (zI a1)), some (eI (zI a2)), some (eI (zI v7)), some (eI (zI v16)), some (eI (zI v25)), some (eI (zI v33)), some (eI (zI v40)), some (eI (zI v48)), some (eI (zI v83))]) (st' := [eI (zI v85), eI (zI v33), eI (zI v48), eI (zI 0), eI (zI a2), eR a0]) rfl (s_imul ev85) rfl ?_
  clear ev85
  obtain ⟨v86, ev86, h⟩ := z_l_ex h
  refine w_s (np := 98) (lv' := [some (eR a0), some (eI (zI a1)), some (eI (zI a2)), some (eI (zI v7)), some (eI (zI v16)), some (eI (zI v25)), some (eI (zI v33)), some (eI (zI v40)), some (eI (zI v48)), some (eI (zI v83))]) (st' := [eI (zI v86), eI (zI v48), eI (zI 0), eI (zI a2), eR a0]) rfl (s_iadd ev86) rfl ?_
  clear ev86
  refine w_s (np := 100) (lv' := [some (eR a0), some (eI (zI a1)), some (eI (zI a2)), some (eI (zI v7)), some (eI (zI v16)), some (eI (zI v25)), some (eI (zI v33)), some (eI (zI v40)), some (eI (zI v48)), some (eI (zI v83))]) (st' := [eI (zI v33), eI (zI v86), eI (zI v48), eI (zI 0), eI (zI a2), eR a0]) rfl rfl rfl ?_
  refine w_s (np := 102) (lv' := [some (eR a0), some (eI (zI a1)), some (eI (zI a2)), some (eI (zI v7)), some (eI (zI v16)), some (eI (zI v25)), some (eI (zI v33)), some (eI (zI v40)), some (eI (zI v48)), some (eI (zI v83))]) (st' := [eI (zI 8), eI (zI v33), eI (zI v86), eI (zI v48), eI (zI 0), eI (zI a2), eR a0]) rfl rfl rfl ?_
  refine w_s (np := 104) (lv' := [some (eR a0), some (eI (zI a1)), some (eI (zI a2)), some (eI (zI v7)), some (eI (zI v16)), some (eI (zI v25)), some (eI (zI v33)), some (eI (zI v40)), some (eI (zI v48)), some (eI (zI v83))]) (st' := [eI (zI v40), eI (zI 8), eI (zI v33), eI (zI v86), eI (zI v48), eI (zI 0), eI (zI a2), eR a0]) rfl rfl rfl ?_
  obtain ⟨v87, ev87, h⟩ := z_l_ex h
  refine w_s (np := 105) (lv' := [some (eR a0), some (eI (zI a1)), some (eI (zI a2)), some (eI (zI v7)), some (eI (zI v16)), some (eI (zI v25)), some (eI (zI v33)), some (eI (zI v40)), some (eI (zI v48)), some (eI (zI v83))]) (st' := [eI (zI v87), eI (zI v33), eI (zI v86), eI (zI v48), eI (zI 0), eI (zI a2), eR a0]) rfl (s_imul ev87) rfl ?_
  clear ev87
  obtain ⟨v88, ev88, h⟩ := z_l_ex h
  refine w_s (np := 106) (lv' := [some (eR a0), some (eI (zI a1)), some (eI (zI a2)), some (eI (zI v7)), some (eI (zI v16)), some (eI (zI v25)), some (eI (zI v33)), some (eI (zI v40)), some (eI (zI v48)), some (eI (zI v83))]) (st' := [eI (zI v88), eI (zI v86), eI (zI v48), eI (zI 0), eI (zI a2), eR a0]) rfl (s_iadd ev88) rfl ?_
  clear ev88
  refine w_cv (np := 109) (as := [eI (zI a2), eI (zI 0), eI (zI v48), eI (zI v86), eI (zI v88)]) (lv' := [some (eR a0), some (eI (zI a2)), some (eI (zI 0)), some (eI (zI v48)), some (eI (zI v86)), some (eI (zI v88))]) (rest := []) rfl rfl rfl (Nat.ble_eq.mp rfl) rfl rfl rfl (hl81 _ _ hk) rfl ?_
  refine m_28_ok hG h hR80 (hl81 _ _ hk) p0 ?_
  intro M89 μ90 h hR91 hl93
  have hl92 := y_le.tr hl81 hl93
  show ex_fine fg rc rs (d + 2, (32, 109, [some (eR a0), some (eI (zI a1)), some (eI (zI a2)), some (eI (zI v7)), some (eI (zI v16)), some (eI (zI v25)), some (eI (zI v33)), some (eI (zI v40)), some (eI (zI v48)), some (eI (zI v83))], []), f :: F, μ90)
  refine w_s (np := 110) (lv' := [some (eR a0), some (eI (zI a1)), some (eI (zI a2)), some (eI (zI v7)), some (eI (zI v16)), some (eI (zI v25)), some (eI (zI v33)), some (eI (zI v40)), some (eI (zI v48)), some (eI (zI v83))]) (st' := [eR a0]) rfl (s_an rfl p0) rfl ?_
  refine w_s (np := 111) (lv' := [some (eR a0), some (eI (zI a1)), some (eI (zI a2)), some (eI (zI v7)), some (eI (zI v16)), some (eI (zI v25)), some (eI (zI v33)), some (eI (zI v40)), some (eI (zI v48)), some (eI (zI v83))]) (st' := [eI (zI a2), eR a0]) rfl rfl rfl ?_
  refine w_s (np := 113) (lv' := [some (eR a0), some (eI (zI a1)), some (eI (zI a2)), some (eI (zI v7)), some (eI (zI v16)), some (eI (zI v25)), some (eI (zI v33)), some (eI (zI v40)), some (eI (zI v48)), some (eI (zI v83))]) (st' := [eI (zI v25), eI (zI a2), eR a0]) rfl rfl rfl ?_
  refine w_s (np := 115) (lv' := [some (eR a0), some (eI (zI a1)), some (eI (zI a2)), some (eI (zI v7)), some (eI (zI v16)), some (eI (zI v25)), some (eI (zI v33)), some (eI (zI v40)), some (eI (zI v48)), some (eI (zI v83))]) (st' := [eI (zI v83), eI (zI v25), eI (zI a2), eR a0]) rfl rfl rfl ?_
  refine w_s (np := 117) (lv' := [some (eR a0), some (eI (zI a1)), some (eI (zI a2)), some (eI (zI v7)), some (eI (zI v16)), some (eI (zI v25)), some (eI (zI v33)), some (eI (zI v40)), some (eI (zI v48)), some (eI (zI v83))]) (st' := [eI (zI v16), eI (zI v83), eI (zI v25), eI (zI a2), eR a0]) rfl rfl rfl ?_
  refine w_cv (np := 120) (as := [eI (zI a2), eI (zI v25), eI (zI v83), eI (zI v16)]) (lv' := [some (eR a0), some (eI (zI a2)), some (eI (zI v25)), some (eI (zI v83)), some (eI (zI v16))]) (rest := []) rfl rfl rfl (Nat.ble_eq.mp rfl) rfl rfl rfl (hl92 _ _ hk) rfl ?_
  refine m_29_ok hG h hR91 (hl92 _ _ hk) p0 ?_
  intro M94 μ95 h hR96 hl98
  have hl97 := y_le.tr hl92 hl98
  show ex_fine fg rc rs (d + 2, (32, 120, [some (eR a0), some (eI (zI a1)), some (eI (zI a2)), some (eI (zI v7)), some (eI (zI v16)), some (eI (zI v25)), some (eI (zI v33)), some (eI (zI v40)), some (eI (zI v48)), some (eI (zI v83))], []), f :: F, μ95)
  refine w_s (np := 121) (lv' := [some (eR a0), some (eI (zI a1)), some (eI (zI a2)), some (eI (zI v7)), some (eI (zI v16)), some (eI (zI v25)), some (eI (zI v33)), some (eI (zI v40)), some (eI (zI v48)), some (eI (zI v83))]) (st' := [eR a0]) rfl (s_an rfl p0) rfl ?_
  refine w_s (np := 122) (lv' := [some (eR a0), some (eI (zI a1)), some (eI (zI a2)), some (eI (zI v7)), some (eI (zI v16)), some (eI (zI v25)), some (eI (zI v33)), some (eI (zI v40)), some (eI (zI v48)), some (eI (zI v83))]) (st' := [eI (zI a2), eR a0]) rfl rfl rfl ?_
  refine w_s (np := 123) (lv' := [some (eR a0), some (eI (zI a1)), some (eI (zI a2)), some (eI (zI v7)), some (eI (zI v16)), some (eI (zI v25)), some (eI (zI v33)), some (eI (zI v40)), some (eI (zI v48)), some (eI (zI v83))]) (st' := [eI (zI 1), eI (zI a2), eR a0]) rfl rfl rfl ?_
  obtain ⟨v99, ev99, h⟩ := z_l_ex h
  refine w_s (np := 124) (lv' := [some (eR a0), some (eI (zI a1)), some (eI (zI a2)), some (eI (zI v7)), some (eI (zI v16)), some (eI (zI v25)), some (eI (zI v33)), some (eI (zI v40)), some (eI (zI v48)), some (eI (zI v83))]) (st' := [eI (zI v99), eR a0]) rfl (s_iadd ev99) rfl ?_
  clear ev99
  refine w_s (np := 125) (lv' := [some (eR a0), some (eI (zI a1)), some (eI (zI a2)), some (eI (zI v7)), some (eI (zI v16)), some (eI (zI v25)), some (eI (zI v33)), some (eI (zI v40)), some (eI (zI v48)), some (eI (zI v83))]) (st' := [eI (zI 1), eI (zI v99), eR a0]) rfl rfl rfl ?_
  refine w_s (np := 127) (lv' := [some (eR a0), some (eI (zI a1)), some (eI (zI a2)), some (eI (zI v7)), some (eI (zI v16)), some (eI (zI v25)), some (eI (zI v33)), some (eI (zI v40)), some (eI (zI v48)), some (eI (zI v83))]) (st' := [eI (zI v48), eI (zI 1), eI (zI v99), eR a0]) rfl rfl rfl ?_
  refine w_s (np := 128) (lv' := [some (eR a0), some (eI (zI a1)), some (eI (zI a2)), some (eI (zI v7)), some (eI (zI v16)), some (eI (zI v25)), some (eI (zI v33)), some (eI (zI v40)), some (eI (zI v48)), some (eI (zI v83))]) (st' := [eI (zI 1), eI (zI v48), eI (zI 1), eI (zI v99), eR a0]) rfl rfl rfl ?_
  obtain ⟨v100, ev100, h⟩ := z_l_ex h
  refine w_s (np := 129) (lv' := [some (eR a0), some (eI (zI a1)), some (eI (zI a2)), some (eI (zI v7)), some (eI (zI v16)), some (eI (zI v25)), some (eI (zI v33)), some (eI (zI v40)), some (eI (zI v48)), some (eI (zI v83))]) (st' := [eI (zI v100), eI (zI 1), eI (zI v99), eR a0]) rfl (s_iadd ev100) rfl ?_
  clear ev100
  refine w_s (np := 131) (lv' := [some (eR a0), some (eI (zI a1)), some (eI (zI a2)), some (eI (zI v7)), some (eI (zI v16)), some (eI (zI v25)), some (eI (zI v33)), some (eI (zI v40)), some (eI (zI v48)), some (eI (zI v83))]) (st' := [eI (zI v33), eI (zI v100), eI (zI 1), eI (zI v99), eR a0]) rfl rfl rfl ?_
  refine w_s (np := 132) (lv' := [some (eR a0), some (eI (zI a1)), some (eI (zI a2)), some (eI (zI v7)), some (eI (zI v16)), some (eI (zI v25)), some (eI (zI v33)), some (eI (zI v40)), some (eI (zI v48)), some (eI (zI v83))]) (st' := [eI (zI 2), eI (zI v33), eI (zI v100), eI (zI 1), eI (zI v99), eR a0]) rfl rfl rfl ?_
  refine w_s (np := 134) (lv' := [some (eR a0), some (eI (zI a1)), some (eI (zI a2)), some (eI (zI v7)), some (eI (zI v16)), some (eI (zI v25)), some (eI (zI v33)), some (eI (zI v40)), some (eI (zI v48)), some (eI (zI v83))]) (st' := [eI (zI v40), eI (zI 2), eI (zI v33), eI (zI v100), eI (zI 1), eI (zI v99), eR a0]) rfl rfl rfl ?_
  obtain ⟨v101, ev101, h⟩ := z_l_ex h
  refine w_s (np := 135) (lv' := [some (eR a0), some (eI (zI a1)), some (eI (zI a2)), some (eI (zI v7)), some (eI (zI v16)), some (eI (zI v25)), some (eI (zI v33)), some (eI (zI v40)), some (eI (zI v48)), some (eI (zI v83))]) (st' := [eI (zI v101), eI (zI v33), eI (zI v100), eI (zI 1), eI (zI v99), eR a0]) rfl (s_imul ev101) rfl ?_
  clear ev101
  obtain ⟨v102, ev102, h⟩ := z_l_ex h
  refine w_s (np := 136) (lv' := [some (eR a0), some (eI (zI a1)), some (eI (zI a2)), some (eI (zI v7)), some (eI (zI v16)), some (eI (zI v25)), some (eI (zI v33)), some (eI (zI v40)), some (eI (zI v48)), some (eI (zI v83))]) (st' := [eI (zI v102), eI (zI v100), eI (zI 1), eI (zI v99), eR a0]) rfl (s_iadd ev102) rfl ?_
  clear ev102
  refine w_s (np := 138) (lv' := [some (eR a0), some (eI (zI a1)), some (eI (zI a2)), some (eI (zI v7)), some (eI (zI v16)), some (eI (zI v25)), some (eI (zI v33)), some (eI (zI v40)), some (eI (zI v48)), some (eI (zI v83))]) (st' := [eI (zI v33), eI (zI v102), eI (zI v100), eI (zI 1), eI (zI v99), eR a0]) rfl rfl rfl ?_
  refine w_s (np := 139) (lv' := [some (eR a0), some (eI (zI a1)), some (eI (zI a2)), some (eI (zI v7)), some (eI (zI v16)), some (eI (zI v25)), some (eI (zI v33)), some (eI (zI v40)), some (eI (zI v48)), some (eI (zI v83))]) (st' := [eI (zI 5), eI (zI v33), eI (zI v102), eI (zI v100), eI (zI 1), eI (zI v99), eR a0]) rfl rfl rfl ?_
  refine w_s (np := 141) (lv' := [some (eR a0), some (eI (zI a1)), some (eI (zI a2)), some (eI (zI v7)), some (eI (zI v16)), some (eI (zI v25)), some (eI (zI v33)), some (eI (zI v40)), some (eI (zI v48)), some (eI (zI v83))]) (st' := [eI (zI v40), eI (zI 5), eI (zI v33), eI (zI v102), eI (zI v100), eI (zI 1), eI (zI v99), eR a0]) rfl rfl rfl ?_
  obtain ⟨v103, ev103, h⟩ := z_l_ex h
  refine w_s (np := 142) (lv' := [some (eR a0), some (eI (zI a1)), some (eI (zI a2)), some (eI (zI v7)), some (eI (zI v16)), some (eI (zI v25)), some (eI (zI v33)), some (eI (zI v40)), some (eI (zI v48)), some (eI (zI v83))]) (st' := [eI (zI v103), eI (zI v33), eI (zI v102), eI (zI v100), eI (zI 1), eI (zI v99), eR a0]) rfl (s_imul ev103) rfl ?_
  clear ev103
  obtain ⟨v104, ev104, h⟩ := z_l_ex h
  refine w_s (np := 143) (lv' := [some (eR a0), some (eI (zI a1)), some (eI (zI a2)), some (eI (zI v7)), some (eI (zI v16)), some (eI (zI v25)), some (eI (zI v33)), some (eI (zI v40)), some (eI (zI v48)), some (eI (zI v83))]) (st' := [eI (zI v104), eI (zI v102), eI (zI v100), eI (zI 1), eI (zI v99), eR a0]) rfl (s_iadd ev104) rfl ?_
  clear ev104
  refine w_cv (np := 146) (as := [eI (zI v99), eI (zI 1), eI (zI v100), eI (zI v102), eI (zI v104)]) (lv' := [some (eR a0), some (eI (zI v99)), some (eI (zI 1)), some (eI (zI v100)), some (eI (zI v102)), some (eI (zI v104))]) (rest := []) rfl rfl rfl (Nat.ble_eq.mp rfl) rfl rfl rfl (hl97 _ _ hk) rfl ?_
  refine m_28_ok hG h hR96 (hl97 _ _ hk) p0 ?_
  intro M105 μ106 h hR107 hl109
  have hl108 := y_le.tr hl97 hl109
  show ex_fine fg rc rs (d + 2, (32, 146, [some (eR a0), some (eI (zI a1)), some (eI (zI a2)), some (eI (zI v7)), some (eI (zI v16)), some (eI (zI v25)), some (eI (zI v33)), some (eI (zI v40)), some (eI (zI v48)), some (eI (zI v83))], []), f :: F, μ106)
  refine w_s (np := 147) (lv' := [some (eR a0), some (eI (zI a1)), some (eI (zI a2)), some (eI (zI v7)), some (eI (zI v16)), some (eI (zI v25)), some (eI (zI v33)), some (eI (zI v40)), some (eI (zI v48)), some (eI (zI v83))]) (st' := [eR a0]) rfl (s_an rfl p0) rfl ?_
  refine w_s (np := 148) (lv' := [some (eR a0), some (eI (zI a1)), some (eI (zI a2)), some (eI (zI v7)), some (eI (zI v16)), some (eI (zI v25)), some (eI (zI v33)), some (eI (zI v40)), some (eI (zI v48)), some (eI (zI v83))]) (st' := [eI (zI a2), eR a0]) rfl rfl rfl ?_
  refine w_s (np := 149) (lv' := [some (eR a0), some (eI (zI a1)), some (eI (zI a2)), some (eI (zI v7)), some (eI (zI v16)), some (eI (zI v25)), some (eI (zI v33)), some (eI (zI v40)), some (eI (zI v48)), some (eI (zI v83))]) (st' := [eI (zI 1), eI (zI a2), eR a0]) rfl rfl rfl ?_
  obtain ⟨v110, ev110, h⟩ := z_l_ex h
  refine w_s (np := 150) (lv' := [some (eR a0), some (eI (zI a1)), some (eI (zI a2)), some (eI (zI v7)), some (eI (zI v16)), some (eI (zI v25)), some (eI (zI v33)), some (eI (zI v40)), some (eI (zI v48)), some (eI (zI v83))]) (st' := [eI (zI v110), eR a0]) rfl (s_iadd ev110) rfl ?_
  clear ev110
  refine w_s (np := 152) (lv' := [some (eR a0), some (eI (zI a1)), some (eI (zI a2)), some (eI (zI v7)), some (eI (zI v16)), some (eI (zI v25)), some (eI (zI v33)), some (eI (zI v40)), some (eI (zI v48)), some (eI (zI v83))]) (st' := [eI (zI v83), eI (zI v110), eR a0]) rfl rfl rfl ?_
  refine w_s (np := 154) (lv' := [some (eR a0), some (eI (zI a1)), some (eI (zI a2)), some (eI (zI v7)), some (eI (zI v16)), some (eI (zI v25)), some (eI (zI v33)), some (eI (zI v40)), some (eI (zI v48)), some (eI (zI v83))]) (st' := [eI (zI v25), eI (zI v83), eI (zI v110), eR a0]) rfl rfl rfl ?_
  refine w_s (np := 155) (lv' := [some (eR a0), some (eI (zI a1)), some (eI (zI a2)), some (eI (zI v7)), some (eI (zI v16)), some (eI (zI v25)), some (eI (zI v33)), some (eI (zI v40)), some (eI (zI v48)), some (eI (zI v83))]) (st' := [eI (zI v7), eI (zI v25), eI (zI v83), eI (zI v110), eR a0]) rfl rfl rfl ?_
  refine w_cv (np := 158) (as := [eI (zI v110), eI (zI v83), eI (zI v25), eI (zI v7)]) (lv' := [some (eR a0), some (eI (zI v110)), some (eI (zI v83)), some (eI (zI v25)), some (eI (zI v7))]) (rest := []) rfl rfl rfl (Nat.ble_eq.mp rfl) rfl rfl rfl (hl108 _ _ hk) rfl ?_
  refine m_29_ok hG h hR107 (hl108 _ _ hk) p0 ?_
  intro M111 μ112 h hR113 hl115
  have hl114 := y_le.tr hl108 hl115
  show ex_fine fg rc rs (d + 2, (32, 158, [some (eR a0), some (eI (zI a1)), some (eI (zI a2)), some (eI (zI v7)), some (eI (zI v16)), some (eI (zI v25)), some (eI (zI v33)), some (eI (zI v40)), some (eI (zI v48)), some (eI (zI v83))], []), f :: F, μ112)
  exact v_rv rfl rfl (hK _ _ h hR113 hl114)
/-! RhombInflator$Ring.minus -/
noncomputable def m_76 (a0 a2 : Nat) (M : yM) (K : Nat → yM → Bool) : Bool := z_l (z_lor a0 9223512776490647552) fun v1 => z_l (z_land a2 9223231297218904063) fun v2 => z_l (z_lsub v1 v2) fun v3 => z_l (z_lxor a2 18446744073709551615) fun v4 => z_l (z_lxor a0 v4) fun v5 => z_l (z_land v5 9223512776490647552) fun v6 => z_l (z_lxor v3 v6) fun v7 => K v7 M
theorem m_76_ok {fg : eG} {rc rs d : Nat} {f : eFr} {F : List eFr} {M : yM} {μ0 : eM} {a0 a2 : Nat} {K : Nat → yM → Bool} (hG : yG fg y_T) (h : m_76 a0 a2 M K = true) (hR : yR M μ0) (hK : ∀ (r : Nat) (M : yM) (μ : eM), K r M = true → yR M μ → y_le μ0 μ → ex_fine fg rc rs (d + 1, (f.1, f.2.1, f.2.2.1, eJ (zJ r) :: f.2.2.2), F, μ)) : ex_fine fg rc rs (d, (76, 0, [some (eJ (zJ a0)), none, some (eJ (zJ a2)), none], []), f :: F, μ0) := by
  unfold m_76 at h
  have hl := y_le_r μ0
  refine w_s (np := 1) (lv' := [some (eJ (zJ a0)), none, some (eJ (zJ a2)), none]) (st' := [eJ (zJ a0)]) rfl rfl rfl ?_
  refine v_l2 (np := 4) (c := 9223512776490647552) rfl rfl (by decide) ?_
  obtain ⟨v1, ev1, h⟩ := z_l_ex h
  refine w_s (np := 5) (lv' := [some (eJ (zJ a0)), none, some (eJ (zJ a2)), none]) (st' := [eJ (zJ v1)]) rfl (s_lor ev1) rfl ?_
  clear ev1
  refine w_s (np := 6) (lv' := [some (eJ (zJ a0)), none, some (eJ (zJ a2)), none]) (st' := [eJ (zJ a2), eJ (zJ v1)]) rfl rfl rfl ?_
  refine v_l2 (np := 9) (c := 9223231297218904063) rfl rfl (by decide) ?_
  obtain ⟨v2, ev2, h⟩ := z_l_ex h
  refine w_s (np := 10) (lv' := [some (eJ (zJ a0)), none, some (eJ (zJ a2)), none]) (st' := [eJ (zJ v2), eJ (zJ v1)]) rfl (s_land ev2) rfl ?_
  clear ev2
  obtain ⟨v3, ev3, h⟩ := z_l_ex h
  refine w_s (np := 11) (lv' := [some (eJ (zJ a0)), none, some (eJ (zJ a2)), none]) (st' := [eJ (zJ v3)]) rfl (s_lsub ev3) rfl ?_
  clear ev3
  refine w_s (np := 12) (lv' := [some (eJ (zJ a0)), none, some (eJ (zJ a2)), none]) (st' := [eJ (zJ a0), eJ (zJ v3)]) rfl rfl rfl ?_
  refine w_s (np := 13) (lv' := [some (eJ (zJ a0)), none, some (eJ (zJ a2)), none]) (st' := [eJ (zJ a2), eJ (zJ a0), eJ (zJ v3)]) rfl rfl rfl ?_
  refine v_l2 (np := 16) (c := 18446744073709551615) rfl rfl (by decide) ?_
  obtain ⟨v4, ev4, h⟩ := z_l_ex h
  refine w_s (np := 17) (lv' := [some (eJ (zJ a0)), none, some (eJ (zJ a2)), none]) (st' := [eJ (zJ v4), eJ (zJ a0), eJ (zJ v3)]) rfl (s_lxor ev4) rfl ?_
  clear ev4
  obtain ⟨v5, ev5, h⟩ := z_l_ex h
  refine w_s (np := 18) (lv' := [some (eJ (zJ a0)), none, some (eJ (zJ a2)), none]) (st' := [eJ (zJ v5), eJ (zJ v3)]) rfl (s_lxor ev5) rfl ?_
  clear ev5
  refine v_l2 (np := 21) (c := 9223512776490647552) rfl rfl (by decide) ?_
  obtain ⟨v6, ev6, h⟩ := z_l_ex h
  refine w_s (np := 22) (lv' := [some (eJ (zJ a0)), none, some (eJ (zJ a2)), none]) (st' := [eJ (zJ v6), eJ (zJ v3)]) rfl (s_land ev6) rfl ?_
  clear ev6
  obtain ⟨v7, ev7, h⟩ := z_l_ex h
  refine w_s (np := 23) (lv' := [some (eJ (zJ a0)), none, some (eJ (zJ a2)), none]) (st' := [eJ (zJ v7)]) rfl (s_lxor ev7) rfl ?_
  clear ev7
  exact v_rl rfl rfl (hK _ _ _ h hR hl)
/-! RhombInflator$Patch.cutThick -/
noncomputable def m_33 (a0 a1 a2 : Nat) (M : yM) (K : yM → Bool) : Bool := y_gf M a0 2 2 fun v1 => f_if false (Nat.ble 1 v1) (z_l (z_mul 3 a1) fun v6 => y_lh 100 M v1 v6 fun v7 => y_gf M a0 2 2 fun v9 => f_if false (Nat.ble 1 v9) (z_l (z_mul 3 a1) fun v14 => z_l (z_add v14 1) fun v15 => y_lh 100 M v9 v15 fun v16 => y_gf M a0 2 2 fun v18 => f_if false (Nat.ble 1 v18) (z_l (z_mul 3 a1) fun v23 => z_l (z_add v23 2) fun v24 => y_lh 100 M v18 v24 fun v25 => y_gf M a0 2 3 fun v27 => f_if false (Nat.ble 1 v27) (z_l (z_mul 2 a1) fun v32 => y_lh 100 M v27 v32 fun v33 => m_24 a0 a1 M fun v40 M35 => y_gf M35 a0 2 1 fun v41 => f_if false (Nat.ble 1 v41) (y_lh 100 M35 v41 a1 fun v46 => z_l (z_mul 3 v46) fun v48 => y_gf M35 a0 2 4 fun v49 => f_if false (Nat.ble 1 v49) (y_is M35 v49 3 (m_44 v49 v16 M35 fun v59 M54 => m_74 v33 M54 fun v66 M61 => m_76 v59 v66 M61 fun v72 M67 => y_gf M67 a0 2 4 fun v73 => f_if false (Nat.ble 1 v73) (y_is M67 v73 3 (m_46 v73 v72 M67 fun v83 M78 => y_gf M78 a0 2 4 fun v85 => f_if false (Nat.ble 1 v85) (z_l (z_mul 3 v40) fun v90 => z_l (z_add v33 v90) fun v91 => m_74 v91 M78 fun v97 M92 => m_75 v72 v97 M92 fun v103 M98 => y_is M98 v85 3 (m_46 v85 v103 M98 fun v109 M104 => z_l (z_mul 4 v40) fun v111 => z_l (z_add v33 v111) fun v112 => z_l (z_mul 7 v40) fun v113 => z_l (z_add v33 v113) fun v114 => m_28 a0 a2 1 v48 v112 v114 M104 fun M115 => m_29 a0 a2 v109 v25 v7 M115 fun M120 => z_l (z_add a2 1) fun v125 => z_l (z_add v48 1) fun v126 => z_l (z_mul 3 v40) fun v127 => z_l (z_add v33 v127) fun v128 => m_28 a0 v125 1 v126 v128 v33 M120 fun M129 => z_l (z_add a2 1) fun v134 => m_29 a0 v134 v83 v109 v16 M129 fun M135 => z_l (z_add a2 2) fun v140 => z_l (z_add v48 2) fun v141 => z_l (z_mul 8 v40) fun v142 => z_l (z_add v33 v142) fun v143 => z_l (z_mul 7 v40) fun v144 => z_l (z_add v33 v144) fun v145 => m_28 a0 v140 0 v141 v143 v145 M135 fun M146 => z_l (z_add a2 2) fun v151 => m_29 a0 v151 v109 v83 v7 M146 fun M152 => K M152)))))))))))
theorem m_33_ok {fg : eG} {rc rs d : Nat} {f : eFr} {F : List eFr} {M : yM} {μ0 : eM} {a0 a1 a2 : Nat} {K : yM → Bool} (hG : yG fg y_T) (h : m_33 a0 a1 a2 M K = true) (hR : yR M μ0) (hk : ev_kd μ0 a0 = some 2) (p0 : 0 < a0) (hK : ∀ (M : yM) (μ : eM), K M = true → yR M μ → y_le μ0 μ → ex_fine fg rc rs (d + 3, (f.1, f.2.1, f.2.2.1, f.2.2.2), F, μ)) : ex_fine fg rc rs (d + 2, (33, 0, [some (eR a0), some (eI (zI a1)), some (eI (zI a2)), none, none, none, none, none, none, none, none, none, none], []), f :: F, μ0) := by
  unfold m_33 at h
  have hl := y_le_r μ0
  refine w_s (np := 1) (lv' := [some (eR a0), some (eI (zI a1)), some (eI (zI a2)), none, none, none, none, none, none, none, none, none, none]) (st' := [eR a0]) rfl (s_an rfl p0) rfl ?_
  obtain ⟨v1, h, k2, e3⟩ := y_gf_ok (ty := 3) h hR (by decide) rfl
  obtain ⟨g4, h⟩ := f_if_ok h
  have q5 : 0 < v1 := Nat.ble_eq.mp g4
  refine v_gf3 (np := 4) rfl rfl k2 e3 ?_
  clear k2 e3
  refine w_s (np := 5) (lv' := [some (eR a0), some (eI (zI a1)), some (eI (zI a2)), none, none, none, none, none, none, none, none, none, none]) (st' := [eI (zI 3), eR v1]) rfl rfl rfl ?_
  refine w_s (np := 6) (lv' := [some (eR a0), some (eI (zI a1)), some (eI (zI a2)), none, none, none, none, none, none, none, none, none, none]) (st' := [eI (zI a1), eI (zI 3), eR v1]) rfl rfl rfl ?_
  obtain ⟨v6, ev6, h⟩ := z_l_ex h
  refine w_s (np := 7) (lv' := [some (eR a0), some (eI (zI a1)), some (eI (zI a2)), none, none, none, none, none, none, none, none, none, none]) (st' := [eI (zI v6), eR v1]) rfl (s_imul ev6) rfl ?_
  clear ev6
  obtain ⟨v7, h, k8⟩ := y_lh_ok (ty := 0) h hR hG (by decide) rfl (by decide)
  refine v_la (np := 8) rfl rfl k8 ?_
  clear k8
  refine w_s (np := 9) (lv' := [some (eR a0), some (eI (zI a1)), some (eI (zI a2)), some (eI (zI v7)), none, none, none, none, none, none, none, none, none]) (st' := []) rfl rfl rfl ?_
  refine w_s (np := 10) (lv' := [some (eR a0), some (eI (zI a1)), some (eI (zI a2)), some (eI (zI v7)), none, none, none, none, none, none, none, none, none]) (st' := [eR a0]) rfl (s_an rfl p0) rfl ?_
  obtain ⟨v9, h, k10, e11⟩ := y_gf_ok (ty := 3) h hR (by decide) rfl
  obtain ⟨g12, h⟩ := f_if_ok h
  have q13 : 0 < v9 := Nat.ble_eq.mp g12
  refine v_gf3 (np := 13) rfl rfl k10 e11 ?_
  clear k10 e11
  refine w_s (np := 14) (lv' := [some (eR a0), some (eI (zI a1)), some (eI (zI a2)), some (eI (zI v7)), none, none, none, none, none, none, none, none, none]) (st' := [eI (zI 3), eR v9]) rfl rfl rfl ?_
  refine w_s (np := 15) (lv' := [some (eR a0), some (eI (zI a1)), some (eI (zI a2)), some (eI (zI v7)), none, none, none, none, none, none, none, none, none]) (st' := [eI (zI a1), eI (zI 3), eR v9]) rfl rfl rfl ?_
  obtain ⟨v14, ev14, h⟩ := z_l_ex h
  refine w_s (np := 16) (lv' := [some (eR a0), some (eI (zI a1)), some (eI (zI a2)), some (eI (zI v7)), none, none, none, none, none, none, none, none, none]) (st' := [eI (zI v14), eR v9]) rfl (s_imul ev14) rfl ?_
  clear ev14
  refine w_s (np := 17) (lv' := [some (eR a0), some (eI (zI a1)), some (eI (zI a2)), some (eI (zI v7)), none, none, none, none, none, none, none, none, none]) (st' := [eI (zI 1), eI (zI v14), eR v9]) rfl rfl rfl ?_
  obtain ⟨v15, ev15, h⟩ := z_l_ex h
  refine w_s (np := 18) (lv' := [some (eR a0), some (eI (zI a1)), some (eI (zI a2)), some (eI (zI v7)), none, none, none, none, none, none, none, none, none]) (st' := [eI (zI v15), eR v9]) rfl (s_iadd ev15) rfl ?_
  clear ev15
  obtain ⟨v16, h, k17⟩ := y_lh_ok (ty := 0) h hR hG (by decide) rfl (by decide)
  refine v_la (np := 19) rfl rfl k17 ?_
  clear k17
  refine w_s (np := 21) (lv' := [some (eR a0), some (eI (zI a1)), some (eI (zI a2)), some (eI (zI v7)), some (eI (zI v16)), none, none, none, none, none, none, none, none]) (st' := []) rfl rfl rfl ?_
  refine w_s (np := 22) (lv' := [some (eR a0), some (eI (zI a1)), some (eI (zI a2)), some (eI (zI v7)), some (eI (zI v16)), none, none, none, none, none, none, none, none]) (st' := [eR a0]) rfl (s_an rfl p0) rfl ?_
  obtain ⟨v18, h, k19, e20⟩ := y_gf_ok (ty := 3) h hR (by decide) rfl
  obtain ⟨g21, h⟩ := f_if_ok h
  have q22 : 0 < v18 := Nat.ble_eq.mp g21
  refine v_gf3 (np := 25) rfl rfl k19 e20 ?_
  clear k19 e20
  refine w_s (np := 26) (lv' := [some (eR a0), some (eI (zI a1)), some (eI (zI a2)), some (eI (zI v7)), some (eI (zI v16)), none, none, none, none, none, none, none, none]) (st' := [eI (zI 3), eR v18]) rfl rfl rfl ?_
  refine w_s (np := 27) (lv' := [some (eR a0), some (eI (zI a1)), some (eI (zI a2)), some (eI (zI v7)), some (eI (zI v16)), none, none, none, none, none, none, none, none]) (st' := [eI (zI a1), eI (zI 3), eR v18]) rfl rfl rfl ?_
  obtain ⟨v23, ev23, h⟩ := z_l_ex h
  refine w_s (np := 28) (lv' := [some (eR a0), some (eI (zI a1)), some (eI (zI a2)), some (eI (zI v7)), some (eI (zI v16)), none, none, none, none, none, none, none, none]) (st' := [eI (zI v23), eR v18]) rfl (s_imul ev23) rfl ?_
  clear ev23
  refine w_s (np := 29) (lv' := [some (eR a0), some (eI (zI a1)), some (eI (zI a2)), some (eI (zI v7)), some (eI (zI v16)), none, none, none, none, none, none, none, none]) (st' := [eI (zI 2), eI (zI v23), eR v18]) rfl rfl rfl ?_
  obtain ⟨v24, ev24, h⟩ := z_l_ex h
  refine w_s (np := 30) (lv' := [some (eR a0), some (eI (zI a1)), some (eI (zI a2)), some (eI (zI v7)), some (eI (zI v16)), none, none, none, none, none, none, none, none]) (st' := [eI (zI v24), eR v18]) rfl (s_iadd ev24) rfl ?_
  clear ev24
  obtain ⟨v25, h, k26⟩ := y_lh_ok (ty := 0) h hR hG (by decide) rfl (by decide)
  refine v_la (np := 31) rfl rfl k26 ?_
  clear k26
  refine w_s (np := 33) (lv' := [some (eR a0), some (eI (zI a1)), some (eI (zI a2)), some (eI (zI v7)), some (eI (zI v16)), some (eI (zI v25)), none, none, none, none, none, none, none]) (st' := []) rfl rfl rfl ?_
  refine w_s (np := 34) (lv' := [some (eR a0), some (eI (zI a1)), some (eI (zI a2)), some (eI (zI v7)), some (eI (zI v16)), some (eI (zI v25)), none, none, none, none, none, none, none]) (st' := [eR a0]) rfl (s_an rfl p0) rfl ?_
  obtain ⟨v27, h, k28, e29⟩ := y_gf_ok (ty := 3) h hR (by decide) rfl
  obtain ⟨g30, h⟩ := f_if_ok h
  have q31 : 0 < v27 := Nat.ble_eq.mp g30
  refine v_gf3 (np := 37) rfl rfl k28 e29 ?_
  clear k28 e29
  refine w_s (np := 38) (lv' := [some (eR a0), some (eI (zI a1)), some (eI (zI a2)), some (eI (zI v7)), some (eI (zI v16)), some (eI (zI v25)), none, none, none, none, none, none, none]) (st' := [eI (zI 2), eR v27]) rfl rfl rfl ?_
  refine w_s (np := 39) (lv' := [some (eR a0), some (eI (zI a1)), some (eI (zI a2)), some (eI (zI v7)), some (eI (zI v16)), some (eI (zI v25)), none, none, none, none, none, none, none]) (st' := [eI (zI a1), eI (zI 2), eR v27]) rfl rfl rfl ?_
  obtain ⟨v32, ev32, h⟩ := z_l_ex h
  refine w_s (np := 40) (lv' := [some (eR a0), some (eI (zI a1)), some (eI (zI a2)), some (eI (zI v7)), some (eI (zI v16)), some (eI (zI v25)), none, none, none, none, none, none, none]) (st' := [eI (zI v32), eR v27]) rfl (s_imul ev32) rfl ?_
  clear ev32
  obtain ⟨v33, h, k34⟩ := y_lh_ok (ty := 0) h hR hG (by decide) rfl (by decide)
  refine v_la (np := 41) rfl rfl k34 ?_
  clear k34
  refine w_s (np := 43) (lv' := [some (eR a0), some (eI (zI a1)), some (eI (zI a2)), some (eI (zI v7)), some (eI (zI v16)), some (eI (zI v25)), some (eI (zI v33)), none, none, none, none, none, none]) (st' := []) rfl rfl rfl ?_
  refine w_s (np := 44) (lv' := [some (eR a0), some (eI (zI a1)), some (eI (zI a2)), some (eI (zI v7)), some (eI (zI v16)), some (eI (zI v25)), some (eI (zI v33)), none, none, none, none, none, none]) (st' := [eR a0]) rfl (s_an rfl p0) rfl ?_
  refine w_s (np := 45) (lv' := [some (eR a0), some (eI (zI a1)), some (eI (zI a2)), some (eI (zI v7)), some (eI (zI v16)), some (eI (zI v25)), some (eI (zI v33)), none, none, none, none, none, none]) (st' := [eI (zI a1), eR a0]) rfl rfl rfl ?_
  refine w_cv (np := 48) (as := [eI (zI a1)]) (lv' := [some (eR a0), some (eI (zI a1))]) (rest := []) rfl rfl rfl (Nat.ble_eq.mp rfl) rfl rfl rfl (hl _ _ hk) rfl ?_
  refine m_24_ok hG h hR (hl _ _ hk) p0 ?_
  intro v40 M35 μ36 h hR37 hl39
  have hl38 := y_le.tr hl hl39
  show ex_fine fg rc rs (d + 2, (33, 48, [some (eR a0), some (eI (zI a1)), some (eI (zI a2)), some (eI (zI v7)), some (eI (zI v16)), some (eI (zI v25)), some (eI (zI v33)), none, none, none, none, none, none], [eI (zI v40)]), f :: F, μ36)
  refine w_s (np := 50) (lv' := [some (eR a0), some (eI (zI a1)), some (eI (zI a2)), some (eI (zI v7)), some (eI (zI v16)), some (eI (zI v25)), some (eI (zI v33)), some (eI (zI v40)), none, none, none, none, none]) (st' := []) rfl rfl rfl ?_
  refine w_s (np := 51) (lv' := [some (eR a0), some (eI (zI a1)), some (eI (zI a2)), some (eI (zI v7)), some (eI (zI v16)), some (eI (zI v25)), some (eI (zI v33)), some (eI (zI v40)), none, none, none, none, none]) (st' := [eI (zI 3)]) rfl rfl rfl ?_
  refine w_s (np := 52) (lv' := [some (eR a0), some (eI (zI a1)), some (eI (zI a2)), some (eI (zI v7)), some (eI (zI v16)), some (eI (zI v25)), some (eI (zI v33)), some (eI (zI v40)), none, none, none, none, none]) (st' := [eR a0, eI (zI 3)]) rfl (s_an rfl p0) rfl ?_
  obtain ⟨v41, h, k42, e43⟩ := y_gf_ok (ty := 3) h hR37 (by decide) rfl
  obtain ⟨g44, h⟩ := f_if_ok h
  have q45 : 0 < v41 := Nat.ble_eq.mp g44
  refine v_gf3 (np := 55) rfl rfl k42 e43 ?_
  clear k42 e43
  refine w_s (np := 56) (lv' := [some (eR a0), some (eI (zI a1)), some (eI (zI a2)), some (eI (zI v7)), some (eI (zI v16)), some (eI (zI v25)), some (eI (zI v33)), some (eI (zI v40)), none, none, none, none, none]) (st' := [eI (zI a1), eR v41, eI (zI 3)]) rfl rfl rfl ?_
  obtain ⟨v46, h, k47⟩ := y_lh_ok (ty := 0) h hR37 hG (by decide) rfl (by decide)
  refine v_la (np := 57) rfl rfl k47 ?_
  clear k47
  obtain ⟨v48, ev48, h⟩ := z_l_ex h
  refine w_s (np := 58) (lv' := [some (eR a0), some (eI (zI a1)), some (eI (zI a2)), some (eI (zI v7)), some (eI (zI v16)), some (eI (zI v25)), some (eI (zI v33)), some (eI (zI v40)), none, none, none, none, none]) (st' := [eI (zI v48)]) rfl (s_imul ev48) rfl ?_
  clear ev48
  refine w_s (np := 60) (lv' := [some (eR a0), some (eI (zI a1)), some (eI (zI a2)), some (eI (zI v7)), some (eI (zI v16)), some (eI (zI v25)), some (eI (zI v33)), some (eI (zI v40)), some (eI (zI v48)), none, none, none, none]) (st' := []) rfl rfl rfl ?_
  refine w_s (np := 61) (lv' := [some (eR a0), some (eI (zI a1)), some (eI (zI a2)), some (eI (zI v7)), some (eI (zI v16)), some (eI (zI v25)), some (eI (zI v33)), some (eI (zI v40)), some (eI (zI v48)), none, none, none, none]) (st' := [eR a0]) rfl (s_an rfl p0) rfl ?_
  obtain ⟨v49, h, k50, e51⟩ := y_gf_ok (ty := 3) h hR37 (by decide) rfl
  obtain ⟨g52, h⟩ := f_if_ok h
  have q53 : 0 < v49 := Nat.ble_eq.mp g52
  refine v_gf3 (np := 64) rfl rfl k50 e51 ?_
  clear k50 e51
  refine w_s (np := 66) (lv' := [some (eR a0), some (eI (zI a1)), some (eI (zI a2)), some (eI (zI v7)), some (eI (zI v16)), some (eI (zI v25)), some (eI (zI v33)), some (eI (zI v40)), some (eI (zI v48)), none, none, none, none]) (st' := [eI (zI v16), eR v49]) rfl rfl rfl ?_
  obtain ⟨k60, h⟩ := y_is_ok h hR37
  refine w_cv (np := 69) (as := [eI (zI v16)]) (lv' := [some (eR v49), some (eI (zI v16))]) (rest := []) rfl rfl rfl (Nat.ble_eq.mp rfl) rfl rfl rfl k60 rfl ?_
  refine m_44_ok hG h hR37 k60 q53 ?_
  intro v59 M54 μ55 h hR56 hl58
  have hl57 := y_le.tr hl38 hl58
  show ex_fine fg rc rs (d + 2, (33, 69, [some (eR a0), some (eI (zI a1)), some (eI (zI a2)), some (eI (zI v7)), some (eI (zI v16)), some (eI (zI v25)), some (eI (zI v33)), some (eI (zI v40)), some (eI (zI v48)), none, none, none, none], [eJ (zJ v59)]), f :: F, μ55)
  refine w_s (np := 71) (lv' := [some (eR a0), some (eI (zI a1)), some (eI (zI a2)), some (eI (zI v7)), some (eI (zI v16)), some (eI (zI v25)), some (eI (zI v33)), some (eI (zI v40)), some (eI (zI v48)), none, none, none, none]) (st' := [eI (zI v33), eJ (zJ v59)]) rfl rfl rfl ?_
  refine w_cs (np := 74) (as := [eI (zI v33)]) (lv' := [some (eI (zI v33))]) (rest := [eJ (zJ v59)]) rfl rfl rfl (Nat.ble_eq.mp rfl) rfl rfl rfl rfl ?_
  refine m_74_ok hG h hR56 ?_
  intro v66 M61 μ62 h hR63 hl65
  have hl64 := y_le.tr hl57 hl65
  show ex_fine fg rc rs (d + 2, (33, 74, [some (eR a0), some (eI (zI a1)), some (eI (zI a2)), some (eI (zI v7)), some (eI (zI v16)), some (eI (zI v25)), some (eI (zI v33)), some (eI (zI v40)), some (eI (zI v48)), none, none, none, none], [eJ (zJ v66), eJ (zJ v59)]), f :: F, μ62)
  refine w_cs (np := 77) (as := [eJ (zJ v59), eJ (zJ v66)]) (lv' := [some (eJ (zJ v59)), none, some (eJ (zJ v66)), none]) (rest := []) rfl rfl rfl (Nat.ble_eq.mp rfl) rfl rfl rfl rfl ?_
  refine m_76_ok hG h hR63 ?_
  intro v72 M67 μ68 h hR69 hl71
  have hl70 := y_le.tr hl64 hl71
  show ex_fine fg rc rs (d + 2, (33, 77, [some (eR a0), some (eI (zI a1)), some (eI (zI a2)), some (eI (zI v7)), some (eI (zI v16)), some (eI (zI v25)), some (eI (zI v33)), some (eI (zI v40)), some (eI (zI v48)), none, none, none, none], [eJ (zJ v72)]), f :: F, μ68)
  refine w_s (np := 79) (lv' := [some (eR a0), some (eI (zI a1)), some (eI (zI a2)), some (eI (zI v7)), some (eI (zI v16)), some (eI (zI v25)), some (eI (zI v33)), some (eI (zI v40)), some (eI (zI v48)), some (eJ (zJ v72)), none, none, none]) (st' := []) rfl rfl rfl ?_
  refine w_s (np := 80) (lv' := [some (eR a0), some (eI (zI a1)), some (eI (zI a2)), some (eI (zI v7)), some (eI (zI v16)), some (eI (zI v25)), some (eI (zI v33)), some (eI (zI v40)), some (eI (zI v48)), some (eJ (zJ v72)), none, none, none]) (st' := [eR a0]) rfl (s_an rfl p0) rfl ?_
  obtain ⟨v73, h, k74, e75⟩ := y_gf_ok (ty := 3) h hR69 (by decide) rfl
  obtain ⟨g76, h⟩ := f_if_ok h
  have q77 : 0 < v73 := Nat.ble_eq.mp g76
  refine v_gf3 (np := 83) rfl rfl k74 e75 ?_
  clear k74 e75
  refine w_s (np := 85) (lv' := [some (eR a0), some (eI (zI a1)), some (eI (zI a2)), some (eI (zI v7)), some (eI (zI v16)), some (eI (zI v25)), some (eI (zI v33)), some (eI (zI v40)), some (eI (zI v48)), some (eJ (zJ v72)), none, none, none]) (st' := [eJ (zJ v72), eR v73]) rfl rfl rfl ?_
  obtain ⟨k84, h⟩ := y_is_ok h hR69
  refine w_cv (np := 88) (as := [eJ (zJ v72)]) (lv' := [some (eR v73), some (eJ (zJ v72)), none, none]) (rest := []) rfl rfl rfl (Nat.ble_eq.mp rfl) rfl rfl rfl k84 rfl ?_
  refine m_46_ok hG h hR69 k84 q77 ?_
  intro v83 M78 μ79 h hR80 hl82
  have hl81 := y_le.tr hl70 hl82
  show ex_fine fg rc rs (d + 2, (33, 88, [some (eR a0), some (eI (zI a1)), some (eI (zI a2)), some (eI (zI v7)), some (eI (zI v16)), some (eI (zI v25)), some (eI (zI v33)), some (eI (zI v40)), some (eI (zI v48)), some (eJ (zJ v72)), none, none, none], [eI (zI v83)]), f :: F, μ79)
  refine w_s (np := 90) (lv' := [some (eR a0), some (eI (zI a1)), some (eI (zI a2)), some (eI (zI v7)), some (eI (zI v16)), some (eI (zI v25)), some (eI (zI v33)), some (eI (zI v40)), some (eI (zI v48)), some (eJ (zJ v72)), none, some (eI (zI v83)), none]) (st' := []) rfl rfl rfl ?_
  refine w_s (np := 91) (lv' := [some (eR a0), some (eI (zI a1)), some (eI (zI a2)), some (eI (zI v7)), some (eI (zI v16)), some (eI (zI v25)), some (eI (zI v33)), some (eI (zI v40)), some (eI (zI v48)), some (eJ (zJ v72)), none, some (eI (zI v83)), none]) (st' := [eR a0]) rfl (s_an rfl p0) rfl ?_
  obtain ⟨v85, h, k86, e87⟩ := y_gf_ok (ty := 3) h hR80 (by decide) rfl
  obtain ⟨g88, h⟩ := f_if_ok h
  have q89 : 0 < v85 := Nat.ble_eq.mp g88
  refine v_gf3 (np := 94) rfl rfl k86 e87 ?_
  clear k86 e87
  refine w_s (np := 96) (lv' := [some (eR a0), some (eI (zI a1)), some (eI (zI a2)), some (eI (zI v7)), some (eI (zI v16)), some (eI (zI v25)), some (eI (zI v33)), some (eI (zI v40)), some (eI (zI v48)), some (eJ (zJ v72)), none, some (eI (zI v83)), none]) (st' := [eJ (zJ v72), eR v85]) rfl rfl rfl ?_
  refine w_s (np := 98) (lv' := [some (eR a0), some (eI (zI a1)), some (eI (zI a2)), some (eI (zI v7)), some (eI (zI v16)), some (eI (zI v25)), some (eI (zI v33)), some (eI (zI v40)), some (eI (zI v48)), some (eJ (zJ v72)), none, some (eI (zI v83)), none]) (st' := [eI (zI v33), eJ (zJ v72), eR v85]) rfl rfl rfl ?_
  refine w_s (np := 99) (lv' := [some (eR a0), some (eI (zI a1)), some (eI (zI a2)), some (eI (zI v7)), some (eI (zI v16)), some (eI (zI v25)), some (eI (zI v33)), some (eI (zI v40)), some (eI (zI v48)), some (eJ (zJ v72)), none, some (eI (zI v83)), none]) (st' := [eI (zI 3), eI (zI v33), eJ (zJ v72), eR v85]) rfl rfl rfl ?_
  refine w_s (np := 101) (lv' := [some (eR a0), some (eI (zI a1)), some (eI (zI a2)), some (eI (zI v7)), some (eI (zI v16)), some (eI (zI v25)), some (eI (zI v33)), some (eI (zI v40)), some (eI (zI v48)), some (eJ (zJ v72)), none, some (eI (zI v83)), none]) (st' := [eI (zI v40), eI (zI 3), eI (zI v33), eJ (zJ v72), eR v85]) rfl rfl rfl ?_
  obtain ⟨v90, ev90, h⟩ := z_l_ex h
  refine w_s (np := 102) (lv' := [some (eR a0), some (eI (zI a1)), some (eI (zI a2)), some (eI (zI v7)), some (eI (zI v16)), some (eI (zI v25)), some (eI (zI v33)), some (eI (zI v40)), some (eI (zI v48)), some (eJ (zJ v72)), none, some (eI (zI v83)), none]) (st' := [eI (zI v90), eI (zI v33), eJ (zJ v72), eR v85]) rfl (s_imul ev90) rfl ?_
  clear ev90
  obtain ⟨v91, ev91, h⟩ := z_l_ex h
  refine w_s (np := 103) (lv' := [some (eR a0), some (eI (zI a1)), some (eI (zI a2)), some (eI (zI v7)), some (eI (zI v16)), some (eI (zI v25)), some (eI (zI v33)), some (eI (zI v40)), some (eI (zI v48)), some (eJ (zJ v72)), none, some (eI (zI v83)), none]) (st' := [eI (zI v91), eJ (zJ v72), eR v85]) rfl (s_iadd ev91) rfl ?_
  clear ev91
  refine w_cs (np := 106) (as := [eI (zI v91)]) (lv' := [some (eI (zI v91))]) (rest := [eJ (zJ v72), eR v85]) rfl rfl rfl (Nat.ble_eq.mp rfl) rfl rfl rfl rfl ?_
  refine m_74_ok hG h hR80 ?_
  intro v97 M92 μ93 h hR94 hl96
  have hl95 := y_le.tr hl81 hl96
  show ex_fine fg rc rs (d + 2, (33, 106, [some (eR a0), some (eI (zI a1)), some (eI (zI a2)), some (eI (zI v7)), some (eI (zI v16)), some (eI (zI v25)), some (eI (zI v33)), some (eI (zI v40)), some (eI (zI v48)), some (eJ (zJ v72)), none, some (eI (zI v83)), none], [eJ (zJ v97), eJ (zJ v72), eR v85]), f :: F, μ93)
  refine w_cs (np := 109) (as := [eJ (zJ v72), eJ (zJ v97)]) (lv' := [some (eJ (zJ v72)), none, some (eJ (zJ v97)), none]) (rest := [eR v85]) rfl rfl rfl (Nat.ble_eq.mp rfl) rfl rfl rfl rfl ?_
  refine m_75_ok hG h hR94 ?_
  intro v103 M98 μ99 h hR100 hl102
  have hl101 := y_le.tr hl95 hl102
  show ex_fine fg rc rs (d + 2, (33, 109, [some (eR a0), some (eI (zI a1)), some (eI (zI a2)), some (eI (zI v7)), some (eI (zI v16)), some (eI (zI v25)), some (eI (zI v33)), some (eI (zI v40)), some (eI (zI v48)), some (eJ (zJ v72)), none, some (eI (zI v83)), none], [eJ (zJ v103), eR v85]), f :: F, μ99)
  obtain ⟨k110, h⟩ := y_is_ok h hR100
  refine w_cv (np := 112) (as := [eJ (zJ v103)]) (lv' := [some (eR v85), some (eJ (zJ v103)), none, none]) (rest := []) rfl rfl rfl (Nat.ble_eq.mp rfl) rfl rfl rfl k110 rfl ?_
  refine m_46_ok hG h hR100 k110 q89 ?_
  intro v109 M104 μ105 h hR106 hl108
  have hl107 := y_le.tr hl101 hl108
  show ex_fine fg rc rs (d + 2, (33, 112, [some (eR a0), some (eI (zI a1)), some (eI (zI a2)), some (eI (zI v7)), some (eI (zI v16)), some (eI (zI v25)), some (eI (zI v33)), some (eI (zI v40)), some (eI (zI v48)), some (eJ (zJ v72)), none, some (eI (zI v83)), none], [eI (zI v109)]), f :: F, μ105)
  refine w_s (np := 114) (lv' := [some (eR a0), some (eI (zI a1)), some (eI (zI a2)), some (eI (zI v7)), some (eI (zI v16)), some (eI (zI v25)), some (eI (zI v33)), some (eI (zI v40)), some (eI (zI v48)), some (eJ (zJ v72)), none, some (eI (zI v83)), some (eI (zI v109))]) (st' := []) rfl rfl rfl ?_
  refine w_s (np := 115) (lv' := [some (eR a0), some (eI (zI a1)), some (eI (zI a2)), some (eI (zI v7)), some (eI (zI v16)), some (eI (zI v25)), some (eI (zI v33)), some (eI (zI v40)), some (eI (zI v48)), some (eJ (zJ v72)), none, some (eI (zI v83)), some (eI (zI v109))]) (st' := [eR a0]) rfl (s_an rfl p0) rfl ?_
  refine w_s (np := 116) (lv' := [some (eR a0), some (eI (zI a1)), some (eI (zI a2)), some (eI (zI v7)), some (eI (zI v16)), some (eI (zI v25)), some (eI (zI v33)), some (eI (zI v40)), some (eI (zI v48)), some (eJ (zJ v72)), none, some (eI (zI v83)), some (eI (zI v109))]) (st' := [eI (zI a2), eR a0]) rfl rfl rfl ?_
  refine w_s (np := 117) (lv' := [some (eR a0), some (eI (zI a1)), some (eI (zI a2)), some (eI (zI v7)), some (eI (zI v16)), some (eI (zI v25)), some (eI (zI v33)), some (eI (zI v40)), some (eI (zI v48)), some (eJ (zJ v72)), none, some (eI (zI v83)), some (eI (zI v109))]) (st' := [eI (zI 1), eI (zI a2), eR a0]) rfl rfl rfl ?_
  refine w_s (np := 119) (lv' := [some (eR a0), some (eI (zI a1)), some (eI (zI a2)), some (eI (zI v7)), some (eI (zI v16)), some (eI (zI v25)), some (eI (zI v33)), some (eI (zI v40)), some (eI (zI v48)), some (eJ (zJ v72)), none, some (eI (zI v83)), some (eI (zI v109))]) (st' := [eI (zI v48), eI (zI 1), eI (zI a2), eR a0]) rfl rfl rfl ?_
  refine w_s (np := 121) (lv' := [some (eR a0), some (eI (zI a1)), some (eI (zI a2)), some (eI (zI v7)), some (eI (zI v16)), some (eI (zI v25)), some (eI (zI v33)), some (eI (zI v40)), some (eI (zI v48)), some (eJ (zJ v72)), none, some (eI (zI v83)), some (eI (zI v109))]) (st' := [eI (zI v33), eI (zI v48), eI (zI 1), eI (zI a2), eR a0]) rfl rfl rfl ?_
  refine w_s (np := 122) (lv' := [some (eR a0), some (eI (zI a1)), some (eI (zI a2)), some (eI (zI v7)), some (eI (zI v16)), some (eI (zI v25)), some (eI (zI v33)), some (eI (zI v40)), some (eI (zI v48)), some (eJ (zJ v72)), none, some (eI (zI v83)), some (eI (zI v109))]) (st' := [eI (zI 4), eI (zI v33), eI (zI v48), eI (zI 1), eI (zI a2), eR a0]) rfl rfl rfl ?_
  refine w_s (np := 124) (lv' := [some (eR a0), some (eI (zI a1)), some (eI (zI a2)), some (eI (zI v7)), some (eI (zI v16)), some (eI (zI v25)), some (eI (zI v33)), some (eI (zI v40)), some (eI (zI v48)), some (eJ (zJ v72)), none, some (eI (zI v83)), some (eI (zI v109))]) (st' := [eI (zI v40), eI (zI 4), eI (zI v33), eI (zI v48), eI (zI 1), eI (zI a2), eR a0]) rfl rfl rfl ?_
  obtain ⟨v111, ev111, h⟩ := z_l_ex h
  refine w_s (np := 125) (lv' := [some (eR a0), some (eI (zI a1)), some (eI (zI a2)), some (eI (zI v7)), some (eI (zI v16)), some (eI (zI v25)), some (eI (zI v33)), some (eI (zI v40)), some (eI (zI v48)), some (eJ (zJ v72)), none, some (eI (zI v83)), some (eI (zI v109))]) (st' := [eI (zI v111), eI (zI v33), eI (zI v48), eI (zI 1), eI (zI a2), eR a0]) rfl (s_imul ev111) rfl ?_
  clear ev111
  obtain ⟨v112, ev112, h⟩ := z_l_ex h
  refine w_s (np := 126) (lv' := [some (eR a0), some (eI (zI a1)), some (eI (zI a2)), some (eI (zI v7)), some (eI (zI v16)), some (eI (zI v25)), some (eI (zI v33)), some (eI (zI v40)), some (eI (zI v48)), some (eJ (zJ v72)), none, some (eI (zI v83)), some (eI (zI v109))]) (st' := [eI (zI v112), eI (zI v48), eI (zI 1), eI (zI a2), eR a0]) rfl (s_iadd ev112) rfl ?_
  clear ev112
  refine w_s (np := 128) (lv' := [some (eR a0), some (eI (zI a1)), some (eI (zI a2)), some (eI (zI v7)), some (eI (zI v16)), some (eI (zI v25)), some (eI (zI v33)), some (eI (zI v40)), some (eI (zI v48)), some (eJ (zJ v72)), none, some (eI (zI v83)), some (eI (zI v109))]) (st' := [eI (zI v33), eI (zI v112), eI (zI v48), eI (zI 1), eI (zI a2), eR a0]) rfl rfl rfl ?_
  refine w_s (np := 130) (lv' := [some (eR a0), some (eI (zI a1)), some (eI (zI a2)), some (eI (zI v7)), some (eI (zI v16)), some (eI (zI v25)), some (eI (zI v33)), some (eI (zI v40)), some (eI (zI v48)), some (eJ (zJ v72)), none, some (eI (zI v83)), some (eI (zI v109))]) (st' := [eI (zI 7), eI (zI v33), eI (zI v112), eI (zI v48), eI (zI 1), eI (zI a2), eR a0]) rfl rfl rfl ?_
  refine w_s (np := 132) (lv' := [some (eR a0), some (eI (zI a1)), some (eI (zI a2)), some (eI (zI v7)), some (eI (zI v16)), some (eI (zI v25)), some (eI (zI v33)), some (eI (zI v40)), some (eI (zI v48)), some (eJ (zJ v72)), none, some (eI (zI v83)), some (eI (zI v109))]) (st' := [eI (zI v40), eI (zI 7), eI (zI v33), eI (zI v112), eI (zI v48), eI (zI 1), eI (zI a2), eR a0]) rfl rfl rfl ?_
  obtain ⟨v113, ev113, h⟩ := z_l_ex h
  refine w_s (np := 133) (lv' := [some (eR a0), some (eI (zI a1)), some (eI (zI a2)), some (eI (zI v7)), some (eI (zI v16)), some (eI (zI v25)), some (eI (zI v33)), some (eI (zI v40)), some (eI (zI v48)), some (eJ (zJ v72)), none, some (eI (zI v83)), some (eI (zI v109))]) (st' := [eI (zI v113), eI (zI v33), eI (zI v112), eI (zI v48), eI (zI 1), eI (zI a2), eR a0]) rfl (s_imul ev113) rfl ?_
  clear ev113
  obtain ⟨v114, ev114, h⟩ := z_l_ex h
  refine w_s (np := 134) (lv' := [some (eR a0), some (eI (zI a1)), some (eI (zI a2)), some (eI (zI v7)), some (eI (zI v16)), some (eI (zI v25)), some (eI (zI v33)), some (eI (zI v40)), some (eI (zI v48)), some (eJ (zJ v72)), none, some (eI (zI v83)), some (eI (zI v109))]) (st' := [eI (zI v114), eI (zI v112), eI (zI v48), eI (zI 1), eI (zI a2), eR a0]) rfl (s_iadd ev114) rfl ?_
  clear ev114
  refine w_cv (np := 137) (as := [eI (zI a2), eI (zI 1), eI (zI v48), eI (zI v112), eI (zI v114)]) (lv' := [some (eR a0), some (eI (zI a2)), some (eI (zI 1)), some (eI (zI v48)), some (eI (zI v112)), some (eI (zI v114))]) (rest := []) rfl rfl rfl (Nat.ble_eq.mp rfl) rfl rfl rfl (hl107 _ _ hk) rfl ?_
  refine m_28_ok hG h hR106 (hl107 _ _ hk) p0 ?_
  intro M115 μ116 h hR117 hl119
  have hl118 := y_le.tr hl107 hl119
  show ex_fine fg rc rs (d + 2, (33, 137, [some (eR a0), some (eI (zI a1)), some (eI (zI a2)), some (eI (zI v7)), some (eI (zI v16)), some (eI (zI v25)), some (eI (zI v33)), some (eI (zI v40)), some (eI (zI v48)), some (eJ (zJ v72)), none, some (eI (zI v83)), some (eI (zI v109))], []), f :: F, μ116)
  refine w_s (np := 138) (lv' := [some (eR a0), some (eI (zI a1)), some (eI (zI a2)), some (eI (zI v7)), some (eI (zI v16)), some (eI (zI v25)), some (eI (zI v33)), some (eI (zI v40)), some (eI (zI v48)), some (eJ (zJ v72)), none, some (eI (zI v83)), some (eI (zI v109))]) (st' := [eR a0]) rfl (s_an rfl p0) rfl ?_
  refine w_s (np := 139) (lv' := [some (eR a0), some (eI (zI a1)), some (eI (zI a2)), some (eI (zI v7)), some (eI (zI v16)), some (eI (zI v25)), some (eI (zI v33)), some (eI (zI v40)), some (eI (zI v48)), some (eJ (zJ v72)), none, some (eI (zI v83)), some (eI (zI v109))]) (st' := [eI (zI a2), eR a0]) rfl rfl rfl ?_
  refine w_s (np := 141) (lv' := [some (eR a0), some (eI (zI a1)), some (eI (zI a2)), some (eI (zI v7)), some (eI (zI v16)), some (eI (zI v25)), some (eI (zI v33)), some (eI (zI v40)), some (eI (zI v48)), some (eJ (zJ v72)), none, some (eI (zI v83)), some (eI (zI v109))]) (st' := [eI (zI v109), eI (zI a2), eR a0]) rfl rfl rfl ?_
  refine w_s (np := 143) (lv' := [some (eR a0), some (eI (zI a1)), some (eI (zI a2)), some (eI (zI v7)), some (eI (zI v16)), some (eI (zI v25)), some (eI (zI v33)), some (eI (zI v40)), some (eI (zI v48)), some (eJ (zJ v72)), none, some (eI (zI v83)), some (eI (zI v109))]) (st' := [eI (zI v25), eI (zI v109), eI (zI a2), eR a0]) rfl rfl rfl ?_
  refine w_s (np := 144) (lv' := [some (eR a0), some (eI (zI a1)), some (eI (zI a2)), some (eI (zI v7)), some (eI (zI v16)), some (eI (zI v25)), some (eI (zI v33)), some (eI (zI v40)), some (eI (zI v48)), some (eJ (zJ v72)), none, some (eI (zI v83)), some (eI (zI v109))]) (st' := [eI (zI v7), eI (zI v25), eI (zI v109), eI (zI a2), eR a0]) rfl rfl rfl ?_
  refine w_cv (np := 147) (as := [eI (zI a2), eI (zI v109), eI (zI v25), eI (zI v7)]) (lv' := [some (eR a0), some (eI (zI a2)), some (eI (zI v109)), some (eI (zI v25)), some (eI (zI v7))]) (rest := []) rfl rfl rfl (Nat.ble_eq.mp rfl) rfl rfl rfl (hl118 _ _ hk) rfl ?_
  refine m_29_ok hG h hR117 (hl118 _ _ hk) p0 ?_
  intro M120 μ121 h hR122 hl124
  have hl123 := y_le.tr hl118 hl124
  show ex_fine fg rc rs (d + 2, (33, 147, [some (eR a0), some (eI (zI a1)), some (eI (zI a2)), some (eI (zI v7)), some (eI (zI v16)), some (eI (zI v25)), some (eI (zI v33)), some (eI (zI v40)), some (eI (zI v48)), some (eJ (zJ v72)), none, some (eI (zI v83)), some (eI (zI v109))], []), f :: F, μ121)
  refine w_s (np := 148) (lv' := [some (eR a0), some (eI (zI a1)), some (eI (zI a2)), some (eI (zI v7)), some (eI (zI v16)), some (eI (zI v25)), some (eI (zI v33)), some (eI (zI v40)), some (eI (zI v48)), some (eJ (zJ v72)), none, some (eI (zI v83)), some (eI (zI v109))]) (st' := [eR a0]) rfl (s_an rfl p0) rfl ?_
  refine w_s (np := 149) (lv' := [some (eR a0), some (eI (zI a1)), some (eI (zI a2)), some (eI (zI v7)), some (eI (zI v16)), some (eI (zI v25)), some (eI (zI v33)), some (eI (zI v40)), some (eI (zI v48)), some (eJ (zJ v72)), none, some (eI (zI v83)), some (eI (zI v109))]) (st' := [eI (zI a2), eR a0]) rfl rfl rfl ?_
  refine w_s (np := 150) (lv' := [some (eR a0), some (eI (zI a1)), some (eI (zI a2)), some (eI (zI v7)), some (eI (zI v16)), some (eI (zI v25)), some (eI (zI v33)), some (eI (zI v40)), some (eI (zI v48)), some (eJ (zJ v72)), none, some (eI (zI v83)), some (eI (zI v109))]) (st' := [eI (zI 1), eI (zI a2), eR a0]) rfl rfl rfl ?_
  obtain ⟨v125, ev125, h⟩ := z_l_ex h
  refine w_s (np := 151) (lv' := [some (eR a0), some (eI (zI a1)), some (eI (zI a2)), some (eI (zI v7)), some (eI (zI v16)), some (eI (zI v25)), some (eI (zI v33)), some (eI (zI v40)), some (eI (zI v48)), some (eJ (zJ v72)), none, some (eI (zI v83)), some (eI (zI v109))]) (st' := [eI (zI v125), eR a0]) rfl (s_iadd ev125) rfl ?_
  clear ev125
  refine w_s (np := 152) (lv' := [some (eR a0), some (eI (zI a1)), some (eI (zI a2)), some (eI (zI v7)), some (eI (zI v16)), some (eI (zI v25)), some (eI (zI v33)), some (eI (zI v40)), some (eI (zI v48)), some (eJ (zJ v72)), none, some (eI (zI v83)), some (eI (zI v109))]) (st' := [eI (zI 1), eI (zI v125), eR a0]) rfl rfl rfl ?_
  refine w_s (np := 154) (lv' := [some (eR a0), some (eI (zI a1)), some (eI (zI a2)), some (eI (zI v7)), some (eI (zI v16)), some (eI (zI v25)), some (eI (zI v33)), some (eI (zI v40)), some (eI (zI v48)), some (eJ (zJ v72)), none, some (eI (zI v83)), some (eI (zI v109))]) (st' := [eI (zI v48), eI (zI 1), eI (zI v125), eR a0]) rfl rfl rfl ?_
  refine w_s (np := 155) (lv' := [some (eR a0), some (eI (zI a1)), some (eI (zI a2)), some (eI (zI v7)), some (eI (zI v16)), some (eI (zI v25)), some (eI (zI v33)), some (eI (zI v40)), some (eI (zI v48)), some (eJ (zJ v72)), none, some (eI (zI v83)), some (eI (zI v109))]) (st' := [eI (zI 1), eI (zI v48), eI (zI 1), eI (zI v125), eR a0]) rfl rfl rfl ?_
  obtain ⟨v126, ev126, h⟩ := z_l_ex h
  refine w_s (np := 156) (lv' := [some (eR a0), some (eI (zI a1)), some (eI (zI a2)), some (eI (zI v7)), some (eI (zI v16)), some (eI (zI v25)), some (eI (zI v33)), some (eI (zI v40)), some (eI (zI v48)), some (eJ (zJ v72)), none, some (eI (zI v83)), some (eI (zI v109))]) (st' := [eI (zI v126), eI (zI 1), eI (zI v125), eR a0]) rfl (s_iadd ev126) rfl ?_
  clear ev126
  refine w_s (np := 158) (lv' := [some (eR a0), some (eI (zI a1)), some (eI (zI a2)), some (eI (zI v7)), some (eI (zI v16)), some (eI (zI v25)), some (eI (zI v33)), some (eI (zI v40)), some (eI (zI v48)), some (eJ (zJ v72)), none, some (eI (zI v83)), some (eI (zI v109))]) (st' := [eI (zI v33), eI (zI v126), eI (zI 1), eI (zI v125), eR a0]) rfl rfl rfl ?_
  refine w_s (np := 159) (lv' := [some (eR a0), some (eI (zI a1)), some (eI (zI a2)), some (eI (zI v7)), some (eI (zI v16)), some (eI (zI v25)), some (eI (zI v33)), some (eI (zI v40)), some (eI (zI v48)), some (eJ (zJ v72)), none, some (eI (zI v83)), some (eI (zI v109))]) (st' := [eI (zI 3), eI (zI v33), eI (zI v126), eI (zI 1), eI (zI v125), eR a0]) rfl rfl rfl ?_
  refine w_s (np := 161) (lv' := [some (eR a0), some (eI (zI a1)), some (eI (zI a2)), some (eI (zI v7)), some (eI (zI v16)), some (eI (zI v25)), some (eI (zI v33)), some (eI (zI v40)), some (eI (zI v48)), some (eJ (zJ v72)), none, some (eI (zI v83)), some (eI (zI v109))]) (st' := [eI (zI v40), eI (zI 3), eI (zI v33), eI (zI v126), eI (zI 1), eI (zI v125), eR a0]) rfl rfl rfl ?_
  obtain ⟨v127, ev127, h⟩ := z_l_ex h
  refine w_s (np := 162) (lv' := [some (eR a0), some (eI (zI a1)), some (eI (zI a2)), some (eI (zI v7)), some (eI (zI v16)), some (eI (zI v25)), some (eI (zI v33)), some (eI (zI v40)), some (eI (zI v48)), some (eJ (zJ v72)), none, some (eI (zI v83)), some (eI (zI v109))]) (st' := [eI (zI v127), eI (zI v33), eI (zI v126), eI (zI 1), eI (zI v125), eR a0]) rfl (s_imul ev127) rfl ?_
  clear ev127
  obtain ⟨v128, ev128, h⟩ := z_l_ex h
  refine w_s (np := 163) (lv' := [some (eR a0), some (eI (zI a1)), some (eI (zI a2)), some (eI (zI v7)), some (eI (zI v16)), some (eI (zI v25)), some (eI (zI v33)), some (eI (zI v40)), some (eI (zI v48)), some (eJ (zJ v72)), none, some (eI (zI v83)), some (eI (zI v109))]) (st' := [eI (zI v128), eI (zI v126), eI (zI 1), eI (zI v125), eR a0]) rfl (s_iadd ev128) rfl ?_
  clear ev128
  refine w_s (np := 165) (lv' := [some (eR a0), some (eI (zI a1)), some (eI (zI a2)), some (eI (zI v7)), some (eI (zI v16)), some (eI (zI v25)), some (eI (zI v33)), some (eI (zI v40)), some (eI (zI v48)), some (eJ (zJ v72)), none, some (eI (zI v83)), some (eI (zI v109))]) (st' := [eI (zI v33), eI (zI v128), eI (zI v126), eI (zI 1), eI (zI v125), eR a0]) rfl rfl rfl ?_
  refine w_cv (np := 168) (as := [eI (zI v125), eI (zI 1), eI (zI v126), eI (zI v128), eI (zI v33)]) (lv' := [some (eR a0), some (eI (zI v125)), some (eI (zI 1)), some (eI (zI v126)), some (eI (zI v128)), some (eI (zI v33))]) (rest := []) rfl rfl rfl (Nat.ble_eq.mp rfl) rfl rfl rfl (hl123 _ _ hk) rfl ?_
  refine m_28_ok hG h hR122 (hl123 _ _ hk) p0 ?_
  intro M129 μ130 h hR131 hl133
  have hl132 := y_le.tr hl123 hl133
  show ex_fine fg rc rs (d + 2, (33, 168, [some (eR a0), some (eI (zI a1)), some (eI (zI a2)), some (eI (zI v7)), some (eI (zI v16)), some (eI (zI v25)), some (eI (zI v33)), some (eI (zI v40)), some (eI (zI v48)), some (eJ (zJ v72)), none, some (eI (zI v83)), some (eI (zI v109))], []), f :: F, μ130)
  refine w_s (np := 169) (lv' := [some (eR a0), some (eI (zI a1)), some (eI (zI a2)), some (eI (zI v7)), some (eI (zI v16)), some (eI (zI v25)), some (eI (zI v33)), some (eI (zI v40)), some (eI (zI v48)), some (eJ (zJ v72)), none, some (eI (zI v83)), some (eI (zI v109))]) (st' := [eR a0]) rfl (s_an rfl p0) rfl ?_
  refine w_s (np := 170) (lv' := [some (eR a0), some (eI (zI a1)), some (eI (zI a2)), some (eI (zI v7)), some (eI (zI v16)), some (eI (zI v25)), some (eI (zI v33)), some (eI (zI v40)), some (eI (zI v48)), some (eJ (zJ v72)), none, some (eI (zI v83)), some (eI (zI v109))]) (st' := [eI (zI a2), eR a0]) rfl rfl rfl ?_
  refine w_s (np := 171) (lv' := [some (eR a0), some (eI (zI a1)), some (eI (zI a2)), some (eI (zI v7)), some (eI (zI v16)), some (eI (zI v25)), some (eI (zI v33)), some (eI (zI v40)), some (eI (zI v48)), some (eJ (zJ v72)), none, some (eI (zI v83)), some (eI (zI v109))]) (st' := [eI (zI 1), eI (zI a2), eR a0]) rfl rfl rfl ?_
  obtain ⟨v134, ev134, h⟩ := z_l_ex h
  refine w_s (np := 172) (lv' := [some (eR a0), some (eI (zI a1)), some (eI (zI a2)), some (eI (zI v7)), some (eI (zI v16)), some (eI (zI v25)), some (eI (zI v33)), some (eI (zI v40)), some (eI (zI v48)), some (eJ (zJ v72)), none, some (eI (zI v83)), some (eI (zI v109))]) (st' := [eI (zI v134), eR a0]) rfl (s_iadd ev134) rfl ?_
  clear ev134
  refine w_s (np := 174) (lv' := [some (eR a0), some (eI (zI a1)), some (eI (zI a2)), some (eI (zI v7)), some (eI (zI v16)), some (eI (zI v25)), some (eI (zI v33)), some (eI (zI v40)), some (eI (zI v48)), some (eJ (zJ v72)), none, some (eI (zI v83)), some (eI (zI v109))]) (st' := [eI (zI v83), eI (zI v134), eR a0]) rfl rfl rfl ?_
  refine w_s (np := 176) (lv' := [some (eR a0), some (eI (zI a1)), some (eI (zI a2)), some (eI (zI v7)), some (eI (zI v16)), some (eI (zI v25)), some (eI (zI v33)), some (eI (zI v40)), some (eI (zI v48)), some (eJ (zJ v72)), none, some (eI (zI v83)), some (eI (zI v109))]) (st' := [eI (zI v109), eI (zI v83), eI (zI v134), eR a0]) rfl rfl rfl ?_
  refine w_s (np := 178) (lv' := [some (eR a0), some (eI (zI a1)), some (eI (zI a2)), some (eI (zI v7)), some (eI (zI v16)), some (eI (zI v25)), some (eI (zI v33)), some (eI (zI v40)), some (eI (zI v48)), some (eJ (zJ v72)), none, some (eI (zI v83)), some (eI (zI v109))]) (st' := [eI (zI v16), eI (zI v109), eI (zI v83), eI (zI v134), eR a0]) rfl rfl rfl ?_
  refine w_cv (np := 181) (as := [eI (zI v134), eI (zI v83), eI (zI v109), eI (zI v16)]) (lv' := [some (eR a0), some (eI (zI v134)), some (eI (zI v83)), some (eI (zI v109)), some (eI (zI v16))]) (rest := []) rfl rfl rfl (Nat.ble_eq.mp rfl) rfl rfl rfl (hl132 _ _ hk) rfl ?_
  refine m_29_ok hG h hR131 (hl132 _ _ hk) p0 ?_
  intro M135 μ136 h hR137 hl139
  have hl138 := y_le.tr hl132 hl139
  show ex_fine fg rc rs (d + 2, (33, 181, [some (eR a0), some (eI (zI a1)), some (eI (zI a2)), some (eI (zI v7)), some (eI (zI v16)), some (eI (zI v25)), some (eI (zI v33)), some (eI (zI v40)), some (eI (zI v48)), some (eJ (zJ v72)), none, some (eI (zI v83)), some (eI (zI v109))], []), f :: F, μ136)
  refine w_s (np := 182) (lv' := [some (eR a0), some (eI (zI a1)), some (eI (zI a2)), some (eI (zI v7)), some (eI (zI v16)), some (eI (zI v25)), some (eI (zI v33)), some (eI (zI v40)), some (eI (zI v48)), some (eJ (zJ v72)), none, some (eI (zI v83)), some (eI (zI v109))]) (st' := [eR a0]) rfl (s_an rfl p0) rfl ?_
  refine w_s (np := 183) (lv' := [some (eR a0), some (eI (zI a1)), some (eI (zI a2)), some (eI (zI v7)), some (eI (zI v16)), some (eI (zI v25)), some (eI (zI v33)), some (eI (zI v40)), some (eI (zI v48)), some (eJ (zJ v72)), none, some (eI (zI v83)), some (eI (zI v109))]) (st' := [eI (zI a2), eR a0]) rfl rfl rfl ?_
  refine w_s (np := 184) (lv' := [some (eR a0), some (eI (zI a1)), some (eI (zI a2)), some (eI (zI v7)), some (eI (zI v16)), some (eI (zI v25)), some (eI (zI v33)), some (eI (zI v40)), some (eI (zI v48)), some (eJ (zJ v72)), none, some (eI (zI v83)), some (eI (zI v109))]) (st' := [eI (zI 2), eI (zI a2), eR a0]) rfl rfl rfl ?_
  obtain ⟨v140, ev140, h⟩ := z_l_ex h
  refine w_s (np := 185) (lv' := [some (eR a0), some (eI (zI a1)), some (eI (zI a2)), some (eI (zI v7)), some (eI (zI v16)), some (eI (zI v25)), some (eI (zI v33)), some (eI (zI v40)), some (eI (zI v48)), some (eJ (zJ v72)), none, some (eI (zI v83)), some (eI (zI v109))]) (st' := [eI (zI v140), eR a0]) rfl (s_iadd ev140) rfl ?_
  clear ev140
  refine w_s (np := 186) (lv' := [some (eR a0), some (eI (zI a1)), some (eI (zI a2)), some (eI (zI v7)), some (eI (zI v16)), some (eI (zI v25)), some (eI (zI v33)), some (eI (zI v40)), some (eI (zI v48)), some (eJ (zJ v72)), none, some (eI (zI v83)), some (eI (zI v109))]) (st' := [eI (zI 0), eI (zI v140), eR a0]) rfl rfl rfl ?_
  refine w_s (np := 188) (lv' := [some (eR a0), some (eI (zI a1)), some (eI (zI a2)), some (eI (zI v7)), some (eI (zI v16)), some (eI (zI v25)), some (eI (zI v33)), some (eI (zI v40)), some (eI (zI v48)), some (eJ (zJ v72)), none, some (eI (zI v83)), some (eI (zI v109))]) (st' := [eI (zI v48), eI (zI 0), eI (zI v140), eR a0]) rfl rfl rfl ?_
  refine w_s (np := 189) (lv' := [some (eR a0), some (eI (zI a1)), some (eI (zI a2)), some (eI (zI v7)), some (eI (zI v16)), some (eI (zI v25)), some (eI (zI v33)), some (eI (zI v40)), some (eI (zI v48)), some (eJ (zJ v72)), none, some (eI (zI v83)), some (eI (zI v109))]) (st' := [eI (zI 2), eI (zI v48), eI (zI 0), eI (zI v140), eR a0]) rfl rfl rfl ?_
  obtain ⟨v141, ev141, h⟩ := z_l_ex h
  refine w_s (np := 190) (lv' := [some (eR a0), some (eI (zI a1)), some (eI (zI a2)), some (eI (zI v7)), some (eI (zI v16)), some (eI (zI v25)), some (eI (zI v33)), some (eI (zI v40)), some (eI (zI v48)), some (eJ (zJ v72)), none, some (eI (zI v83)), some (eI (zI v109))]) (st' := [eI (zI v141), eI (zI 0), eI (zI v140), eR a0]) rfl (s_iadd ev141) rfl ?_
  clear ev141
  refine w_s (np := 192) (lv' := [some (eR a0), some (eI (zI a1)), some (eI (zI a2)), some (eI (zI v7)), some (eI (zI v16)), some (eI (zI v25)), some (eI (zI v33)), some (eI (zI v40)), some (eI (zI v48)), some (eJ (zJ v72)), none, some (eI (zI v83)), some (eI (zI v109))]) (st' := [eI (zI v33), eI (zI v141), eI (zI 0), eI (zI v140), eR a0]) rfl rfl rfl ?_
  refine w_s (np := 194) (lv' := [some (eR a0), some (eI (zI a1)), some (eI (zI a2)), some (eI (zI v7)), some (eI (zI v16)), some (eI (zI v25)), some (eI (zI v33)), some (eI (zI v40)), some (eI (zI v48)), some (eJ (zJ v72)), none, some (eI (zI v83)), some (eI (zI v109))]) (st' := [eI (zI 8), eI (zI v33), eI (zI v141), eI (zI 0), eI (zI v140), eR a0]) rfl rfl rfl ?_
  refine w_s (np := 196) (lv' := [some (eR a0), some (eI (zI a1)), some (eI (zI a2)), some (eI (zI v7)), some (eI (zI v16)), some (eI (zI v25)), some (eI (zI v33)), some (eI (zI v40)), some (eI (zI v48)), some (eJ (zJ v72)), none, some (eI (zI v83)), some (eI (zI v109))]) (st' := [eI (zI v40), eI (zI 8), eI (zI v33), eI (zI v141), eI (zI 0), eI (zI v140), eR a0]) rfl rfl rfl ?_
  obtain ⟨v142, ev142, h⟩ := z_l_ex h
  refine w_s (np := 197) (lv' := [some (eR a0), some (eI (zI a1)), some (eI (zI a2)), some (eI (zI v7)), some (eI (zI v16)), some (eI (zI v25)), some (eI (zI v33)), some (eI (zI v40)), some (eI (zI v48)), some (eJ (zJ v72)), none, some (eI (zI v83)), some (eI (zI v109))]) (st' := [eI (zI v142), eI (zI v33), eI (zI v141), eI (zI 0), eI (zI v140), eR a0]) rfl (s_imul ev142) rfl ?_
  clear ev142
  obtain ⟨v143, ev143, h⟩ := z_l_ex h
  refine w_s (np := 198) (lv' := [some (eR a0), some (eI (zI a1)), some (eI (zI a2)), some (eI (zI v7)), some (eI (zI v16)), some (eI (zI v25)), some (eI (zI v33)), some (eI (zI v40)), some (eI (zI v48)), some (eJ (zJ v72)), none, some (eI (zI v83)), some (eI (zI v109))]) (st' := [eI (zI v143), eI (zI v141), eI (zI 0), eI (zI v140), eR a0]) rfl (s_iadd ev143) rfl ?_
  clear ev143
  refine w_s (np := 200) (lv' := [some (eR a0), some (eI (zI a1)), some (eI (zI a2)), some (eI (zI v7)), some (eI (zI v16)), some (eI (zI v25)), some (eI (zI v33)), some (eI (zI v40)), some (eI (zI v48)), some (eJ (zJ v72)), none, some (eI (zI v83)), some (eI (zI v109))]) (st' := [eI (zI v33), eI (zI v143), eI (zI v141), eI (zI 0), eI (zI v140), eR a0]) rfl rfl rfl ?_
  refine w_s (np := 202) (lv' := [some (eR a0), some (eI (zI a1)), some (eI (zI a2)), some (eI (zI v7)), some (eI (zI v16)), some (eI (zI v25)), some (eI (zI v33)), some (eI (zI v40)), some (eI (zI v48)), some (eJ (zJ v72)), none, some (eI (zI v83)), some (eI (zI v109))]) (st' := [eI (zI 7), eI (zI v33), eI (zI v143), eI (zI v141), eI (zI 0), eI (zI v140), eR a0]) rfl rfl rfl ?_
  refine w_s (np := 204) (lv' := [some (eR a0), some (eI (zI a1)), some (eI (zI a2)), some (eI (zI v7)), some (eI (zI v16)), some (eI (zI v25)), some (eI (zI v33)), some (eI (zI v40)), some (eI (zI v48)), some (eJ (zJ v72)), none, some (eI (zI v83)), some (eI (zI v109))]) (st' := [eI (zI v40), eI (zI 7), eI (zI v33), eI (zI v143), eI (zI v141), eI (zI 0), eI (zI v140), eR a0]) rfl rfl rfl ?_
  obtain ⟨v144, ev144, h⟩ := z_l_ex h
  refine w_s (np := 205) (lv' := [some (eR a0), some (eI (zI a1)), some (eI (zI a2)), some (eI (zI v7)), some (eI (zI v16)), some (eI (zI v25)), some (eI (zI v33)), some (eI (zI v40)), some (eI (zI v48)), some (eJ (zJ v72)), none, some (eI (zI v83)), some (eI (zI v109))]) (st' := [eI (zI v144), eI (zI v33), eI (zI v143), eI (zI v141), eI (zI 0), eI (zI v140), eR a0]) rfl (s_imul ev144) rfl ?_
  clear ev144
  obtain ⟨v145, ev145, h⟩ := z_l_ex h
  refine w_s (np := 206) (lv' := [some (eR a0), some (eI (zI a1)), some (eI (zI a2)), some (eI (zI v7)), some (eI (zI v16)), some (eI (zI v25)), some (eI (zI v33)), some (eI (zI v40)), some (eI (zI v48)), some (eJ (zJ v72)), none, some (eI (zI v83)), some (eI (zI v109))]) (st' := [eI (zI v145), eI (zI v143), eI (zI v141), eI (zI 0), eI (zI v140), eR a0]) rfl (s_iadd ev145) rfl ?_
  clear ev145
  refine w_cv (np := 209) (as := [eI (zI v140), eI (zI 0), eI (zI v141), eI (zI v143), eI (zI v145)]) (lv' := [some (eR a0), some (eI (zI v140)), some (eI (zI 0)), some (eI (zI v141)), some (eI (zI v143)), some (eI (zI v145))]) (rest := []) rfl rfl rfl (Nat.ble_eq.mp rfl) rfl rfl rfl (hl138 _ _ hk) rfl ?_
  refine m_28_ok hG h hR137 (hl138 _ _ hk) p0 ?_
  intro M146 μ147 h hR148 hl150
  have hl149 := y_le.tr hl138 hl150
  show ex_fine fg rc rs (d + 2, (33, 209, [some (eR a0), some (eI (zI a1)), some (eI (zI a2)), some (eI (zI v7)), some (eI (zI v16)), some (eI (zI v25)), some (eI (zI v33)), some (eI (zI v40)), some (eI (zI v48)), some (eJ (zJ v72)), none, some (eI (zI v83)), some (eI (zI v109))], []), f :: F, μ147)
  refine w_s (np := 210) (lv' := [some (eR a0), some (eI (zI a1)), some (eI (zI a2)), some (eI (zI v7)), some (eI (zI v16)), some (eI (zI v25)), some (eI (zI v33)), some (eI (zI v40)), some (eI (zI v48)), some (eJ (zJ v72)), none, some (eI (zI v83)), some (eI (zI v109))]) (st' := [eR a0]) rfl (s_an rfl p0) rfl ?_
  refine w_s (np := 211) (lv' := [some (eR a0), some (eI (zI a1)), some (eI (zI a2)), some (eI (zI v7)), some (eI (zI v16)), some (eI (zI v25)), some (eI (zI v33)), some (eI (zI v40)), some (eI (zI v48)), some (eJ (zJ v72)), none, some (eI (zI v83)), some (eI (zI v109))]) (st' := [eI (zI a2), eR a0]) rfl rfl rfl ?_
  refine w_s (np := 212) (lv' := [some (eR a0), some (eI (zI a1)), some (eI (zI a2)), some (eI (zI v7)), some (eI (zI v16)), some (eI (zI v25)), some (eI (zI v33)), some (eI (zI v40)), some (eI (zI v48)), some (eJ (zJ v72)), none, some (eI (zI v83)), some (eI (zI v109))]) (st' := [eI (zI 2), eI (zI a2), eR a0]) rfl rfl rfl ?_
  obtain ⟨v151, ev151, h⟩ := z_l_ex h
  refine w_s (np := 213) (lv' := [some (eR a0), some (eI (zI a1)), some (eI (zI a2)), some (eI (zI v7)), some (eI (zI v16)), some (eI (zI v25)), some (eI (zI v33)), some (eI (zI v40)), some (eI (zI v48)), some (eJ (zJ v72)), none, some (eI (zI v83)), some (eI (zI v109))]) (st' := [eI (zI v151), eR a0]) rfl (s_iadd ev151) rfl ?_
  clear ev151
  refine w_s (np := 215) (lv' := [some (eR a0), some (eI (zI a1)), some (eI (zI a2)), some (eI (zI v7)), some (eI (zI v16)), some (eI (zI v25)), some (eI (zI v33)), some (eI (zI v40)), some (eI (zI v48)), some (eJ (zJ v72)), none, some (eI (zI v83)), some (eI (zI v109))]) (st' := [eI (zI v109), eI (zI v151), eR a0]) rfl rfl rfl ?_
  refine w_s (np := 217) (lv' := [some (eR a0), some (eI (zI a1)), some (eI (zI a2)), some (eI (zI v7)), some (eI (zI v16)), some (eI (zI v25)), some (eI (zI v33)), some (eI (zI v40)), some (eI (zI v48)), some (eJ (zJ v72)), none, some (eI (zI v83)), some (eI (zI v109))]) (st' := [eI (zI v83), eI (zI v109), eI (zI v151), eR a0]) rfl rfl rfl ?_
  refine w_s (np := 218) (lv' := [some (eR a0), some (eI (zI a1)), some (eI (zI a2)), some (eI (zI v7)), some (eI (zI v16)), some (eI (zI v25)), some (eI (zI v33)), some (eI (zI v40)), some (eI (zI v48)), some (eJ (zJ v72)), none, some (eI (zI v83)), some (eI (zI v109))]) (st' := [eI (zI v7), eI (zI v83), eI (zI v109), eI (zI v151), eR a0]) rfl rfl rfl ?_
  refine w_cv (np := 221) (as := [eI (zI v151), eI (zI v109), eI (zI v83), eI (zI v7)]) (lv' := [some (eR a0), some (eI (zI v151)), some (eI (zI v109)), some (eI (zI v83)), some (eI (zI v7))]) (rest := []) rfl rfl rfl (Nat.ble_eq.mp rfl) rfl rfl rfl (hl149 _ _ hk) rfl ?_
  refine m_29_ok hG h hR148 (hl149 _ _ hk) p0 ?_
  intro M152 μ153 h hR154 hl156
  have hl155 := y_le.tr hl149 hl156
  show ex_fine fg rc rs (d + 2, (33, 221, [some (eR a0), some (eI (zI a1)), some (eI (zI a2)), some (eI (zI v7)), some (eI (zI v16)), some (eI (zI v25)), some (eI (zI v33)), some (eI (zI v40)), some (eI (zI v48)), some (eJ (zJ v72)), none, some (eI (zI v83)), some (eI (zI v109))], []), f :: F, μ153)
  exact v_rv rfl rfl (hK _ _ h hR154 hl155)
/-! RhombInflator$Ring.key -/
noncomputable def m_71 (a0 a1 a2 a3 : Nat) (M : yM) (K : Nat → yM → Bool) : Bool := z_l (z_i2l a0) fun v1 => z_l (z_land v1 65535) fun v2 => z_l (z_lshl v2 48) fun v3 => z_l (z_i2l a1) fun v4 => z_l (z_land v4 65535) fun v5 => z_l (z_lshl v5 32) fun v6 => z_l (z_lor v3 v6) fun v7 => z_l (z_i2l a2) fun v8 => z_l (z_land v8 65535) fun v9 => z_l (z_lshl v9 16) fun v10 => z_l (z_lor v7 v10) fun v11 => z_l (z_i2l a3) fun v12 => z_l (z_land v12 65535) fun v13 => z_l (z_lor v11 v13) fun v14 => K v14 M
theorem m_71_ok {fg : eG} {rc rs d : Nat} {f : eFr} {F : List eFr} {M : yM} {μ0 : eM} {a0 a1 a2 a3 : Nat} {K : Nat → yM → Bool} (hG : yG fg y_T) (h : m_71 a0 a1 a2 a3 M K = true) (hR : yR M μ0) (hK : ∀ (r : Nat) (M : yM) (μ : eM), K r M = true → yR M μ → y_le μ0 μ → ex_fine fg rc rs (d + 1, (f.1, f.2.1, f.2.2.1, eJ (zJ r) :: f.2.2.2), F, μ)) : ex_fine fg rc rs (d, (71, 0, [some (eI (zI a0)), some (eI (zI a1)), some (eI (zI a2)), some (eI (zI a3))], []), f :: F, μ0) := by
  unfold m_71 at h
  have hl := y_le_r μ0
  refine w_s (np := 1) (lv' := [some (eI (zI a0)), some (eI (zI a1)), some (eI (zI a2)), some (eI (zI a3))]) (st' := [eI (zI a0)]) rfl rfl rfl ?_
  obtain ⟨v1, ev1, h⟩ := z_l_ex h
  refine w_s (np := 2) (lv' := [some (eI (zI a0)), some (eI (zI a1)), some (eI (zI a2)), some (eI (zI a3))]) (st' := [eJ (zJ v1)]) rfl (s_i2l ev1) rfl ?_
  clear ev1
  refine v_l2 (np := 5) (c := 65535) rfl rfl (by decide) ?_
  obtain ⟨v2, ev2, h⟩ := z_l_ex h
  refine w_s (np := 6) (lv' := [some (eI (zI a0)), some (eI (zI a1)), some (eI (zI a2)), some (eI (zI a3))]) (st' := [eJ (zJ v2)]) rfl (s_land ev2) rfl ?_
  clear ev2
  refine w_s (np := 8) (lv' := [some (eI (zI a0)), some (eI (zI a1)), some (eI (zI a2)), some (eI (zI a3))]) (st' := [eI (zI 48), eJ (zJ v2)]) rfl rfl rfl ?_
  obtain ⟨v3, ev3, h⟩ := z_l_ex h
  refine w_s (np := 9) (lv' := [some (eI (zI a0)), some (eI (zI a1)), some (eI (zI a2)), some (eI (zI a3))]) (st' := [eJ (zJ v3)]) rfl (s_lshl (by decide) ev3) rfl ?_
  clear ev3
  refine w_s (np := 10) (lv' := [some (eI (zI a0)), some (eI (zI a1)), some (eI (zI a2)), some (eI (zI a3))]) (st' := [eI (zI a1), eJ (zJ v3)]) rfl rfl rfl ?_
  obtain ⟨v4, ev4, h⟩ := z_l_ex h
  refine w_s (np := 11) (lv' := [some (eI (zI a0)), some (eI (zI a1)), some (eI (zI a2)), some (eI (zI a3))]) (st' := [eJ (zJ v4), eJ (zJ v3)]) rfl (s_i2l ev4) rfl ?_
  clear ev4
  refine v_l2 (np := 14) (c := 65535) rfl rfl (by decide) ?_
  obtain ⟨v5, ev5, h⟩ := z_l_ex h
  refine w_s (np := 15) (lv' := [some (eI (zI a0)), some (eI (zI a1)), some (eI (zI a2)), some (eI (zI a3))]) (st' := [eJ (zJ v5), eJ (zJ v3)]) rfl (s_land ev5) rfl ?_
  clear ev5
  refine w_s (np := 17) (lv' := [some (eI (zI a0)), some (eI (zI a1)), some (eI (zI a2)), some (eI (zI a3))]) (st' := [eI (zI 32), eJ (zJ v5), eJ (zJ v3)]) rfl rfl rfl ?_
  obtain ⟨v6, ev6, h⟩ := z_l_ex h
  refine w_s (np := 18) (lv' := [some (eI (zI a0)), some (eI (zI a1)), some (eI (zI a2)), some (eI (zI a3))]) (st' := [eJ (zJ v6), eJ (zJ v3)]) rfl (s_lshl (by decide) ev6) rfl ?_
  clear ev6
  obtain ⟨v7, ev7, h⟩ := z_l_ex h
  refine w_s (np := 19) (lv' := [some (eI (zI a0)), some (eI (zI a1)), some (eI (zI a2)), some (eI (zI a3))]) (st' := [eJ (zJ v7)]) rfl (s_lor ev7) rfl ?_
  clear ev7
  refine w_s (np := 20) (lv' := [some (eI (zI a0)), some (eI (zI a1)), some (eI (zI a2)), some (eI (zI a3))]) (st' := [eI (zI a2), eJ (zJ v7)]) rfl rfl rfl ?_
  obtain ⟨v8, ev8, h⟩ := z_l_ex h
  refine w_s (np := 21) (lv' := [some (eI (zI a0)), some (eI (zI a1)), some (eI (zI a2)), some (eI (zI a3))]) (st' := [eJ (zJ v8), eJ (zJ v7)]) rfl (s_i2l ev8) rfl ?_
  clear ev8
  refine v_l2 (np := 24) (c := 65535) rfl rfl (by decide) ?_
  obtain ⟨v9, ev9, h⟩ := z_l_ex h
  refine w_s (np := 25) (lv' := [some (eI (zI a0)), some (eI (zI a1)), some (eI (zI a2)), some (eI (zI a3))]) (st' := [eJ (zJ v9), eJ (zJ v7)]) rfl (s_land ev9) rfl ?_
  clear ev9
  refine w_s (np := 27) (lv' := [some (eI (zI a0)), some (eI (zI a1)), some (eI (zI a2)), some (eI (zI a3))]) (st' := [eI (zI 16), eJ (zJ v9), eJ (zJ v7)]) rfl rfl rfl ?_
  obtain ⟨v10, ev10, h⟩ := z_l_ex h
  refine w_s (np := 28) (lv' := [some (eI (zI a0)), some (eI (zI a1)), some (eI (zI a2)), some (eI (zI a3))]) (st' := [eJ (zJ v10), eJ (zJ v7)]) rfl (s_lshl (by decide) ev10) rfl ?_
  clear ev10
  obtain ⟨v11, ev11, h⟩ := z_l_ex h
  refine w_s (np := 29) (lv' := [some (eI (zI a0)), some (eI (zI a1)), some (eI (zI a2)), some (eI (zI a3))]) (st' := [eJ (zJ v11)]) rfl (s_lor ev11) rfl ?_
  clear ev11
  refine w_s (np := 30) (lv' := [some (eI (zI a0)), some (eI (zI a1)), some (eI (zI a2)), some (eI (zI a3))]) (st' := [eI (zI a3), eJ (zJ v11)]) rfl rfl rfl ?_
  obtain ⟨v12, ev12, h⟩ := z_l_ex h
  refine w_s (np := 31) (lv' := [some (eI (zI a0)), some (eI (zI a1)), some (eI (zI a2)), some (eI (zI a3))]) (st' := [eJ (zJ v12), eJ (zJ v11)]) rfl (s_i2l ev12) rfl ?_
  clear ev12
  refine v_l2 (np := 34) (c := 65535) rfl rfl (by decide) ?_
  obtain ⟨v13, ev13, h⟩ := z_l_ex h
  refine w_s (np := 35) (lv' := [some (eI (zI a0)), some (eI (zI a1)), some (eI (zI a2)), some (eI (zI a3))]) (st' := [eJ (zJ v13), eJ (zJ v11)]) rfl (s_land ev13) rfl ?_
  clear ev13
  obtain ⟨v14, ev14, h⟩ := z_l_ex h
  refine w_s (np := 36) (lv' := [some (eI (zI a0)), some (eI (zI a1)), some (eI (zI a2)), some (eI (zI a3))]) (st' := [eJ (zJ v14)]) rfl (s_lor ev14) rfl ?_
  clear ev14
  exact v_rl rfl rfl (hK _ _ _ h hR hl)
/-! RhombInflator$Ring.part -/
noncomputable def m_73 (a0 a2 : Nat) (M : yM) (K : Nat → yM → Bool) : Bool := z_l (z_mul 16 a2) fun v1 => z_l (z_sub 48 v1) fun v2 => f_if false (Nat.ble v2 63) (z_l (z_lshr a0 v2) fun v4 => z_l (z_l2i v4) fun v5 => z_l (z_i2s v5) fun v6 => K v6 M)
theorem m_73_ok {fg : eG} {rc rs d : Nat} {f : eFr} {F : List eFr} {M : yM} {μ0 : eM} {a0 a2 : Nat} {K : Nat → yM → Bool} (hG : yG fg y_T) (h : m_73 a0 a2 M K = true) (hR : yR M μ0) (hK : ∀ (r : Nat) (M : yM) (μ : eM), K r M = true → yR M μ → y_le μ0 μ → ex_fine fg rc rs (d + 1, (f.1, f.2.1, f.2.2.1, eI (zI r) :: f.2.2.2), F, μ)) : ex_fine fg rc rs (d, (73, 0, [some (eJ (zJ a0)), none, some (eI (zI a2))], []), f :: F, μ0) := by
  unfold m_73 at h
  have hl := y_le_r μ0
  refine w_s (np := 1) (lv' := [some (eJ (zJ a0)), none, some (eI (zI a2))]) (st' := [eJ (zJ a0)]) rfl rfl rfl ?_
  refine w_s (np := 3) (lv' := [some (eJ (zJ a0)), none, some (eI (zI a2))]) (st' := [eI (zI 48), eJ (zJ a0)]) rfl rfl rfl ?_
  refine w_s (np := 5) (lv' := [some (eJ (zJ a0)), none, some (eI (zI a2))]) (st' := [eI (zI 16), eI (zI 48), eJ (zJ a0)]) rfl rfl rfl ?_
  refine w_s (np := 6) (lv' := [some (eJ (zJ a0)), none, some (eI (zI a2))]) (st' := [eI (zI a2), eI (zI 16), eI (zI 48), eJ (zJ a0)]) rfl rfl rfl ?_
  obtain ⟨v1, ev1, h⟩ := z_l_ex h
  refine w_s (np := 7) (lv' := [some (eJ (zJ a0)), none, some (eI (zI a2))]) (st' := [eI (zI v1), eI (zI 48), eJ (zJ a0)]) rfl (s_imul ev1) rfl ?_
  clear ev1
  obtain ⟨v2, ev2, h⟩ := z_l_ex h
  refine w_s (np := 8) (lv' := [some (eJ (zJ a0)), none, some (eI (zI a2))]) (st' := [eI (zI v2), eJ (zJ a0)]) rfl (s_isub ev2) rfl ?_
  clear ev2
  obtain ⟨g3, h⟩ := f_if_ok h
  obtain ⟨v4, ev4, h⟩ := z_l_ex h
  refine w_s (np := 9) (lv' := [some (eJ (zJ a0)), none, some (eI (zI a2))]) (st' := [eJ (zJ v4)]) rfl (s_lshr (Nat.ble_eq.mp g3) ev4) rfl ?_
  clear ev4
  obtain ⟨v5, ev5, h⟩ := z_l_ex h
  refine w_s (np := 10) (lv' := [some (eJ (zJ a0)), none, some (eI (zI a2))]) (st' := [eI (zI v5)]) rfl (s_l2i ev5) rfl ?_
  clear ev5
  obtain ⟨v6, ev6, h⟩ := z_l_ex h
  refine w_s (np := 11) (lv' := [some (eJ (zJ a0)), none, some (eI (zI a2))]) (st' := [eI (zI v6)]) rfl (s_i2s ev6) rfl ?_
  clear ev6
  exact v_ri rfl rfl (hK _ _ _ h hR hl)
/-! RhombInflator$Ring.timesGold -/
noncomputable def m_79 (a0 : Nat) (M : yM) (K : Nat → yM → Bool) : Bool := m_73 a0 0 M fun v6 M1 => m_73 a0 1 M1 fun v12 M7 => m_73 a0 2 M7 fun v18 M13 => m_73 a0 3 M13 fun v24 M19 => z_l (z_add v6 v12) fun v25 => z_l (z_sub v25 v24) fun v26 => z_l (z_add v18 v24) fun v27 => z_l (z_add v6 v12) fun v28 => z_l (z_add v18 v24) fun v29 => z_l (z_sub v29 v6) fun v30 => m_71 v26 v27 v28 v30 M19 fun v36 M31 => K v36 M31
theorem m_79_ok {fg : eG} {rc rs d : Nat} {f : eFr} {F : List eFr} {M : yM} {μ0 : eM} {a0 : Nat} {K : Nat → yM → Bool} (hG : yG fg y_T) (h : m_79 a0 M K = true) (hR : yR M μ0) (hK : ∀ (r : Nat) (M : yM) (μ : eM), K r M = true → yR M μ → y_le μ0 μ → ex_fine fg rc rs (d + 2, (f.1, f.2.1, f.2.2.1, eJ (zJ r) :: f.2.2.2), F, μ)) : ex_fine fg rc rs (d + 1, (79, 0, [some (eJ (zJ a0)), none, none, none, none, none], []), f :: F, μ0) := by
  unfold m_79 at h
  have hl := y_le_r μ0
  refine w_s (np := 1) (lv' := [some (eJ (zJ a0)), none, none, none, none, none]) (st' := [eJ (zJ a0)]) rfl rfl rfl ?_
  refine w_s (np := 2) (lv' := [some (eJ (zJ a0)), none, none, none, none, none]) (st' := [eI (zI 0), eJ (zJ a0)]) rfl rfl rfl ?_
  refine w_cs (np := 5) (as := [eJ (zJ a0), eI (zI 0)]) (lv' := [some (eJ (zJ a0)), none, some (eI (zI 0))]) (rest := []) rfl rfl rfl (Nat.ble_eq.mp rfl) rfl rfl rfl rfl ?_
  refine m_73_ok hG h hR ?_
  intro v6 M1 μ2 h hR3 hl5
  have hl4 := y_le.tr hl hl5
  show ex_fine fg rc rs (d + 1, (79, 5, [some (eJ (zJ a0)), none, none, none, none, none], [eI (zI v6)]), f :: F, μ2)
  refine w_s (np := 6) (lv' := [some (eJ (zJ a0)), none, some (eI (zI v6)), none, none, none]) (st' := []) rfl rfl rfl ?_
  refine w_s (np := 7) (lv' := [some (eJ (zJ a0)), none, some (eI (zI v6)), none, none, none]) (st' := [eJ (zJ a0)]) rfl rfl rfl ?_
  refine w_s (np := 8) (lv' := [some (eJ (zJ a0)), none, some (eI (zI v6)), none, none, none]) (st' := [eI (zI 1), eJ (zJ a0)]) rfl rfl rfl ?_
  refine w_cs (np := 11) (as := [eJ (zJ a0), eI (zI 1)]) (lv' := [some (eJ (zJ a0)), none, some (eI (zI 1))]) (rest := []) rfl rfl rfl (Nat.ble_eq.mp rfl) rfl rfl rfl rfl ?_
  refine m_73_ok hG h hR3 ?_
  intro v12 M7 μ8 h hR9 hl11
  have hl10 := y_le.tr hl4 hl11
  show ex_fine fg rc rs (d + 1, (79, 11, [some (eJ (zJ a0)), none, some (eI (zI v6)), none, none, none], [eI (zI v12)]), f :: F, μ8)
  refine w_s (np := 12) (lv' := [some (eJ (zJ a0)), none, some (eI (zI v6)), some (eI (zI v12)), none, none]) (st' := []) rfl rfl rfl ?_
  refine w_s (np := 13) (lv' := [some (eJ (zJ a0)), none, some (eI (zI v6)), some (eI (zI v12)), none, none]) (st' := [eJ (zJ a0)]) rfl rfl rfl ?_
  refine w_s (np := 14) (lv' := [some (eJ (zJ a0)), none, some (eI (zI v6)), some (eI (zI v12)), none, none]) (st' := [eI (zI 2), eJ (zJ a0)]) rfl rfl rfl ?_
  refine w_cs (np := 17) (as := [eJ (zJ a0), eI (zI 2)]) (lv' := [some (eJ (zJ a0)), none, some (eI (zI 2))]) (rest := []) rfl rfl rfl (Nat.ble_eq.mp rfl) rfl rfl rfl rfl ?_
  refine m_73_ok hG h hR9 ?_
  intro v18 M13 μ14 h hR15 hl17
  have hl16 := y_le.tr hl10 hl17
  show ex_fine fg rc rs (d + 1, (79, 17, [some (eJ (zJ a0)), none, some (eI (zI v6)), some (eI (zI v12)), none, none], [eI (zI v18)]), f :: F, μ14)
  refine w_s (np := 19) (lv' := [some (eJ (zJ a0)), none, some (eI (zI v6)), some (eI (zI v12)), some (eI (zI v18)), none]) (st' := []) rfl rfl rfl ?_
  refine w_s (np := 20) (lv' := [some (eJ (zJ a0)), none, some (eI (zI v6)), some (eI (zI v12)), some (eI (zI v18)), none]) (st' := [eJ (zJ a0)]) rfl rfl rfl ?_
  refine w_s (np := 21) (lv' := [some (eJ (zJ a0)), none, some (eI (zI v6)), some (eI (zI v12)), some (eI (zI v18)), none]) (st' := [eI (zI 3), eJ (zJ a0)]) rfl rfl rfl ?_
  refine w_cs (np := 24) (as := [eJ (zJ a0), eI (zI 3)]) (lv' := [some (eJ (zJ a0)), none, some (eI (zI 3))]) (rest := []) rfl rfl rfl (Nat.ble_eq.mp rfl) rfl rfl rfl rfl ?_
  refine m_73_ok hG h hR15 ?_
  intro v24 M19 μ20 h hR21 hl23
  have hl22 := y_le.tr hl16 hl23
  show ex_fine fg rc rs (d + 1, (79, 24, [some (eJ (zJ a0)), none, some (eI (zI v6)), some (eI (zI v12)), some (eI (zI v18)), none], [eI (zI v24)]), f :: F, μ20)
  refine w_s (np := 26) (lv' := [some (eJ (zJ a0)), none, some (eI (zI v6)), some (eI (zI v12)), some (eI (zI v18)), some (eI (zI v24))]) (st' := []) rfl rfl rfl ?_
  refine w_s (np := 27) (lv' := [some (eJ (zJ a0)), none, some (eI (zI v6)), some (eI (zI v12)), some (eI (zI v18)), some (eI (zI v24))]) (st' := [eI (zI v6)]) rfl rfl rfl ?_
  refine w_s (np := 28) (lv' := [some (eJ (zJ a0)), none, some (eI (zI v6)), some (eI (zI v12)), some (eI (zI v18)), some (eI (zI v24))]) (st' := [eI (zI v12), eI (zI v6)]) rfl rfl rfl ?_
  obtain ⟨v25, ev25, h⟩ := z_l_ex h
  refine w_s (np := 29) (lv' := [some (eJ (zJ a0)), none, some (eI (zI v6)), some (eI (zI v12)), some (eI (zI v18)), some (eI (zI v24))]) (st' := [eI (zI v25)]) rfl (s_iadd ev25) rfl ?_
  clear ev25
  refine w_s (np := 31) (lv' := [some (eJ (zJ a0)), none, some (eI (zI v6)), some (eI (zI v12)), some (eI (zI v18)), some (eI (zI v24))]) (st' := [eI (zI v24), eI (zI v25)]) rfl rfl rfl ?_
  obtain ⟨v26, ev26, h⟩ := z_l_ex h
  refine w_s (np := 32) (lv' := [some (eJ (zJ a0)), none, some (eI (zI v6)), some (eI (zI v12)), some (eI (zI v18)), some (eI (zI v24))]) (st' := [eI (zI v26)]) rfl (s_isub ev26) rfl ?_
  clear ev26
  refine w_s (np := 34) (lv' := [some (eJ (zJ a0)), none, some (eI (zI v6)), some (eI (zI v12)), some (eI (zI v18)), some (eI (zI v24))]) (st' := [eI (zI v18), eI (zI v26)]) rfl rfl rfl ?_
  refine w_s (np := 36) (lv' := [some (eJ (zJ a0)), none, some (eI (zI v6)), some (eI (zI v12)), some (eI (zI v18)), some (eI (zI v24))]) (st' := [eI (zI v24), eI (zI v18), eI (zI v26)]) rfl rfl rfl ?_
  obtain ⟨v27, ev27, h⟩ := z_l_ex h
  refine w_s (np := 37) (lv' := [some (eJ (zJ a0)), none, some (eI (zI v6)), some (eI (zI v12)), some (eI (zI v18)), some (eI (zI v24))]) (st' := [eI (zI v27), eI (zI v26)]) rfl (s_iadd ev27) rfl ?_
  clear ev27
  refine w_s (np := 38) (lv' := [some (eJ (zJ a0)), none, some (eI (zI v6)), some (eI (zI v12)), some (eI (zI v18)), some (eI (zI v24))]) (st' := [eI (zI v6), eI (zI v27), eI (zI v26)]) rfl rfl rfl ?_
  refine w_s (np := 39) (lv' := [some (eJ (zJ a0)), none, some (eI (zI v6)), some (eI (zI v12)), some (eI (zI v18)), some (eI (zI v24))]) (st' := [eI (zI v12), eI (zI v6), eI (zI v27), eI (zI v26)]) rfl rfl rfl ?_
  obtain ⟨v28, ev28, h⟩ := z_l_ex h
  refine w_s (np := 40) (lv' := [some (eJ (zJ a0)), none, some (eI (zI v6)), some (eI (zI v12)), some (eI (zI v18)), some (eI (zI v24))]) (st' := [eI (zI v28), eI (zI v27), eI (zI v26)]) rfl (s_iadd ev28) rfl ?_
  clear ev28
  refine w_s (np := 42) (lv' := [some (eJ (zJ a0)), none, some (eI (zI v6)), some (eI (zI v12)), some (eI (zI v18)), some (eI (zI v24))]) (st' := [eI (zI v18), eI (zI v28), eI (zI v27), eI (zI v26)]) rfl rfl rfl ?_
  refine w_s (np := 44) (lv' := [some (eJ (zJ a0)), none, some (eI (zI v6)), some (eI (zI v12)), some (eI (zI v18)), some (eI (zI v24))]) (st' := [eI (zI v24), eI (zI v18), eI (zI v28), eI (zI v27), eI (zI v26)]) rfl rfl rfl ?_
  obtain ⟨v29, ev29, h⟩ := z_l_ex h
  refine w_s (np := 45) (lv' := [some (eJ (zJ a0)), none, some (eI (zI v6)), some (eI (zI v12)), some (eI (zI v18)), some (eI (zI v24))]) (st' := [eI (zI v29), eI (zI v28), eI (zI v27), eI (zI v26)]) rfl (s_iadd ev29) rfl ?_
  clear ev29
  refine w_s (np := 46) (lv' := [some (eJ (zJ a0)), none, some (eI (zI v6)), some (eI (zI v12)), some (eI (zI v18)), some (eI (zI v24))]) (st' := [eI (zI v6), eI (zI v29), eI (zI v28), eI (zI v27), eI (zI v26)]) rfl rfl rfl ?_
  obtain ⟨v30, ev30, h⟩ := z_l_ex h
  refine w_s (np := 47) (lv' := [some (eJ (zJ a0)), none, some (eI (zI v6)), some (eI (zI v12)), some (eI (zI v18)), some (eI (zI v24))]) (st' := [eI (zI v30), eI (zI v28), eI (zI v27), eI (zI v26)]) rfl (s_isub ev30) rfl ?_
  clear ev30
  refine w_cs (np := 50) (as := [eI (zI v26), eI (zI v27), eI (zI v28), eI (zI v30)]) (lv' := [some (eI (zI v26)), some (eI (zI v27)), some (eI (zI v28)), some (eI (zI v30))]) (rest := []) rfl rfl rfl (Nat.ble_eq.mp rfl) rfl rfl rfl rfl ?_
  refine m_71_ok hG h hR21 ?_
  intro v36 M31 μ32 h hR33 hl35
  have hl34 := y_le.tr hl22 hl35
  show ex_fine fg rc rs (d + 1, (79, 50, [some (eJ (zJ a0)), none, some (eI (zI v6)), some (eI (zI v12)), some (eI (zI v18)), some (eI (zI v24))], [eJ (zJ v36)]), f :: F, μ32)
  exact v_rl rfl rfl (hK _ _ _ h hR33 hl34)
/-! java/util/Arrays.copyOf -/
noncomputable def m_367 (a0 a1 : Nat) (M : yM) (K : Nat → yM → Bool) : Bool := y_ln y_T M a0 fun v1 => z_if (z_eq a1 v1) (false) (y_na M 101 a1 fun r5 M6 => y_ln y_T M6 a0 fun v14 => m_364 v14 a1 M6 fun v22 M17 => y_cp M17 a0 r5 v22 fun M23 => K r5 M23)
theorem m_367_ok {fg : eG} {rc rs d : Nat} {f : eFr} {F : List eFr} {M : yM} {μ0 : eM} {a0 a1 : Nat} {K : Nat → yM → Bool} (hG : yG fg y_T) (h : m_367 a0 a1 M K = true) (hR : yR M μ0) (p0 : 0 < a0) (hK : ∀ (r : Nat) (M : yM) (μ : eM), K r M = true → yR M μ → y_le μ0 μ → ex_fine fg rc rs (d + 2, (f.1, f.2.1, f.2.2.1, eR r :: f.2.2.2), F, μ)) : ex_fine fg rc rs (d + 1, (367, 0, [some (eR a0), some (eI (zI a1)), none], []), f :: F, μ0) := by
  unfold m_367 at h
  have hl := y_le_r μ0
  refine w_s (np := 1) (lv' := [some (eR a0), some (eI (zI a1)), none]) (st' := [eI (zI a1)]) rfl rfl rfl ?_
  refine w_s (np := 2) (lv' := [some (eR a0), some (eI (zI a1)), none]) (st' := [eR a0, eI (zI a1)]) rfl (s_an rfl p0) rfl ?_
  obtain ⟨v1, h, n2, k3⟩ := y_ln_ok h hR hG
  refine v_ln (np := 3) rfl rfl k3 ?_
  rcases z_if_t h with ⟨g4, h⟩ | ⟨g4, h⟩
  · refine v_ne_f (t1 := 14) rfl rfl g4 ?_
    refine w_s (np := 7) (lv' := [some (eR a0), some (eI (zI a1)), none]) (st' := [eR a0]) rfl (s_an rfl p0) rfl ?_
    exact absurd h Bool.false_ne_true
  · refine v_ne_t (t1 := 14) rfl rfl g4 ?_
    refine w_s (np := 15) (lv' := [some (eR a0), some (eI (zI a1)), none]) (st' := [eI (zI a1)]) rfl rfl rfl ?_
    obtain ⟨r5, M6, μ7, h, q11, e12, g10, hR8, hl9, e13⟩ := y_na_ex h hR hl
    refine v_ae (np := 17) rfl rfl g10 e12 e13 ?_
    clear g10 e12 e13
    refine w_s (np := 18) (lv' := [some (eR a0), some (eI (zI a1)), some (eR r5)]) (st' := []) rfl (s_sn (Nat.ble_eq.mp rfl) q11 rfl) rfl ?_
    refine w_s (np := 19) (lv' := [some (eR a0), some (eI (zI a1)), some (eR r5)]) (st' := [eR a0]) rfl (s_an rfl p0) rfl ?_
    refine w_s (np := 20) (lv' := [some (eR a0), some (eI (zI a1)), some (eR r5)]) (st' := [eI (zI 0), eR a0]) rfl rfl rfl ?_
    refine w_s (np := 21) (lv' := [some (eR a0), some (eI (zI a1)), some (eR r5)]) (st' := [eR r5, eI (zI 0), eR a0]) rfl (s_an rfl q11) rfl ?_
    refine w_s (np := 22) (lv' := [some (eR a0), some (eI (zI a1)), some (eR r5)]) (st' := [eI (zI 0), eR r5, eI (zI 0), eR a0]) rfl rfl rfl ?_
    refine w_s (np := 23) (lv' := [some (eR a0), some (eI (zI a1)), some (eR r5)]) (st' := [eR a0, eI (zI 0), eR r5, eI (zI 0), eR a0]) rfl (s_an rfl p0) rfl ?_
    obtain ⟨v14, h, n15, k16⟩ := y_ln_ok h hR8 hG
    refine v_ln (np := 24) rfl rfl k16 ?_
    refine w_s (np := 25) (lv' := [some (eR a0), some (eI (zI a1)), some (eR r5)]) (st' := [eI (zI a1), eI (zI v14), eI (zI 0), eR r5, eI (zI 0), eR a0]) rfl rfl rfl ?_
    refine w_cs (np := 28) (as := [eI (zI v14), eI (zI a1)]) (lv' := [some (eI (zI v14)), some (eI (zI a1))]) (rest := [eI (zI 0), eR r5, eI (zI 0), eR a0]) rfl rfl rfl (Nat.ble_eq.mp rfl) rfl rfl rfl rfl ?_
    refine m_364_ok hG h hR8 ?_
    intro v22 M17 μ18 h hR19 hl21
    have hl20 := y_le.tr hl9 hl21
    show ex_fine fg rc rs (d + 1, (367, 28, [some (eR a0), some (eI (zI a1)), some (eR r5)], [eI (zI v22), eI (zI 0), eR r5, eI (zI 0), eR a0]), f :: F, μ18)
    obtain ⟨M23, μ24, g28, g29, g30, h, g31, g32, g33, g34, g35, g36, hR25, hl26, e27⟩ := y_cp_ex h hR19 hl20
    refine v_ce (np := 31) rfl rfl g31 g32 g33 g34 g35 g36 rfl rfl rfl e27 ?_
    refine w_s (np := 32) (lv' := [some (eR a0), some (eI (zI a1)), some (eR r5)]) (st' := [eR r5]) rfl (s_an rfl q11) rfl ?_
    exact v_ra rfl rfl (hK _ _ _ h hR25 hl26)
noncomputable def m_47_58b (a0 a1 : Nat) (K : yM → Bool) (i58 : Nat → yM → Bool) (a2 : Nat) (M : yM) : Bool := y_gf M a0 3 2 fun v1 => z_if (z_lt a2 v1) (y_gf M a0 3 0 fun v5 => f_if false (Nat.ble 1 v5) (y_gf M a0 3 0 fun v10 => f_if false (Nat.ble 1 v10) (y_lh 101 M v10 a2 fun v15 => m_79 v15 M fun v22 M17 => y_sa 101 M17 v5 a2 v22 fun M23 => y_gf M23 a0 3 1 fun v28 => f_if false (Nat.ble 1 v28) (y_gf M23 a0 3 0 fun v33 => f_if false (Nat.ble 1 v33) (y_lh 101 M23 v33 a2 fun v38 => m_48 a0 v38 M23 fun v45 M40 => z_l (z_add a2 1) fun v46 => y_sa 100 M40 v28 v45 v46 fun M47 => z_l (z_add a2 1) fun v52 => z_f v52 fun w53 => i58 w53 M47))))) (K M)
noncomputable def m_47_58 (a0 a1 : Nat) (K : yM → Bool) (n : Nat) : Nat → yM → Bool := @Nat.rec (fun _ => Nat → yM → Bool) (fun _ _ => false) (fun _ ih => m_47_58b a0 a1 K ih) n
theorem m_47_58b_ok {fg : eG} {rc rs d : Nat} {f : eFr} {F : List eFr} {μ0 : eM} {a0 a1 : Nat} {K : yM → Bool} {i58 : Nat → yM → Bool} (hG : yG fg y_T) (hk : ev_kd μ0 a0 = some 3) (p0 : 0 < a0) (hK : ∀ (M : yM) (μ : eM), K M = true → yR M μ → y_le μ0 μ → ex_fine fg rc rs (d + 3, (f.1, f.2.1, f.2.2.1, f.2.2.2), F, μ)) (h58 : ∀ (a2 : Nat) (M : yM) (μ : eM), i58 a2 M = true → yR M μ → y_le μ0 μ → ex_fine fg rc rs (d + 2, (47, 58, [some (eR a0), some (eI (zI a1)), some (eI (zI a2))], []), f :: F, μ)) : ∀ (a2 : Nat) (M : yM) (μ : eM), m_47_58b a0 a1 K i58 a2 M = true → yR M μ → y_le μ0 μ → ex_fine fg rc rs (d + 2, (47, 58, [some (eR a0), some (eI (zI a1)), some (eI (zI a2))], []), f :: F, μ) := by
  intro a2 M μ h hR hl
  unfold m_47_58b at h
  refine w_s (np := 59) (lv' := [some (eR a0), some (eI (zI a1)), some (eI (zI a2))]) (st' := [eI (zI a2)]) rfl rfl rfl ?_
  refine w_s (np := 60) (lv' := [some (eR a0), some (eI (zI a1)), some (eI (zI a2))]) (st' := [eR a0, eI (zI a2)]) rfl (s_an rfl p0) rfl ?_
  obtain ⟨v1, h, k2, e3⟩ := y_gf_ok (ty := 0) h hR (by decide) rfl
  refine v_gf0 (np := 63) rfl rfl k2 e3 ?_
  clear k2 e3
  rcases z_if_t h with ⟨g4, h⟩ | ⟨g4, h⟩
  · refine v_ge_f (t1 := 105) rfl rfl g4 ?_
    refine w_s (np := 67) (lv' := [some (eR a0), some (eI (zI a1)), some (eI (zI a2))]) (st' := [eR a0]) rfl (s_an rfl p0) rfl ?_
    obtain ⟨v5, h, k6, e7⟩ := y_gf_ok (ty := 3) h hR (by decide) rfl
    obtain ⟨g8, h⟩ := f_if_ok h
    have q9 : 0 < v5 := Nat.ble_eq.mp g8
    refine v_gf3 (np := 70) rfl rfl k6 e7 ?_
    clear k6 e7
    refine w_s (np := 71) (lv' := [some (eR a0), some (eI (zI a1)), some (eI (zI a2))]) (st' := [eI (zI a2), eR v5]) rfl rfl rfl ?_
    refine w_s (np := 72) (lv' := [some (eR a0), some (eI (zI a1)), some (eI (zI a2))]) (st' := [eR a0, eI (zI a2), eR v5]) rfl (s_an rfl p0) rfl ?_
    obtain ⟨v10, h, k11, e12⟩ := y_gf_ok (ty := 3) h hR (by decide) rfl
    obtain ⟨g13, h⟩ := f_if_ok h
    have q14 : 0 < v10 := Nat.ble_eq.mp g13
    refine v_gf3 (np := 75) rfl rfl k11 e12 ?_
    clear k11 e12
    refine w_s (np := 76) (lv' := [some (eR a0), some (eI (zI a1)), some (eI (zI a2))]) (st' := [eI (zI a2), eR v10, eI (zI a2), eR v5]) rfl rfl rfl ?_
    obtain ⟨v15, h, k16⟩ := y_lh_ok (ty := 2) h hR hG (by decide) rfl (by decide)
    refine v_ll (np := 77) rfl rfl k16 ?_
    clear k16
    refine w_cs (np := 80) (as := [eJ (zJ v15)]) (lv' := [some (eJ (zJ v15)), none, none, none, none, none]) (rest := [eI (zI a2), eR v5]) rfl rfl rfl (Nat.ble_eq.mp rfl) rfl rfl rfl rfl ?_
    refine m_79_ok hG h hR ?_
    intro v22 M17 μ18 h hR19 hl21
    have hl20 := y_le.tr hl hl21
    show ex_fine fg rc rs (d + 2, (47, 80, [some (eR a0), some (eI (zI a1)), some (eI (zI a2))], [eJ (zJ v22), eI (zI a2), eR v5]), f :: F, μ18)
    obtain ⟨M23, μ24, h, k27, hR25, hl26⟩ := y_sa_ex (ty := 2) h hR19 hl20 rfl (by decide)
    refine v_sl (np := 81) rfl rfl k27 ?_
    clear k27
    refine w_s (np := 82) (lv' := [some (eR a0), some (eI (zI a1)), some (eI (zI a2))]) (st' := [eR a0]) rfl (s_an rfl p0) rfl ?_
    obtain ⟨v28, h, k29, e30⟩ := y_gf_ok (ty := 3) h hR25 (by decide) rfl
    obtain ⟨g31, h⟩ := f_if_ok h
    have q32 : 0 < v28 := Nat.ble_eq.mp g31
    refine v_gf3 (np := 85) rfl rfl k29 e30 ?_
    clear k29 e30
    refine w_s (np := 86) (lv' := [some (eR a0), some (eI (zI a1)), some (eI (zI a2))]) (st' := [eR a0, eR v28]) rfl (s_an rfl p0) rfl ?_
    refine w_s (np := 87) (lv' := [some (eR a0), some (eI (zI a1)), some (eI (zI a2))]) (st' := [eR a0, eR a0, eR v28]) rfl (s_an rfl p0) rfl ?_
    obtain ⟨v33, h, k34, e35⟩ := y_gf_ok (ty := 3) h hR25 (by decide) rfl
    obtain ⟨g36, h⟩ := f_if_ok h
    have q37 : 0 < v33 := Nat.ble_eq.mp g36
    refine v_gf3 (np := 90) rfl rfl k34 e35 ?_
    clear k34 e35
    refine w_s (np := 91) (lv' := [some (eR a0), some (eI (zI a1)), some (eI (zI a2))]) (st' := [eI (zI a2), eR v33, eR a0, eR v28]) rfl rfl rfl ?_
    obtain ⟨v38, h, k39⟩ := y_lh_ok (ty := 2) h hR25 hG (by decide) rfl (by decide)
    refine v_ll (np := 92) rfl rfl k39 ?_
    clear k39
    refine w_cv (np := 95) (as := [eJ (zJ v38)]) (lv' := [some (eR a0), some (eJ (zJ v38)), none, none, none, none]) (rest := [eR v28]) rfl rfl rfl (Nat.ble_eq.mp rfl) rfl rfl rfl (hl26 _ _ hk) rfl ?_
    refine m_48_ok hG h hR25 (hl26 _ _ hk) p0 ?_
    intro v45 M40 μ41 h hR42 hl44
    have hl43 := y_le.tr hl26 hl44
    show ex_fine fg rc rs (d + 2, (47, 95, [some (eR a0), some (eI (zI a1)), some (eI (zI a2))], [eI (zI v45), eR v28]), f :: F, μ41)
    refine w_s (np := 96) (lv' := [some (eR a0), some (eI (zI a1)), some (eI (zI a2))]) (st' := [eI (zI a2), eI (zI v45), eR v28]) rfl rfl rfl ?_
    refine w_s (np := 97) (lv' := [some (eR a0), some (eI (zI a1)), some (eI (zI a2))]) (st' := [eI (zI 1), eI (zI a2), eI (zI v45), eR v28]) rfl rfl rfl ?_
    obtain ⟨v46, ev46, h⟩ := z_l_ex h
    refine w_s (np := 98) (lv' := [some (eR a0), some (eI (zI a1)), some (eI (zI a2))]) (st' := [eI (zI v46), eI (zI v45), eR v28]) rfl (s_iadd ev46) rfl ?_
    clear ev46
    obtain ⟨M47, μ48, h, k51, hR49, hl50⟩ := y_sa_ex (ty := 0) h hR42 hl43 rfl (by decide)
    refine v_sa (np := 99) rfl rfl k51 ?_
    clear k51
    obtain ⟨v52, ev52, h⟩ := z_l_ex h
    refine w_s (np := 102) (lv' := [some (eR a0), some (eI (zI a1)), some (eI (zI v52))]) (st' := []) rfl (s_iinc (b := 1) rfl rfl ev52 rfl) rfl ?_
    clear ev52
    refine w_go (t1 := 58) rfl rfl ?_
    obtain ⟨w53, ew53, h⟩ := z_f_ex h
    subst ew53
    exact h58 _ M47 μ48 h hR49 hl50
  · refine v_ge_t (t1 := 105) rfl rfl g4 ?_
    exact v_rv rfl rfl (hK _ _ h hR hl)
theorem m_47_58_ok {fg : eG} {rc rs d : Nat} {f : eFr} {F : List eFr} {μ0 : eM} {a0 a1 : Nat} {K : yM → Bool} (hG : yG fg y_T) (hk : ev_kd μ0 a0 = some 3) (p0 : 0 < a0) (hK : ∀ (M : yM) (μ : eM), K M = true → yR M μ → y_le μ0 μ → ex_fine fg rc rs (d + 3, (f.1, f.2.1, f.2.2.1, f.2.2.2), F, μ)) : ∀ n : Nat, ∀ (a2 : Nat) (M : yM) (μ : eM), m_47_58 a0 a1 K n a2 M = true → yR M μ → y_le μ0 μ → ex_fine fg rc rs (d + 2, (47, 58, [some (eR a0), some (eI (zI a1)), some (eI (zI a2))], []), f :: F, μ) := by
  intro n
  induction n with
  | zero =>
    intro a2 M μ h hR hl
    exact absurd h Bool.false_ne_true
  | succ n ih =>
    intro a2 M μ h hR hl
    exact m_47_58b_ok hG hk p0 hK ih a2 M μ h hR hl
noncomputable def m_47_56 (a0 a1 : Nat) (K : yM → Bool) (M : yM) : Bool := m_47_58 a0 a1 K 100000 0 M
theorem m_47_56_ok {fg : eG} {rc rs d : Nat} {f : eFr} {F : List eFr} {μ0 : eM} {a0 a1 : Nat} {K : yM → Bool} (hG : yG fg y_T) (hk : ev_kd μ0 a0 = some 3) (p0 : 0 < a0) (hK : ∀ (M : yM) (μ : eM), K M = true → yR M μ → y_le μ0 μ → ex_fine fg rc rs (d + 3, (f.1, f.2.1, f.2.2.1, f.2.2.2), F, μ)) : ∀ (M : yM) (μ : eM), m_47_56 a0 a1 K M = true → yR M μ → y_le μ0 μ → ex_fine fg rc rs (d + 2, (47, 56, [some (eR a0), some (eI (zI a1)), none], []), f :: F, μ) := by
  intro M μ h hR hl
  unfold m_47_56 at h
  refine w_s (np := 57) (lv' := [some (eR a0), some (eI (zI a1)), none]) (st' := [eI (zI 0)]) rfl rfl rfl ?_
  refine w_s (np := 58) (lv' := [some (eR a0), some (eI (zI a1)), some (eI (zI 0))]) (st' := []) rfl rfl rfl ?_
  exact m_47_58_ok hG hk p0 hK 100000 _ M μ h hR hl
noncomputable def m_47_48 (a0 a1 : Nat) (K : yM → Bool) (M : yM) : Bool := y_gf M a0 3 1 fun v1 => f_if false (Nat.ble 1 v1) (m_365 v1 0 M fun M6 => m_47_56 a0 a1 K M6)
theorem m_47_48_ok {fg : eG} {rc rs d : Nat} {f : eFr} {F : List eFr} {μ0 : eM} {a0 a1 : Nat} {K : yM → Bool} (hG : yG fg y_T) (hk : ev_kd μ0 a0 = some 3) (p0 : 0 < a0) (hK : ∀ (M : yM) (μ : eM), K M = true → yR M μ → y_le μ0 μ → ex_fine fg rc rs (d + 3, (f.1, f.2.1, f.2.2.1, f.2.2.2), F, μ)) : ∀ (M : yM) (μ : eM), m_47_48 a0 a1 K M = true → yR M μ → y_le μ0 μ → ex_fine fg rc rs (d + 2, (47, 48, [some (eR a0), some (eI (zI a1)), none], []), f :: F, μ) := by
  intro M μ h hR hl
  unfold m_47_48 at h
  refine w_s (np := 49) (lv' := [some (eR a0), some (eI (zI a1)), none]) (st' := [eR a0]) rfl (s_an rfl p0) rfl ?_
  obtain ⟨v1, h, k2, e3⟩ := y_gf_ok (ty := 3) h hR (by decide) rfl
  obtain ⟨g4, h⟩ := f_if_ok h
  have q5 : 0 < v1 := Nat.ble_eq.mp g4
  refine v_gf3 (np := 52) rfl rfl k2 e3 ?_
  clear k2 e3
  refine w_s (np := 53) (lv' := [some (eR a0), some (eI (zI a1)), none]) (st' := [eI (zI 0), eR v1]) rfl rfl rfl ?_
  refine w_cs (np := 56) (as := [eR v1, eI (zI 0)]) (lv' := [some (eR v1), some (eI (zI 0)), none, none]) (rest := []) rfl rfl rfl (Nat.ble_eq.mp rfl) rfl rfl rfl rfl ?_
  refine m_365_ok hG h hR q5 ?_
  intro M6 μ7 h hR8 hl10
  have hl9 := y_le.tr hl hl10
  show ex_fine fg rc rs (d + 2, (47, 56, [some (eR a0), some (eI (zI a1)), none], []), f :: F, μ7)
  exact m_47_56_ok hG hk p0 hK M6 μ7 h hR8 hl9
/-! RhombInflator$Points.growAll -/
noncomputable def m_47 (a0 a1 : Nat) (M : yM) (K : yM → Bool) : Bool := z_l (z_add a1 2) fun v1 => y_gf M a0 3 0 fun v2 => f_if false (Nat.ble 1 v2) (y_ln y_T M v2 fun v7 => z_if (z_lt v7 v1) (y_gf M a0 3 0 fun v11 => f_if false (Nat.ble 1 v11) (y_ln y_T M v11 fun v16 => z_if (z_lt v16 512) (y_gf M a0 3 0 fun v20 => f_if false (Nat.ble 1 v20) (m_367 v20 512 M fun v30 M25 => f_if false (Nat.ble 1 v30) (y_wr M25 a0 3 0 v30 fun M33 => y_na M33 100 1024 fun r39 M40 => y_wr M40 a0 3 1 r39 fun M48 => m_47_56 a0 a1 K M48))) (m_47_48 a0 a1 K M))) (m_47_48 a0 a1 K M))
theorem m_47_ok {fg : eG} {rc rs d : Nat} {f : eFr} {F : List eFr} {M : yM} {μ0 : eM} {a0 a1 : Nat} {K : yM → Bool} (hG : yG fg y_T) (h : m_47 a0 a1 M K = true) (hR : yR M μ0) (hk : ev_kd μ0 a0 = some 3) (p0 : 0 < a0) (hK : ∀ (M : yM) (μ : eM), K M = true → yR M μ → y_le μ0 μ → ex_fine fg rc rs (d + 3, (f.1, f.2.1, f.2.2.1, f.2.2.2), F, μ)) : ex_fine fg rc rs (d + 2, (47, 0, [some (eR a0), some (eI (zI a1)), none], []), f :: F, μ0) := by
  unfold m_47 at h
  have hl := y_le_r μ0
  refine w_s (np := 1) (lv' := [some (eR a0), some (eI (zI a1)), none]) (st' := [eI (zI a1)]) rfl rfl rfl ?_
  refine w_s (np := 2) (lv' := [some (eR a0), some (eI (zI a1)), none]) (st' := [eI (zI 2), eI (zI a1)]) rfl rfl rfl ?_
  obtain ⟨v1, ev1, h⟩ := z_l_ex h
  refine w_s (np := 3) (lv' := [some (eR a0), some (eI (zI a1)), none]) (st' := [eI (zI v1)]) rfl (s_iadd ev1) rfl ?_
  clear ev1
  refine w_s (np := 4) (lv' := [some (eR a0), some (eI (zI a1)), none]) (st' := [eR a0, eI (zI v1)]) rfl (s_an rfl p0) rfl ?_
  obtain ⟨v2, h, k3, e4⟩ := y_gf_ok (ty := 3) h hR (by decide) rfl
  obtain ⟨g5, h⟩ := f_if_ok h
  have q6 : 0 < v2 := Nat.ble_eq.mp g5
  refine v_gf3 (np := 7) rfl rfl k3 e4 ?_
  clear k3 e4
  obtain ⟨v7, h, n8, k9⟩ := y_ln_ok h hR hG
  refine v_ln (np := 8) rfl rfl k9 ?_
  rcases z_if_t h with ⟨g10, h⟩ | ⟨g10, h⟩
  · refine v_le_f (t1 := 48) rfl rfl g10 ?_
    refine w_s (np := 12) (lv' := [some (eR a0), some (eI (zI a1)), none]) (st' := [eR a0]) rfl (s_an rfl p0) rfl ?_
    obtain ⟨v11, h, k12, e13⟩ := y_gf_ok (ty := 3) h hR (by decide) rfl
    obtain ⟨g14, h⟩ := f_if_ok h
    have q15 : 0 < v11 := Nat.ble_eq.mp g14
    refine v_gf3 (np := 15) rfl rfl k12 e13 ?_
    clear k12 e13
    obtain ⟨v16, h, n17, k18⟩ := y_ln_ok h hR hG
    refine v_ln (np := 16) rfl rfl k18 ?_
    refine w_s (np := 19) (lv' := [some (eR a0), some (eI (zI a1)), none]) (st' := [eI (zI 512), eI (zI v16)]) rfl rfl rfl ?_
    rcases z_if_t h with ⟨g19, h⟩ | ⟨g19, h⟩
    · refine v_ge_f (t1 := 48) rfl rfl g19 ?_
      refine w_s (np := 23) (lv' := [some (eR a0), some (eI (zI a1)), none]) (st' := [eR a0]) rfl (s_an rfl p0) rfl ?_
      refine w_s (np := 24) (lv' := [some (eR a0), some (eI (zI a1)), none]) (st' := [eR a0, eR a0]) rfl (s_an rfl p0) rfl ?_
      obtain ⟨v20, h, k21, e22⟩ := y_gf_ok (ty := 3) h hR (by decide) rfl
      obtain ⟨g23, h⟩ := f_if_ok h
      have q24 : 0 < v20 := Nat.ble_eq.mp g23
      refine v_gf3 (np := 27) rfl rfl k21 e22 ?_
      clear k21 e22
      refine w_s (np := 30) (lv' := [some (eR a0), some (eI (zI a1)), none]) (st' := [eI (zI 512), eR v20, eR a0]) rfl rfl rfl ?_
      refine w_cs (np := 33) (as := [eR v20, eI (zI 512)]) (lv' := [some (eR v20), some (eI (zI 512)), none]) (rest := [eR a0]) rfl rfl rfl (Nat.ble_eq.mp rfl) rfl rfl rfl rfl ?_
      refine m_367_ok hG h hR q24 ?_
      intro v30 M25 μ26 h hR27 hl29
      have hl28 := y_le.tr hl hl29
      obtain ⟨g31, h⟩ := f_if_ok h
      have q32 : 0 < v30 := Nat.ble_eq.mp g31
      show ex_fine fg rc rs (d + 2, (47, 33, [some (eR a0), some (eI (zI a1)), none], [eR v30, eR a0]), f :: F, μ26)
      obtain ⟨M33, μ34, h, k37, hR35, hl36, e38⟩ := y_wr_ex h hR27 hl28 rfl
      refine v_pe3 (np := 36) rfl rfl k37 e38 ?_
      clear k37 e38
      refine w_s (np := 37) (lv' := [some (eR a0), some (eI (zI a1)), none]) (st' := [eR a0]) rfl (s_an rfl p0) rfl ?_
      refine w_s (np := 40) (lv' := [some (eR a0), some (eI (zI a1)), none]) (st' := [eI (zI 1024), eR a0]) rfl rfl rfl ?_
      obtain ⟨r39, M40, μ41, h, q45, e46, g44, hR42, hl43, e47⟩ := y_na_ex h hR35 hl36
      refine v_ae (np := 42) rfl rfl g44 e46 e47 ?_
      clear g44 e46 e47
      obtain ⟨M48, μ49, h, k52, hR50, hl51, e53⟩ := y_wr_ex h hR42 hl43 rfl
      refine v_pe3 (np := 45) rfl rfl k52 e53 ?_
      clear k52 e53
      refine w_go (t1 := 56) rfl rfl ?_
      exact m_47_56_ok hG hk p0 hK M48 μ49 h hR50 hl51
    · refine v_ge_t (t1 := 48) rfl rfl g19 ?_
      exact m_47_48_ok hG hk p0 hK M μ0 h hR hl
  · refine v_le_t (t1 := 48) rfl rfl g10 ?_
    exact m_47_48_ok hG hk p0 hK M μ0 h hR hl
noncomputable def m_31_90 (a0 : Nat) (K : yM → Bool) (i51 : Nat → Nat → Nat → yM → Bool) (a1 a2 a3 : Nat) (M : yM) : Bool := z_l (z_add a3 4294967295) fun v1 => z_f v1 fun w2 => i51 a1 a2 w2 M
theorem m_31_90_ok {fg : eG} {rc rs d : Nat} {f : eFr} {F : List eFr} {μ0 : eM} {a0 : Nat} {K : yM → Bool} {i51 : Nat → Nat → Nat → yM → Bool} (hG : yG fg y_T) (hk : ev_kd μ0 a0 = some 2) (p0 : 0 < a0) (hK : ∀ (M : yM) (μ : eM), K M = true → yR M μ → y_le μ0 μ → ex_fine fg rc rs (d + 4, (f.1, f.2.1, f.2.2.1, f.2.2.2), F, μ)) (h51 : ∀ (a1 a2 a3 : Nat) (M : yM) (μ : eM), i51 a1 a2 a3 M = true → yR M μ → y_le μ0 μ → ex_fine fg rc rs (d + 3, (31, 51, [some (eR a0), some (eI (zI a1)), some (eI (zI a2)), some (eI (zI a3))], []), f :: F, μ)) : ∀ (a1 a2 a3 : Nat) (M : yM) (μ : eM), m_31_90 a0 K i51 a1 a2 a3 M = true → yR M μ → y_le μ0 μ → ex_fine fg rc rs (d + 3, (31, 90, [some (eR a0), some (eI (zI a1)), some (eI (zI a2)), some (eI (zI a3))], []), f :: F, μ) := by
  intro a1 a2 a3 M μ h hR hl
  unfold m_31_90 at h
  obtain ⟨v1, ev1, h⟩ := z_l_ex h
  refine w_s (np := 93) (lv' := [some (eR a0), some (eI (zI a1)), some (eI (zI a2)), some (eI (zI v1))]) (st' := []) rfl (s_iinc (b := 4294967295) rfl rfl ev1 rfl) rfl ?_
  clear ev1
  refine w_go (t1 := 51) rfl rfl ?_
  obtain ⟨w2, ew2, h⟩ := z_f_ex h
  subst ew2
  exact h51 _ _ _ M μ h hR hl
noncomputable def m_31_51b (a0 : Nat) (K : yM → Bool) (i51 : Nat → Nat → Nat → yM → Bool) (a1 a2 a3 : Nat) (M : yM) : Bool := z_if (z_l0 a3) (y_wf M a0 2 7 a1 fun M2 => y_gf M2 a0 2 6 fun v8 => z_l (z_add v8 1) fun v11 => y_wf M2 a0 2 6 v11 fun M12 => K M12) (y_gf M a0 2 0 fun v18 => f_if false (Nat.ble 1 v18) (y_lh 100 M v18 a3 fun v23 => z_l (z_add 2 v23) fun v25 => z_l (z_sub a2 v25) fun v26 => y_gf M a0 2 0 fun v27 => f_if false (Nat.ble 1 v27) (y_lh 100 M v27 a3 fun v32 => z_if (z_e0 v32) (m_32 a0 a3 v26 M fun M40 => m_31_90 a0 K i51 a1 v26 a3 M40) (m_33 a0 a3 v26 M fun M35 => m_31_90 a0 K i51 a1 v26 a3 M35))))
noncomputable def m_31_51 (a0 : Nat) (K : yM → Bool) (n : Nat) : Nat → Nat → Nat → yM → Bool := @Nat.rec (fun _ => Nat → Nat → Nat → yM → Bool) (fun _ _ _ _ => false) (fun _ ih => m_31_51b a0 K ih) n
theorem m_31_51b_ok {fg : eG} {rc rs d : Nat} {f : eFr} {F : List eFr} {μ0 : eM} {a0 : Nat} {K : yM → Bool} {i51 : Nat → Nat → Nat → yM → Bool} (hG : yG fg y_T) (hk : ev_kd μ0 a0 = some 2) (p0 : 0 < a0) (hK : ∀ (M : yM) (μ : eM), K M = true → yR M μ → y_le μ0 μ → ex_fine fg rc rs (d + 4, (f.1, f.2.1, f.2.2.1, f.2.2.2), F, μ)) (h51 : ∀ (a1 a2 a3 : Nat) (M : yM) (μ : eM), i51 a1 a2 a3 M = true → yR M μ → y_le μ0 μ → ex_fine fg rc rs (d + 3, (31, 51, [some (eR a0), some (eI (zI a1)), some (eI (zI a2)), some (eI (zI a3))], []), f :: F, μ)) : ∀ (a1 a2 a3 : Nat) (M : yM) (μ : eM), m_31_51b a0 K i51 a1 a2 a3 M = true → yR M μ → y_le μ0 μ → ex_fine fg rc rs (d + 3, (31, 51, [some (eR a0), some (eI (zI a1)), some (eI (zI a2)), some (eI (zI a3))], []), f :: F, μ) := by
  intro a1 a2 a3 M μ h hR hl
  unfold m_31_51b at h
  refine w_s (np := 52) (lv' := [some (eR a0), some (eI (zI a1)), some (eI (zI a2)), some (eI (zI a3))]) (st' := [eI (zI a3)]) rfl rfl rfl ?_
  rcases z_if_t h with ⟨g1, h⟩ | ⟨g1, h⟩
  · refine v_lt0_t (t1 := 96) rfl rfl g1 ?_
    refine w_s (np := 97) (lv' := [some (eR a0), some (eI (zI a1)), some (eI (zI a2)), some (eI (zI a3))]) (st' := [eR a0]) rfl (s_an rfl p0) rfl ?_
    refine w_s (np := 98) (lv' := [some (eR a0), some (eI (zI a1)), some (eI (zI a2)), some (eI (zI a3))]) (st' := [eI (zI a1), eR a0]) rfl rfl rfl ?_
    obtain ⟨M2, μ3, h, k6, hR4, hl5, e7⟩ := y_wf_ex (ty := 0) h hR hl rfl (by decide)
    refine v_pe0 (np := 101) rfl rfl k6 e7 ?_
    clear k6 e7
    refine w_s (np := 102) (lv' := [some (eR a0), some (eI (zI a1)), some (eI (zI a2)), some (eI (zI a3))]) (st' := [eR a0]) rfl (s_an rfl p0) rfl ?_
    refine w_s (np := 103) (lv' := [some (eR a0), some (eI (zI a1)), some (eI (zI a2)), some (eI (zI a3))]) (st' := [eR a0, eR a0]) rfl rfl rfl ?_
    obtain ⟨v8, h, k9, e10⟩ := y_gf_ok (ty := 0) h hR4 (by decide) rfl
    refine v_gf0 (np := 106) rfl rfl k9 e10 ?_
    clear k9 e10
    refine w_s (np := 107) (lv' := [some (eR a0), some (eI (zI a1)), some (eI (zI a2)), some (eI (zI a3))]) (st' := [eI (zI 1), eI (zI v8), eR a0]) rfl rfl rfl ?_
    obtain ⟨v11, ev11, h⟩ := z_l_ex h
    refine w_s (np := 108) (lv' := [some (eR a0), some (eI (zI a1)), some (eI (zI a2)), some (eI (zI a3))]) (st' := [eI (zI v11), eR a0]) rfl (s_iadd ev11) rfl ?_
    clear ev11
    obtain ⟨M12, μ13, h, k16, hR14, hl15, e17⟩ := y_wf_ex (ty := 0) h hR4 hl5 rfl (by decide)
    refine v_pe0 (np := 111) rfl rfl k16 e17 ?_
    clear k16 e17
    exact v_rv rfl rfl (hK _ _ h hR14 hl15)
  · refine v_lt0_f (t1 := 96) rfl rfl g1 ?_
    refine w_s (np := 56) (lv' := [some (eR a0), some (eI (zI a1)), some (eI (zI a2)), some (eI (zI a3))]) (st' := [eI (zI a2)]) rfl rfl rfl ?_
    refine w_s (np := 57) (lv' := [some (eR a0), some (eI (zI a1)), some (eI (zI a2)), some (eI (zI a3))]) (st' := [eI (zI 2), eI (zI a2)]) rfl rfl rfl ?_
    refine w_s (np := 58) (lv' := [some (eR a0), some (eI (zI a1)), some (eI (zI a2)), some (eI (zI a3))]) (st' := [eR a0, eI (zI 2), eI (zI a2)]) rfl (s_an rfl p0) rfl ?_
    obtain ⟨v18, h, k19, e20⟩ := y_gf_ok (ty := 3) h hR (by decide) rfl
    obtain ⟨g21, h⟩ := f_if_ok h
    have q22 : 0 < v18 := Nat.ble_eq.mp g21
    refine v_gf3 (np := 61) rfl rfl k19 e20 ?_
    clear k19 e20
    refine w_s (np := 62) (lv' := [some (eR a0), some (eI (zI a1)), some (eI (zI a2)), some (eI (zI a3))]) (st' := [eI (zI a3), eR v18, eI (zI 2), eI (zI a2)]) rfl rfl rfl ?_
    obtain ⟨v23, h, k24⟩ := y_lh_ok (ty := 0) h hR hG (by decide) rfl (by decide)
    refine v_la (np := 63) rfl rfl k24 ?_
    clear k24
    obtain ⟨v25, ev25, h⟩ := z_l_ex h
    refine w_s (np := 64) (lv' := [some (eR a0), some (eI (zI a1)), some (eI (zI a2)), some (eI (zI a3))]) (st' := [eI (zI v25), eI (zI a2)]) rfl (s_iadd ev25) rfl ?_
    clear ev25
    obtain ⟨v26, ev26, h⟩ := z_l_ex h
    refine w_s (np := 65) (lv' := [some (eR a0), some (eI (zI a1)), some (eI (zI a2)), some (eI (zI a3))]) (st' := [eI (zI v26)]) rfl (s_isub ev26) rfl ?_
    clear ev26
    refine w_s (np := 66) (lv' := [some (eR a0), some (eI (zI a1)), some (eI (zI v26)), some (eI (zI a3))]) (st' := []) rfl rfl rfl ?_
    refine w_s (np := 67) (lv' := [some (eR a0), some (eI (zI a1)), some (eI (zI v26)), some (eI (zI a3))]) (st' := [eR a0]) rfl (s_an rfl p0) rfl ?_
    obtain ⟨v27, h, k28, e29⟩ := y_gf_ok (ty := 3) h hR (by decide) rfl
    obtain ⟨g30, h⟩ := f_if_ok h
    have q31 : 0 < v27 := Nat.ble_eq.mp g30
    refine v_gf3 (np := 70) rfl rfl k28 e29 ?_
    clear k28 e29
    refine w_s (np := 71) (lv' := [some (eR a0), some (eI (zI a1)), some (eI (zI v26)), some (eI (zI a3))]) (st' := [eI (zI a3), eR v27]) rfl rfl rfl ?_
    obtain ⟨v32, h, k33⟩ := y_lh_ok (ty := 0) h hR hG (by decide) rfl (by decide)
    refine v_la (np := 72) rfl rfl k33 ?_
    clear k33
    rcases z_if_t h with ⟨g34, h⟩ | ⟨g34, h⟩
    · refine v_ne0_f (t1 := 84) rfl rfl g34 ?_
      refine w_s (np := 76) (lv' := [some (eR a0), some (eI (zI a1)), some (eI (zI v26)), some (eI (zI a3))]) (st' := [eR a0]) rfl (s_an rfl p0) rfl ?_
      refine w_s (np := 77) (lv' := [some (eR a0), some (eI (zI a1)), some (eI (zI v26)), some (eI (zI a3))]) (st' := [eI (zI a3), eR a0]) rfl rfl rfl ?_
      refine w_s (np := 78) (lv' := [some (eR a0), some (eI (zI a1)), some (eI (zI v26)), some (eI (zI a3))]) (st' := [eI (zI v26), eI (zI a3), eR a0]) rfl rfl rfl ?_
      refine w_cv (np := 81) (as := [eI (zI a3), eI (zI v26)]) (lv' := [some (eR a0), some (eI (zI a3)), some (eI (zI v26)), none, none, none, none, none, none, none]) (rest := []) rfl rfl rfl (Nat.ble_eq.mp rfl) rfl rfl rfl (hl _ _ hk) rfl ?_
      refine m_32_ok hG h hR (hl _ _ hk) p0 ?_
      intro M40 μ41 h hR42 hl44
      have hl43 := y_le.tr hl hl44
      show ex_fine fg rc rs (d + 3, (31, 81, [some (eR a0), some (eI (zI a1)), some (eI (zI v26)), some (eI (zI a3))], []), f :: F, μ41)
      refine w_go (t1 := 90) rfl rfl ?_
      exact m_31_90_ok hG hk p0 hK h51 _ _ _ M40 μ41 h hR42 hl43
    · refine v_ne0_t (t1 := 84) rfl rfl g34 ?_
      refine w_s (np := 85) (lv' := [some (eR a0), some (eI (zI a1)), some (eI (zI v26)), some (eI (zI a3))]) (st' := [eR a0]) rfl (s_an rfl p0) rfl ?_
      refine w_s (np := 86) (lv' := [some (eR a0), some (eI (zI a1)), some (eI (zI v26)), some (eI (zI a3))]) (st' := [eI (zI a3), eR a0]) rfl rfl rfl ?_
      refine w_s (np := 87) (lv' := [some (eR a0), some (eI (zI a1)), some (eI (zI v26)), some (eI (zI a3))]) (st' := [eI (zI v26), eI (zI a3), eR a0]) rfl rfl rfl ?_
      refine w_cv (np := 90) (as := [eI (zI a3), eI (zI v26)]) (lv' := [some (eR a0), some (eI (zI a3)), some (eI (zI v26)), none, none, none, none, none, none, none, none, none, none]) (rest := []) rfl rfl rfl (Nat.ble_eq.mp rfl) rfl rfl rfl (hl _ _ hk) rfl ?_
      refine m_33_ok hG h hR (hl _ _ hk) p0 ?_
      intro M35 μ36 h hR37 hl39
      have hl38 := y_le.tr hl hl39
      show ex_fine fg rc rs (d + 3, (31, 90, [some (eR a0), some (eI (zI a1)), some (eI (zI v26)), some (eI (zI a3))], []), f :: F, μ36)
      exact m_31_90_ok hG hk p0 hK h51 _ _ _ M35 μ36 h hR37 hl38
theorem m_31_51_ok {fg : eG} {rc rs d : Nat} {f : eFr} {F : List eFr} {μ0 : eM} {a0 : Nat} {K : yM → Bool} (hG : yG fg y_T) (hk : ev_kd μ0 a0 = some 2) (p0 : 0 < a0) (hK : ∀ (M : yM) (μ : eM), K M = true → yR M μ → y_le μ0 μ → ex_fine fg rc rs (d + 4, (f.1, f.2.1, f.2.2.1, f.2.2.2), F, μ)) : ∀ n : Nat, ∀ (a1 a2 a3 : Nat) (M : yM) (μ : eM), m_31_51 a0 K n a1 a2 a3 M = true → yR M μ → y_le μ0 μ → ex_fine fg rc rs (d + 3, (31, 51, [some (eR a0), some (eI (zI a1)), some (eI (zI a2)), some (eI (zI a3))], []), f :: F, μ) := by
  intro n
  induction n with
  | zero =>
    intro a1 a2 a3 M μ h hR hl
    exact absurd h Bool.false_ne_true
  | succ n ih =>
    intro a1 a2 a3 M μ h hR hl
    exact m_31_51b_ok hG hk p0 hK ih a1 a2 a3 M μ h hR hl
noncomputable def m_31_34 (a0 : Nat) (K : yM → Bool) (a1 : Nat) (M : yM) : Bool := y_gf M a0 2 4 fun v1 => f_if false (Nat.ble 1 v1) (y_is M v1 3 (m_47 v1 a1 M fun M6 => y_gf M6 a0 2 7 fun v12 => z_l (z_sub v12 1) fun v15 => m_31_51 a0 K 100000 a1 a1 v15 M6))
theorem m_31_34_ok {fg : eG} {rc rs d : Nat} {f : eFr} {F : List eFr} {μ0 : eM} {a0 : Nat} {K : yM → Bool} (hG : yG fg y_T) (hk : ev_kd μ0 a0 = some 2) (p0 : 0 < a0) (hK : ∀ (M : yM) (μ : eM), K M = true → yR M μ → y_le μ0 μ → ex_fine fg rc rs (d + 4, (f.1, f.2.1, f.2.2.1, f.2.2.2), F, μ)) : ∀ (a1 : Nat) (M : yM) (μ : eM), m_31_34 a0 K a1 M = true → yR M μ → y_le μ0 μ → ex_fine fg rc rs (d + 3, (31, 34, [some (eR a0), some (eI (zI a1)), none, none], []), f :: F, μ) := by
  intro a1 M μ h hR hl
  unfold m_31_34 at h
  refine w_s (np := 35) (lv' := [some (eR a0), some (eI (zI a1)), none, none]) (st' := [eR a0]) rfl (s_an rfl p0) rfl ?_
  obtain ⟨v1, h, k2, e3⟩ := y_gf_ok (ty := 3) h hR (by decide) rfl
  obtain ⟨g4, h⟩ := f_if_ok h
  have q5 : 0 < v1 := Nat.ble_eq.mp g4
  refine v_gf3 (np := 38) rfl rfl k2 e3 ?_
  clear k2 e3
  refine w_s (np := 39) (lv' := [some (eR a0), some (eI (zI a1)), none, none]) (st' := [eI (zI a1), eR v1]) rfl rfl rfl ?_
  obtain ⟨k11, h⟩ := y_is_ok h hR
  refine w_cv (np := 42) (as := [eI (zI a1)]) (lv' := [some (eR v1), some (eI (zI a1)), none]) (rest := []) rfl rfl rfl (Nat.ble_eq.mp rfl) rfl rfl rfl k11 rfl ?_
  refine m_47_ok hG h hR k11 q5 ?_
  intro M6 μ7 h hR8 hl10
  have hl9 := y_le.tr hl hl10
  show ex_fine fg rc rs (d + 3, (31, 42, [some (eR a0), some (eI (zI a1)), none, none], []), f :: F, μ7)
  refine w_s (np := 43) (lv' := [some (eR a0), some (eI (zI a1)), none, none]) (st' := [eI (zI a1)]) rfl rfl rfl ?_
  refine w_s (np := 44) (lv' := [some (eR a0), some (eI (zI a1)), some (eI (zI a1)), none]) (st' := []) rfl rfl rfl ?_
  refine w_s (np := 45) (lv' := [some (eR a0), some (eI (zI a1)), some (eI (zI a1)), none]) (st' := [eR a0]) rfl (s_an rfl p0) rfl ?_
  obtain ⟨v12, h, k13, e14⟩ := y_gf_ok (ty := 0) h hR8 (by decide) rfl
  refine v_gf0 (np := 48) rfl rfl k13 e14 ?_
  clear k13 e14
  refine w_s (np := 49) (lv' := [some (eR a0), some (eI (zI a1)), some (eI (zI a1)), none]) (st' := [eI (zI 1), eI (zI v12)]) rfl rfl rfl ?_
  obtain ⟨v15, ev15, h⟩ := z_l_ex h
  refine w_s (np := 50) (lv' := [some (eR a0), some (eI (zI a1)), some (eI (zI a1)), none]) (st' := [eI (zI v15)]) rfl (s_isub ev15) rfl ?_
  clear ev15
  refine w_s (np := 51) (lv' := [some (eR a0), some (eI (zI a1)), some (eI (zI a1)), some (eI (zI v15))]) (st' := []) rfl rfl rfl ?_
  exact m_31_51_ok hG hk p0 hK 100000 _ _ _ M6 μ7 h hR8 hl9
/-! RhombInflator$Patch.cutAll -/
noncomputable def m_31 (a0 : Nat) (M : yM) (K : yM → Bool) : Bool := y_gf M a0 2 7 fun v1 => z_l (z_mul 2 v1) fun v4 => m_25 a0 1 M fun v10 M5 => z_l (z_add v4 v10) fun v11 => z_if (z_lt 890 v11) (K M5) (y_gf M5 a0 2 0 fun v13 => f_if false (Nat.ble 1 v13) (y_ln y_T M5 v13 fun v18 => z_if (z_lt v18 v11) (m_17 a0 M5 fun M22 => m_31_34 a0 K v11 M22) (m_31_34 a0 K v11 M5)))
theorem m_31_ok {fg : eG} {rc rs d : Nat} {f : eFr} {F : List eFr} {M : yM} {μ0 : eM} {a0 : Nat} {K : yM → Bool} (hG : yG fg y_T) (h : m_31 a0 M K = true) (hR : yR M μ0) (hk : ev_kd μ0 a0 = some 2) (p0 : 0 < a0) (hK : ∀ (M : yM) (μ : eM), K M = true → yR M μ → y_le μ0 μ → ex_fine fg rc rs (d + 4, (f.1, f.2.1, f.2.2.1, f.2.2.2), F, μ)) : ex_fine fg rc rs (d + 3, (31, 0, [some (eR a0), none, none, none], []), f :: F, μ0) := by
  unfold m_31 at h
  have hl := y_le_r μ0
  refine w_s (np := 1) (lv' := [some (eR a0), none, none, none]) (st' := [eI (zI 2)]) rfl rfl rfl ?_
  refine w_s (np := 2) (lv' := [some (eR a0), none, none, none]) (st' := [eR a0, eI (zI 2)]) rfl (s_an rfl p0) rfl ?_
  obtain ⟨v1, h, k2, e3⟩ := y_gf_ok (ty := 0) h hR (by decide) rfl
  refine v_gf0 (np := 5) rfl rfl k2 e3 ?_
  clear k2 e3
  obtain ⟨v4, ev4, h⟩ := z_l_ex h
  refine w_s (np := 6) (lv' := [some (eR a0), none, none, none]) (st' := [eI (zI v4)]) rfl (s_imul ev4) rfl ?_
  clear ev4
  refine w_s (np := 7) (lv' := [some (eR a0), none, none, none]) (st' := [eR a0, eI (zI v4)]) rfl (s_an rfl p0) rfl ?_
  refine w_s (np := 8) (lv' := [some (eR a0), none, none, none]) (st' := [eI (zI 1), eR a0, eI (zI v4)]) rfl rfl rfl ?_
  refine w_cv (np := 11) (as := [eI (zI 1)]) (lv' := [some (eR a0), some (eI (zI 1)), none, none]) (rest := [eI (zI v4)]) rfl rfl rfl (Nat.ble_eq.mp rfl) rfl rfl rfl (hl _ _ hk) rfl ?_
  refine m_25_ok hG h hR (hl _ _ hk) p0 ?_
  intro v10 M5 μ6 h hR7 hl9
  have hl8 := y_le.tr hl hl9
  show ex_fine fg rc rs (d + 3, (31, 11, [some (eR a0), none, none, none], [eI (zI v10), eI (zI v4)]), f :: F, μ6)
  obtain ⟨v11, ev11, h⟩ := z_l_ex h
  refine w_s (np := 12) (lv' := [some (eR a0), none, none, none]) (st' := [eI (zI v11)]) rfl (s_iadd ev11) rfl ?_
  clear ev11
  refine w_s (np := 13) (lv' := [some (eR a0), some (eI (zI v11)), none, none]) (st' := []) rfl rfl rfl ?_
  refine w_s (np := 14) (lv' := [some (eR a0), some (eI (zI v11)), none, none]) (st' := [eI (zI v11)]) rfl rfl rfl ?_
  refine w_s (np := 17) (lv' := [some (eR a0), some (eI (zI v11)), none, none]) (st' := [eI (zI 890), eI (zI v11)]) rfl rfl rfl ?_
  rcases z_if_t h with ⟨g12, h⟩ | ⟨g12, h⟩
  · refine v_le_f (t1 := 21) rfl rfl g12 ?_
    exact v_rv rfl rfl (hK _ _ h hR7 hl8)
  · refine v_le_t (t1 := 21) rfl rfl g12 ?_
    refine w_s (np := 22) (lv' := [some (eR a0), some (eI (zI v11)), none, none]) (st' := [eI (zI v11)]) rfl rfl rfl ?_
    refine w_s (np := 23) (lv' := [some (eR a0), some (eI (zI v11)), none, none]) (st' := [eR a0, eI (zI v11)]) rfl (s_an rfl p0) rfl ?_
    obtain ⟨v13, h, k14, e15⟩ := y_gf_ok (ty := 3) h hR7 (by decide) rfl
    obtain ⟨g16, h⟩ := f_if_ok h
    have q17 : 0 < v13 := Nat.ble_eq.mp g16
    refine v_gf3 (np := 26) rfl rfl k14 e15 ?_
    clear k14 e15
    obtain ⟨v18, h, n19, k20⟩ := y_ln_ok h hR7 hG
    refine v_ln (np := 27) rfl rfl k20 ?_
    rcases z_if_t h with ⟨g21, h⟩ | ⟨g21, h⟩
    · refine v_le_f (t1 := 34) rfl rfl g21 ?_
      refine w_s (np := 31) (lv' := [some (eR a0), some (eI (zI v11)), none, none]) (st' := [eR a0]) rfl (s_an rfl p0) rfl ?_
      refine w_cv (np := 34) (as := []) (lv' := [some (eR a0)]) (rest := []) rfl rfl rfl (Nat.ble_eq.mp rfl) rfl rfl rfl (hl8 _ _ hk) rfl ?_
      refine m_17_ok hG h hR7 (hl8 _ _ hk) p0 ?_
      intro M22 μ23 h hR24 hl26
      have hl25 := y_le.tr hl8 hl26
      show ex_fine fg rc rs (d + 3, (31, 34, [some (eR a0), some (eI (zI v11)), none, none], []), f :: F, μ23)
      exact m_31_34_ok hG hk p0 hK _ M22 μ23 h hR24 hl25
    · refine v_le_t (t1 := 34) rfl rfl g21 ?_
      exact m_31_34_ok hG hk p0 hK _ M5 μ6 h hR7 hl8
noncomputable def m_30_41 (a0 a1 : Nat) (K : yM → Bool) (a2 : Nat) (M : yM) : Bool := K M
theorem m_30_41_ok {fg : eG} {rc rs d : Nat} {f : eFr} {F : List eFr} {μ0 : eM} {a0 a1 : Nat} {K : yM → Bool} (hG : yG fg y_T) (hk : ev_kd μ0 a0 = some 2) (p0 : 0 < a0) (hK : ∀ (M : yM) (μ : eM), K M = true → yR M μ → y_le μ0 μ → ex_fine fg rc rs (d + 5, (f.1, f.2.1, f.2.2.1, f.2.2.2), F, μ)) : ∀ (a2 : Nat) (M : yM) (μ : eM), m_30_41 a0 a1 K a2 M = true → yR M μ → y_le μ0 μ → ex_fine fg rc rs (d + 4, (30, 41, [some (eR a0), some (eI (zI a1)), some (eI (zI a2))], []), f :: F, μ) := by
  intro a2 M μ h hR hl
  unfold m_30_41 at h
  exact v_rv rfl rfl (hK _ _ h hR hl)
noncomputable def m_30_18b (a0 a1 : Nat) (K : yM → Bool) (i18 : Nat → yM → Bool) (a2 : Nat) (M : yM) : Bool := z_if (z_lt a2 5) (y_gf M a0 2 6 fun v2 => z_if (z_lt v2 a1) (m_31 a0 M fun M6 => z_l (z_add a2 1) fun v11 => z_f v11 fun w12 => i18 w12 M6) (m_30_41 a0 a1 K a2 M)) (m_30_41 a0 a1 K a2 M)
noncomputable def m_30_18 (a0 a1 : Nat) (K : yM → Bool) (n : Nat) : Nat → yM → Bool := @Nat.rec (fun _ => Nat → yM → Bool) (fun _ _ => false) (fun _ ih => m_30_18b a0 a1 K ih) n
theorem m_30_18b_ok {fg : eG} {rc rs d : Nat} {f : eFr} {F : List eFr} {μ0 : eM} {a0 a1 : Nat} {K : yM → Bool} {i18 : Nat → yM → Bool} (hG : yG fg y_T) (hk : ev_kd μ0 a0 = some 2) (p0 : 0 < a0) (hK : ∀ (M : yM) (μ : eM), K M = true → yR M μ → y_le μ0 μ → ex_fine fg rc rs (d + 5, (f.1, f.2.1, f.2.2.1, f.2.2.2), F, μ)) (h18 : ∀ (a2 : Nat) (M : yM) (μ : eM), i18 a2 M = true → yR M μ → y_le μ0 μ → ex_fine fg rc rs (d + 4, (30, 18, [some (eR a0), some (eI (zI a1)), some (eI (zI a2))], []), f :: F, μ)) : ∀ (a2 : Nat) (M : yM) (μ : eM), m_30_18b a0 a1 K i18 a2 M = true → yR M μ → y_le μ0 μ → ex_fine fg rc rs (d + 4, (30, 18, [some (eR a0), some (eI (zI a1)), some (eI (zI a2))], []), f :: F, μ) := by
  intro a2 M μ h hR hl
  unfold m_30_18b at h
  refine w_s (np := 19) (lv' := [some (eR a0), some (eI (zI a1)), some (eI (zI a2))]) (st' := [eI (zI a2)]) rfl rfl rfl ?_
  refine w_s (np := 20) (lv' := [some (eR a0), some (eI (zI a1)), some (eI (zI a2))]) (st' := [eI (zI 5), eI (zI a2)]) rfl rfl rfl ?_
  rcases z_if_t h with ⟨g1, h⟩ | ⟨g1, h⟩
  · refine v_ge_f (t1 := 41) rfl rfl g1 ?_
    refine w_s (np := 24) (lv' := [some (eR a0), some (eI (zI a1)), some (eI (zI a2))]) (st' := [eR a0]) rfl (s_an rfl p0) rfl ?_
    obtain ⟨v2, h, k3, e4⟩ := y_gf_ok (ty := 0) h hR (by decide) rfl
    refine v_gf0 (np := 27) rfl rfl k3 e4 ?_
    clear k3 e4
    refine w_s (np := 28) (lv' := [some (eR a0), some (eI (zI a1)), some (eI (zI a2))]) (st' := [eI (zI a1), eI (zI v2)]) rfl rfl rfl ?_
    rcases z_if_t h with ⟨g5, h⟩ | ⟨g5, h⟩
    · refine v_ge_f (t1 := 41) rfl rfl g5 ?_
      refine w_s (np := 32) (lv' := [some (eR a0), some (eI (zI a1)), some (eI (zI a2))]) (st' := [eR a0]) rfl (s_an rfl p0) rfl ?_
      refine w_cv (np := 35) (as := []) (lv' := [some (eR a0), none, none, none]) (rest := []) rfl rfl rfl (Nat.ble_eq.mp rfl) rfl rfl rfl (hl _ _ hk) rfl ?_
      refine m_31_ok hG h hR (hl _ _ hk) p0 ?_
      intro M6 μ7 h hR8 hl10
      have hl9 := y_le.tr hl hl10
      show ex_fine fg rc rs (d + 4, (30, 35, [some (eR a0), some (eI (zI a1)), some (eI (zI a2))], []), f :: F, μ7)
      obtain ⟨v11, ev11, h⟩ := z_l_ex h
      refine w_s (np := 38) (lv' := [some (eR a0), some (eI (zI a1)), some (eI (zI v11))]) (st' := []) rfl (s_iinc (b := 1) rfl rfl ev11 rfl) rfl ?_
      clear ev11
      refine w_go (t1 := 18) rfl rfl ?_
      obtain ⟨w12, ew12, h⟩ := z_f_ex h
      subst ew12
      exact h18 _ M6 μ7 h hR8 hl9
    · refine v_ge_t (t1 := 41) rfl rfl g5 ?_
      exact m_30_41_ok hG hk p0 hK _ M μ h hR hl
  · refine v_ge_t (t1 := 41) rfl rfl g1 ?_
    exact m_30_41_ok hG hk p0 hK _ M μ h hR hl
theorem m_30_18_ok {fg : eG} {rc rs d : Nat} {f : eFr} {F : List eFr} {μ0 : eM} {a0 a1 : Nat} {K : yM → Bool} (hG : yG fg y_T) (hk : ev_kd μ0 a0 = some 2) (p0 : 0 < a0) (hK : ∀ (M : yM) (μ : eM), K M = true → yR M μ → y_le μ0 μ → ex_fine fg rc rs (d + 5, (f.1, f.2.1, f.2.2.1, f.2.2.2), F, μ)) : ∀ n : Nat, ∀ (a2 : Nat) (M : yM) (μ : eM), m_30_18 a0 a1 K n a2 M = true → yR M μ → y_le μ0 μ → ex_fine fg rc rs (d + 4, (30, 18, [some (eR a0), some (eI (zI a1)), some (eI (zI a2))], []), f :: F, μ) := by
  intro n
  induction n with
  | zero =>
    intro a2 M μ h hR hl
    exact absurd h Bool.false_ne_true
  | succ n ih =>
    intro a2 M μ h hR hl
    exact m_30_18b_ok hG hk p0 hK ih a2 M μ h hR hl
noncomputable def m_30_16 (a0 a1 : Nat) (K : yM → Bool) (M : yM) : Bool := m_30_18 a0 a1 K 100000 0 M
theorem m_30_16_ok {fg : eG} {rc rs d : Nat} {f : eFr} {F : List eFr} {μ0 : eM} {a0 a1 : Nat} {K : yM → Bool} (hG : yG fg y_T) (hk : ev_kd μ0 a0 = some 2) (p0 : 0 < a0) (hK : ∀ (M : yM) (μ : eM), K M = true → yR M μ → y_le μ0 μ → ex_fine fg rc rs (d + 5, (f.1, f.2.1, f.2.2.1, f.2.2.2), F, μ)) : ∀ (M : yM) (μ : eM), m_30_16 a0 a1 K M = true → yR M μ → y_le μ0 μ → ex_fine fg rc rs (d + 4, (30, 16, [some (eR a0), some (eI (zI a1)), none], []), f :: F, μ) := by
  intro M μ h hR hl
  unfold m_30_16 at h
  refine w_s (np := 17) (lv' := [some (eR a0), some (eI (zI a1)), none]) (st' := [eI (zI 0)]) rfl rfl rfl ?_
  refine w_s (np := 18) (lv' := [some (eR a0), some (eI (zI a1)), some (eI (zI 0))]) (st' := []) rfl rfl rfl ?_
  exact m_30_18_ok hG hk p0 hK 100000 _ M μ h hR hl
/-! RhombInflator$Patch.bringTo -/
noncomputable def m_30 (a0 a1 : Nat) (M : yM) (K : yM → Bool) : Bool := y_gf M a0 2 6 fun v1 => z_if (z_lt a1 v1) (y_gf M a0 2 5 fun v5 => m_26 a0 v5 M fun M8 => m_30_16 a0 a1 K M8) (m_30_16 a0 a1 K M)
theorem m_30_ok {fg : eG} {rc rs d : Nat} {f : eFr} {F : List eFr} {M : yM} {μ0 : eM} {a0 a1 : Nat} {K : yM → Bool} (hG : yG fg y_T) (h : m_30 a0 a1 M K = true) (hR : yR M μ0) (hk : ev_kd μ0 a0 = some 2) (p0 : 0 < a0) (hK : ∀ (M : yM) (μ : eM), K M = true → yR M μ → y_le μ0 μ → ex_fine fg rc rs (d + 5, (f.1, f.2.1, f.2.2.1, f.2.2.2), F, μ)) : ex_fine fg rc rs (d + 4, (30, 0, [some (eR a0), some (eI (zI a1)), none], []), f :: F, μ0) := by
  unfold m_30 at h
  have hl := y_le_r μ0
  refine w_s (np := 1) (lv' := [some (eR a0), some (eI (zI a1)), none]) (st' := [eI (zI a1)]) rfl rfl rfl ?_
  refine w_s (np := 2) (lv' := [some (eR a0), some (eI (zI a1)), none]) (st' := [eR a0, eI (zI a1)]) rfl (s_an rfl p0) rfl ?_
  obtain ⟨v1, h, k2, e3⟩ := y_gf_ok (ty := 0) h hR (by decide) rfl
  refine v_gf0 (np := 5) rfl rfl k2 e3 ?_
  clear k2 e3
  rcases z_if_t h with ⟨g4, h⟩ | ⟨g4, h⟩
  · refine v_ge_f (t1 := 16) rfl rfl g4 ?_
    refine w_s (np := 9) (lv' := [some (eR a0), some (eI (zI a1)), none]) (st' := [eR a0]) rfl (s_an rfl p0) rfl ?_
    refine w_s (np := 10) (lv' := [some (eR a0), some (eI (zI a1)), none]) (st' := [eR a0, eR a0]) rfl (s_an rfl p0) rfl ?_
    obtain ⟨v5, h, k6, e7⟩ := y_gf_ok (ty := 0) h hR (by decide) rfl
    refine v_gf0 (np := 13) rfl rfl k6 e7 ?_
    clear k6 e7
    refine w_cv (np := 16) (as := [eI (zI v5)]) (lv' := [some (eR a0), some (eI (zI v5)), none]) (rest := []) rfl rfl rfl (Nat.ble_eq.mp rfl) rfl rfl rfl (hl _ _ hk) rfl ?_
    refine m_26_ok hG h hR (hl _ _ hk) p0 ?_
    intro M8 μ9 h hR10 hl12
    have hl11 := y_le.tr hl hl12
    show ex_fine fg rc rs (d + 4, (30, 16, [some (eR a0), some (eI (zI a1)), none], []), f :: F, μ9)
    exact m_30_16_ok hG hk p0 hK M8 μ9 h hR10 hl11
  · refine v_ge_t (t1 := 16) rfl rfl g4 ?_
    exact m_30_16_ok hG hk p0 hK M μ0 h hR hl
