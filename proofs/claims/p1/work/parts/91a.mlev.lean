/-! level: its methods -/
/-! RhombInflator.forgetSides -/
noncomputable def m_208 (a0 : Nat) (M : yM) (K : yM → Bool) : Bool := f_if false (Nat.ble 0 1) (y_wf M a0 10 11 0 fun M1 => f_if false (Nat.ble 0 1) (y_wf M1 a0 10 12 0 fun M8 => K M8))
theorem m_208_ok {fg : eG} {rc rs d : Nat} {f : eFr} {F : List eFr} {M : yM} {μ0 : eM} {a0 : Nat} {K : yM → Bool} (hG : yG fg y_T) (h : m_208 a0 M K = true) (hR : yR M μ0) (hk : ev_kd μ0 a0 = some 10) (p0 : 0 < a0) (hK : ∀ (M : yM) (μ : eM), K M = true → yR M μ → y_le μ0 μ → ex_fine fg rc rs (d + 1, (f.1, f.2.1, f.2.2.1, f.2.2.2), F, μ)) : ex_fine fg rc rs (d, (208, 0, [some (eR a0)], []), f :: F, μ0) := by
  unfold m_208 at h
  have hl := y_le_r μ0
  refine w_t (np := 1) (l2 := [some (eR a0)]) (s2 := [eR a0]) rfl (s_an rfl p0) rfl ?_
  refine w_t (np := 2) (l2 := [some (eR a0)]) (s2 := [eI (zI 0), eR a0]) rfl rfl rfl ?_
  obtain ⟨g7, h⟩ := f_if_ok h
  obtain ⟨M1, μ2, h, k5, hR3, hl4, e6⟩ := y_wf_ex (ty := 1) h hR hl rfl (by decide)
  refine v_pe1 (np := 5) rfl rfl k5 g7 e6 ?_
  clear k5 e6
  refine w_t (np := 6) (l2 := [some (eR a0)]) (s2 := [eR a0]) rfl (s_an rfl p0) rfl ?_
  refine w_t (np := 7) (l2 := [some (eR a0)]) (s2 := [eI (zI 0), eR a0]) rfl rfl rfl ?_
  obtain ⟨g14, h⟩ := f_if_ok h
  obtain ⟨M8, μ9, h, k12, hR10, hl11, e13⟩ := y_wf_ex (ty := 1) h hR3 hl4 rfl (by decide)
  refine v_pe1 (np := 10) rfl rfl k12 g14 e13 ?_
  clear k12 e13
  exact v_rv rfl rfl (hK _ _ h hR10 hl11)
noncomputable def m_157_9 (a0 a1 : Nat) (K : Nat → yM → Bool) (M : yM) : Bool := m_205 a0 1 M fun v6 M1 => K v6 M1
theorem m_157_9_ok {fg : eG} {rc rs d : Nat} {f : eFr} {F : List eFr} {μ0 : eM} {a0 a1 : Nat} {K : Nat → yM → Bool} (hG : yG fg y_T) (hk : ev_kd μ0 a0 = some 10) (p0 : 0 < a0) (hK : ∀ (r : Nat) (M : yM) (μ : eM), K r M = true → yR M μ → y_le μ0 μ → ex_fine fg rc rs (d + 6, (f.1, f.2.1, f.2.2.1, eI (zI r) :: f.2.2.2), F, μ)) : ∀ (M : yM) (μ : eM), m_157_9 a0 a1 K M = true → yR M μ → y_le μ0 μ → ex_fine fg rc rs (d + 5, (157, 9, [some (eR a0), some (eI (zI a1))], []), f :: F, μ) := by
  intro M μ h hR hl
  unfold m_157_9 at h
  refine w_t (np := 10) (l2 := [some (eR a0), some (eI (zI a1))]) (s2 := [eR a0]) rfl (s_an rfl p0) rfl ?_
  refine w_t (np := 11) (l2 := [some (eR a0), some (eI (zI a1))]) (s2 := [eI (zI 1), eR a0]) rfl rfl rfl ?_
  refine w_cw (np := 14) (as := [eI (zI 1)]) (l2 := [some (eR a0), some (eI (zI 1))]) (rest := []) rfl rfl rfl (Nat.ble_eq.mp rfl) rfl rfl rfl (hl _ _ hk) rfl ?_
  refine m_205_ok hG h hR (hl _ _ hk) p0 ?_
  intro v6 M1 μ2 h hR3 hl5
  have hl4 := y_le.tr hl hl5
  show ex_fine fg rc rs (d + 5, (157, 14, [some (eR a0), some (eI (zI a1))], [eI (zI v6)]), f :: F, μ2)
  exact v_ri rfl rfl (hK _ _ _ h hR3 hl4)
/-! RhombInflator.level -/
noncomputable def m_157 (a0 a1 : Nat) (M : yM) (K : Nat → yM → Bool) : Bool := z_if (z_l0 a1) (m_157_9 a0 a1 K M) (z_if (z_lt 5 a1) (m_157_9 a0 a1 K M) (y_gf M a0 10 0 fun v3 => f_if false (Nat.ble 1 v3) (y_is M v3 2 (m_30 v3 a1 M fun M8 => m_208 a0 M8 fun M14 => y_gf M14 a0 10 0 fun v19 => f_if false (Nat.ble 1 v19) (y_gf M14 v19 2 7 fun v24 => m_206 a0 v24 M14 fun v32 M27 => K v32 M27)))))
theorem m_157_ok {fg : eG} {rc rs d : Nat} {f : eFr} {F : List eFr} {M : yM} {μ0 : eM} {a0 a1 : Nat} {K : Nat → yM → Bool} (hG : yG fg y_T) (h : m_157 a0 a1 M K = true) (hR : yR M μ0) (hk : ev_kd μ0 a0 = some 10) (p0 : 0 < a0) (hK : ∀ (r : Nat) (M : yM) (μ : eM), K r M = true → yR M μ → y_le μ0 μ → ex_fine fg rc rs (d + 6, (f.1, f.2.1, f.2.2.1, eI (zI r) :: f.2.2.2), F, μ)) : ex_fine fg rc rs (d + 5, (157, 0, [some (eR a0), some (eI (zI a1))], []), f :: F, μ0) := by
  unfold m_157 at h
  have hl := y_le_r μ0
  refine w_t (np := 1) (l2 := [some (eR a0), some (eI (zI a1))]) (s2 := [eI (zI a1)]) rfl rfl rfl ?_
  rcases z_if_t h with ⟨g1, h⟩ | ⟨g1, h⟩
  · refine v_lt0_t (t1 := 9) rfl rfl g1 ?_
    exact m_157_9_ok hG hk p0 hK M μ0 h hR hl
  · refine v_lt0_f (t1 := 9) rfl rfl g1 ?_
    refine w_t (np := 5) (l2 := [some (eR a0), some (eI (zI a1))]) (s2 := [eI (zI a1)]) rfl rfl rfl ?_
    refine w_t (np := 6) (l2 := [some (eR a0), some (eI (zI a1))]) (s2 := [eI (zI 5), eI (zI a1)]) rfl rfl rfl ?_
    rcases z_if_t h with ⟨g2, h⟩ | ⟨g2, h⟩
    · refine v_le_f (t1 := 15) rfl rfl g2 ?_
      exact m_157_9_ok hG hk p0 hK M μ0 h hR hl
    · refine v_le_t (t1 := 15) rfl rfl g2 ?_
      refine w_t (np := 16) (l2 := [some (eR a0), some (eI (zI a1))]) (s2 := [eR a0]) rfl (s_an rfl p0) rfl ?_
      obtain ⟨v3, h, k4, e5⟩ := y_gf_ok (ty := 3) h hR (by decide) rfl
      obtain ⟨g6, h⟩ := f_if_ok h
      have q7 : 0 < v3 := Nat.ble_eq.mp g6
      refine v_gf3 (np := 19) rfl rfl k4 e5 ?_
      clear k4 e5
      refine w_t (np := 20) (l2 := [some (eR a0), some (eI (zI a1))]) (s2 := [eI (zI a1), eR v3]) rfl rfl rfl ?_
      obtain ⟨k13, h⟩ := y_is_ok h hR
      refine w_cw (np := 23) (as := [eI (zI a1)]) (l2 := [some (eR v3), some (eI (zI a1)), none]) (rest := []) rfl rfl rfl (Nat.ble_eq.mp rfl) rfl rfl rfl k13 rfl ?_
      refine m_30_ok hG h hR k13 q7 ?_
      intro M8 μ9 h hR10 hl12
      have hl11 := y_le.tr hl hl12
      show ex_fine fg rc rs (d + 5, (157, 23, [some (eR a0), some (eI (zI a1))], []), f :: F, μ9)
      refine w_t (np := 24) (l2 := [some (eR a0), some (eI (zI a1))]) (s2 := [eR a0]) rfl (s_an rfl p0) rfl ?_
      refine w_cw (np := 27) (as := []) (l2 := [some (eR a0)]) (rest := []) rfl rfl rfl (Nat.ble_eq.mp rfl) rfl rfl rfl (hl11 _ _ hk) rfl ?_
      refine m_208_ok hG h hR10 (hl11 _ _ hk) p0 ?_
      intro M14 μ15 h hR16 hl18
      have hl17 := y_le.tr hl11 hl18
      show ex_fine fg rc rs (d + 5, (157, 27, [some (eR a0), some (eI (zI a1))], []), f :: F, μ15)
      refine w_t (np := 28) (l2 := [some (eR a0), some (eI (zI a1))]) (s2 := [eR a0]) rfl (s_an rfl p0) rfl ?_
      refine w_t (np := 29) (l2 := [some (eR a0), some (eI (zI a1))]) (s2 := [eR a0, eR a0]) rfl (s_an rfl p0) rfl ?_
      obtain ⟨v19, h, k20, e21⟩ := y_gf_ok (ty := 3) h hR16 (by decide) rfl
      obtain ⟨g22, h⟩ := f_if_ok h
      have q23 : 0 < v19 := Nat.ble_eq.mp g22
      refine v_gf3 (np := 32) rfl rfl k20 e21 ?_
      clear k20 e21
      obtain ⟨v24, h, k25, e26⟩ := y_gf_ok (ty := 0) h hR16 (by decide) rfl
      refine v_gf0 (np := 35) rfl rfl k25 e26 ?_
      clear k25 e26
      refine w_cw (np := 38) (as := [eI (zI v24)]) (l2 := [some (eR a0), some (eI (zI v24))]) (rest := []) rfl rfl rfl (Nat.ble_eq.mp rfl) rfl rfl rfl (hl17 _ _ hk) rfl ?_
      refine m_206_ok hG h hR16 (hl17 _ _ hk) p0 ?_
      intro v32 M27 μ28 h hR29 hl31
      have hl30 := y_le.tr hl17 hl31
      show ex_fine fg rc rs (d + 5, (157, 38, [some (eR a0), some (eI (zI a1))], [eI (zI v32)]), f :: F, μ28)
      exact v_ri rfl rfl (hK _ _ _ h hR29 hl30)
noncomputable def m_257_15 (a0 a1 : Nat) (K : Nat → yM → Bool) (s0 s1 : Nat) (M : yM) : Bool := y_is M s1 11 (m_215 s1 s0 M fun v6 M1 => z_if (z_e0 v6) (K 4294967295 M1) (y_gf M1 a0 11 6 fun v9 => m_239 a0 v9 a1 M1 fun M12 => y_gf M12 a0 11 8 fun v17 => K v17 M12))
theorem m_257_15_ok {fg : eG} {rc rs d : Nat} {f : eFr} {F : List eFr} {μ0 : eM} {a0 a1 : Nat} {K : Nat → yM → Bool} (hG : yG fg y_T) (hk : ev_kd μ0 a0 = some 11) (p0 : 0 < a0) (hK : ∀ (r : Nat) (M : yM) (μ : eM), K r M = true → yR M μ → y_le μ0 μ → ex_fine fg rc rs (d + 7, (f.1, f.2.1, f.2.2.1, eI (zI r) :: f.2.2.2), F, μ)) : ∀ (s0 s1 : Nat) (M : yM) (μ : eM), m_257_15 a0 a1 K s0 s1 M = true → yR M μ → y_le μ0 μ → 0 < s1 → ex_fine fg rc rs (d + 6, (257, 15, [some (eR a0), some (eI (zI a1))], [eI (zI s0), eR s1]), f :: F, μ) := by
  intro s0 s1 M μ h hR hl q1
  unfold m_257_15 at h
  obtain ⟨k7, h⟩ := y_is_ok h hR
  refine w_cw (np := 18) (as := [eI (zI s0)]) (l2 := [some (eR s1), some (eI (zI s0))]) (rest := []) rfl rfl rfl (Nat.ble_eq.mp rfl) rfl rfl rfl k7 rfl ?_
  refine m_215_ok hG h hR k7 q1 ?_
  intro v6 M1 μ2 h hR3 hl5
  have hl4 := y_le.tr hl hl5
  show ex_fine fg rc rs (d + 6, (257, 18, [some (eR a0), some (eI (zI a1))], [eI (zI v6)]), f :: F, μ2)
  rcases z_if_t h with ⟨g8, h⟩ | ⟨g8, h⟩
  · refine v_ne0_f (t1 := 23) rfl rfl g8 ?_
    refine w_t (np := 22) (l2 := [some (eR a0), some (eI (zI a1))]) (s2 := [eI (zI 4294967295)]) rfl rfl rfl ?_
    exact v_ri rfl rfl (hK _ _ _ h hR3 hl4)
  · refine v_ne0_t (t1 := 23) rfl rfl g8 ?_
    refine w_t (np := 24) (l2 := [some (eR a0), some (eI (zI a1))]) (s2 := [eR a0]) rfl (s_an rfl p0) rfl ?_
    refine w_t (np := 25) (l2 := [some (eR a0), some (eI (zI a1))]) (s2 := [eR a0, eR a0]) rfl (s_an rfl p0) rfl ?_
    obtain ⟨v9, h, k10, e11⟩ := y_gf_ok (ty := 0) h hR3 (by decide) rfl
    refine v_gf0 (np := 28) rfl rfl k10 e11 ?_
    clear k10 e11
    refine w_t (np := 29) (l2 := [some (eR a0), some (eI (zI a1))]) (s2 := [eI (zI a1), eI (zI v9), eR a0]) rfl rfl rfl ?_
    refine w_cw (np := 32) (as := [eI (zI v9), eI (zI a1)]) (l2 := [some (eR a0), some (eI (zI v9)), some (eI (zI a1)), none, none]) (rest := []) rfl rfl rfl (Nat.ble_eq.mp rfl) rfl rfl rfl (hl4 _ _ hk) rfl ?_
    refine m_239_ok hG h hR3 (hl4 _ _ hk) p0 ?_
    intro M12 μ13 h hR14 hl16
    have hl15 := y_le.tr hl4 hl16
    show ex_fine fg rc rs (d + 6, (257, 32, [some (eR a0), some (eI (zI a1))], []), f :: F, μ13)
    refine w_t (np := 33) (l2 := [some (eR a0), some (eI (zI a1))]) (s2 := [eR a0]) rfl (s_an rfl p0) rfl ?_
    obtain ⟨v17, h, k18, e19⟩ := y_gf_ok (ty := 0) h hR14 (by decide) rfl
    refine v_gf0 (np := 36) rfl rfl k18 e19 ?_
    clear k18 e19
    exact v_ri rfl rfl (hK _ _ _ h hR14 hl15)
/-! RhombInflatorModel.level -/
noncomputable def m_257 (a0 a1 : Nat) (M : yM) (K : Nat → yM → Bool) : Bool := m_216 a1 0 5 M fun v6 M1 => z_if (z_e0 v6) (m_257_15 a0 a1 K 1 a0 M1) (m_257_15 a0 a1 K 0 a0 M1)
theorem m_257_ok {fg : eG} {rc rs d : Nat} {f : eFr} {F : List eFr} {M : yM} {μ0 : eM} {a0 a1 : Nat} {K : Nat → yM → Bool} (hG : yG fg y_T) (h : m_257 a0 a1 M K = true) (hR : yR M μ0) (hk : ev_kd μ0 a0 = some 11) (p0 : 0 < a0) (hK : ∀ (r : Nat) (M : yM) (μ : eM), K r M = true → yR M μ → y_le μ0 μ → ex_fine fg rc rs (d + 7, (f.1, f.2.1, f.2.2.1, eI (zI r) :: f.2.2.2), F, μ)) : ex_fine fg rc rs (d + 6, (257, 0, [some (eR a0), some (eI (zI a1))], []), f :: F, μ0) := by
  unfold m_257 at h
  have hl := y_le_r μ0
  refine w_t (np := 1) (l2 := [some (eR a0), some (eI (zI a1))]) (s2 := [eR a0]) rfl (s_an rfl p0) rfl ?_
  refine w_t (np := 2) (l2 := [some (eR a0), some (eI (zI a1))]) (s2 := [eI (zI a1), eR a0]) rfl rfl rfl ?_
  refine w_t (np := 3) (l2 := [some (eR a0), some (eI (zI a1))]) (s2 := [eI (zI 0), eI (zI a1), eR a0]) rfl rfl rfl ?_
  refine w_t (np := 4) (l2 := [some (eR a0), some (eI (zI a1))]) (s2 := [eI (zI 5), eI (zI 0), eI (zI a1), eR a0]) rfl rfl rfl ?_
  refine w_cu (np := 7) (as := [eI (zI a1), eI (zI 0), eI (zI 5)]) (l2 := [some (eI (zI a1)), some (eI (zI 0)), some (eI (zI 5))]) (rest := [eR a0]) rfl rfl rfl (Nat.ble_eq.mp rfl) rfl rfl rfl rfl ?_
  refine m_216_ok hG h hR ?_
  intro v6 M1 μ2 h hR3 hl5
  have hl4 := y_le.tr hl hl5
  show ex_fine fg rc rs (d + 6, (257, 7, [some (eR a0), some (eI (zI a1))], [eI (zI v6), eR a0]), f :: F, μ2)
  rcases z_if_t h with ⟨g7, h⟩ | ⟨g7, h⟩
  · refine v_eq0_t (t1 := 14) rfl rfl g7 ?_
    refine w_t (np := 15) (l2 := [some (eR a0), some (eI (zI a1))]) (s2 := [eI (zI 1), eR a0]) rfl rfl rfl ?_
    exact m_257_15_ok hG hk p0 hK _ _ M1 μ2 h hR3 hl4 p0
  · refine v_eq0_f (t1 := 14) rfl rfl g7 ?_
    refine w_t (np := 11) (l2 := [some (eR a0), some (eI (zI a1))]) (s2 := [eI (zI 0), eR a0]) rfl rfl rfl ?_
    refine w_go (t1 := 15) rfl rfl ?_
    exact m_257_15_ok hG hk p0 hK _ _ M1 μ2 h hR3 hl4 p0
noncomputable def mv_257_15 (c239 : Nat → Nat → Nat → yM → (yM → Bool) → Bool) (a0 a1 : Nat) (K : Nat → yM → Bool) (s0 s1 : Nat) (M : yM) : Bool := y_is M s1 11 (m_215 s1 s0 M fun v6 M1 => z_if (z_e0 v6) (K 4294967295 M1) (y_gf M1 a0 11 6 fun v9 => c239 a0 v9 a1 M1 fun M12 => y_gf M12 a0 11 8 fun v17 => K v17 M12))
theorem mv_257_15_ok {fg : eG} {rc rs d : Nat} {f : eFr} {F : List eFr} {μ0 : eM} {c239 : Nat → Nat → Nat → yM → (yM → Bool) → Bool} {a0 a1 : Nat} {K : Nat → yM → Bool} (hc239 : ∀ (d : Nat) (f : eFr) (F : List eFr) (b0 b1 b2 : Nat) (M : yM) (μ : eM) (K : yM → Bool), c239 b0 b1 b2 M K = true → yR M μ → ev_kd μ b0 = some 11 → 0 < b0 → (∀ (M : yM) (μ2 : eM), K M = true → yR M μ2 → y_le μ μ2 → ex_fine fg rc rs (d + 6, (f.1, f.2.1, f.2.2.1, f.2.2.2), F, μ2)) → ex_fine fg rc rs (d + 5, (239, 0, [some (eR b0), some (eI (zI b1)), some (eI (zI b2)), none, none], []), f :: F, μ)) (hG : yG fg y_T) (hk : ev_kd μ0 a0 = some 11) (p0 : 0 < a0) (hK : ∀ (r : Nat) (M : yM) (μ : eM), K r M = true → yR M μ → y_le μ0 μ → ex_fine fg rc rs (d + 7, (f.1, f.2.1, f.2.2.1, eI (zI r) :: f.2.2.2), F, μ)) : ∀ (s0 s1 : Nat) (M : yM) (μ : eM), mv_257_15 c239 a0 a1 K s0 s1 M = true → yR M μ → y_le μ0 μ → 0 < s1 → ex_fine fg rc rs (d + 6, (257, 15, [some (eR a0), some (eI (zI a1))], [eI (zI s0), eR s1]), f :: F, μ) := by
  intro s0 s1 M μ h hR hl q1
  unfold mv_257_15 at h
  obtain ⟨k7, h⟩ := y_is_ok h hR
  refine w_cw (np := 18) (as := [eI (zI s0)]) (l2 := [some (eR s1), some (eI (zI s0))]) (rest := []) rfl rfl rfl (Nat.ble_eq.mp rfl) rfl rfl rfl k7 rfl ?_
  refine m_215_ok hG h hR k7 q1 ?_
  intro v6 M1 μ2 h hR3 hl5
  have hl4 := y_le.tr hl hl5
  show ex_fine fg rc rs (d + 6, (257, 18, [some (eR a0), some (eI (zI a1))], [eI (zI v6)]), f :: F, μ2)
  rcases z_if_t h with ⟨g8, h⟩ | ⟨g8, h⟩
  · refine v_ne0_f (t1 := 23) rfl rfl g8 ?_
    refine w_t (np := 22) (l2 := [some (eR a0), some (eI (zI a1))]) (s2 := [eI (zI 4294967295)]) rfl rfl rfl ?_
    exact v_ri rfl rfl (hK _ _ _ h hR3 hl4)
  · refine v_ne0_t (t1 := 23) rfl rfl g8 ?_
    refine w_t (np := 24) (l2 := [some (eR a0), some (eI (zI a1))]) (s2 := [eR a0]) rfl (s_an rfl p0) rfl ?_
    refine w_t (np := 25) (l2 := [some (eR a0), some (eI (zI a1))]) (s2 := [eR a0, eR a0]) rfl (s_an rfl p0) rfl ?_
    obtain ⟨v9, h, k10, e11⟩ := y_gf_ok (ty := 0) h hR3 (by decide) rfl
    refine v_gf0 (np := 28) rfl rfl k10 e11 ?_
    clear k10 e11
    refine w_t (np := 29) (l2 := [some (eR a0), some (eI (zI a1))]) (s2 := [eI (zI a1), eI (zI v9), eR a0]) rfl rfl rfl ?_
    refine w_cw (np := 32) (as := [eI (zI v9), eI (zI a1)]) (l2 := [some (eR a0), some (eI (zI v9)), some (eI (zI a1)), none, none]) (rest := []) rfl rfl rfl (Nat.ble_eq.mp rfl) rfl rfl rfl (hl4 _ _ hk) rfl ?_
    refine hc239 _ _ _ _ _ _ _ _ _ h hR3 (hl4 _ _ hk) p0 ?_
    intro M12 μ13 h hR14 hl16
    have hl15 := y_le.tr hl4 hl16
    show ex_fine fg rc rs (d + 6, (257, 32, [some (eR a0), some (eI (zI a1))], []), f :: F, μ13)
    refine w_t (np := 33) (l2 := [some (eR a0), some (eI (zI a1))]) (s2 := [eR a0]) rfl (s_an rfl p0) rfl ?_
    obtain ⟨v17, h, k18, e19⟩ := y_gf_ok (ty := 0) h hR14 (by decide) rfl
    refine v_gf0 (np := 36) rfl rfl k18 e19 ?_
    clear k18 e19
    exact v_ri rfl rfl (hK _ _ _ h hR14 hl15)
/-! RhombInflatorModel.level -/
noncomputable def mv_257 (c239 : Nat → Nat → Nat → yM → (yM → Bool) → Bool) (a0 a1 : Nat) (M : yM) (K : Nat → yM → Bool) : Bool := m_216 a1 0 5 M fun v6 M1 => z_if (z_e0 v6) (mv_257_15 c239 a0 a1 K 1 a0 M1) (mv_257_15 c239 a0 a1 K 0 a0 M1)
theorem mv_257_ok {fg : eG} {rc rs d : Nat} {f : eFr} {F : List eFr} {M : yM} {μ0 : eM} {c239 : Nat → Nat → Nat → yM → (yM → Bool) → Bool} {a0 a1 : Nat} {K : Nat → yM → Bool} (hc239 : ∀ (d : Nat) (f : eFr) (F : List eFr) (b0 b1 b2 : Nat) (M : yM) (μ : eM) (K : yM → Bool), c239 b0 b1 b2 M K = true → yR M μ → ev_kd μ b0 = some 11 → 0 < b0 → (∀ (M : yM) (μ2 : eM), K M = true → yR M μ2 → y_le μ μ2 → ex_fine fg rc rs (d + 6, (f.1, f.2.1, f.2.2.1, f.2.2.2), F, μ2)) → ex_fine fg rc rs (d + 5, (239, 0, [some (eR b0), some (eI (zI b1)), some (eI (zI b2)), none, none], []), f :: F, μ)) (hG : yG fg y_T) (h : mv_257 c239 a0 a1 M K = true) (hR : yR M μ0) (hk : ev_kd μ0 a0 = some 11) (p0 : 0 < a0) (hK : ∀ (r : Nat) (M : yM) (μ : eM), K r M = true → yR M μ → y_le μ0 μ → ex_fine fg rc rs (d + 7, (f.1, f.2.1, f.2.2.1, eI (zI r) :: f.2.2.2), F, μ)) : ex_fine fg rc rs (d + 6, (257, 0, [some (eR a0), some (eI (zI a1))], []), f :: F, μ0) := by
  unfold mv_257 at h
  have hl := y_le_r μ0
  refine w_t (np := 1) (l2 := [some (eR a0), some (eI (zI a1))]) (s2 := [eR a0]) rfl (s_an rfl p0) rfl ?_
  refine w_t (np := 2) (l2 := [some (eR a0), some (eI (zI a1))]) (s2 := [eI (zI a1), eR a0]) rfl rfl rfl ?_
  refine w_t (np := 3) (l2 := [some (eR a0), some (eI (zI a1))]) (s2 := [eI (zI 0), eI (zI a1), eR a0]) rfl rfl rfl ?_
  refine w_t (np := 4) (l2 := [some (eR a0), some (eI (zI a1))]) (s2 := [eI (zI 5), eI (zI 0), eI (zI a1), eR a0]) rfl rfl rfl ?_
  refine w_cu (np := 7) (as := [eI (zI a1), eI (zI 0), eI (zI 5)]) (l2 := [some (eI (zI a1)), some (eI (zI 0)), some (eI (zI 5))]) (rest := [eR a0]) rfl rfl rfl (Nat.ble_eq.mp rfl) rfl rfl rfl rfl ?_
  refine m_216_ok hG h hR ?_
  intro v6 M1 μ2 h hR3 hl5
  have hl4 := y_le.tr hl hl5
  show ex_fine fg rc rs (d + 6, (257, 7, [some (eR a0), some (eI (zI a1))], [eI (zI v6), eR a0]), f :: F, μ2)
  rcases z_if_t h with ⟨g7, h⟩ | ⟨g7, h⟩
  · refine v_eq0_t (t1 := 14) rfl rfl g7 ?_
    refine w_t (np := 15) (l2 := [some (eR a0), some (eI (zI a1))]) (s2 := [eI (zI 1), eR a0]) rfl rfl rfl ?_
    exact mv_257_15_ok hc239 hG hk p0 hK _ _ M1 μ2 h hR3 hl4 p0
  · refine v_eq0_f (t1 := 14) rfl rfl g7 ?_
    refine w_t (np := 11) (l2 := [some (eR a0), some (eI (zI a1))]) (s2 := [eI (zI 0), eR a0]) rfl rfl rfl ?_
    refine w_go (t1 := 15) rfl rfl ?_
    exact mv_257_15_ok hc239 hG hk p0 hK _ _ M1 μ2 h hR3 hl4 p0
