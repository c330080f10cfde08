/-! THE REFERENCE, EXACT: methods -/
noncomputable def m_214 (a0 a1 : Nat) (M : yM) (K : Nat → yM → Bool) : Bool := y_wf M a0 11 0 a1 fun M1 => K 4294967295 M1
theorem m_214_ok {fg : eG} {μz : eM} {rc : eQ} {d : Nat} {f : eFr} {F : List eFr} {M : yM} {μ0 : eM} {a0 a1 : Nat} {K : Nat → yM → Bool} (hG : yG fg y_T) (h : m_214 a0 a1 M K = true) (hR : xQ μz M μ0) (hk : ev_kd μ0 a0 = some 11) (p0 : 0 < a0) (hK : ∀ (r : Nat) (M : yM) (μ : eM), K r M = true → xQ μz M μ → y_le μ0 μ → ex_q fg rc (d + 1, (f.1, f.2.1, f.2.2.1, eI (zI r) :: f.2.2.2), F, μ)) : ex_q fg rc (d, (214, 0, [some (eR a0), some (eI (zI a1))], []), f :: F, μ0) := by
  unfold m_214 at h
  have hl := y_le_r μ0
  refine w_s (np := 1) (lv' := [some (eR a0), some (eI (zI a1))]) (st' := [eR a0]) rfl (s_an rfl p0) rfl ?_
  refine w_s (np := 2) (lv' := [some (eR a0), some (eI (zI a1))]) (st' := [eI (zI a1), eR a0]) rfl rfl rfl ?_
  obtain ⟨M1, μ2, h, k5, hR3, hl4, e6⟩ := x_wf_ex (ty := 0) h hR hl rfl (by decide)
  refine v_pe0 (np := 5) rfl rfl k5 e6 ?_
  clear k5 e6
  refine w_s (np := 6) (lv' := [some (eR a0), some (eI (zI a1))]) (st' := [eI (zI 4294967295)]) rfl rfl rfl ?_
  exact v_ri rfl rfl (hK _ _ _ h hR3 hl4)
noncomputable def m_215_19 (a0 a1 : Nat) (K : Nat → yM → Bool) (s0 : Nat) (M : yM) : Bool := f_if false (Nat.ble s0 1) (K s0 M)
theorem m_215_19_ok {fg : eG} {μz : eM} {rc : eQ} {d : Nat} {f : eFr} {F : List eFr} {μ0 : eM} {a0 a1 : Nat} {K : Nat → yM → Bool} (hG : yG fg y_T) (hk : ev_kd μ0 a0 = some 11) (p0 : 0 < a0) (hK : ∀ (r : Nat) (M : yM) (μ : eM), K r M = true → xQ μz M μ → y_le μ0 μ → ex_q fg rc (d + 1, (f.1, f.2.1, f.2.2.1, eI (zI r) :: f.2.2.2), F, μ)) : ∀ (s0 : Nat) (M : yM) (μ : eM), m_215_19 a0 a1 K s0 M = true → xQ μz M μ → y_le μ0 μ → ex_q fg rc (d, (215, 19, [some (eR a0), some (eI (zI a1))], [eI (zI s0)]), f :: F, μ) := by
  intro s0 M μ h hR hl
  unfold m_215_19 at h
  obtain ⟨g1, h⟩ := f_if_ok h
  exact v_rz rfl rfl g1 (hK _ _ _ h hR hl)
noncomputable def m_215 (a0 a1 : Nat) (M : yM) (K : Nat → yM → Bool) : Bool := y_wf M a0 11 1 0 fun M1 => y_wf M1 a0 11 0 a1 fun M7 => z_if (z_e0 a1) (m_215_19 a0 a1 K 1 M7) (m_215_19 a0 a1 K 0 M7)
theorem m_215_ok {fg : eG} {μz : eM} {rc : eQ} {d : Nat} {f : eFr} {F : List eFr} {M : yM} {μ0 : eM} {a0 a1 : Nat} {K : Nat → yM → Bool} (hG : yG fg y_T) (h : m_215 a0 a1 M K = true) (hR : xQ μz M μ0) (hk : ev_kd μ0 a0 = some 11) (p0 : 0 < a0) (hK : ∀ (r : Nat) (M : yM) (μ : eM), K r M = true → xQ μz M μ → y_le μ0 μ → ex_q fg rc (d + 1, (f.1, f.2.1, f.2.2.1, eI (zI r) :: f.2.2.2), F, μ)) : ex_q fg rc (d, (215, 0, [some (eR a0), some (eI (zI a1))], []), f :: F, μ0) := by
  unfold m_215 at h
  have hl := y_le_r μ0
  refine w_s (np := 1) (lv' := [some (eR a0), some (eI (zI a1))]) (st' := [eR a0]) rfl (s_an rfl p0) rfl ?_
  refine w_s (np := 2) (lv' := [some (eR a0), some (eI (zI a1))]) (st' := [eI (zI 0), eR a0]) rfl rfl rfl ?_
  obtain ⟨M1, μ2, h, k5, hR3, hl4, e6⟩ := x_wf_ex (ty := 0) h hR hl rfl (by decide)
  refine v_pe0 (np := 5) rfl rfl k5 e6 ?_
  clear k5 e6
  refine w_s (np := 6) (lv' := [some (eR a0), some (eI (zI a1))]) (st' := [eR a0]) rfl (s_an rfl p0) rfl ?_
  refine w_s (np := 7) (lv' := [some (eR a0), some (eI (zI a1))]) (st' := [eI (zI a1), eR a0]) rfl rfl rfl ?_
  obtain ⟨M7, μ8, h, k11, hR9, hl10, e12⟩ := x_wf_ex (ty := 0) h hR3 hl4 rfl (by decide)
  refine v_pe0 (np := 10) rfl rfl k11 e12 ?_
  clear k11 e12
  refine w_s (np := 11) (lv' := [some (eR a0), some (eI (zI a1))]) (st' := [eI (zI a1)]) rfl rfl rfl ?_
  rcases z_if_t h with ⟨g13, h⟩ | ⟨g13, h⟩
  · refine v_ne0_f (t1 := 18) rfl rfl g13 ?_
    refine w_s (np := 15) (lv' := [some (eR a0), some (eI (zI a1))]) (st' := [eI (zI 1)]) rfl rfl rfl ?_
    refine w_go (t1 := 19) rfl rfl ?_
    exact m_215_19_ok hG hk p0 hK _ M7 μ8 h hR9 hl10
  · refine v_ne0_t (t1 := 18) rfl rfl g13 ?_
    refine w_s (np := 19) (lv' := [some (eR a0), some (eI (zI a1))]) (st' := [eI (zI 0)]) rfl rfl rfl ?_
    exact m_215_19_ok hG hk p0 hK _ M7 μ8 h hR9 hl10
noncomputable def m_216_15 (a0 a1 a2 : Nat) (K : Nat → yM → Bool) (s0 : Nat) (M : yM) : Bool := f_if false (Nat.ble s0 1) (K s0 M)
theorem m_216_15_ok {fg : eG} {μz : eM} {rc : eQ} {d : Nat} {f : eFr} {F : List eFr} {μ0 : eM} {a0 a1 a2 : Nat} {K : Nat → yM → Bool} (hG : yG fg y_T) (hK : ∀ (r : Nat) (M : yM) (μ : eM), K r M = true → xQ μz M μ → y_le μ0 μ → ex_q fg rc (d + 1, (f.1, f.2.1, f.2.2.1, eI (zI r) :: f.2.2.2), F, μ)) : ∀ (s0 : Nat) (M : yM) (μ : eM), m_216_15 a0 a1 a2 K s0 M = true → xQ μz M μ → y_le μ0 μ → ex_q fg rc (d, (216, 15, [some (eI (zI a0)), some (eI (zI a1)), some (eI (zI a2))], [eI (zI s0)]), f :: F, μ) := by
  intro s0 M μ h hR hl
  unfold m_216_15 at h
  obtain ⟨g1, h⟩ := f_if_ok h
  exact v_rz rfl rfl g1 (hK _ _ _ h hR hl)
noncomputable def m_216_14 (a0 a1 a2 : Nat) (K : Nat → yM → Bool) (M : yM) : Bool := m_216_15 a0 a1 a2 K 0 M
theorem m_216_14_ok {fg : eG} {μz : eM} {rc : eQ} {d : Nat} {f : eFr} {F : List eFr} {μ0 : eM} {a0 a1 a2 : Nat} {K : Nat → yM → Bool} (hG : yG fg y_T) (hK : ∀ (r : Nat) (M : yM) (μ : eM), K r M = true → xQ μz M μ → y_le μ0 μ → ex_q fg rc (d + 1, (f.1, f.2.1, f.2.2.1, eI (zI r) :: f.2.2.2), F, μ)) : ∀ (M : yM) (μ : eM), m_216_14 a0 a1 a2 K M = true → xQ μz M μ → y_le μ0 μ → ex_q fg rc (d, (216, 14, [some (eI (zI a0)), some (eI (zI a1)), some (eI (zI a2))], []), f :: F, μ) := by
  intro M μ h hR hl
  unfold m_216_14 at h
  refine w_s (np := 15) (lv' := [some (eI (zI a0)), some (eI (zI a1)), some (eI (zI a2))]) (st' := [eI (zI 0)]) rfl rfl rfl ?_
  exact m_216_15_ok hG hK _ M μ h hR hl
noncomputable def m_216 (a0 a1 a2 : Nat) (M : yM) (K : Nat → yM → Bool) : Bool := z_if (z_lt a0 a1) (m_216_14 a0 a1 a2 K M) (z_if (z_lt a2 a0) (m_216_14 a0 a1 a2 K M) (m_216_15 a0 a1 a2 K 1 M))
theorem m_216_ok {fg : eG} {μz : eM} {rc : eQ} {d : Nat} {f : eFr} {F : List eFr} {M : yM} {μ0 : eM} {a0 a1 a2 : Nat} {K : Nat → yM → Bool} (hG : yG fg y_T) (h : m_216 a0 a1 a2 M K = true) (hR : xQ μz M μ0) (hK : ∀ (r : Nat) (M : yM) (μ : eM), K r M = true → xQ μz M μ → y_le μ0 μ → ex_q fg rc (d + 1, (f.1, f.2.1, f.2.2.1, eI (zI r) :: f.2.2.2), F, μ)) : ex_q fg rc (d, (216, 0, [some (eI (zI a0)), some (eI (zI a1)), some (eI (zI a2))], []), f :: F, μ0) := by
  unfold m_216 at h
  have hl := y_le_r μ0
  refine w_s (np := 1) (lv' := [some (eI (zI a0)), some (eI (zI a1)), some (eI (zI a2))]) (st' := [eI (zI a0)]) rfl rfl rfl ?_
  refine w_s (np := 2) (lv' := [some (eI (zI a0)), some (eI (zI a1)), some (eI (zI a2))]) (st' := [eI (zI a1), eI (zI a0)]) rfl rfl rfl ?_
  rcases z_if_t h with ⟨g1, h⟩ | ⟨g1, h⟩
  · refine v_lt_t (t1 := 14) rfl rfl g1 ?_
    exact m_216_14_ok hG hK M μ0 h hR hl
  · refine v_lt_f (t1 := 14) rfl rfl g1 ?_
    refine w_s (np := 6) (lv' := [some (eI (zI a0)), some (eI (zI a1)), some (eI (zI a2))]) (st' := [eI (zI a0)]) rfl rfl rfl ?_
    refine w_s (np := 7) (lv' := [some (eI (zI a0)), some (eI (zI a1)), some (eI (zI a2))]) (st' := [eI (zI a2), eI (zI a0)]) rfl rfl rfl ?_
    rcases z_if_t h with ⟨g2, h⟩ | ⟨g2, h⟩
    · refine v_gt_t (t1 := 14) rfl rfl g2 ?_
      exact m_216_14_ok hG hK M μ0 h hR hl
    · refine v_gt_f (t1 := 14) rfl rfl g2 ?_
      refine w_s (np := 11) (lv' := [some (eI (zI a0)), some (eI (zI a1)), some (eI (zI a2))]) (st' := [eI (zI 1)]) rfl rfl rfl ?_
      refine w_go (t1 := 15) rfl rfl ?_
      exact m_216_15_ok hG hK _ M μ0 h hR hl
noncomputable def m_217 (a0 : Nat) (M : yM) (K : Nat → yM → Bool) : Bool := z_l (z_rem a0 10) fun v1 => z_l (z_add v1 10) fun v2 => z_l (z_rem v2 10) fun v3 => K v3 M
theorem m_217_ok {fg : eG} {μz : eM} {rc : eQ} {d : Nat} {f : eFr} {F : List eFr} {M : yM} {μ0 : eM} {a0 : Nat} {K : Nat → yM → Bool} (hG : yG fg y_T) (h : m_217 a0 M K = true) (hR : xQ μz M μ0) (hK : ∀ (r : Nat) (M : yM) (μ : eM), K r M = true → xQ μz M μ → y_le μ0 μ → ex_q fg rc (d + 1, (f.1, f.2.1, f.2.2.1, eI (zI r) :: f.2.2.2), F, μ)) : ex_q fg rc (d, (217, 0, [some (eI (zI a0))], []), f :: F, μ0) := by
  unfold m_217 at h
  have hl := y_le_r μ0
  refine w_s (np := 1) (lv' := [some (eI (zI a0))]) (st' := [eI (zI a0)]) rfl rfl rfl ?_
  refine w_s (np := 3) (lv' := [some (eI (zI a0))]) (st' := [eI (zI 10), eI (zI a0)]) rfl rfl rfl ?_
  obtain ⟨v1, ev1, h⟩ := z_l_ex h
  refine w_s (np := 4) (lv' := [some (eI (zI a0))]) (st' := [eI (zI v1)]) rfl (s_irem ⟨by decide, by decide⟩ ev1) rfl ?_
  clear ev1
  refine w_s (np := 6) (lv' := [some (eI (zI a0))]) (st' := [eI (zI 10), eI (zI v1)]) rfl rfl rfl ?_
  obtain ⟨v2, ev2, h⟩ := z_l_ex h
  refine w_s (np := 7) (lv' := [some (eI (zI a0))]) (st' := [eI (zI v2)]) rfl (s_iadd ev2) rfl ?_
  clear ev2
  refine w_s (np := 9) (lv' := [some (eI (zI a0))]) (st' := [eI (zI 10), eI (zI v2)]) rfl rfl rfl ?_
  obtain ⟨v3, ev3, h⟩ := z_l_ex h
  refine w_s (np := 10) (lv' := [some (eI (zI a0))]) (st' := [eI (zI v3)]) rfl (s_irem ⟨by decide, by decide⟩ ev3) rfl ?_
  clear ev3
  exact v_ri rfl rfl (hK _ _ _ h hR hl)
noncomputable def m_218 (a0 a1 : Nat) (M : yM) (K : Nat → yM → Bool) : Bool := m_217 a0 M fun v6 M1 => z_l (z_mul 4 v6) fun v7 => z_l (z_add v7 a1) fun v8 => y_la y_T 100 M1 21 v8 fun v9 => K v9 M1
theorem m_218_ok {fg : eG} {μz : eM} {rc : eQ} {d : Nat} {f : eFr} {F : List eFr} {M : yM} {μ0 : eM} {a0 a1 : Nat} {K : Nat → yM → Bool} (hG : yG fg y_T) (h : m_218 a0 a1 M K = true) (hR : xQ μz M μ0) (hK : ∀ (r : Nat) (M : yM) (μ : eM), K r M = true → xQ μz M μ → y_le μ0 μ → ex_q fg rc (d + 2, (f.1, f.2.1, f.2.2.1, eI (zI r) :: f.2.2.2), F, μ)) : ex_q fg rc (d + 1, (218, 0, [some (eI (zI a0)), some (eI (zI a1))], []), f :: F, μ0) := by
  unfold m_218 at h
  have hl := y_le_r μ0
  refine v_gs (np := 3) rfl rfl ?_
  refine w_s (np := 4) (lv' := [some (eI (zI a0)), some (eI (zI a1))]) (st' := [eI (zI 4), eR 21]) rfl rfl rfl ?_
  refine w_s (np := 5) (lv' := [some (eI (zI a0)), some (eI (zI a1))]) (st' := [eI (zI a0), eI (zI 4), eR 21]) rfl rfl rfl ?_
  refine w_cs (np := 8) (as := [eI (zI a0)]) (lv' := [some (eI (zI a0))]) (rest := [eI (zI 4), eR 21]) rfl rfl rfl (Nat.ble_eq.mp rfl) rfl rfl rfl rfl ?_
  refine m_217_ok hG h hR ?_
  intro v6 M1 μ2 h hR3 hl5
  have hl4 := y_le.tr hl hl5
  show ex_q fg rc (d + 1, (218, 8, [some (eI (zI a0)), some (eI (zI a1))], [eI (zI v6), eI (zI 4), eR 21]), f :: F, μ2)
  obtain ⟨v7, ev7, h⟩ := z_l_ex h
  refine w_s (np := 9) (lv' := [some (eI (zI a0)), some (eI (zI a1))]) (st' := [eI (zI v7), eR 21]) rfl (s_imul ev7) rfl ?_
  clear ev7
  refine w_s (np := 10) (lv' := [some (eI (zI a0)), some (eI (zI a1))]) (st' := [eI (zI a1), eI (zI v7), eR 21]) rfl rfl rfl ?_
  obtain ⟨v8, ev8, h⟩ := z_l_ex h
  refine w_s (np := 11) (lv' := [some (eI (zI a0)), some (eI (zI a1))]) (st' := [eI (zI v8), eR 21]) rfl (s_iadd ev8) rfl ?_
  clear ev8
  obtain ⟨v9, h, k10⟩ := x_la_ok (ty := 0) h hR3 hG (by decide) rfl (by decide)
  refine v_la (np := 12) rfl rfl k10 ?_
  clear k10
  exact v_ri rfl rfl (hK _ _ _ h hR3 hl4)
noncomputable def m_226 (a0 a1 a2 a3 a4 a5 a6 : Nat) (M : yM) (K : yM → Bool) : Bool := y_sa 100 M a1 a2 a3 fun M1 => z_l (z_add a2 1) fun v6 => y_sa 100 M1 a1 v6 a4 fun M7 => z_l (z_add a2 2) fun v12 => y_sa 100 M7 a1 v12 a5 fun M13 => z_l (z_add a2 3) fun v18 => y_sa 100 M13 a1 v18 a6 fun M19 => K M19
theorem m_226_ok {fg : eG} {μz : eM} {rc : eQ} {d : Nat} {f : eFr} {F : List eFr} {M : yM} {μ0 : eM} {a0 a1 a2 a3 a4 a5 a6 : Nat} {K : yM → Bool} (hG : yG fg y_T) (h : m_226 a0 a1 a2 a3 a4 a5 a6 M K = true) (hR : xQ μz M μ0) (hk : ev_kd μ0 a0 = some 11) (p0 : 0 < a0) (p1 : 0 < a1) (hK : ∀ (M : yM) (μ : eM), K M = true → xQ μz M μ → y_le μ0 μ → ex_q fg rc (d + 1, (f.1, f.2.1, f.2.2.1, f.2.2.2), F, μ)) : ex_q fg rc (d, (226, 0, [some (eR a0), some (eR a1), some (eI (zI a2)), some (eI (zI a3)), some (eI (zI a4)), some (eI (zI a5)), some (eI (zI a6))], []), f :: F, μ0) := by
  unfold m_226 at h
  have hl := y_le_r μ0
  refine w_s (np := 1) (lv' := [some (eR a0), some (eR a1), some (eI (zI a2)), some (eI (zI a3)), some (eI (zI a4)), some (eI (zI a5)), some (eI (zI a6))]) (st' := [eR a1]) rfl (s_an rfl p1) rfl ?_
  refine w_s (np := 2) (lv' := [some (eR a0), some (eR a1), some (eI (zI a2)), some (eI (zI a3)), some (eI (zI a4)), some (eI (zI a5)), some (eI (zI a6))]) (st' := [eI (zI a2), eR a1]) rfl rfl rfl ?_
  refine w_s (np := 3) (lv' := [some (eR a0), some (eR a1), some (eI (zI a2)), some (eI (zI a3)), some (eI (zI a4)), some (eI (zI a5)), some (eI (zI a6))]) (st' := [eI (zI a3), eI (zI a2), eR a1]) rfl rfl rfl ?_
  obtain ⟨M1, μ2, h, k5, hR3, hl4⟩ := x_sa_ex (ty := 0) h hR hl rfl (by decide)
  refine v_sa (np := 4) rfl rfl k5 ?_
  clear k5
  refine w_s (np := 5) (lv' := [some (eR a0), some (eR a1), some (eI (zI a2)), some (eI (zI a3)), some (eI (zI a4)), some (eI (zI a5)), some (eI (zI a6))]) (st' := [eR a1]) rfl (s_an rfl p1) rfl ?_
  refine w_s (np := 6) (lv' := [some (eR a0), some (eR a1), some (eI (zI a2)), some (eI (zI a3)), some (eI (zI a4)), some (eI (zI a5)), some (eI (zI a6))]) (st' := [eI (zI a2), eR a1]) rfl rfl rfl ?_
  refine w_s (np := 7) (lv' := [some (eR a0), some (eR a1), some (eI (zI a2)), some (eI (zI a3)), some (eI (zI a4)), some (eI (zI a5)), some (eI (zI a6))]) (st' := [eI (zI 1), eI (zI a2), eR a1]) rfl rfl rfl ?_
  obtain ⟨v6, ev6, h⟩ := z_l_ex h
  refine w_s (np := 8) (lv' := [some (eR a0), some (eR a1), some (eI (zI a2)), some (eI (zI a3)), some (eI (zI a4)), some (eI (zI a5)), some (eI (zI a6))]) (st' := [eI (zI v6), eR a1]) rfl (s_iadd ev6) rfl ?_
  clear ev6
  refine w_s (np := 10) (lv' := [some (eR a0), some (eR a1), some (eI (zI a2)), some (eI (zI a3)), some (eI (zI a4)), some (eI (zI a5)), some (eI (zI a6))]) (st' := [eI (zI a4), eI (zI v6), eR a1]) rfl rfl rfl ?_
  obtain ⟨M7, μ8, h, k11, hR9, hl10⟩ := x_sa_ex (ty := 0) h hR3 hl4 rfl (by decide)
  refine v_sa (np := 11) rfl rfl k11 ?_
  clear k11
  refine w_s (np := 12) (lv' := [some (eR a0), some (eR a1), some (eI (zI a2)), some (eI (zI a3)), some (eI (zI a4)), some (eI (zI a5)), some (eI (zI a6))]) (st' := [eR a1]) rfl (s_an rfl p1) rfl ?_
  refine w_s (np := 13) (lv' := [some (eR a0), some (eR a1), some (eI (zI a2)), some (eI (zI a3)), some (eI (zI a4)), some (eI (zI a5)), some (eI (zI a6))]) (st' := [eI (zI a2), eR a1]) rfl rfl rfl ?_
  refine w_s (np := 14) (lv' := [some (eR a0), some (eR a1), some (eI (zI a2)), some (eI (zI a3)), some (eI (zI a4)), some (eI (zI a5)), some (eI (zI a6))]) (st' := [eI (zI 2), eI (zI a2), eR a1]) rfl rfl rfl ?_
  obtain ⟨v12, ev12, h⟩ := z_l_ex h
  refine w_s (np := 15) (lv' := [some (eR a0), some (eR a1), some (eI (zI a2)), some (eI (zI a3)), some (eI (zI a4)), some (eI (zI a5)), some (eI (zI a6))]) (st' := [eI (zI v12), eR a1]) rfl (s_iadd ev12) rfl ?_
  clear ev12
  refine w_s (np := 17) (lv' := [some (eR a0), some (eR a1), some (eI (zI a2)), some (eI (zI a3)), some (eI (zI a4)), some (eI (zI a5)), some (eI (zI a6))]) (st' := [eI (zI a5), eI (zI v12), eR a1]) rfl rfl rfl ?_
  obtain ⟨M13, μ14, h, k17, hR15, hl16⟩ := x_sa_ex (ty := 0) h hR9 hl10 rfl (by decide)
  refine v_sa (np := 18) rfl rfl k17 ?_
  clear k17
  refine w_s (np := 19) (lv' := [some (eR a0), some (eR a1), some (eI (zI a2)), some (eI (zI a3)), some (eI (zI a4)), some (eI (zI a5)), some (eI (zI a6))]) (st' := [eR a1]) rfl (s_an rfl p1) rfl ?_
  refine w_s (np := 20) (lv' := [some (eR a0), some (eR a1), some (eI (zI a2)), some (eI (zI a3)), some (eI (zI a4)), some (eI (zI a5)), some (eI (zI a6))]) (st' := [eI (zI a2), eR a1]) rfl rfl rfl ?_
  refine w_s (np := 21) (lv' := [some (eR a0), some (eR a1), some (eI (zI a2)), some (eI (zI a3)), some (eI (zI a4)), some (eI (zI a5)), some (eI (zI a6))]) (st' := [eI (zI 3), eI (zI a2), eR a1]) rfl rfl rfl ?_
  obtain ⟨v18, ev18, h⟩ := z_l_ex h
  refine w_s (np := 22) (lv' := [some (eR a0), some (eR a1), some (eI (zI a2)), some (eI (zI a3)), some (eI (zI a4)), some (eI (zI a5)), some (eI (zI a6))]) (st' := [eI (zI v18), eR a1]) rfl (s_iadd ev18) rfl ?_
  clear ev18
  refine w_s (np := 24) (lv' := [some (eR a0), some (eR a1), some (eI (zI a2)), some (eI (zI a3)), some (eI (zI a4)), some (eI (zI a5)), some (eI (zI a6))]) (st' := [eI (zI a6), eI (zI v18), eR a1]) rfl rfl rfl ?_
  obtain ⟨M19, μ20, h, k23, hR21, hl22⟩ := x_sa_ex (ty := 0) h hR15 hl16 rfl (by decide)
  refine v_sa (np := 25) rfl rfl k23 ?_
  clear k23
  exact v_rv rfl rfl (hK _ _ h hR21 hl22)
noncomputable def m_227 (a0 a1 a2 a3 : Nat) (M : yM) (K : yM → Bool) : Bool := y_gf M a0 11 10 fun v1 => f_if false (Nat.ble 1 v1) (z_l (z_mul 12 a1) fun v6 => z_l (z_mul 4 a2) fun v7 => z_l (z_add v6 v7) fun v8 => m_218 a3 0 M fun v14 M9 => m_218 a3 1 M9 fun v20 M15 => m_218 a3 2 M15 fun v26 M21 => m_218 a3 3 M21 fun v32 M27 => m_226 a0 v1 v8 v14 v20 v26 v32 M27 fun M33 => K M33)
theorem m_227_ok {fg : eG} {μz : eM} {rc : eQ} {d : Nat} {f : eFr} {F : List eFr} {M : yM} {μ0 : eM} {a0 a1 a2 a3 : Nat} {K : yM → Bool} (hG : yG fg y_T) (h : m_227 a0 a1 a2 a3 M K = true) (hR : xQ μz M μ0) (hk : ev_kd μ0 a0 = some 11) (p0 : 0 < a0) (hK : ∀ (M : yM) (μ : eM), K M = true → xQ μz M μ → y_le μ0 μ → ex_q fg rc (d + 3, (f.1, f.2.1, f.2.2.1, f.2.2.2), F, μ)) : ex_q fg rc (d + 2, (227, 0, [some (eR a0), some (eI (zI a1)), some (eI (zI a2)), some (eI (zI a3))], []), f :: F, μ0) := by
  unfold m_227 at h
  have hl := y_le_r μ0
  refine w_s (np := 1) (lv' := [some (eR a0), some (eI (zI a1)), some (eI (zI a2)), some (eI (zI a3))]) (st' := [eR a0]) rfl (s_an rfl p0) rfl ?_
  refine w_s (np := 2) (lv' := [some (eR a0), some (eI (zI a1)), some (eI (zI a2)), some (eI (zI a3))]) (st' := [eR a0, eR a0]) rfl (s_an rfl p0) rfl ?_
  obtain ⟨v1, h, k2, e3⟩ := x_gf_ok (ty := 3) h hR (by decide) rfl
  obtain ⟨g4, h⟩ := f_if_ok h
  have q5 : 0 < v1 := Nat.ble_eq.mp g4
  refine v_gf3 (np := 5) rfl rfl k2 e3 ?_
  clear k2 e3
  refine w_s (np := 7) (lv' := [some (eR a0), some (eI (zI a1)), some (eI (zI a2)), some (eI (zI a3))]) (st' := [eI (zI 12), eR v1, eR a0]) rfl rfl rfl ?_
  refine w_s (np := 8) (lv' := [some (eR a0), some (eI (zI a1)), some (eI (zI a2)), some (eI (zI a3))]) (st' := [eI (zI a1), eI (zI 12), eR v1, eR a0]) rfl rfl rfl ?_
  obtain ⟨v6, ev6, h⟩ := z_l_ex h
  refine w_s (np := 9) (lv' := [some (eR a0), some (eI (zI a1)), some (eI (zI a2)), some (eI (zI a3))]) (st' := [eI (zI v6), eR v1, eR a0]) rfl (s_imul ev6) rfl ?_
  clear ev6
  refine w_s (np := 10) (lv' := [some (eR a0), some (eI (zI a1)), some (eI (zI a2)), some (eI (zI a3))]) (st' := [eI (zI 4), eI (zI v6), eR v1, eR a0]) rfl rfl rfl ?_
  refine w_s (np := 11) (lv' := [some (eR a0), some (eI (zI a1)), some (eI (zI a2)), some (eI (zI a3))]) (st' := [eI (zI a2), eI (zI 4), eI (zI v6), eR v1, eR a0]) rfl rfl rfl ?_
  obtain ⟨v7, ev7, h⟩ := z_l_ex h
  refine w_s (np := 12) (lv' := [some (eR a0), some (eI (zI a1)), some (eI (zI a2)), some (eI (zI a3))]) (st' := [eI (zI v7), eI (zI v6), eR v1, eR a0]) rfl (s_imul ev7) rfl ?_
  clear ev7
  obtain ⟨v8, ev8, h⟩ := z_l_ex h
  refine w_s (np := 13) (lv' := [some (eR a0), some (eI (zI a1)), some (eI (zI a2)), some (eI (zI a3))]) (st' := [eI (zI v8), eR v1, eR a0]) rfl (s_iadd ev8) rfl ?_
  clear ev8
  refine w_s (np := 14) (lv' := [some (eR a0), some (eI (zI a1)), some (eI (zI a2)), some (eI (zI a3))]) (st' := [eI (zI a3), eI (zI v8), eR v1, eR a0]) rfl rfl rfl ?_
  refine w_s (np := 15) (lv' := [some (eR a0), some (eI (zI a1)), some (eI (zI a2)), some (eI (zI a3))]) (st' := [eI (zI 0), eI (zI a3), eI (zI v8), eR v1, eR a0]) rfl rfl rfl ?_
  refine w_cs (np := 18) (as := [eI (zI a3), eI (zI 0)]) (lv' := [some (eI (zI a3)), some (eI (zI 0))]) (rest := [eI (zI v8), eR v1, eR a0]) rfl rfl rfl (Nat.ble_eq.mp rfl) rfl rfl rfl rfl ?_
  refine m_218_ok hG h hR ?_
  intro v14 M9 μ10 h hR11 hl13
  have hl12 := y_le.tr hl hl13
  show ex_q fg rc (d + 2, (227, 18, [some (eR a0), some (eI (zI a1)), some (eI (zI a2)), some (eI (zI a3))], [eI (zI v14), eI (zI v8), eR v1, eR a0]), f :: F, μ10)
  refine w_s (np := 19) (lv' := [some (eR a0), some (eI (zI a1)), some (eI (zI a2)), some (eI (zI a3))]) (st' := [eI (zI a3), eI (zI v14), eI (zI v8), eR v1, eR a0]) rfl rfl rfl ?_
  refine w_s (np := 20) (lv' := [some (eR a0), some (eI (zI a1)), some (eI (zI a2)), some (eI (zI a3))]) (st' := [eI (zI 1), eI (zI a3), eI (zI v14), eI (zI v8), eR v1, eR a0]) rfl rfl rfl ?_
  refine w_cs (np := 23) (as := [eI (zI a3), eI (zI 1)]) (lv' := [some (eI (zI a3)), some (eI (zI 1))]) (rest := [eI (zI v14), eI (zI v8), eR v1, eR a0]) rfl rfl rfl (Nat.ble_eq.mp rfl) rfl rfl rfl rfl ?_
  refine m_218_ok hG h hR11 ?_
  intro v20 M15 μ16 h hR17 hl19
  have hl18 := y_le.tr hl12 hl19
  show ex_q fg rc (d + 2, (227, 23, [some (eR a0), some (eI (zI a1)), some (eI (zI a2)), some (eI (zI a3))], [eI (zI v20), eI (zI v14), eI (zI v8), eR v1, eR a0]), f :: F, μ16)
  refine w_s (np := 24) (lv' := [some (eR a0), some (eI (zI a1)), some (eI (zI a2)), some (eI (zI a3))]) (st' := [eI (zI a3), eI (zI v20), eI (zI v14), eI (zI v8), eR v1, eR a0]) rfl rfl rfl ?_
  refine w_s (np := 25) (lv' := [some (eR a0), some (eI (zI a1)), some (eI (zI a2)), some (eI (zI a3))]) (st' := [eI (zI 2), eI (zI a3), eI (zI v20), eI (zI v14), eI (zI v8), eR v1, eR a0]) rfl rfl rfl ?_
  refine w_cs (np := 28) (as := [eI (zI a3), eI (zI 2)]) (lv' := [some (eI (zI a3)), some (eI (zI 2))]) (rest := [eI (zI v20), eI (zI v14), eI (zI v8), eR v1, eR a0]) rfl rfl rfl (Nat.ble_eq.mp rfl) rfl rfl rfl rfl ?_
  refine m_218_ok hG h hR17 ?_
  intro v26 M21 μ22 h hR23 hl25
  have hl24 := y_le.tr hl18 hl25
  show ex_q fg rc (d + 2, (227, 28, [some (eR a0), some (eI (zI a1)), some (eI (zI a2)), some (eI (zI a3))], [eI (zI v26), eI (zI v20), eI (zI v14), eI (zI v8), eR v1, eR a0]), f :: F, μ22)
  refine w_s (np := 29) (lv' := [some (eR a0), some (eI (zI a1)), some (eI (zI a2)), some (eI (zI a3))]) (st' := [eI (zI a3), eI (zI v26), eI (zI v20), eI (zI v14), eI (zI v8), eR v1, eR a0]) rfl rfl rfl ?_
  refine w_s (np := 30) (lv' := [some (eR a0), some (eI (zI a1)), some (eI (zI a2)), some (eI (zI a3))]) (st' := [eI (zI 3), eI (zI a3), eI (zI v26), eI (zI v20), eI (zI v14), eI (zI v8), eR v1, eR a0]) rfl rfl rfl ?_
  refine w_cs (np := 33) (as := [eI (zI a3), eI (zI 3)]) (lv' := [some (eI (zI a3)), some (eI (zI 3))]) (rest := [eI (zI v26), eI (zI v20), eI (zI v14), eI (zI v8), eR v1, eR a0]) rfl rfl rfl (Nat.ble_eq.mp rfl) rfl rfl rfl rfl ?_
  refine m_218_ok hG h hR23 ?_
  intro v32 M27 μ28 h hR29 hl31
  have hl30 := y_le.tr hl24 hl31
  show ex_q fg rc (d + 2, (227, 33, [some (eR a0), some (eI (zI a1)), some (eI (zI a2)), some (eI (zI a3))], [eI (zI v32), eI (zI v26), eI (zI v20), eI (zI v14), eI (zI v8), eR v1, eR a0]), f :: F, μ28)
  refine w_cv (np := 36) (as := [eR v1, eI (zI v8), eI (zI v14), eI (zI v20), eI (zI v26), eI (zI v32)]) (lv' := [some (eR a0), some (eR v1), some (eI (zI v8)), some (eI (zI v14)), some (eI (zI v20)), some (eI (zI v26)), some (eI (zI v32))]) (rest := []) rfl rfl rfl (Nat.ble_eq.mp rfl) rfl rfl rfl (hl30 _ _ hk) rfl ?_
  refine m_226_ok hG h hR29 (hl30 _ _ hk) p0 q5 ?_
  intro M33 μ34 h hR35 hl37
  have hl36 := y_le.tr hl30 hl37
  show ex_q fg rc (d + 2, (227, 36, [some (eR a0), some (eI (zI a1)), some (eI (zI a2)), some (eI (zI a3))], []), f :: F, μ34)
  exact v_rv rfl rfl (hK _ _ h hR35 hl36)
noncomputable def m_228 (a0 a1 a2 a3 a4 : Nat) (M : yM) (K : yM → Bool) : Bool := y_gf M a0 11 10 fun v1 => f_if false (Nat.ble 1 v1) (z_l (z_mul 12 a1) fun v6 => m_226 a0 v1 v6 0 0 0 0 M fun M7 => m_227 a0 a1 1 a3 M7 fun M12 => m_227 a0 a1 2 a4 M12 fun M17 => y_gf M17 a0 11 12 fun v22 => f_if false (Nat.ble 1 v22) (y_sa 100 M17 v22 a1 a2 fun M27 => K M27))
theorem m_228_ok {fg : eG} {μz : eM} {rc : eQ} {d : Nat} {f : eFr} {F : List eFr} {M : yM} {μ0 : eM} {a0 a1 a2 a3 a4 : Nat} {K : yM → Bool} (hG : yG fg y_T) (h : m_228 a0 a1 a2 a3 a4 M K = true) (hR : xQ μz M μ0) (hk : ev_kd μ0 a0 = some 11) (p0 : 0 < a0) (hK : ∀ (M : yM) (μ : eM), K M = true → xQ μz M μ → y_le μ0 μ → ex_q fg rc (d + 4, (f.1, f.2.1, f.2.2.1, f.2.2.2), F, μ)) : ex_q fg rc (d + 3, (228, 0, [some (eR a0), some (eI (zI a1)), some (eI (zI a2)), some (eI (zI a3)), some (eI (zI a4))], []), f :: F, μ0) := by
  unfold m_228 at h
  have hl := y_le_r μ0
  refine w_s (np := 1) (lv' := [some (eR a0), some (eI (zI a1)), some (eI (zI a2)), some (eI (zI a3)), some (eI (zI a4))]) (st' := [eR a0]) rfl (s_an rfl p0) rfl ?_
  refine w_s (np := 2) (lv' := [some (eR a0), some (eI (zI a1)), some (eI (zI a2)), some (eI (zI a3)), some (eI (zI a4))]) (st' := [eR a0, eR a0]) rfl (s_an rfl p0) rfl ?_
  obtain ⟨v1, h, k2, e3⟩ := x_gf_ok (ty := 3) h hR (by decide) rfl
  obtain ⟨g4, h⟩ := f_if_ok h
  have q5 : 0 < v1 := Nat.ble_eq.mp g4
  refine v_gf3 (np := 5) rfl rfl k2 e3 ?_
  clear k2 e3
  refine w_s (np := 7) (lv' := [some (eR a0), some (eI (zI a1)), some (eI (zI a2)), some (eI (zI a3)), some (eI (zI a4))]) (st' := [eI (zI 12), eR v1, eR a0]) rfl rfl rfl ?_
  refine w_s (np := 8) (lv' := [some (eR a0), some (eI (zI a1)), some (eI (zI a2)), some (eI (zI a3)), some (eI (zI a4))]) (st' := [eI (zI a1), eI (zI 12), eR v1, eR a0]) rfl rfl rfl ?_
  obtain ⟨v6, ev6, h⟩ := z_l_ex h
  refine w_s (np := 9) (lv' := [some (eR a0), some (eI (zI a1)), some (eI (zI a2)), some (eI (zI a3)), some (eI (zI a4))]) (st' := [eI (zI v6), eR v1, eR a0]) rfl (s_imul ev6) rfl ?_
  clear ev6
  refine w_s (np := 10) (lv' := [some (eR a0), some (eI (zI a1)), some (eI (zI a2)), some (eI (zI a3)), some (eI (zI a4))]) (st' := [eI (zI 0), eI (zI v6), eR v1, eR a0]) rfl rfl rfl ?_
  refine w_s (np := 11) (lv' := [some (eR a0), some (eI (zI a1)), some (eI (zI a2)), some (eI (zI a3)), some (eI (zI a4))]) (st' := [eI (zI 0), eI (zI 0), eI (zI v6), eR v1, eR a0]) rfl rfl rfl ?_
  refine w_s (np := 12) (lv' := [some (eR a0), some (eI (zI a1)), some (eI (zI a2)), some (eI (zI a3)), some (eI (zI a4))]) (st' := [eI (zI 0), eI (zI 0), eI (zI 0), eI (zI v6), eR v1, eR a0]) rfl rfl rfl ?_
  refine w_s (np := 13) (lv' := [some (eR a0), some (eI (zI a1)), some (eI (zI a2)), some (eI (zI a3)), some (eI (zI a4))]) (st' := [eI (zI 0), eI (zI 0), eI (zI 0), eI (zI 0), eI (zI v6), eR v1, eR a0]) rfl rfl rfl ?_
  refine w_cv (np := 16) (as := [eR v1, eI (zI v6), eI (zI 0), eI (zI 0), eI (zI 0), eI (zI 0)]) (lv' := [some (eR a0), some (eR v1), some (eI (zI v6)), some (eI (zI 0)), some (eI (zI 0)), some (eI (zI 0)), some (eI (zI 0))]) (rest := []) rfl rfl rfl (Nat.ble_eq.mp rfl) rfl rfl rfl (hl _ _ hk) rfl ?_
  refine m_226_ok hG h hR (hl _ _ hk) p0 q5 ?_
  intro M7 μ8 h hR9 hl11
  have hl10 := y_le.tr hl hl11
  show ex_q fg rc (d + 3, (228, 16, [some (eR a0), some (eI (zI a1)), some (eI (zI a2)), some (eI (zI a3)), some (eI (zI a4))], []), f :: F, μ8)
  refine w_s (np := 17) (lv' := [some (eR a0), some (eI (zI a1)), some (eI (zI a2)), some (eI (zI a3)), some (eI (zI a4))]) (st' := [eR a0]) rfl (s_an rfl p0) rfl ?_
  refine w_s (np := 18) (lv' := [some (eR a0), some (eI (zI a1)), some (eI (zI a2)), some (eI (zI a3)), some (eI (zI a4))]) (st' := [eI (zI a1), eR a0]) rfl rfl rfl ?_
  refine w_s (np := 19) (lv' := [some (eR a0), some (eI (zI a1)), some (eI (zI a2)), some (eI (zI a3)), some (eI (zI a4))]) (st' := [eI (zI 1), eI (zI a1), eR a0]) rfl rfl rfl ?_
  refine w_s (np := 20) (lv' := [some (eR a0), some (eI (zI a1)), some (eI (zI a2)), some (eI (zI a3)), some (eI (zI a4))]) (st' := [eI (zI a3), eI (zI 1), eI (zI a1), eR a0]) rfl rfl rfl ?_
  refine w_cv (np := 23) (as := [eI (zI a1), eI (zI 1), eI (zI a3)]) (lv' := [some (eR a0), some (eI (zI a1)), some (eI (zI 1)), some (eI (zI a3))]) (rest := []) rfl rfl rfl (Nat.ble_eq.mp rfl) rfl rfl rfl (hl10 _ _ hk) rfl ?_
  refine m_227_ok hG h hR9 (hl10 _ _ hk) p0 ?_
  intro M12 μ13 h hR14 hl16
  have hl15 := y_le.tr hl10 hl16
  show ex_q fg rc (d + 3, (228, 23, [some (eR a0), some (eI (zI a1)), some (eI (zI a2)), some (eI (zI a3)), some (eI (zI a4))], []), f :: F, μ13)
  refine w_s (np := 24) (lv' := [some (eR a0), some (eI (zI a1)), some (eI (zI a2)), some (eI (zI a3)), some (eI (zI a4))]) (st' := [eR a0]) rfl (s_an rfl p0) rfl ?_
  refine w_s (np := 25) (lv' := [some (eR a0), some (eI (zI a1)), some (eI (zI a2)), some (eI (zI a3)), some (eI (zI a4))]) (st' := [eI (zI a1), eR a0]) rfl rfl rfl ?_
  refine w_s (np := 26) (lv' := [some (eR a0), some (eI (zI a1)), some (eI (zI a2)), some (eI (zI a3)), some (eI (zI a4))]) (st' := [eI (zI 2), eI (zI a1), eR a0]) rfl rfl rfl ?_
  refine w_s (np := 28) (lv' := [some (eR a0), some (eI (zI a1)), some (eI (zI a2)), some (eI (zI a3)), some (eI (zI a4))]) (st' := [eI (zI a4), eI (zI 2), eI (zI a1), eR a0]) rfl rfl rfl ?_
  refine w_cv (np := 31) (as := [eI (zI a1), eI (zI 2), eI (zI a4)]) (lv' := [some (eR a0), some (eI (zI a1)), some (eI (zI 2)), some (eI (zI a4))]) (rest := []) rfl rfl rfl (Nat.ble_eq.mp rfl) rfl rfl rfl (hl15 _ _ hk) rfl ?_
  refine m_227_ok hG h hR14 (hl15 _ _ hk) p0 ?_
  intro M17 μ18 h hR19 hl21
  have hl20 := y_le.tr hl15 hl21
  show ex_q fg rc (d + 3, (228, 31, [some (eR a0), some (eI (zI a1)), some (eI (zI a2)), some (eI (zI a3)), some (eI (zI a4))], []), f :: F, μ18)
  refine w_s (np := 32) (lv' := [some (eR a0), some (eI (zI a1)), some (eI (zI a2)), some (eI (zI a3)), some (eI (zI a4))]) (st' := [eR a0]) rfl (s_an rfl p0) rfl ?_
  obtain ⟨v22, h, k23, e24⟩ := x_gf_ok (ty := 3) h hR19 (by decide) rfl
  obtain ⟨g25, h⟩ := f_if_ok h
  have q26 : 0 < v22 := Nat.ble_eq.mp g25
  refine v_gf3 (np := 35) rfl rfl k23 e24 ?_
  clear k23 e24
  refine w_s (np := 36) (lv' := [some (eR a0), some (eI (zI a1)), some (eI (zI a2)), some (eI (zI a3)), some (eI (zI a4))]) (st' := [eI (zI a1), eR v22]) rfl rfl rfl ?_
  refine w_s (np := 37) (lv' := [some (eR a0), some (eI (zI a1)), some (eI (zI a2)), some (eI (zI a3)), some (eI (zI a4))]) (st' := [eI (zI a2), eI (zI a1), eR v22]) rfl rfl rfl ?_
  obtain ⟨M27, μ28, h, k31, hR29, hl30⟩ := x_sa_ex (ty := 0) h hR19 hl20 rfl (by decide)
  refine v_sa (np := 38) rfl rfl k31 ?_
  clear k31
  exact v_rv rfl rfl (hK _ _ h hR29 hl30)
noncomputable def m_229_172b (a0 a1 : Nat) (K : yM → Bool) (i172 : Nat → yM → Bool) (a2 : Nat) (M : yM) : Bool := y_gf M a0 11 9 fun v1 => f_if false (Nat.ble 1 v1) (y_lh 100 M v1 0 fun v6 => z_if (z_lt a2 v6) (y_gf M a0 11 14 fun v9 => f_if false (Nat.ble 1 v9) (y_sa 100 M v9 a2 4294967295 fun M14 => y_gf M14 a0 11 15 fun v19 => f_if false (Nat.ble 1 v19) (y_sa 100 M14 v19 a2 4294967295 fun M24 => y_gf M24 a0 11 16 fun v29 => f_if false (Nat.ble 1 v29) (y_sa 100 M24 v29 a2 a2 fun M34 => z_l (z_add a2 1) fun v39 => z_f v39 fun w40 => i172 w40 M34)))) (K M))
noncomputable def m_229_172 (a0 a1 : Nat) (K : yM → Bool) (n : Nat) : Nat → yM → Bool := @Nat.rec (fun _ => Nat → yM → Bool) (fun _ _ => false) (fun _ ih => m_229_172b a0 a1 K ih) n
theorem m_229_172b_ok {fg : eG} {μz : eM} {rc : eQ} {d : Nat} {f : eFr} {F : List eFr} {μ0 : eM} {a0 a1 : Nat} {K : yM → Bool} {i172 : Nat → yM → Bool} (hG : yG fg y_T) (hk : ev_kd μ0 a0 = some 11) (p0 : 0 < a0) (hK : ∀ (M : yM) (μ : eM), K M = true → xQ μz M μ → y_le μ0 μ → ex_q fg rc (d + 5, (f.1, f.2.1, f.2.2.1, f.2.2.2), F, μ)) (h172 : ∀ (a2 : Nat) (M : yM) (μ : eM), i172 a2 M = true → xQ μz M μ → y_le μ0 μ → ex_q fg rc (d + 4, (229, 172, [some (eR a0), some (eI (zI a1)), some (eI (zI a2))], []), f :: F, μ)) : ∀ (a2 : Nat) (M : yM) (μ : eM), m_229_172b a0 a1 K i172 a2 M = true → xQ μz M μ → y_le μ0 μ → ex_q fg rc (d + 4, (229, 172, [some (eR a0), some (eI (zI a1)), some (eI (zI a2))], []), f :: F, μ) := by
  intro a2 M μ h hR hl
  unfold m_229_172b at h
  refine w_s (np := 173) (lv' := [some (eR a0), some (eI (zI a1)), some (eI (zI a2))]) (st' := [eI (zI a2)]) rfl rfl rfl ?_
  refine w_s (np := 174) (lv' := [some (eR a0), some (eI (zI a1)), some (eI (zI a2))]) (st' := [eR a0, eI (zI a2)]) rfl (s_an rfl p0) rfl ?_
  obtain ⟨v1, h, k2, e3⟩ := x_gf_ok (ty := 3) h hR (by decide) rfl
  obtain ⟨g4, h⟩ := f_if_ok h
  have q5 : 0 < v1 := Nat.ble_eq.mp g4
  refine v_gf3 (np := 177) rfl rfl k2 e3 ?_
  clear k2 e3
  refine w_s (np := 178) (lv' := [some (eR a0), some (eI (zI a1)), some (eI (zI a2))]) (st' := [eI (zI 0), eR v1, eI (zI a2)]) rfl rfl rfl ?_
  obtain ⟨v6, h, k7⟩ := x_lh_ok (ty := 0) h hR hG (by decide) rfl (by decide)
  refine v_la (np := 179) rfl rfl k7 ?_
  clear k7
  rcases z_if_t h with ⟨g8, h⟩ | ⟨g8, h⟩
  · refine v_ge_f (t1 := 209) rfl rfl g8 ?_
    refine w_s (np := 183) (lv' := [some (eR a0), some (eI (zI a1)), some (eI (zI a2))]) (st' := [eR a0]) rfl (s_an rfl p0) rfl ?_
    obtain ⟨v9, h, k10, e11⟩ := x_gf_ok (ty := 3) h hR (by decide) rfl
    obtain ⟨g12, h⟩ := f_if_ok h
    have q13 : 0 < v9 := Nat.ble_eq.mp g12
    refine v_gf3 (np := 186) rfl rfl k10 e11 ?_
    clear k10 e11
    refine w_s (np := 187) (lv' := [some (eR a0), some (eI (zI a1)), some (eI (zI a2))]) (st' := [eI (zI a2), eR v9]) rfl rfl rfl ?_
    refine w_s (np := 188) (lv' := [some (eR a0), some (eI (zI a1)), some (eI (zI a2))]) (st' := [eI (zI 4294967295), eI (zI a2), eR v9]) rfl rfl rfl ?_
    obtain ⟨M14, μ15, h, k18, hR16, hl17⟩ := x_sa_ex (ty := 0) h hR hl rfl (by decide)
    refine v_sa (np := 189) rfl rfl k18 ?_
    clear k18
    refine w_s (np := 190) (lv' := [some (eR a0), some (eI (zI a1)), some (eI (zI a2))]) (st' := [eR a0]) rfl (s_an rfl p0) rfl ?_
    obtain ⟨v19, h, k20, e21⟩ := x_gf_ok (ty := 3) h hR16 (by decide) rfl
    obtain ⟨g22, h⟩ := f_if_ok h
    have q23 : 0 < v19 := Nat.ble_eq.mp g22
    refine v_gf3 (np := 193) rfl rfl k20 e21 ?_
    clear k20 e21
    refine w_s (np := 194) (lv' := [some (eR a0), some (eI (zI a1)), some (eI (zI a2))]) (st' := [eI (zI a2), eR v19]) rfl rfl rfl ?_
    refine w_s (np := 195) (lv' := [some (eR a0), some (eI (zI a1)), some (eI (zI a2))]) (st' := [eI (zI 4294967295), eI (zI a2), eR v19]) rfl rfl rfl ?_
    obtain ⟨M24, μ25, h, k28, hR26, hl27⟩ := x_sa_ex (ty := 0) h hR16 hl17 rfl (by decide)
    refine v_sa (np := 196) rfl rfl k28 ?_
    clear k28
    refine w_s (np := 197) (lv' := [some (eR a0), some (eI (zI a1)), some (eI (zI a2))]) (st' := [eR a0]) rfl (s_an rfl p0) rfl ?_
    obtain ⟨v29, h, k30, e31⟩ := x_gf_ok (ty := 3) h hR26 (by decide) rfl
    obtain ⟨g32, h⟩ := f_if_ok h
    have q33 : 0 < v29 := Nat.ble_eq.mp g32
    refine v_gf3 (np := 200) rfl rfl k30 e31 ?_
    clear k30 e31
    refine w_s (np := 201) (lv' := [some (eR a0), some (eI (zI a1)), some (eI (zI a2))]) (st' := [eI (zI a2), eR v29]) rfl rfl rfl ?_
    refine w_s (np := 202) (lv' := [some (eR a0), some (eI (zI a1)), some (eI (zI a2))]) (st' := [eI (zI a2), eI (zI a2), eR v29]) rfl rfl rfl ?_
    obtain ⟨M34, μ35, h, k38, hR36, hl37⟩ := x_sa_ex (ty := 0) h hR26 hl27 rfl (by decide)
    refine v_sa (np := 203) rfl rfl k38 ?_
    clear k38
    obtain ⟨v39, ev39, h⟩ := z_l_ex h
    refine w_s (np := 206) (lv' := [some (eR a0), some (eI (zI a1)), some (eI (zI v39))]) (st' := []) rfl (s_iinc (b := 1) rfl rfl ev39 rfl) rfl ?_
    clear ev39
    refine w_go (t1 := 172) rfl rfl ?_
    obtain ⟨w40, ew40, h⟩ := z_f_ex h
    subst ew40
    exact h172 _ M34 μ35 h hR36 hl37
  · refine v_ge_t (t1 := 209) rfl rfl g8 ?_
    exact v_rv rfl rfl (hK _ _ h hR hl)
theorem m_229_172_ok {fg : eG} {μz : eM} {rc : eQ} {d : Nat} {f : eFr} {F : List eFr} {μ0 : eM} {a0 a1 : Nat} {K : yM → Bool} (hG : yG fg y_T) (hk : ev_kd μ0 a0 = some 11) (p0 : 0 < a0) (hK : ∀ (M : yM) (μ : eM), K M = true → xQ μz M μ → y_le μ0 μ → ex_q fg rc (d + 5, (f.1, f.2.1, f.2.2.1, f.2.2.2), F, μ)) : ∀ n : Nat, ∀ (a2 : Nat) (M : yM) (μ : eM), m_229_172 a0 a1 K n a2 M = true → xQ μz M μ → y_le μ0 μ → ex_q fg rc (d + 4, (229, 172, [some (eR a0), some (eI (zI a1)), some (eI (zI a2))], []), f :: F, μ) := by
  intro n
  induction n with
  | zero =>
    intro a2 M μ h hR hl
    exact absurd h Bool.false_ne_true
  | succ n ih =>
    intro a2 M μ h hR hl
    exact m_229_172b_ok hG hk p0 hK ih a2 M μ h hR hl
noncomputable def m_229_169 (a0 a1 : Nat) (K : yM → Bool) (s0 s1 s2 : Nat) (M : yM) : Bool := y_sa 100 M s2 s1 s0 fun M1 => m_229_172 a0 a1 K 100000 0 M1
theorem m_229_169_ok {fg : eG} {μz : eM} {rc : eQ} {d : Nat} {f : eFr} {F : List eFr} {μ0 : eM} {a0 a1 : Nat} {K : yM → Bool} (hG : yG fg y_T) (hk : ev_kd μ0 a0 = some 11) (p0 : 0 < a0) (hK : ∀ (M : yM) (μ : eM), K M = true → xQ μz M μ → y_le μ0 μ → ex_q fg rc (d + 5, (f.1, f.2.1, f.2.2.1, f.2.2.2), F, μ)) : ∀ (s0 s1 s2 : Nat) (x2 : Option eV) (M : yM) (μ : eM), m_229_169 a0 a1 K s0 s1 s2 M = true → xQ μz M μ → y_le μ0 μ → 0 < s2 → ex_q fg rc (d + 4, (229, 169, [some (eR a0), some (eI (zI a1)), x2], [eI (zI s0), eI (zI s1), eR s2]), f :: F, μ) := by
  intro s0 s1 s2 x2 M μ h hR hl q2
  unfold m_229_169 at h
  obtain ⟨M1, μ2, h, k5, hR3, hl4⟩ := x_sa_ex (ty := 0) h hR hl rfl (by decide)
  refine v_sa (np := 170) rfl rfl k5 ?_
  clear k5
  refine w_s (np := 171) (lv' := [some (eR a0), some (eI (zI a1)), x2]) (st' := [eI (zI 0)]) rfl rfl rfl ?_
  refine w_s (np := 172) (lv' := [some (eR a0), some (eI (zI a1)), some (eI (zI 0))]) (st' := []) rfl rfl rfl ?_
  exact m_229_172_ok hG hk p0 hK 100000 _ M1 μ2 h hR3 hl4
noncomputable def m_229_145 (a0 a1 : Nat) (K : yM → Bool) (M : yM) : Bool := y_gf M a0 11 9 fun v1 => f_if false (Nat.ble 1 v1) (z_if (z_e0 a1) (m_229_169 a0 a1 K 10 0 v1 M) (z_if (z_eq a1 3) (m_229_169 a0 a1 K 2 0 v1 M) (m_229_169 a0 a1 K 1 0 v1 M)))
theorem m_229_145_ok {fg : eG} {μz : eM} {rc : eQ} {d : Nat} {f : eFr} {F : List eFr} {μ0 : eM} {a0 a1 : Nat} {K : yM → Bool} (hG : yG fg y_T) (hk : ev_kd μ0 a0 = some 11) (p0 : 0 < a0) (hK : ∀ (M : yM) (μ : eM), K M = true → xQ μz M μ → y_le μ0 μ → ex_q fg rc (d + 5, (f.1, f.2.1, f.2.2.1, f.2.2.2), F, μ)) : ∀ (x2 : Option eV) (M : yM) (μ : eM), m_229_145 a0 a1 K M = true → xQ μz M μ → y_le μ0 μ → ex_q fg rc (d + 4, (229, 145, [some (eR a0), some (eI (zI a1)), x2], []), f :: F, μ) := by
  intro x2 M μ h hR hl
  unfold m_229_145 at h
  refine w_s (np := 146) (lv' := [some (eR a0), some (eI (zI a1)), x2]) (st' := [eR a0]) rfl (s_an rfl p0) rfl ?_
  obtain ⟨v1, h, k2, e3⟩ := x_gf_ok (ty := 3) h hR (by decide) rfl
  obtain ⟨g4, h⟩ := f_if_ok h
  have q5 : 0 < v1 := Nat.ble_eq.mp g4
  refine v_gf3 (np := 149) rfl rfl k2 e3 ?_
  clear k2 e3
  refine w_s (np := 150) (lv' := [some (eR a0), some (eI (zI a1)), x2]) (st' := [eI (zI 0), eR v1]) rfl rfl rfl ?_
  refine w_s (np := 151) (lv' := [some (eR a0), some (eI (zI a1)), x2]) (st' := [eI (zI a1), eI (zI 0), eR v1]) rfl rfl rfl ?_
  rcases z_if_t h with ⟨g6, h⟩ | ⟨g6, h⟩
  · refine v_ne0_f (t1 := 159) rfl rfl g6 ?_
    refine w_s (np := 156) (lv' := [some (eR a0), some (eI (zI a1)), x2]) (st' := [eI (zI 10), eI (zI 0), eR v1]) rfl rfl rfl ?_
    refine w_go (t1 := 169) rfl rfl ?_
    exact m_229_169_ok hG hk p0 hK _ _ _ _ M μ h hR hl q5
  · refine v_ne0_t (t1 := 159) rfl rfl g6 ?_
    refine w_s (np := 160) (lv' := [some (eR a0), some (eI (zI a1)), x2]) (st' := [eI (zI a1), eI (zI 0), eR v1]) rfl rfl rfl ?_
    refine w_s (np := 161) (lv' := [some (eR a0), some (eI (zI a1)), x2]) (st' := [eI (zI 3), eI (zI a1), eI (zI 0), eR v1]) rfl rfl rfl ?_
    rcases z_if_t h with ⟨g7, h⟩ | ⟨g7, h⟩
    · refine v_ne_f (t1 := 168) rfl rfl g7 ?_
      refine w_s (np := 165) (lv' := [some (eR a0), some (eI (zI a1)), x2]) (st' := [eI (zI 2), eI (zI 0), eR v1]) rfl rfl rfl ?_
      refine w_go (t1 := 169) rfl rfl ?_
      exact m_229_169_ok hG hk p0 hK _ _ _ _ M μ h hR hl q5
    · refine v_ne_t (t1 := 168) rfl rfl g7 ?_
      refine w_s (np := 169) (lv' := [some (eR a0), some (eI (zI a1)), x2]) (st' := [eI (zI 1), eI (zI 0), eR v1]) rfl rfl rfl ?_
      exact m_229_169_ok hG hk p0 hK _ _ _ _ M μ h hR hl q5
noncomputable def m_229_78 (a0 a1 : Nat) (K : yM → Bool) (M : yM) : Bool := z_if (z_eq a1 3) (m_228 a0 1 1 0 3 M fun M2 => y_gf M2 a0 11 10 fun v7 => f_if false (Nat.ble 1 v7) (m_218 0 0 M2 fun v17 M12 => m_218 3 0 M12 fun v23 M18 => z_l (z_add v17 v23) fun v24 => m_218 0 1 M18 fun v30 M25 => m_218 3 1 M25 fun v36 M31 => z_l (z_add v30 v36) fun v37 => m_218 0 2 M31 fun v43 M38 => m_218 3 2 M38 fun v49 M44 => z_l (z_add v43 v49) fun v50 => m_218 0 3 M44 fun v56 M51 => m_218 3 3 M51 fun v62 M57 => z_l (z_add v56 v62) fun v63 => m_226 a0 v7 12 v24 v37 v50 v63 M57 fun M64 => m_229_145 a0 a1 K M64)) (m_229_145 a0 a1 K M)
theorem m_229_78_ok {fg : eG} {μz : eM} {rc : eQ} {d : Nat} {f : eFr} {F : List eFr} {μ0 : eM} {a0 a1 : Nat} {K : yM → Bool} (hG : yG fg y_T) (hk : ev_kd μ0 a0 = some 11) (p0 : 0 < a0) (hK : ∀ (M : yM) (μ : eM), K M = true → xQ μz M μ → y_le μ0 μ → ex_q fg rc (d + 5, (f.1, f.2.1, f.2.2.1, f.2.2.2), F, μ)) : ∀ (x2 : Option eV) (M : yM) (μ : eM), m_229_78 a0 a1 K M = true → xQ μz M μ → y_le μ0 μ → ex_q fg rc (d + 4, (229, 78, [some (eR a0), some (eI (zI a1)), x2], []), f :: F, μ) := by
  intro x2 M μ h hR hl
  unfold m_229_78 at h
  refine w_s (np := 79) (lv' := [some (eR a0), some (eI (zI a1)), x2]) (st' := [eI (zI a1)]) rfl rfl rfl ?_
  refine w_s (np := 80) (lv' := [some (eR a0), some (eI (zI a1)), x2]) (st' := [eI (zI 3), eI (zI a1)]) rfl rfl rfl ?_
  rcases z_if_t h with ⟨g1, h⟩ | ⟨g1, h⟩
  · refine v_ne_f (t1 := 145) rfl rfl g1 ?_
    refine w_s (np := 84) (lv' := [some (eR a0), some (eI (zI a1)), x2]) (st' := [eR a0]) rfl (s_an rfl p0) rfl ?_
    refine w_s (np := 85) (lv' := [some (eR a0), some (eI (zI a1)), x2]) (st' := [eI (zI 1), eR a0]) rfl rfl rfl ?_
    refine w_s (np := 86) (lv' := [some (eR a0), some (eI (zI a1)), x2]) (st' := [eI (zI 1), eI (zI 1), eR a0]) rfl rfl rfl ?_
    refine w_s (np := 87) (lv' := [some (eR a0), some (eI (zI a1)), x2]) (st' := [eI (zI 0), eI (zI 1), eI (zI 1), eR a0]) rfl rfl rfl ?_
    refine w_s (np := 88) (lv' := [some (eR a0), some (eI (zI a1)), x2]) (st' := [eI (zI 3), eI (zI 0), eI (zI 1), eI (zI 1), eR a0]) rfl rfl rfl ?_
    refine w_cv (np := 91) (as := [eI (zI 1), eI (zI 1), eI (zI 0), eI (zI 3)]) (lv' := [some (eR a0), some (eI (zI 1)), some (eI (zI 1)), some (eI (zI 0)), some (eI (zI 3))]) (rest := []) rfl rfl rfl (Nat.ble_eq.mp rfl) rfl rfl rfl (hl _ _ hk) rfl ?_
    refine m_228_ok hG h hR (hl _ _ hk) p0 ?_
    intro M2 μ3 h hR4 hl6
    have hl5 := y_le.tr hl hl6
    show ex_q fg rc (d + 4, (229, 91, [some (eR a0), some (eI (zI a1)), x2], []), f :: F, μ3)
    refine w_s (np := 92) (lv' := [some (eR a0), some (eI (zI a1)), x2]) (st' := [eR a0]) rfl (s_an rfl p0) rfl ?_
    refine w_s (np := 93) (lv' := [some (eR a0), some (eI (zI a1)), x2]) (st' := [eR a0, eR a0]) rfl (s_an rfl p0) rfl ?_
    obtain ⟨v7, h, k8, e9⟩ := x_gf_ok (ty := 3) h hR4 (by decide) rfl
    obtain ⟨g10, h⟩ := f_if_ok h
    have q11 : 0 < v7 := Nat.ble_eq.mp g10
    refine v_gf3 (np := 96) rfl rfl k8 e9 ?_
    clear k8 e9
    refine w_s (np := 98) (lv' := [some (eR a0), some (eI (zI a1)), x2]) (st' := [eI (zI 12), eR v7, eR a0]) rfl rfl rfl ?_
    refine w_s (np := 99) (lv' := [some (eR a0), some (eI (zI a1)), x2]) (st' := [eI (zI 0), eI (zI 12), eR v7, eR a0]) rfl rfl rfl ?_
    refine w_s (np := 100) (lv' := [some (eR a0), some (eI (zI a1)), x2]) (st' := [eI (zI 0), eI (zI 0), eI (zI 12), eR v7, eR a0]) rfl rfl rfl ?_
    refine w_cs (np := 103) (as := [eI (zI 0), eI (zI 0)]) (lv' := [some (eI (zI 0)), some (eI (zI 0))]) (rest := [eI (zI 12), eR v7, eR a0]) rfl rfl rfl (Nat.ble_eq.mp rfl) rfl rfl rfl rfl ?_
    refine m_218_ok hG h hR4 ?_
    intro v17 M12 μ13 h hR14 hl16
    have hl15 := y_le.tr hl5 hl16
    show ex_q fg rc (d + 4, (229, 103, [some (eR a0), some (eI (zI a1)), x2], [eI (zI v17), eI (zI 12), eR v7, eR a0]), f :: F, μ13)
    refine w_s (np := 104) (lv' := [some (eR a0), some (eI (zI a1)), x2]) (st' := [eI (zI 3), eI (zI v17), eI (zI 12), eR v7, eR a0]) rfl rfl rfl ?_
    refine w_s (np := 105) (lv' := [some (eR a0), some (eI (zI a1)), x2]) (st' := [eI (zI 0), eI (zI 3), eI (zI v17), eI (zI 12), eR v7, eR a0]) rfl rfl rfl ?_
    refine w_cs (np := 108) (as := [eI (zI 3), eI (zI 0)]) (lv' := [some (eI (zI 3)), some (eI (zI 0))]) (rest := [eI (zI v17), eI (zI 12), eR v7, eR a0]) rfl rfl rfl (Nat.ble_eq.mp rfl) rfl rfl rfl rfl ?_
    refine m_218_ok hG h hR14 ?_
    intro v23 M18 μ19 h hR20 hl22
    have hl21 := y_le.tr hl15 hl22
    show ex_q fg rc (d + 4, (229, 108, [some (eR a0), some (eI (zI a1)), x2], [eI (zI v23), eI (zI v17), eI (zI 12), eR v7, eR a0]), f :: F, μ19)
    obtain ⟨v24, ev24, h⟩ := z_l_ex h
    refine w_s (np := 109) (lv' := [some (eR a0), some (eI (zI a1)), x2]) (st' := [eI (zI v24), eI (zI 12), eR v7, eR a0]) rfl (s_iadd ev24) rfl ?_
    clear ev24
    refine w_s (np := 110) (lv' := [some (eR a0), some (eI (zI a1)), x2]) (st' := [eI (zI 0), eI (zI v24), eI (zI 12), eR v7, eR a0]) rfl rfl rfl ?_
    refine w_s (np := 111) (lv' := [some (eR a0), some (eI (zI a1)), x2]) (st' := [eI (zI 1), eI (zI 0), eI (zI v24), eI (zI 12), eR v7, eR a0]) rfl rfl rfl ?_
    refine w_cs (np := 114) (as := [eI (zI 0), eI (zI 1)]) (lv' := [some (eI (zI 0)), some (eI (zI 1))]) (rest := [eI (zI v24), eI (zI 12), eR v7, eR a0]) rfl rfl rfl (Nat.ble_eq.mp rfl) rfl rfl rfl rfl ?_
    refine m_218_ok hG h hR20 ?_
    intro v30 M25 μ26 h hR27 hl29
    have hl28 := y_le.tr hl21 hl29
    show ex_q fg rc (d + 4, (229, 114, [some (eR a0), some (eI (zI a1)), x2], [eI (zI v30), eI (zI v24), eI (zI 12), eR v7, eR a0]), f :: F, μ26)
    refine w_s (np := 115) (lv' := [some (eR a0), some (eI (zI a1)), x2]) (st' := [eI (zI 3), eI (zI v30), eI (zI v24), eI (zI 12), eR v7, eR a0]) rfl rfl rfl ?_
    refine w_s (np := 116) (lv' := [some (eR a0), some (eI (zI a1)), x2]) (st' := [eI (zI 1), eI (zI 3), eI (zI v30), eI (zI v24), eI (zI 12), eR v7, eR a0]) rfl rfl rfl ?_
    refine w_cs (np := 119) (as := [eI (zI 3), eI (zI 1)]) (lv' := [some (eI (zI 3)), some (eI (zI 1))]) (rest := [eI (zI v30), eI (zI v24), eI (zI 12), eR v7, eR a0]) rfl rfl rfl (Nat.ble_eq.mp rfl) rfl rfl rfl rfl ?_
    refine m_218_ok hG h hR27 ?_
    intro v36 M31 μ32 h hR33 hl35
    have hl34 := y_le.tr hl28 hl35
    show ex_q fg rc (d + 4, (229, 119, [some (eR a0), some (eI (zI a1)), x2], [eI (zI v36), eI (zI v30), eI (zI v24), eI (zI 12), eR v7, eR a0]), f :: F, μ32)
    obtain ⟨v37, ev37, h⟩ := z_l_ex h
    refine w_s (np := 120) (lv' := [some (eR a0), some (eI (zI a1)), x2]) (st' := [eI (zI v37), eI (zI v24), eI (zI 12), eR v7, eR a0]) rfl (s_iadd ev37) rfl ?_
    clear ev37
    refine w_s (np := 121) (lv' := [some (eR a0), some (eI (zI a1)), x2]) (st' := [eI (zI 0), eI (zI v37), eI (zI v24), eI (zI 12), eR v7, eR a0]) rfl rfl rfl ?_
    refine w_s (np := 122) (lv' := [some (eR a0), some (eI (zI a1)), x2]) (st' := [eI (zI 2), eI (zI 0), eI (zI v37), eI (zI v24), eI (zI 12), eR v7, eR a0]) rfl rfl rfl ?_
    refine w_cs (np := 125) (as := [eI (zI 0), eI (zI 2)]) (lv' := [some (eI (zI 0)), some (eI (zI 2))]) (rest := [eI (zI v37), eI (zI v24), eI (zI 12), eR v7, eR a0]) rfl rfl rfl (Nat.ble_eq.mp rfl) rfl rfl rfl rfl ?_
    refine m_218_ok hG h hR33 ?_
    intro v43 M38 μ39 h hR40 hl42
    have hl41 := y_le.tr hl34 hl42
    show ex_q fg rc (d + 4, (229, 125, [some (eR a0), some (eI (zI a1)), x2], [eI (zI v43), eI (zI v37), eI (zI v24), eI (zI 12), eR v7, eR a0]), f :: F, μ39)
    refine w_s (np := 126) (lv' := [some (eR a0), some (eI (zI a1)), x2]) (st' := [eI (zI 3), eI (zI v43), eI (zI v37), eI (zI v24), eI (zI 12), eR v7, eR a0]) rfl rfl rfl ?_
    refine w_s (np := 127) (lv' := [some (eR a0), some (eI (zI a1)), x2]) (st' := [eI (zI 2), eI (zI 3), eI (zI v43), eI (zI v37), eI (zI v24), eI (zI 12), eR v7, eR a0]) rfl rfl rfl ?_
    refine w_cs (np := 130) (as := [eI (zI 3), eI (zI 2)]) (lv' := [some (eI (zI 3)), some (eI (zI 2))]) (rest := [eI (zI v43), eI (zI v37), eI (zI v24), eI (zI 12), eR v7, eR a0]) rfl rfl rfl (Nat.ble_eq.mp rfl) rfl rfl rfl rfl ?_
    refine m_218_ok hG h hR40 ?_
    intro v49 M44 μ45 h hR46 hl48
    have hl47 := y_le.tr hl41 hl48
    show ex_q fg rc (d + 4, (229, 130, [some (eR a0), some (eI (zI a1)), x2], [eI (zI v49), eI (zI v43), eI (zI v37), eI (zI v24), eI (zI 12), eR v7, eR a0]), f :: F, μ45)
    obtain ⟨v50, ev50, h⟩ := z_l_ex h
    refine w_s (np := 131) (lv' := [some (eR a0), some (eI (zI a1)), x2]) (st' := [eI (zI v50), eI (zI v37), eI (zI v24), eI (zI 12), eR v7, eR a0]) rfl (s_iadd ev50) rfl ?_
    clear ev50
    refine w_s (np := 132) (lv' := [some (eR a0), some (eI (zI a1)), x2]) (st' := [eI (zI 0), eI (zI v50), eI (zI v37), eI (zI v24), eI (zI 12), eR v7, eR a0]) rfl rfl rfl ?_
    refine w_s (np := 133) (lv' := [some (eR a0), some (eI (zI a1)), x2]) (st' := [eI (zI 3), eI (zI 0), eI (zI v50), eI (zI v37), eI (zI v24), eI (zI 12), eR v7, eR a0]) rfl rfl rfl ?_
    refine w_cs (np := 136) (as := [eI (zI 0), eI (zI 3)]) (lv' := [some (eI (zI 0)), some (eI (zI 3))]) (rest := [eI (zI v50), eI (zI v37), eI (zI v24), eI (zI 12), eR v7, eR a0]) rfl rfl rfl (Nat.ble_eq.mp rfl) rfl rfl rfl rfl ?_
    refine m_218_ok hG h hR46 ?_
    intro v56 M51 μ52 h hR53 hl55
    have hl54 := y_le.tr hl47 hl55
    show ex_q fg rc (d + 4, (229, 136, [some (eR a0), some (eI (zI a1)), x2], [eI (zI v56), eI (zI v50), eI (zI v37), eI (zI v24), eI (zI 12), eR v7, eR a0]), f :: F, μ52)
    refine w_s (np := 137) (lv' := [some (eR a0), some (eI (zI a1)), x2]) (st' := [eI (zI 3), eI (zI v56), eI (zI v50), eI (zI v37), eI (zI v24), eI (zI 12), eR v7, eR a0]) rfl rfl rfl ?_
    refine w_s (np := 138) (lv' := [some (eR a0), some (eI (zI a1)), x2]) (st' := [eI (zI 3), eI (zI 3), eI (zI v56), eI (zI v50), eI (zI v37), eI (zI v24), eI (zI 12), eR v7, eR a0]) rfl rfl rfl ?_
    refine w_cs (np := 141) (as := [eI (zI 3), eI (zI 3)]) (lv' := [some (eI (zI 3)), some (eI (zI 3))]) (rest := [eI (zI v56), eI (zI v50), eI (zI v37), eI (zI v24), eI (zI 12), eR v7, eR a0]) rfl rfl rfl (Nat.ble_eq.mp rfl) rfl rfl rfl rfl ?_
    refine m_218_ok hG h hR53 ?_
    intro v62 M57 μ58 h hR59 hl61
    have hl60 := y_le.tr hl54 hl61
    show ex_q fg rc (d + 4, (229, 141, [some (eR a0), some (eI (zI a1)), x2], [eI (zI v62), eI (zI v56), eI (zI v50), eI (zI v37), eI (zI v24), eI (zI 12), eR v7, eR a0]), f :: F, μ58)
    obtain ⟨v63, ev63, h⟩ := z_l_ex h
    refine w_s (np := 142) (lv' := [some (eR a0), some (eI (zI a1)), x2]) (st' := [eI (zI v63), eI (zI v50), eI (zI v37), eI (zI v24), eI (zI 12), eR v7, eR a0]) rfl (s_iadd ev63) rfl ?_
    clear ev63
    refine w_cv (np := 145) (as := [eR v7, eI (zI 12), eI (zI v24), eI (zI v37), eI (zI v50), eI (zI v63)]) (lv' := [some (eR a0), some (eR v7), some (eI (zI 12)), some (eI (zI v24)), some (eI (zI v37)), some (eI (zI v50)), some (eI (zI v63))]) (rest := []) rfl rfl rfl (Nat.ble_eq.mp rfl) rfl rfl rfl (hl60 _ _ hk) rfl ?_
    refine m_226_ok hG h hR59 (hl60 _ _ hk) p0 q11 ?_
    intro M64 μ65 h hR66 hl68
    have hl67 := y_le.tr hl60 hl68
    show ex_q fg rc (d + 4, (229, 145, [some (eR a0), some (eI (zI a1)), x2], []), f :: F, μ65)
    exact m_229_145_ok hG hk p0 hK _ M64 μ65 h hR66 hl67
  · refine v_ne_t (t1 := 145) rfl rfl g1 ?_
    exact m_229_145_ok hG hk p0 hK _ M μ h hR hl
noncomputable def m_229_65 (a0 a1 : Nat) (K : yM → Bool) (M : yM) : Bool := z_if (z_lt a1 2) (m_229_78 a0 a1 K M) (m_228 a0 0 1 0 3 M fun M2 => m_229_78 a0 a1 K M2)
theorem m_229_65_ok {fg : eG} {μz : eM} {rc : eQ} {d : Nat} {f : eFr} {F : List eFr} {μ0 : eM} {a0 a1 : Nat} {K : yM → Bool} (hG : yG fg y_T) (hk : ev_kd μ0 a0 = some 11) (p0 : 0 < a0) (hK : ∀ (M : yM) (μ : eM), K M = true → xQ μz M μ → y_le μ0 μ → ex_q fg rc (d + 5, (f.1, f.2.1, f.2.2.1, f.2.2.2), F, μ)) : ∀ (x2 : Option eV) (M : yM) (μ : eM), m_229_65 a0 a1 K M = true → xQ μz M μ → y_le μ0 μ → ex_q fg rc (d + 4, (229, 65, [some (eR a0), some (eI (zI a1)), x2], []), f :: F, μ) := by
  intro x2 M μ h hR hl
  unfold m_229_65 at h
  refine w_s (np := 66) (lv' := [some (eR a0), some (eI (zI a1)), x2]) (st' := [eI (zI a1)]) rfl rfl rfl ?_
  refine w_s (np := 67) (lv' := [some (eR a0), some (eI (zI a1)), x2]) (st' := [eI (zI 2), eI (zI a1)]) rfl rfl rfl ?_
  rcases z_if_t h with ⟨g1, h⟩ | ⟨g1, h⟩
  · refine v_lt_t (t1 := 78) rfl rfl g1 ?_
    exact m_229_78_ok hG hk p0 hK _ M μ h hR hl
  · refine v_lt_f (t1 := 78) rfl rfl g1 ?_
    refine w_s (np := 71) (lv' := [some (eR a0), some (eI (zI a1)), x2]) (st' := [eR a0]) rfl (s_an rfl p0) rfl ?_
    refine w_s (np := 72) (lv' := [some (eR a0), some (eI (zI a1)), x2]) (st' := [eI (zI 0), eR a0]) rfl rfl rfl ?_
    refine w_s (np := 73) (lv' := [some (eR a0), some (eI (zI a1)), x2]) (st' := [eI (zI 1), eI (zI 0), eR a0]) rfl rfl rfl ?_
    refine w_s (np := 74) (lv' := [some (eR a0), some (eI (zI a1)), x2]) (st' := [eI (zI 0), eI (zI 1), eI (zI 0), eR a0]) rfl rfl rfl ?_
    refine w_s (np := 75) (lv' := [some (eR a0), some (eI (zI a1)), x2]) (st' := [eI (zI 3), eI (zI 0), eI (zI 1), eI (zI 0), eR a0]) rfl rfl rfl ?_
    refine w_cv (np := 78) (as := [eI (zI 0), eI (zI 1), eI (zI 0), eI (zI 3)]) (lv' := [some (eR a0), some (eI (zI 0)), some (eI (zI 1)), some (eI (zI 0)), some (eI (zI 3))]) (rest := []) rfl rfl rfl (Nat.ble_eq.mp rfl) rfl rfl rfl (hl _ _ hk) rfl ?_
    refine m_228_ok hG h hR (hl _ _ hk) p0 ?_
    intro M2 μ3 h hR4 hl6
    have hl5 := y_le.tr hl hl6
    show ex_q fg rc (d + 4, (229, 78, [some (eR a0), some (eI (zI a1)), x2], []), f :: F, μ3)
    exact m_229_78_ok hG hk p0 hK _ M2 μ3 h hR4 hl5
noncomputable def m_229_52 (a0 a1 : Nat) (K : yM → Bool) (M : yM) : Bool := z_if (z_eq a1 1) (m_228 a0 0 0 0 1 M fun M2 => m_229_65 a0 a1 K M2) (m_229_65 a0 a1 K M)
theorem m_229_52_ok {fg : eG} {μz : eM} {rc : eQ} {d : Nat} {f : eFr} {F : List eFr} {μ0 : eM} {a0 a1 : Nat} {K : yM → Bool} (hG : yG fg y_T) (hk : ev_kd μ0 a0 = some 11) (p0 : 0 < a0) (hK : ∀ (M : yM) (μ : eM), K M = true → xQ μz M μ → y_le μ0 μ → ex_q fg rc (d + 5, (f.1, f.2.1, f.2.2.1, f.2.2.2), F, μ)) : ∀ (x2 : Option eV) (M : yM) (μ : eM), m_229_52 a0 a1 K M = true → xQ μz M μ → y_le μ0 μ → ex_q fg rc (d + 4, (229, 52, [some (eR a0), some (eI (zI a1)), x2], []), f :: F, μ) := by
  intro x2 M μ h hR hl
  unfold m_229_52 at h
  refine w_s (np := 53) (lv' := [some (eR a0), some (eI (zI a1)), x2]) (st' := [eI (zI a1)]) rfl rfl rfl ?_
  refine w_s (np := 54) (lv' := [some (eR a0), some (eI (zI a1)), x2]) (st' := [eI (zI 1), eI (zI a1)]) rfl rfl rfl ?_
  rcases z_if_t h with ⟨g1, h⟩ | ⟨g1, h⟩
  · refine v_ne_f (t1 := 65) rfl rfl g1 ?_
    refine w_s (np := 58) (lv' := [some (eR a0), some (eI (zI a1)), x2]) (st' := [eR a0]) rfl (s_an rfl p0) rfl ?_
    refine w_s (np := 59) (lv' := [some (eR a0), some (eI (zI a1)), x2]) (st' := [eI (zI 0), eR a0]) rfl rfl rfl ?_
    refine w_s (np := 60) (lv' := [some (eR a0), some (eI (zI a1)), x2]) (st' := [eI (zI 0), eI (zI 0), eR a0]) rfl rfl rfl ?_
    refine w_s (np := 61) (lv' := [some (eR a0), some (eI (zI a1)), x2]) (st' := [eI (zI 0), eI (zI 0), eI (zI 0), eR a0]) rfl rfl rfl ?_
    refine w_s (np := 62) (lv' := [some (eR a0), some (eI (zI a1)), x2]) (st' := [eI (zI 1), eI (zI 0), eI (zI 0), eI (zI 0), eR a0]) rfl rfl rfl ?_
    refine w_cv (np := 65) (as := [eI (zI 0), eI (zI 0), eI (zI 0), eI (zI 1)]) (lv' := [some (eR a0), some (eI (zI 0)), some (eI (zI 0)), some (eI (zI 0)), some (eI (zI 1))]) (rest := []) rfl rfl rfl (Nat.ble_eq.mp rfl) rfl rfl rfl (hl _ _ hk) rfl ?_
    refine m_228_ok hG h hR (hl _ _ hk) p0 ?_
    intro M2 μ3 h hR4 hl6
    have hl5 := y_le.tr hl hl6
    show ex_q fg rc (d + 4, (229, 65, [some (eR a0), some (eI (zI a1)), x2], []), f :: F, μ3)
    exact m_229_65_ok hG hk p0 hK _ M2 μ3 h hR4 hl5
  · refine v_ne_t (t1 := 65) rfl rfl g1 ?_
    exact m_229_65_ok hG hk p0 hK _ M μ h hR hl
noncomputable def m_229_43 (a0 a1 : Nat) (K : yM → Bool) (i6 : Nat → yM → Bool) (a2 s0 s1 s2 s3 s4 : Nat) (M : yM) : Bool := y_is M s4 11 (m_228 s4 s3 s2 s1 s0 M fun M1 => z_l (z_add a2 1) fun v7 => z_f v7 fun w8 => i6 w8 M1)
theorem m_229_43_ok {fg : eG} {μz : eM} {rc : eQ} {d : Nat} {f : eFr} {F : List eFr} {μ0 : eM} {a0 a1 : Nat} {K : yM → Bool} {i6 : Nat → yM → Bool} (hG : yG fg y_T) (hk : ev_kd μ0 a0 = some 11) (p0 : 0 < a0) (hK : ∀ (M : yM) (μ : eM), K M = true → xQ μz M μ → y_le μ0 μ → ex_q fg rc (d + 5, (f.1, f.2.1, f.2.2.1, f.2.2.2), F, μ)) (h6 : ∀ (a2 : Nat) (M : yM) (μ : eM), i6 a2 M = true → xQ μz M μ → y_le μ0 μ → ex_q fg rc (d + 4, (229, 6, [some (eR a0), some (eI (zI a1)), some (eI (zI a2))], []), f :: F, μ)) : ∀ (a2 s0 s1 s2 s3 s4 : Nat) (M : yM) (μ : eM), m_229_43 a0 a1 K i6 a2 s0 s1 s2 s3 s4 M = true → xQ μz M μ → y_le μ0 μ → 0 < s4 → ex_q fg rc (d + 4, (229, 43, [some (eR a0), some (eI (zI a1)), some (eI (zI a2))], [eI (zI s0), eI (zI s1), eI (zI s2), eI (zI s3), eR s4]), f :: F, μ) := by
  intro a2 s0 s1 s2 s3 s4 M μ h hR hl q4
  unfold m_229_43 at h
  obtain ⟨k6, h⟩ := x_is_ok h hR
  refine w_cv (np := 46) (as := [eI (zI s3), eI (zI s2), eI (zI s1), eI (zI s0)]) (lv' := [some (eR s4), some (eI (zI s3)), some (eI (zI s2)), some (eI (zI s1)), some (eI (zI s0))]) (rest := []) rfl rfl rfl (Nat.ble_eq.mp rfl) rfl rfl rfl k6 rfl ?_
  refine m_228_ok hG h hR k6 q4 ?_
  intro M1 μ2 h hR3 hl5
  have hl4 := y_le.tr hl hl5
  show ex_q fg rc (d + 4, (229, 46, [some (eR a0), some (eI (zI a1)), some (eI (zI a2))], []), f :: F, μ2)
  obtain ⟨v7, ev7, h⟩ := z_l_ex h
  refine w_s (np := 49) (lv' := [some (eR a0), some (eI (zI a1)), some (eI (zI v7))]) (st' := []) rfl (s_iinc (b := 1) rfl rfl ev7 rfl) rfl ?_
  clear ev7
  refine w_go (t1 := 6) rfl rfl ?_
  obtain ⟨w8, ew8, h⟩ := z_f_ex h
  subst ew8
  exact h6 _ M1 μ2 h hR3 hl4
noncomputable def m_229_29 (a0 a1 : Nat) (K : yM → Bool) (i6 : Nat → yM → Bool) (a2 s0 s1 s2 s3 : Nat) (M : yM) : Bool := z_l (z_rem a2 2) fun v1 => z_if (z_eq v1 1) (z_l (z_add a2 1) fun v3 => m_229_43 a0 a1 K i6 a2 v3 s0 s1 s2 s3 M) (m_229_43 a0 a1 K i6 a2 a2 s0 s1 s2 s3 M)
theorem m_229_29_ok {fg : eG} {μz : eM} {rc : eQ} {d : Nat} {f : eFr} {F : List eFr} {μ0 : eM} {a0 a1 : Nat} {K : yM → Bool} {i6 : Nat → yM → Bool} (hG : yG fg y_T) (hk : ev_kd μ0 a0 = some 11) (p0 : 0 < a0) (hK : ∀ (M : yM) (μ : eM), K M = true → xQ μz M μ → y_le μ0 μ → ex_q fg rc (d + 5, (f.1, f.2.1, f.2.2.1, f.2.2.2), F, μ)) (h6 : ∀ (a2 : Nat) (M : yM) (μ : eM), i6 a2 M = true → xQ μz M μ → y_le μ0 μ → ex_q fg rc (d + 4, (229, 6, [some (eR a0), some (eI (zI a1)), some (eI (zI a2))], []), f :: F, μ)) : ∀ (a2 s0 s1 s2 s3 : Nat) (M : yM) (μ : eM), m_229_29 a0 a1 K i6 a2 s0 s1 s2 s3 M = true → xQ μz M μ → y_le μ0 μ → 0 < s3 → ex_q fg rc (d + 4, (229, 29, [some (eR a0), some (eI (zI a1)), some (eI (zI a2))], [eI (zI s0), eI (zI s1), eI (zI s2), eR s3]), f :: F, μ) := by
  intro a2 s0 s1 s2 s3 M μ h hR hl q3
  unfold m_229_29 at h
  refine w_s (np := 30) (lv' := [some (eR a0), some (eI (zI a1)), some (eI (zI a2))]) (st' := [eI (zI a2), eI (zI s0), eI (zI s1), eI (zI s2), eR s3]) rfl rfl rfl ?_
  refine w_s (np := 31) (lv' := [some (eR a0), some (eI (zI a1)), some (eI (zI a2))]) (st' := [eI (zI 2), eI (zI a2), eI (zI s0), eI (zI s1), eI (zI s2), eR s3]) rfl rfl rfl ?_
  obtain ⟨v1, ev1, h⟩ := z_l_ex h
  refine w_s (np := 32) (lv' := [some (eR a0), some (eI (zI a1)), some (eI (zI a2))]) (st' := [eI (zI v1), eI (zI s0), eI (zI s1), eI (zI s2), eR s3]) rfl (s_irem ⟨by decide, by decide⟩ ev1) rfl ?_
  clear ev1
  refine w_s (np := 33) (lv' := [some (eR a0), some (eI (zI a1)), some (eI (zI a2))]) (st' := [eI (zI 1), eI (zI v1), eI (zI s0), eI (zI s1), eI (zI s2), eR s3]) rfl rfl rfl ?_
  rcases z_if_t h with ⟨g2, h⟩ | ⟨g2, h⟩
  · refine v_ne_f (t1 := 42) rfl rfl g2 ?_
    refine w_s (np := 37) (lv' := [some (eR a0), some (eI (zI a1)), some (eI (zI a2))]) (st' := [eI (zI a2), eI (zI s0), eI (zI s1), eI (zI s2), eR s3]) rfl rfl rfl ?_
    refine w_s (np := 38) (lv' := [some (eR a0), some (eI (zI a1)), some (eI (zI a2))]) (st' := [eI (zI 1), eI (zI a2), eI (zI s0), eI (zI s1), eI (zI s2), eR s3]) rfl rfl rfl ?_
    obtain ⟨v3, ev3, h⟩ := z_l_ex h
    refine w_s (np := 39) (lv' := [some (eR a0), some (eI (zI a1)), some (eI (zI a2))]) (st' := [eI (zI v3), eI (zI s0), eI (zI s1), eI (zI s2), eR s3]) rfl (s_iadd ev3) rfl ?_
    clear ev3
    refine w_go (t1 := 43) rfl rfl ?_
    exact m_229_43_ok hG hk p0 hK h6 _ _ _ _ _ _ M μ h hR hl q3
  · refine v_ne_t (t1 := 42) rfl rfl g2 ?_
    refine w_s (np := 43) (lv' := [some (eR a0), some (eI (zI a1)), some (eI (zI a2))]) (st' := [eI (zI a2), eI (zI s0), eI (zI s1), eI (zI s2), eR s3]) rfl rfl rfl ?_
    exact m_229_43_ok hG hk p0 hK h6 _ _ _ _ _ _ M μ h hR hl q3
noncomputable def m_229_6b (a0 a1 : Nat) (K : yM → Bool) (i6 : Nat → yM → Bool) (a2 : Nat) (M : yM) : Bool := z_if (z_lt a2 10) (z_l (z_rem a2 2) fun v2 => z_if (z_eq v2 1) (m_229_29 a0 a1 K i6 a2 a2 0 a2 a0 M) (z_l (z_add a2 1) fun v4 => m_229_29 a0 a1 K i6 a2 v4 0 a2 a0 M)) (m_229_52 a0 a1 K M)
noncomputable def m_229_6 (a0 a1 : Nat) (K : yM → Bool) (n : Nat) : Nat → yM → Bool := @Nat.rec (fun _ => Nat → yM → Bool) (fun _ _ => false) (fun _ ih => m_229_6b a0 a1 K ih) n
theorem m_229_6b_ok {fg : eG} {μz : eM} {rc : eQ} {d : Nat} {f : eFr} {F : List eFr} {μ0 : eM} {a0 a1 : Nat} {K : yM → Bool} {i6 : Nat → yM → Bool} (hG : yG fg y_T) (hk : ev_kd μ0 a0 = some 11) (p0 : 0 < a0) (hK : ∀ (M : yM) (μ : eM), K M = true → xQ μz M μ → y_le μ0 μ → ex_q fg rc (d + 5, (f.1, f.2.1, f.2.2.1, f.2.2.2), F, μ)) (h6 : ∀ (a2 : Nat) (M : yM) (μ : eM), i6 a2 M = true → xQ μz M μ → y_le μ0 μ → ex_q fg rc (d + 4, (229, 6, [some (eR a0), some (eI (zI a1)), some (eI (zI a2))], []), f :: F, μ)) : ∀ (a2 : Nat) (M : yM) (μ : eM), m_229_6b a0 a1 K i6 a2 M = true → xQ μz M μ → y_le μ0 μ → ex_q fg rc (d + 4, (229, 6, [some (eR a0), some (eI (zI a1)), some (eI (zI a2))], []), f :: F, μ) := by
  intro a2 M μ h hR hl
  unfold m_229_6b at h
  refine w_s (np := 7) (lv' := [some (eR a0), some (eI (zI a1)), some (eI (zI a2))]) (st' := [eI (zI a2)]) rfl rfl rfl ?_
  refine w_s (np := 9) (lv' := [some (eR a0), some (eI (zI a1)), some (eI (zI a2))]) (st' := [eI (zI 10), eI (zI a2)]) rfl rfl rfl ?_
  rcases z_if_t h with ⟨g1, h⟩ | ⟨g1, h⟩
  · refine v_ge_f (t1 := 52) rfl rfl g1 ?_
    refine w_s (np := 13) (lv' := [some (eR a0), some (eI (zI a1)), some (eI (zI a2))]) (st' := [eR a0]) rfl (s_an rfl p0) rfl ?_
    refine w_s (np := 14) (lv' := [some (eR a0), some (eI (zI a1)), some (eI (zI a2))]) (st' := [eI (zI a2), eR a0]) rfl rfl rfl ?_
    refine w_s (np := 15) (lv' := [some (eR a0), some (eI (zI a1)), some (eI (zI a2))]) (st' := [eI (zI 0), eI (zI a2), eR a0]) rfl rfl rfl ?_
    refine w_s (np := 16) (lv' := [some (eR a0), some (eI (zI a1)), some (eI (zI a2))]) (st' := [eI (zI a2), eI (zI 0), eI (zI a2), eR a0]) rfl rfl rfl ?_
    refine w_s (np := 17) (lv' := [some (eR a0), some (eI (zI a1)), some (eI (zI a2))]) (st' := [eI (zI 2), eI (zI a2), eI (zI 0), eI (zI a2), eR a0]) rfl rfl rfl ?_
    obtain ⟨v2, ev2, h⟩ := z_l_ex h
    refine w_s (np := 18) (lv' := [some (eR a0), some (eI (zI a1)), some (eI (zI a2))]) (st' := [eI (zI v2), eI (zI 0), eI (zI a2), eR a0]) rfl (s_irem ⟨by decide, by decide⟩ ev2) rfl ?_
    clear ev2
    refine w_s (np := 19) (lv' := [some (eR a0), some (eI (zI a1)), some (eI (zI a2))]) (st' := [eI (zI 1), eI (zI v2), eI (zI 0), eI (zI a2), eR a0]) rfl rfl rfl ?_
    rcases z_if_t h with ⟨g3, h⟩ | ⟨g3, h⟩
    · refine v_ne_f (t1 := 26) rfl rfl g3 ?_
      refine w_s (np := 23) (lv' := [some (eR a0), some (eI (zI a1)), some (eI (zI a2))]) (st' := [eI (zI a2), eI (zI 0), eI (zI a2), eR a0]) rfl rfl rfl ?_
      refine w_go (t1 := 29) rfl rfl ?_
      exact m_229_29_ok hG hk p0 hK h6 _ _ _ _ _ M μ h hR hl p0
    · refine v_ne_t (t1 := 26) rfl rfl g3 ?_
      refine w_s (np := 27) (lv' := [some (eR a0), some (eI (zI a1)), some (eI (zI a2))]) (st' := [eI (zI a2), eI (zI 0), eI (zI a2), eR a0]) rfl rfl rfl ?_
      refine w_s (np := 28) (lv' := [some (eR a0), some (eI (zI a1)), some (eI (zI a2))]) (st' := [eI (zI 1), eI (zI a2), eI (zI 0), eI (zI a2), eR a0]) rfl rfl rfl ?_
      obtain ⟨v4, ev4, h⟩ := z_l_ex h
      refine w_s (np := 29) (lv' := [some (eR a0), some (eI (zI a1)), some (eI (zI a2))]) (st' := [eI (zI v4), eI (zI 0), eI (zI a2), eR a0]) rfl (s_iadd ev4) rfl ?_
      clear ev4
      exact m_229_29_ok hG hk p0 hK h6 _ _ _ _ _ M μ h hR hl p0
  · refine v_ge_t (t1 := 52) rfl rfl g1 ?_
    exact m_229_52_ok hG hk p0 hK _ M μ h hR hl
theorem m_229_6_ok {fg : eG} {μz : eM} {rc : eQ} {d : Nat} {f : eFr} {F : List eFr} {μ0 : eM} {a0 a1 : Nat} {K : yM → Bool} (hG : yG fg y_T) (hk : ev_kd μ0 a0 = some 11) (p0 : 0 < a0) (hK : ∀ (M : yM) (μ : eM), K M = true → xQ μz M μ → y_le μ0 μ → ex_q fg rc (d + 5, (f.1, f.2.1, f.2.2.1, f.2.2.2), F, μ)) : ∀ n : Nat, ∀ (a2 : Nat) (M : yM) (μ : eM), m_229_6 a0 a1 K n a2 M = true → xQ μz M μ → y_le μ0 μ → ex_q fg rc (d + 4, (229, 6, [some (eR a0), some (eI (zI a1)), some (eI (zI a2))], []), f :: F, μ) := by
  intro n
  induction n with
  | zero =>
    intro a2 M μ h hR hl
    exact absurd h Bool.false_ne_true
  | succ n ih =>
    intro a2 M μ h hR hl
    exact m_229_6b_ok hG hk p0 hK ih a2 M μ h hR hl
noncomputable def m_229 (a0 a1 : Nat) (M : yM) (K : yM → Bool) : Bool := z_if (z_e0 a1) (m_229_6 a0 a1 K 100000 0 M) (m_229_52 a0 a1 K M)
theorem m_229_ok {fg : eG} {μz : eM} {rc : eQ} {d : Nat} {f : eFr} {F : List eFr} {M : yM} {μ0 : eM} {a0 a1 : Nat} {K : yM → Bool} (hG : yG fg y_T) (h : m_229 a0 a1 M K = true) (hR : xQ μz M μ0) (hk : ev_kd μ0 a0 = some 11) (p0 : 0 < a0) (hK : ∀ (M : yM) (μ : eM), K M = true → xQ μz M μ → y_le μ0 μ → ex_q fg rc (d + 5, (f.1, f.2.1, f.2.2.1, f.2.2.2), F, μ)) : ex_q fg rc (d + 4, (229, 0, [some (eR a0), some (eI (zI a1)), none], []), f :: F, μ0) := by
  unfold m_229 at h
  have hl := y_le_r μ0
  refine w_s (np := 1) (lv' := [some (eR a0), some (eI (zI a1)), none]) (st' := [eI (zI a1)]) rfl rfl rfl ?_
  rcases z_if_t h with ⟨g1, h⟩ | ⟨g1, h⟩
  · refine v_ne0_f (t1 := 52) rfl rfl g1 ?_
    refine w_s (np := 5) (lv' := [some (eR a0), some (eI (zI a1)), none]) (st' := [eI (zI 0)]) rfl rfl rfl ?_
    refine w_s (np := 6) (lv' := [some (eR a0), some (eI (zI a1)), some (eI (zI 0))]) (st' := []) rfl rfl rfl ?_
    exact m_229_6_ok hG hk p0 hK 100000 _ M μ0 h hR hl
  · refine v_ne0_t (t1 := 52) rfl rfl g1 ?_
    exact m_229_52_ok hG hk p0 hK _ M μ0 h hR hl
noncomputable def m_219 (a0 a1 a3 a5 a7 : Nat) (M : yM) (K : yM → Bool) : Bool := y_wf M a0 11 2 a1 fun M1 => y_wf M1 a0 11 3 a3 fun M7 => y_wf M7 a0 11 4 a5 fun M13 => y_wf M13 a0 11 5 a7 fun M19 => K M19
theorem m_219_ok {fg : eG} {μz : eM} {rc : eQ} {d : Nat} {f : eFr} {F : List eFr} {M : yM} {μ0 : eM} {a0 a1 a3 a5 a7 : Nat} {K : yM → Bool} (hG : yG fg y_T) (h : m_219 a0 a1 a3 a5 a7 M K = true) (hR : xQ μz M μ0) (hk : ev_kd μ0 a0 = some 11) (p0 : 0 < a0) (hK : ∀ (M : yM) (μ : eM), K M = true → xQ μz M μ → y_le μ0 μ → ex_q fg rc (d + 1, (f.1, f.2.1, f.2.2.1, f.2.2.2), F, μ)) : ex_q fg rc (d, (219, 0, [some (eR a0), some (eJ (zJ a1)), none, some (eJ (zJ a3)), none, some (eJ (zJ a5)), none, some (eJ (zJ a7)), none], []), f :: F, μ0) := by
  unfold m_219 at h
  have hl := y_le_r μ0
  refine w_s (np := 1) (lv' := [some (eR a0), some (eJ (zJ a1)), none, some (eJ (zJ a3)), none, some (eJ (zJ a5)), none, some (eJ (zJ a7)), none]) (st' := [eR a0]) rfl (s_an rfl p0) rfl ?_
  refine w_s (np := 2) (lv' := [some (eR a0), some (eJ (zJ a1)), none, some (eJ (zJ a3)), none, some (eJ (zJ a5)), none, some (eJ (zJ a7)), none]) (st' := [eJ (zJ a1), eR a0]) rfl rfl rfl ?_
  obtain ⟨M1, μ2, h, k5, hR3, hl4, e6⟩ := x_wf_ex (ty := 2) h hR hl rfl (by decide)
  refine v_pe2 (np := 5) rfl rfl k5 e6 ?_
  clear k5 e6
  refine w_s (np := 6) (lv' := [some (eR a0), some (eJ (zJ a1)), none, some (eJ (zJ a3)), none, some (eJ (zJ a5)), none, some (eJ (zJ a7)), none]) (st' := [eR a0]) rfl (s_an rfl p0) rfl ?_
  refine w_s (np := 7) (lv' := [some (eR a0), some (eJ (zJ a1)), none, some (eJ (zJ a3)), none, some (eJ (zJ a5)), none, some (eJ (zJ a7)), none]) (st' := [eJ (zJ a3), eR a0]) rfl rfl rfl ?_
  obtain ⟨M7, μ8, h, k11, hR9, hl10, e12⟩ := x_wf_ex (ty := 2) h hR3 hl4 rfl (by decide)
  refine v_pe2 (np := 10) rfl rfl k11 e12 ?_
  clear k11 e12
  refine w_s (np := 11) (lv' := [some (eR a0), some (eJ (zJ a1)), none, some (eJ (zJ a3)), none, some (eJ (zJ a5)), none, some (eJ (zJ a7)), none]) (st' := [eR a0]) rfl (s_an rfl p0) rfl ?_
  refine w_s (np := 13) (lv' := [some (eR a0), some (eJ (zJ a1)), none, some (eJ (zJ a3)), none, some (eJ (zJ a5)), none, some (eJ (zJ a7)), none]) (st' := [eJ (zJ a5), eR a0]) rfl rfl rfl ?_
  obtain ⟨M13, μ14, h, k17, hR15, hl16, e18⟩ := x_wf_ex (ty := 2) h hR9 hl10 rfl (by decide)
  refine v_pe2 (np := 16) rfl rfl k17 e18 ?_
  clear k17 e18
  refine w_s (np := 17) (lv' := [some (eR a0), some (eJ (zJ a1)), none, some (eJ (zJ a3)), none, some (eJ (zJ a5)), none, some (eJ (zJ a7)), none]) (st' := [eR a0]) rfl (s_an rfl p0) rfl ?_
  refine w_s (np := 19) (lv' := [some (eR a0), some (eJ (zJ a1)), none, some (eJ (zJ a3)), none, some (eJ (zJ a5)), none, some (eJ (zJ a7)), none]) (st' := [eJ (zJ a7), eR a0]) rfl rfl rfl ?_
  obtain ⟨M19, μ20, h, k23, hR21, hl22, e24⟩ := x_wf_ex (ty := 2) h hR15 hl16 rfl (by decide)
  refine v_pe2 (np := 22) rfl rfl k23 e24 ?_
  clear k23 e24
  exact v_rv rfl rfl (hK _ _ h hR21 hl22)
noncomputable def m_220 (a0 : Nat) (M : yM) (K : yM → Bool) : Bool := y_gf M a0 11 5 fun v1 => z_l (z_lsub 0 v1) fun v4 => y_gf M a0 11 2 fun v5 => y_gf M a0 11 5 fun v8 => z_l (z_ladd v5 v8) fun v11 => y_gf M a0 11 3 fun v12 => y_gf M a0 11 5 fun v15 => z_l (z_lsub v12 v15) fun v18 => y_gf M a0 11 4 fun v19 => y_gf M a0 11 5 fun v22 => z_l (z_ladd v19 v22) fun v25 => m_219 a0 v4 v11 v18 v25 M fun M26 => K M26
theorem m_220_ok {fg : eG} {μz : eM} {rc : eQ} {d : Nat} {f : eFr} {F : List eFr} {M : yM} {μ0 : eM} {a0 : Nat} {K : yM → Bool} (hG : yG fg y_T) (h : m_220 a0 M K = true) (hR : xQ μz M μ0) (hk : ev_kd μ0 a0 = some 11) (p0 : 0 < a0) (hK : ∀ (M : yM) (μ : eM), K M = true → xQ μz M μ → y_le μ0 μ → ex_q fg rc (d + 2, (f.1, f.2.1, f.2.2.1, f.2.2.2), F, μ)) : ex_q fg rc (d + 1, (220, 0, [some (eR a0)], []), f :: F, μ0) := by
  unfold m_220 at h
  have hl := y_le_r μ0
  refine w_s (np := 1) (lv' := [some (eR a0)]) (st' := [eR a0]) rfl (s_an rfl p0) rfl ?_
  refine w_s (np := 2) (lv' := [some (eR a0)]) (st' := [eJ (zJ 0), eR a0]) rfl rfl rfl ?_
  refine w_s (np := 3) (lv' := [some (eR a0)]) (st' := [eR a0, eJ (zJ 0), eR a0]) rfl (s_an rfl p0) rfl ?_
  obtain ⟨v1, h, k2, e3⟩ := x_gf_ok (ty := 2) h hR (by decide) rfl
  refine v_gf2 (np := 6) rfl rfl k2 e3 ?_
  clear k2 e3
  obtain ⟨v4, ev4, h⟩ := z_l_ex h
  refine w_s (np := 7) (lv' := [some (eR a0)]) (st' := [eJ (zJ v4), eR a0]) rfl (s_lsub ev4) rfl ?_
  clear ev4
  refine w_s (np := 8) (lv' := [some (eR a0)]) (st' := [eR a0, eJ (zJ v4), eR a0]) rfl (s_an rfl p0) rfl ?_
  obtain ⟨v5, h, k6, e7⟩ := x_gf_ok (ty := 2) h hR (by decide) rfl
  refine v_gf2 (np := 11) rfl rfl k6 e7 ?_
  clear k6 e7
  refine w_s (np := 12) (lv' := [some (eR a0)]) (st' := [eR a0, eJ (zJ v5), eJ (zJ v4), eR a0]) rfl (s_an rfl p0) rfl ?_
  obtain ⟨v8, h, k9, e10⟩ := x_gf_ok (ty := 2) h hR (by decide) rfl
  refine v_gf2 (np := 15) rfl rfl k9 e10 ?_
  clear k9 e10
  obtain ⟨v11, ev11, h⟩ := z_l_ex h
  refine w_s (np := 16) (lv' := [some (eR a0)]) (st' := [eJ (zJ v11), eJ (zJ v4), eR a0]) rfl (s_ladd ev11) rfl ?_
  clear ev11
  refine w_s (np := 17) (lv' := [some (eR a0)]) (st' := [eR a0, eJ (zJ v11), eJ (zJ v4), eR a0]) rfl (s_an rfl p0) rfl ?_
  obtain ⟨v12, h, k13, e14⟩ := x_gf_ok (ty := 2) h hR (by decide) rfl
  refine v_gf2 (np := 20) rfl rfl k13 e14 ?_
  clear k13 e14
  refine w_s (np := 21) (lv' := [some (eR a0)]) (st' := [eR a0, eJ (zJ v12), eJ (zJ v11), eJ (zJ v4), eR a0]) rfl (s_an rfl p0) rfl ?_
  obtain ⟨v15, h, k16, e17⟩ := x_gf_ok (ty := 2) h hR (by decide) rfl
  refine v_gf2 (np := 24) rfl rfl k16 e17 ?_
  clear k16 e17
  obtain ⟨v18, ev18, h⟩ := z_l_ex h
  refine w_s (np := 25) (lv' := [some (eR a0)]) (st' := [eJ (zJ v18), eJ (zJ v11), eJ (zJ v4), eR a0]) rfl (s_lsub ev18) rfl ?_
  clear ev18
  refine w_s (np := 26) (lv' := [some (eR a0)]) (st' := [eR a0, eJ (zJ v18), eJ (zJ v11), eJ (zJ v4), eR a0]) rfl (s_an rfl p0) rfl ?_
  obtain ⟨v19, h, k20, e21⟩ := x_gf_ok (ty := 2) h hR (by decide) rfl
  refine v_gf2 (np := 29) rfl rfl k20 e21 ?_
  clear k20 e21
  refine w_s (np := 30) (lv' := [some (eR a0)]) (st' := [eR a0, eJ (zJ v19), eJ (zJ v18), eJ (zJ v11), eJ (zJ v4), eR a0]) rfl (s_an rfl p0) rfl ?_
  obtain ⟨v22, h, k23, e24⟩ := x_gf_ok (ty := 2) h hR (by decide) rfl
  refine v_gf2 (np := 33) rfl rfl k23 e24 ?_
  clear k23 e24
  obtain ⟨v25, ev25, h⟩ := z_l_ex h
  refine w_s (np := 34) (lv' := [some (eR a0)]) (st' := [eJ (zJ v25), eJ (zJ v18), eJ (zJ v11), eJ (zJ v4), eR a0]) rfl (s_ladd ev25) rfl ?_
  clear ev25
  refine w_cv (np := 37) (as := [eJ (zJ v4), eJ (zJ v11), eJ (zJ v18), eJ (zJ v25)]) (lv' := [some (eR a0), some (eJ (zJ v4)), none, some (eJ (zJ v11)), none, some (eJ (zJ v18)), none, some (eJ (zJ v25)), none]) (rest := []) rfl rfl rfl (Nat.ble_eq.mp rfl) rfl rfl rfl (hl _ _ hk) rfl ?_
  refine m_219_ok hG h hR (hl _ _ hk) p0 ?_
  intro M26 μ27 h hR28 hl30
  have hl29 := y_le.tr hl hl30
  show ex_q fg rc (d + 1, (220, 37, [some (eR a0)], []), f :: F, μ27)
  exact v_rv rfl rfl (hK _ _ h hR28 hl29)
noncomputable def m_230_68b (a0 a1 : Nat) (K : yM → Bool) (i68 : Nat → Nat → Nat → Nat → Nat → yM → Bool) (a2 a4 a6 a8 a10 : Nat) (M : yM) : Bool := z_if (z_lt a10 8) (m_220 a0 M fun M23 => z_l (z_add a10 1) fun v28 => z_f v28 fun w29 => i68 a2 a4 a6 a8 w29 M23) (y_gf M a0 11 2 fun v2 => z_l (z_ladd a2 v2) fun v5 => y_gf M a0 11 3 fun v6 => z_l (z_ladd a4 v6) fun v9 => y_gf M a0 11 4 fun v10 => z_l (z_ladd a6 v10) fun v13 => y_gf M a0 11 5 fun v14 => z_l (z_ladd a8 v14) fun v17 => m_219 a0 v5 v9 v13 v17 M fun M18 => K M18)
noncomputable def m_230_68 (a0 a1 : Nat) (K : yM → Bool) (n : Nat) : Nat → Nat → Nat → Nat → Nat → yM → Bool := @Nat.rec (fun _ => Nat → Nat → Nat → Nat → Nat → yM → Bool) (fun _ _ _ _ _ _ => false) (fun _ ih => m_230_68b a0 a1 K ih) n
theorem m_230_68b_ok {fg : eG} {μz : eM} {rc : eQ} {d : Nat} {f : eFr} {F : List eFr} {μ0 : eM} {a0 a1 : Nat} {K : yM → Bool} {i68 : Nat → Nat → Nat → Nat → Nat → yM → Bool} (hG : yG fg y_T) (hk : ev_kd μ0 a0 = some 11) (p0 : 0 < a0) (hK : ∀ (M : yM) (μ : eM), K M = true → xQ μz M μ → y_le μ0 μ → ex_q fg rc (d + 3, (f.1, f.2.1, f.2.2.1, f.2.2.2), F, μ)) (h68 : ∀ (a2 a4 a6 a8 a10 : Nat) (M : yM) (μ : eM), i68 a2 a4 a6 a8 a10 M = true → xQ μz M μ → y_le μ0 μ → ex_q fg rc (d + 2, (230, 68, [some (eR a0), some (eI (zI a1)), some (eJ (zJ a2)), none, some (eJ (zJ a4)), none, some (eJ (zJ a6)), none, some (eJ (zJ a8)), none, some (eI (zI a10))], []), f :: F, μ)) : ∀ (a2 a4 a6 a8 a10 : Nat) (M : yM) (μ : eM), m_230_68b a0 a1 K i68 a2 a4 a6 a8 a10 M = true → xQ μz M μ → y_le μ0 μ → ex_q fg rc (d + 2, (230, 68, [some (eR a0), some (eI (zI a1)), some (eJ (zJ a2)), none, some (eJ (zJ a4)), none, some (eJ (zJ a6)), none, some (eJ (zJ a8)), none, some (eI (zI a10))], []), f :: F, μ) := by
  intro a2 a4 a6 a8 a10 M μ h hR hl
  unfold m_230_68b at h
  refine w_s (np := 70) (lv' := [some (eR a0), some (eI (zI a1)), some (eJ (zJ a2)), none, some (eJ (zJ a4)), none, some (eJ (zJ a6)), none, some (eJ (zJ a8)), none, some (eI (zI a10))]) (st' := [eI (zI a10)]) rfl rfl rfl ?_
  refine w_s (np := 72) (lv' := [some (eR a0), some (eI (zI a1)), some (eJ (zJ a2)), none, some (eJ (zJ a4)), none, some (eJ (zJ a6)), none, some (eJ (zJ a8)), none, some (eI (zI a10))]) (st' := [eI (zI 8), eI (zI a10)]) rfl rfl rfl ?_
  rcases z_if_t h with ⟨g1, h⟩ | ⟨g1, h⟩
  · refine v_ge_f (t1 := 85) rfl rfl g1 ?_
    refine w_s (np := 76) (lv' := [some (eR a0), some (eI (zI a1)), some (eJ (zJ a2)), none, some (eJ (zJ a4)), none, some (eJ (zJ a6)), none, some (eJ (zJ a8)), none, some (eI (zI a10))]) (st' := [eR a0]) rfl (s_an rfl p0) rfl ?_
    refine w_cv (np := 79) (as := []) (lv' := [some (eR a0)]) (rest := []) rfl rfl rfl (Nat.ble_eq.mp rfl) rfl rfl rfl (hl _ _ hk) rfl ?_
    refine m_220_ok hG h hR (hl _ _ hk) p0 ?_
    intro M23 μ24 h hR25 hl27
    have hl26 := y_le.tr hl hl27
    show ex_q fg rc (d + 2, (230, 79, [some (eR a0), some (eI (zI a1)), some (eJ (zJ a2)), none, some (eJ (zJ a4)), none, some (eJ (zJ a6)), none, some (eJ (zJ a8)), none, some (eI (zI a10))], []), f :: F, μ24)
    obtain ⟨v28, ev28, h⟩ := z_l_ex h
    refine w_s (np := 82) (lv' := [some (eR a0), some (eI (zI a1)), some (eJ (zJ a2)), none, some (eJ (zJ a4)), none, some (eJ (zJ a6)), none, some (eJ (zJ a8)), none, some (eI (zI v28))]) (st' := []) rfl (s_iinc (b := 1) rfl rfl ev28 rfl) rfl ?_
    clear ev28
    refine w_go (t1 := 68) rfl rfl ?_
    obtain ⟨w29, ew29, h⟩ := z_f_ex h
    subst ew29
    exact h68 _ _ _ _ _ M23 μ24 h hR25 hl26
  · refine v_ge_t (t1 := 85) rfl rfl g1 ?_
    refine w_s (np := 86) (lv' := [some (eR a0), some (eI (zI a1)), some (eJ (zJ a2)), none, some (eJ (zJ a4)), none, some (eJ (zJ a6)), none, some (eJ (zJ a8)), none, some (eI (zI a10))]) (st' := [eR a0]) rfl (s_an rfl p0) rfl ?_
    refine w_s (np := 87) (lv' := [some (eR a0), some (eI (zI a1)), some (eJ (zJ a2)), none, some (eJ (zJ a4)), none, some (eJ (zJ a6)), none, some (eJ (zJ a8)), none, some (eI (zI a10))]) (st' := [eJ (zJ a2), eR a0]) rfl rfl rfl ?_
    refine w_s (np := 88) (lv' := [some (eR a0), some (eI (zI a1)), some (eJ (zJ a2)), none, some (eJ (zJ a4)), none, some (eJ (zJ a6)), none, some (eJ (zJ a8)), none, some (eI (zI a10))]) (st' := [eR a0, eJ (zJ a2), eR a0]) rfl (s_an rfl p0) rfl ?_
    obtain ⟨v2, h, k3, e4⟩ := x_gf_ok (ty := 2) h hR (by decide) rfl
    refine v_gf2 (np := 91) rfl rfl k3 e4 ?_
    clear k3 e4
    obtain ⟨v5, ev5, h⟩ := z_l_ex h
    refine w_s (np := 92) (lv' := [some (eR a0), some (eI (zI a1)), some (eJ (zJ a2)), none, some (eJ (zJ a4)), none, some (eJ (zJ a6)), none, some (eJ (zJ a8)), none, some (eI (zI a10))]) (st' := [eJ (zJ v5), eR a0]) rfl (s_ladd ev5) rfl ?_
    clear ev5
    refine w_s (np := 94) (lv' := [some (eR a0), some (eI (zI a1)), some (eJ (zJ a2)), none, some (eJ (zJ a4)), none, some (eJ (zJ a6)), none, some (eJ (zJ a8)), none, some (eI (zI a10))]) (st' := [eJ (zJ a4), eJ (zJ v5), eR a0]) rfl rfl rfl ?_
    refine w_s (np := 95) (lv' := [some (eR a0), some (eI (zI a1)), some (eJ (zJ a2)), none, some (eJ (zJ a4)), none, some (eJ (zJ a6)), none, some (eJ (zJ a8)), none, some (eI (zI a10))]) (st' := [eR a0, eJ (zJ a4), eJ (zJ v5), eR a0]) rfl (s_an rfl p0) rfl ?_
    obtain ⟨v6, h, k7, e8⟩ := x_gf_ok (ty := 2) h hR (by decide) rfl
    refine v_gf2 (np := 98) rfl rfl k7 e8 ?_
    clear k7 e8
    obtain ⟨v9, ev9, h⟩ := z_l_ex h
    refine w_s (np := 99) (lv' := [some (eR a0), some (eI (zI a1)), some (eJ (zJ a2)), none, some (eJ (zJ a4)), none, some (eJ (zJ a6)), none, some (eJ (zJ a8)), none, some (eI (zI a10))]) (st' := [eJ (zJ v9), eJ (zJ v5), eR a0]) rfl (s_ladd ev9) rfl ?_
    clear ev9
    refine w_s (np := 101) (lv' := [some (eR a0), some (eI (zI a1)), some (eJ (zJ a2)), none, some (eJ (zJ a4)), none, some (eJ (zJ a6)), none, some (eJ (zJ a8)), none, some (eI (zI a10))]) (st' := [eJ (zJ a6), eJ (zJ v9), eJ (zJ v5), eR a0]) rfl rfl rfl ?_
    refine w_s (np := 102) (lv' := [some (eR a0), some (eI (zI a1)), some (eJ (zJ a2)), none, some (eJ (zJ a4)), none, some (eJ (zJ a6)), none, some (eJ (zJ a8)), none, some (eI (zI a10))]) (st' := [eR a0, eJ (zJ a6), eJ (zJ v9), eJ (zJ v5), eR a0]) rfl (s_an rfl p0) rfl ?_
    obtain ⟨v10, h, k11, e12⟩ := x_gf_ok (ty := 2) h hR (by decide) rfl
    refine v_gf2 (np := 105) rfl rfl k11 e12 ?_
    clear k11 e12
    obtain ⟨v13, ev13, h⟩ := z_l_ex h
    refine w_s (np := 106) (lv' := [some (eR a0), some (eI (zI a1)), some (eJ (zJ a2)), none, some (eJ (zJ a4)), none, some (eJ (zJ a6)), none, some (eJ (zJ a8)), none, some (eI (zI a10))]) (st' := [eJ (zJ v13), eJ (zJ v9), eJ (zJ v5), eR a0]) rfl (s_ladd ev13) rfl ?_
    clear ev13
    refine w_s (np := 108) (lv' := [some (eR a0), some (eI (zI a1)), some (eJ (zJ a2)), none, some (eJ (zJ a4)), none, some (eJ (zJ a6)), none, some (eJ (zJ a8)), none, some (eI (zI a10))]) (st' := [eJ (zJ a8), eJ (zJ v13), eJ (zJ v9), eJ (zJ v5), eR a0]) rfl rfl rfl ?_
    refine w_s (np := 109) (lv' := [some (eR a0), some (eI (zI a1)), some (eJ (zJ a2)), none, some (eJ (zJ a4)), none, some (eJ (zJ a6)), none, some (eJ (zJ a8)), none, some (eI (zI a10))]) (st' := [eR a0, eJ (zJ a8), eJ (zJ v13), eJ (zJ v9), eJ (zJ v5), eR a0]) rfl (s_an rfl p0) rfl ?_
    obtain ⟨v14, h, k15, e16⟩ := x_gf_ok (ty := 2) h hR (by decide) rfl
    refine v_gf2 (np := 112) rfl rfl k15 e16 ?_
    clear k15 e16
    obtain ⟨v17, ev17, h⟩ := z_l_ex h
    refine w_s (np := 113) (lv' := [some (eR a0), some (eI (zI a1)), some (eJ (zJ a2)), none, some (eJ (zJ a4)), none, some (eJ (zJ a6)), none, some (eJ (zJ a8)), none, some (eI (zI a10))]) (st' := [eJ (zJ v17), eJ (zJ v13), eJ (zJ v9), eJ (zJ v5), eR a0]) rfl (s_ladd ev17) rfl ?_
    clear ev17
    refine w_cv (np := 116) (as := [eJ (zJ v5), eJ (zJ v9), eJ (zJ v13), eJ (zJ v17)]) (lv' := [some (eR a0), some (eJ (zJ v5)), none, some (eJ (zJ v9)), none, some (eJ (zJ v13)), none, some (eJ (zJ v17)), none]) (rest := []) rfl rfl rfl (Nat.ble_eq.mp rfl) rfl rfl rfl (hl _ _ hk) rfl ?_
    refine m_219_ok hG h hR (hl _ _ hk) p0 ?_
    intro M18 μ19 h hR20 hl22
    have hl21 := y_le.tr hl hl22
    show ex_q fg rc (d + 2, (230, 116, [some (eR a0), some (eI (zI a1)), some (eJ (zJ a2)), none, some (eJ (zJ a4)), none, some (eJ (zJ a6)), none, some (eJ (zJ a8)), none, some (eI (zI a10))], []), f :: F, μ19)
    exact v_rv rfl rfl (hK _ _ h hR20 hl21)
theorem m_230_68_ok {fg : eG} {μz : eM} {rc : eQ} {d : Nat} {f : eFr} {F : List eFr} {μ0 : eM} {a0 a1 : Nat} {K : yM → Bool} (hG : yG fg y_T) (hk : ev_kd μ0 a0 = some 11) (p0 : 0 < a0) (hK : ∀ (M : yM) (μ : eM), K M = true → xQ μz M μ → y_le μ0 μ → ex_q fg rc (d + 3, (f.1, f.2.1, f.2.2.1, f.2.2.2), F, μ)) : ∀ n : Nat, ∀ (a2 a4 a6 a8 a10 : Nat) (M : yM) (μ : eM), m_230_68 a0 a1 K n a2 a4 a6 a8 a10 M = true → xQ μz M μ → y_le μ0 μ → ex_q fg rc (d + 2, (230, 68, [some (eR a0), some (eI (zI a1)), some (eJ (zJ a2)), none, some (eJ (zJ a4)), none, some (eJ (zJ a6)), none, some (eJ (zJ a8)), none, some (eI (zI a10))], []), f :: F, μ) := by
  intro n
  induction n with
  | zero =>
    intro a2 a4 a6 a8 a10 M μ h hR hl
    exact absurd h Bool.false_ne_true
  | succ n ih =>
    intro a2 a4 a6 a8 a10 M μ h hR hl
    exact m_230_68b_ok hG hk p0 hK ih a2 a4 a6 a8 a10 M μ h hR hl
noncomputable def m_230 (a0 a1 : Nat) (M : yM) (K : yM → Bool) : Bool := y_gf M a0 11 10 fun v1 => f_if false (Nat.ble 1 v1) (y_lh 100 M v1 a1 fun v6 => z_l (z_i2l v6) fun v8 => y_gf M a0 11 10 fun v9 => f_if false (Nat.ble 1 v9) (z_l (z_add a1 1) fun v14 => y_lh 100 M v9 v14 fun v15 => z_l (z_i2l v15) fun v17 => y_gf M a0 11 10 fun v18 => f_if false (Nat.ble 1 v18) (z_l (z_add a1 2) fun v23 => y_lh 100 M v18 v23 fun v24 => z_l (z_i2l v24) fun v26 => y_gf M a0 11 10 fun v27 => f_if false (Nat.ble 1 v27) (z_l (z_add a1 3) fun v32 => y_lh 100 M v27 v32 fun v33 => z_l (z_i2l v33) fun v35 => m_219 a0 v8 v17 v26 v35 M fun M36 => m_220 a0 M36 fun M41 => y_gf M41 a0 11 2 fun v46 => y_gf M41 a0 11 3 fun v49 => y_gf M41 a0 11 4 fun v52 => y_gf M41 a0 11 5 fun v55 => m_230_68 a0 a1 K 100000 v46 v49 v52 v55 0 M41))))
theorem m_230_ok {fg : eG} {μz : eM} {rc : eQ} {d : Nat} {f : eFr} {F : List eFr} {M : yM} {μ0 : eM} {a0 a1 : Nat} {K : yM → Bool} (hG : yG fg y_T) (h : m_230 a0 a1 M K = true) (hR : xQ μz M μ0) (hk : ev_kd μ0 a0 = some 11) (p0 : 0 < a0) (hK : ∀ (M : yM) (μ : eM), K M = true → xQ μz M μ → y_le μ0 μ → ex_q fg rc (d + 3, (f.1, f.2.1, f.2.2.1, f.2.2.2), F, μ)) : ex_q fg rc (d + 2, (230, 0, [some (eR a0), some (eI (zI a1)), none, none, none, none, none, none, none, none, none], []), f :: F, μ0) := by
  unfold m_230 at h
  have hl := y_le_r μ0
  refine w_s (np := 1) (lv' := [some (eR a0), some (eI (zI a1)), none, none, none, none, none, none, none, none, none]) (st' := [eR a0]) rfl (s_an rfl p0) rfl ?_
  refine w_s (np := 2) (lv' := [some (eR a0), some (eI (zI a1)), none, none, none, none, none, none, none, none, none]) (st' := [eR a0, eR a0]) rfl (s_an rfl p0) rfl ?_
  obtain ⟨v1, h, k2, e3⟩ := x_gf_ok (ty := 3) h hR (by decide) rfl
  obtain ⟨g4, h⟩ := f_if_ok h
  have q5 : 0 < v1 := Nat.ble_eq.mp g4
  refine v_gf3 (np := 5) rfl rfl k2 e3 ?_
  clear k2 e3
  refine w_s (np := 6) (lv' := [some (eR a0), some (eI (zI a1)), none, none, none, none, none, none, none, none, none]) (st' := [eI (zI a1), eR v1, eR a0]) rfl rfl rfl ?_
  obtain ⟨v6, h, k7⟩ := x_lh_ok (ty := 0) h hR hG (by decide) rfl (by decide)
  refine v_la (np := 7) rfl rfl k7 ?_
  clear k7
  obtain ⟨v8, ev8, h⟩ := z_l_ex h
  refine w_s (np := 8) (lv' := [some (eR a0), some (eI (zI a1)), none, none, none, none, none, none, none, none, none]) (st' := [eJ (zJ v8), eR a0]) rfl (s_i2l ev8) rfl ?_
  clear ev8
  refine w_s (np := 9) (lv' := [some (eR a0), some (eI (zI a1)), none, none, none, none, none, none, none, none, none]) (st' := [eR a0, eJ (zJ v8), eR a0]) rfl (s_an rfl p0) rfl ?_
  obtain ⟨v9, h, k10, e11⟩ := x_gf_ok (ty := 3) h hR (by decide) rfl
  obtain ⟨g12, h⟩ := f_if_ok h
  have q13 : 0 < v9 := Nat.ble_eq.mp g12
  refine v_gf3 (np := 12) rfl rfl k10 e11 ?_
  clear k10 e11
  refine w_s (np := 13) (lv' := [some (eR a0), some (eI (zI a1)), none, none, none, none, none, none, none, none, none]) (st' := [eI (zI a1), eR v9, eJ (zJ v8), eR a0]) rfl rfl rfl ?_
  refine w_s (np := 14) (lv' := [some (eR a0), some (eI (zI a1)), none, none, none, none, none, none, none, none, none]) (st' := [eI (zI 1), eI (zI a1), eR v9, eJ (zJ v8), eR a0]) rfl rfl rfl ?_
  obtain ⟨v14, ev14, h⟩ := z_l_ex h
  refine w_s (np := 15) (lv' := [some (eR a0), some (eI (zI a1)), none, none, none, none, none, none, none, none, none]) (st' := [eI (zI v14), eR v9, eJ (zJ v8), eR a0]) rfl (s_iadd ev14) rfl ?_
  clear ev14
  obtain ⟨v15, h, k16⟩ := x_lh_ok (ty := 0) h hR hG (by decide) rfl (by decide)
  refine v_la (np := 16) rfl rfl k16 ?_
  clear k16
  obtain ⟨v17, ev17, h⟩ := z_l_ex h
  refine w_s (np := 17) (lv' := [some (eR a0), some (eI (zI a1)), none, none, none, none, none, none, none, none, none]) (st' := [eJ (zJ v17), eJ (zJ v8), eR a0]) rfl (s_i2l ev17) rfl ?_
  clear ev17
  refine w_s (np := 18) (lv' := [some (eR a0), some (eI (zI a1)), none, none, none, none, none, none, none, none, none]) (st' := [eR a0, eJ (zJ v17), eJ (zJ v8), eR a0]) rfl (s_an rfl p0) rfl ?_
  obtain ⟨v18, h, k19, e20⟩ := x_gf_ok (ty := 3) h hR (by decide) rfl
  obtain ⟨g21, h⟩ := f_if_ok h
  have q22 : 0 < v18 := Nat.ble_eq.mp g21
  refine v_gf3 (np := 21) rfl rfl k19 e20 ?_
  clear k19 e20
  refine w_s (np := 22) (lv' := [some (eR a0), some (eI (zI a1)), none, none, none, none, none, none, none, none, none]) (st' := [eI (zI a1), eR v18, eJ (zJ v17), eJ (zJ v8), eR a0]) rfl rfl rfl ?_
  refine w_s (np := 23) (lv' := [some (eR a0), some (eI (zI a1)), none, none, none, none, none, none, none, none, none]) (st' := [eI (zI 2), eI (zI a1), eR v18, eJ (zJ v17), eJ (zJ v8), eR a0]) rfl rfl rfl ?_
  obtain ⟨v23, ev23, h⟩ := z_l_ex h
  refine w_s (np := 24) (lv' := [some (eR a0), some (eI (zI a1)), none, none, none, none, none, none, none, none, none]) (st' := [eI (zI v23), eR v18, eJ (zJ v17), eJ (zJ v8), eR a0]) rfl (s_iadd ev23) rfl ?_
  clear ev23
  obtain ⟨v24, h, k25⟩ := x_lh_ok (ty := 0) h hR hG (by decide) rfl (by decide)
  refine v_la (np := 25) rfl rfl k25 ?_
  clear k25
  obtain ⟨v26, ev26, h⟩ := z_l_ex h
  refine w_s (np := 26) (lv' := [some (eR a0), some (eI (zI a1)), none, none, none, none, none, none, none, none, none]) (st' := [eJ (zJ v26), eJ (zJ v17), eJ (zJ v8), eR a0]) rfl (s_i2l ev26) rfl ?_
  clear ev26
  refine w_s (np := 27) (lv' := [some (eR a0), some (eI (zI a1)), none, none, none, none, none, none, none, none, none]) (st' := [eR a0, eJ (zJ v26), eJ (zJ v17), eJ (zJ v8), eR a0]) rfl (s_an rfl p0) rfl ?_
  obtain ⟨v27, h, k28, e29⟩ := x_gf_ok (ty := 3) h hR (by decide) rfl
  obtain ⟨g30, h⟩ := f_if_ok h
  have q31 : 0 < v27 := Nat.ble_eq.mp g30
  refine v_gf3 (np := 30) rfl rfl k28 e29 ?_
  clear k28 e29
  refine w_s (np := 31) (lv' := [some (eR a0), some (eI (zI a1)), none, none, none, none, none, none, none, none, none]) (st' := [eI (zI a1), eR v27, eJ (zJ v26), eJ (zJ v17), eJ (zJ v8), eR a0]) rfl rfl rfl ?_
  refine w_s (np := 32) (lv' := [some (eR a0), some (eI (zI a1)), none, none, none, none, none, none, none, none, none]) (st' := [eI (zI 3), eI (zI a1), eR v27, eJ (zJ v26), eJ (zJ v17), eJ (zJ v8), eR a0]) rfl rfl rfl ?_
  obtain ⟨v32, ev32, h⟩ := z_l_ex h
  refine w_s (np := 33) (lv' := [some (eR a0), some (eI (zI a1)), none, none, none, none, none, none, none, none, none]) (st' := [eI (zI v32), eR v27, eJ (zJ v26), eJ (zJ v17), eJ (zJ v8), eR a0]) rfl (s_iadd ev32) rfl ?_
  clear ev32
  obtain ⟨v33, h, k34⟩ := x_lh_ok (ty := 0) h hR hG (by decide) rfl (by decide)
  refine v_la (np := 34) rfl rfl k34 ?_
  clear k34
  obtain ⟨v35, ev35, h⟩ := z_l_ex h
  refine w_s (np := 35) (lv' := [some (eR a0), some (eI (zI a1)), none, none, none, none, none, none, none, none, none]) (st' := [eJ (zJ v35), eJ (zJ v26), eJ (zJ v17), eJ (zJ v8), eR a0]) rfl (s_i2l ev35) rfl ?_
  clear ev35
  refine w_cv (np := 38) (as := [eJ (zJ v8), eJ (zJ v17), eJ (zJ v26), eJ (zJ v35)]) (lv' := [some (eR a0), some (eJ (zJ v8)), none, some (eJ (zJ v17)), none, some (eJ (zJ v26)), none, some (eJ (zJ v35)), none]) (rest := []) rfl rfl rfl (Nat.ble_eq.mp rfl) rfl rfl rfl (hl _ _ hk) rfl ?_
  refine m_219_ok hG h hR (hl _ _ hk) p0 ?_
  intro M36 μ37 h hR38 hl40
  have hl39 := y_le.tr hl hl40
  show ex_q fg rc (d + 2, (230, 38, [some (eR a0), some (eI (zI a1)), none, none, none, none, none, none, none, none, none], []), f :: F, μ37)
  refine w_s (np := 39) (lv' := [some (eR a0), some (eI (zI a1)), none, none, none, none, none, none, none, none, none]) (st' := [eR a0]) rfl (s_an rfl p0) rfl ?_
  refine w_cv (np := 42) (as := []) (lv' := [some (eR a0)]) (rest := []) rfl rfl rfl (Nat.ble_eq.mp rfl) rfl rfl rfl (hl39 _ _ hk) rfl ?_
  refine m_220_ok hG h hR38 (hl39 _ _ hk) p0 ?_
  intro M41 μ42 h hR43 hl45
  have hl44 := y_le.tr hl39 hl45
  show ex_q fg rc (d + 2, (230, 42, [some (eR a0), some (eI (zI a1)), none, none, none, none, none, none, none, none, none], []), f :: F, μ42)
  refine w_s (np := 43) (lv' := [some (eR a0), some (eI (zI a1)), none, none, none, none, none, none, none, none, none]) (st' := [eR a0]) rfl (s_an rfl p0) rfl ?_
  obtain ⟨v46, h, k47, e48⟩ := x_gf_ok (ty := 2) h hR43 (by decide) rfl
  refine v_gf2 (np := 46) rfl rfl k47 e48 ?_
  clear k47 e48
  refine w_s (np := 47) (lv' := [some (eR a0), some (eI (zI a1)), some (eJ (zJ v46)), none, none, none, none, none, none, none, none]) (st' := []) rfl rfl rfl ?_
  refine w_s (np := 48) (lv' := [some (eR a0), some (eI (zI a1)), some (eJ (zJ v46)), none, none, none, none, none, none, none, none]) (st' := [eR a0]) rfl (s_an rfl p0) rfl ?_
  obtain ⟨v49, h, k50, e51⟩ := x_gf_ok (ty := 2) h hR43 (by decide) rfl
  refine v_gf2 (np := 51) rfl rfl k50 e51 ?_
  clear k50 e51
  refine w_s (np := 53) (lv' := [some (eR a0), some (eI (zI a1)), some (eJ (zJ v46)), none, some (eJ (zJ v49)), none, none, none, none, none, none]) (st' := []) rfl rfl rfl ?_
  refine w_s (np := 54) (lv' := [some (eR a0), some (eI (zI a1)), some (eJ (zJ v46)), none, some (eJ (zJ v49)), none, none, none, none, none, none]) (st' := [eR a0]) rfl (s_an rfl p0) rfl ?_
  obtain ⟨v52, h, k53, e54⟩ := x_gf_ok (ty := 2) h hR43 (by decide) rfl
  refine v_gf2 (np := 57) rfl rfl k53 e54 ?_
  clear k53 e54
  refine w_s (np := 59) (lv' := [some (eR a0), some (eI (zI a1)), some (eJ (zJ v46)), none, some (eJ (zJ v49)), none, some (eJ (zJ v52)), none, none, none, none]) (st' := []) rfl rfl rfl ?_
  refine w_s (np := 60) (lv' := [some (eR a0), some (eI (zI a1)), some (eJ (zJ v46)), none, some (eJ (zJ v49)), none, some (eJ (zJ v52)), none, none, none, none]) (st' := [eR a0]) rfl (s_an rfl p0) rfl ?_
  obtain ⟨v55, h, k56, e57⟩ := x_gf_ok (ty := 2) h hR43 (by decide) rfl
  refine v_gf2 (np := 63) rfl rfl k56 e57 ?_
  clear k56 e57
  refine w_s (np := 65) (lv' := [some (eR a0), some (eI (zI a1)), some (eJ (zJ v46)), none, some (eJ (zJ v49)), none, some (eJ (zJ v52)), none, some (eJ (zJ v55)), none, none]) (st' := []) rfl rfl rfl ?_
  refine w_s (np := 66) (lv' := [some (eR a0), some (eI (zI a1)), some (eJ (zJ v46)), none, some (eJ (zJ v49)), none, some (eJ (zJ v52)), none, some (eJ (zJ v55)), none, none]) (st' := [eI (zI 0)]) rfl rfl rfl ?_
  refine w_s (np := 68) (lv' := [some (eR a0), some (eI (zI a1)), some (eJ (zJ v46)), none, some (eJ (zJ v49)), none, some (eJ (zJ v52)), none, some (eJ (zJ v55)), none, some (eI (zI 0))]) (st' := []) rfl rfl rfl ?_
  exact m_230_68_ok hG hk p0 hK 100000 _ _ _ _ _ M41 μ42 h hR43 hl44
noncomputable def m_231 (a0 a1 a2 : Nat) (M : yM) (K : yM → Bool) : Bool := m_230 a0 a1 M fun M1 => y_gf M1 a0 11 19 fun v6 => f_if false (Nat.ble 1 v6) (y_gf M1 a0 11 2 fun v11 => z_l (z_l2i v11) fun v14 => y_gf M1 a0 11 3 fun v15 => z_l (z_l2i v15) fun v18 => y_gf M1 a0 11 4 fun v19 => z_l (z_l2i v19) fun v22 => y_gf M1 a0 11 5 fun v23 => z_l (z_l2i v23) fun v26 => m_226 a0 v6 a2 v14 v18 v22 v26 M1 fun M27 => K M27)
theorem m_231_ok {fg : eG} {μz : eM} {rc : eQ} {d : Nat} {f : eFr} {F : List eFr} {M : yM} {μ0 : eM} {a0 a1 a2 : Nat} {K : yM → Bool} (hG : yG fg y_T) (h : m_231 a0 a1 a2 M K = true) (hR : xQ μz M μ0) (hk : ev_kd μ0 a0 = some 11) (p0 : 0 < a0) (hK : ∀ (M : yM) (μ : eM), K M = true → xQ μz M μ → y_le μ0 μ → ex_q fg rc (d + 4, (f.1, f.2.1, f.2.2.1, f.2.2.2), F, μ)) : ex_q fg rc (d + 3, (231, 0, [some (eR a0), some (eI (zI a1)), some (eI (zI a2))], []), f :: F, μ0) := by
  unfold m_231 at h
  have hl := y_le_r μ0
  refine w_s (np := 1) (lv' := [some (eR a0), some (eI (zI a1)), some (eI (zI a2))]) (st' := [eR a0]) rfl (s_an rfl p0) rfl ?_
  refine w_s (np := 2) (lv' := [some (eR a0), some (eI (zI a1)), some (eI (zI a2))]) (st' := [eI (zI a1), eR a0]) rfl rfl rfl ?_
  refine w_cv (np := 5) (as := [eI (zI a1)]) (lv' := [some (eR a0), some (eI (zI a1)), none, none, none, none, none, none, none, none, none]) (rest := []) rfl rfl rfl (Nat.ble_eq.mp rfl) rfl rfl rfl (hl _ _ hk) rfl ?_
  refine m_230_ok hG h hR (hl _ _ hk) p0 ?_
  intro M1 μ2 h hR3 hl5
  have hl4 := y_le.tr hl hl5
  show ex_q fg rc (d + 3, (231, 5, [some (eR a0), some (eI (zI a1)), some (eI (zI a2))], []), f :: F, μ2)
  refine w_s (np := 6) (lv' := [some (eR a0), some (eI (zI a1)), some (eI (zI a2))]) (st' := [eR a0]) rfl (s_an rfl p0) rfl ?_
  refine w_s (np := 7) (lv' := [some (eR a0), some (eI (zI a1)), some (eI (zI a2))]) (st' := [eR a0, eR a0]) rfl (s_an rfl p0) rfl ?_
  obtain ⟨v6, h, k7, e8⟩ := x_gf_ok (ty := 3) h hR3 (by decide) rfl
  obtain ⟨g9, h⟩ := f_if_ok h
  have q10 : 0 < v6 := Nat.ble_eq.mp g9
  refine v_gf3 (np := 10) rfl rfl k7 e8 ?_
  clear k7 e8
  refine w_s (np := 11) (lv' := [some (eR a0), some (eI (zI a1)), some (eI (zI a2))]) (st' := [eI (zI a2), eR v6, eR a0]) rfl rfl rfl ?_
  refine w_s (np := 12) (lv' := [some (eR a0), some (eI (zI a1)), some (eI (zI a2))]) (st' := [eR a0, eI (zI a2), eR v6, eR a0]) rfl (s_an rfl p0) rfl ?_
  obtain ⟨v11, h, k12, e13⟩ := x_gf_ok (ty := 2) h hR3 (by decide) rfl
  refine v_gf2 (np := 15) rfl rfl k12 e13 ?_
  clear k12 e13
  obtain ⟨v14, ev14, h⟩ := z_l_ex h
  refine w_s (np := 16) (lv' := [some (eR a0), some (eI (zI a1)), some (eI (zI a2))]) (st' := [eI (zI v14), eI (zI a2), eR v6, eR a0]) rfl (s_l2i ev14) rfl ?_
  clear ev14
  refine w_s (np := 17) (lv' := [some (eR a0), some (eI (zI a1)), some (eI (zI a2))]) (st' := [eR a0, eI (zI v14), eI (zI a2), eR v6, eR a0]) rfl (s_an rfl p0) rfl ?_
  obtain ⟨v15, h, k16, e17⟩ := x_gf_ok (ty := 2) h hR3 (by decide) rfl
  refine v_gf2 (np := 20) rfl rfl k16 e17 ?_
  clear k16 e17
  obtain ⟨v18, ev18, h⟩ := z_l_ex h
  refine w_s (np := 21) (lv' := [some (eR a0), some (eI (zI a1)), some (eI (zI a2))]) (st' := [eI (zI v18), eI (zI v14), eI (zI a2), eR v6, eR a0]) rfl (s_l2i ev18) rfl ?_
  clear ev18
  refine w_s (np := 22) (lv' := [some (eR a0), some (eI (zI a1)), some (eI (zI a2))]) (st' := [eR a0, eI (zI v18), eI (zI v14), eI (zI a2), eR v6, eR a0]) rfl (s_an rfl p0) rfl ?_
  obtain ⟨v19, h, k20, e21⟩ := x_gf_ok (ty := 2) h hR3 (by decide) rfl
  refine v_gf2 (np := 25) rfl rfl k20 e21 ?_
  clear k20 e21
  obtain ⟨v22, ev22, h⟩ := z_l_ex h
  refine w_s (np := 26) (lv' := [some (eR a0), some (eI (zI a1)), some (eI (zI a2))]) (st' := [eI (zI v22), eI (zI v18), eI (zI v14), eI (zI a2), eR v6, eR a0]) rfl (s_l2i ev22) rfl ?_
  clear ev22
  refine w_s (np := 27) (lv' := [some (eR a0), some (eI (zI a1)), some (eI (zI a2))]) (st' := [eR a0, eI (zI v22), eI (zI v18), eI (zI v14), eI (zI a2), eR v6, eR a0]) rfl (s_an rfl p0) rfl ?_
  obtain ⟨v23, h, k24, e25⟩ := x_gf_ok (ty := 2) h hR3 (by decide) rfl
  refine v_gf2 (np := 30) rfl rfl k24 e25 ?_
  clear k24 e25
  obtain ⟨v26, ev26, h⟩ := z_l_ex h
  refine w_s (np := 31) (lv' := [some (eR a0), some (eI (zI a1)), some (eI (zI a2))]) (st' := [eI (zI v26), eI (zI v22), eI (zI v18), eI (zI v14), eI (zI a2), eR v6, eR a0]) rfl (s_l2i ev26) rfl ?_
  clear ev26
  refine w_cv (np := 34) (as := [eR v6, eI (zI a2), eI (zI v14), eI (zI v18), eI (zI v22), eI (zI v26)]) (lv' := [some (eR a0), some (eR v6), some (eI (zI a2)), some (eI (zI v14)), some (eI (zI v18)), some (eI (zI v22)), some (eI (zI v26))]) (rest := []) rfl rfl rfl (Nat.ble_eq.mp rfl) rfl rfl rfl (hl4 _ _ hk) rfl ?_
  refine m_226_ok hG h hR3 (hl4 _ _ hk) p0 q10 ?_
  intro M27 μ28 h hR29 hl31
  have hl30 := y_le.tr hl4 hl31
  show ex_q fg rc (d + 3, (231, 34, [some (eR a0), some (eI (zI a1)), some (eI (zI a2))], []), f :: F, μ28)
  exact v_rv rfl rfl (hK _ _ h hR29 hl30)
noncomputable def m_232_3b (a0 a1 a2 a3 a4 : Nat) (K : yM → Bool) (i3 : Nat → yM → Bool) (a5 : Nat) (M : yM) : Bool := z_if (z_lt a5 4) (y_gf M a0 11 19 fun v2 => f_if false (Nat.ble 1 v2) (z_l (z_add a1 a5) fun v7 => y_gf M a0 11 19 fun v8 => f_if false (Nat.ble 1 v8) (z_l (z_add a2 a5) fun v13 => y_lh 100 M v8 v13 fun v14 => y_gf M a0 11 10 fun v16 => f_if false (Nat.ble 1 v16) (z_l (z_add a4 a5) fun v21 => y_lh 100 M v16 v21 fun v22 => z_l (z_add v14 v22) fun v24 => y_gf M a0 11 10 fun v25 => f_if false (Nat.ble 1 v25) (z_l (z_add a3 a5) fun v30 => y_lh 100 M v25 v30 fun v31 => z_l (z_sub v24 v31) fun v33 => y_sa 100 M v2 v7 v33 fun M34 => z_l (z_add a5 1) fun v39 => z_f v39 fun w40 => i3 w40 M34))))) (K M)
noncomputable def m_232_3 (a0 a1 a2 a3 a4 : Nat) (K : yM → Bool) (n : Nat) : Nat → yM → Bool := @Nat.rec (fun _ => Nat → yM → Bool) (fun _ _ => false) (fun _ ih => m_232_3b a0 a1 a2 a3 a4 K ih) n
theorem m_232_3b_ok {fg : eG} {μz : eM} {rc : eQ} {d : Nat} {f : eFr} {F : List eFr} {μ0 : eM} {a0 a1 a2 a3 a4 : Nat} {K : yM → Bool} {i3 : Nat → yM → Bool} (hG : yG fg y_T) (hk : ev_kd μ0 a0 = some 11) (p0 : 0 < a0) (hK : ∀ (M : yM) (μ : eM), K M = true → xQ μz M μ → y_le μ0 μ → ex_q fg rc (d + 1, (f.1, f.2.1, f.2.2.1, f.2.2.2), F, μ)) (h3 : ∀ (a5 : Nat) (M : yM) (μ : eM), i3 a5 M = true → xQ μz M μ → y_le μ0 μ → ex_q fg rc (d, (232, 3, [some (eR a0), some (eI (zI a1)), some (eI (zI a2)), some (eI (zI a3)), some (eI (zI a4)), some (eI (zI a5))], []), f :: F, μ)) : ∀ (a5 : Nat) (M : yM) (μ : eM), m_232_3b a0 a1 a2 a3 a4 K i3 a5 M = true → xQ μz M μ → y_le μ0 μ → ex_q fg rc (d, (232, 3, [some (eR a0), some (eI (zI a1)), some (eI (zI a2)), some (eI (zI a3)), some (eI (zI a4)), some (eI (zI a5))], []), f :: F, μ) := by
  intro a5 M μ h hR hl
  unfold m_232_3b at h
  refine w_s (np := 5) (lv' := [some (eR a0), some (eI (zI a1)), some (eI (zI a2)), some (eI (zI a3)), some (eI (zI a4)), some (eI (zI a5))]) (st' := [eI (zI a5)]) rfl rfl rfl ?_
  refine w_s (np := 6) (lv' := [some (eR a0), some (eI (zI a1)), some (eI (zI a2)), some (eI (zI a3)), some (eI (zI a4)), some (eI (zI a5))]) (st' := [eI (zI 4), eI (zI a5)]) rfl rfl rfl ?_
  rcases z_if_t h with ⟨g1, h⟩ | ⟨g1, h⟩
  · refine v_ge_f (t1 := 54) rfl rfl g1 ?_
    refine w_s (np := 10) (lv' := [some (eR a0), some (eI (zI a1)), some (eI (zI a2)), some (eI (zI a3)), some (eI (zI a4)), some (eI (zI a5))]) (st' := [eR a0]) rfl (s_an rfl p0) rfl ?_
    obtain ⟨v2, h, k3, e4⟩ := x_gf_ok (ty := 3) h hR (by decide) rfl
    obtain ⟨g5, h⟩ := f_if_ok h
    have q6 : 0 < v2 := Nat.ble_eq.mp g5
    refine v_gf3 (np := 13) rfl rfl k3 e4 ?_
    clear k3 e4
    refine w_s (np := 14) (lv' := [some (eR a0), some (eI (zI a1)), some (eI (zI a2)), some (eI (zI a3)), some (eI (zI a4)), some (eI (zI a5))]) (st' := [eI (zI a1), eR v2]) rfl rfl rfl ?_
    refine w_s (np := 16) (lv' := [some (eR a0), some (eI (zI a1)), some (eI (zI a2)), some (eI (zI a3)), some (eI (zI a4)), some (eI (zI a5))]) (st' := [eI (zI a5), eI (zI a1), eR v2]) rfl rfl rfl ?_
    obtain ⟨v7, ev7, h⟩ := z_l_ex h
    refine w_s (np := 17) (lv' := [some (eR a0), some (eI (zI a1)), some (eI (zI a2)), some (eI (zI a3)), some (eI (zI a4)), some (eI (zI a5))]) (st' := [eI (zI v7), eR v2]) rfl (s_iadd ev7) rfl ?_
    clear ev7
    refine w_s (np := 18) (lv' := [some (eR a0), some (eI (zI a1)), some (eI (zI a2)), some (eI (zI a3)), some (eI (zI a4)), some (eI (zI a5))]) (st' := [eR a0, eI (zI v7), eR v2]) rfl (s_an rfl p0) rfl ?_
    obtain ⟨v8, h, k9, e10⟩ := x_gf_ok (ty := 3) h hR (by decide) rfl
    obtain ⟨g11, h⟩ := f_if_ok h
    have q12 : 0 < v8 := Nat.ble_eq.mp g11
    refine v_gf3 (np := 21) rfl rfl k9 e10 ?_
    clear k9 e10
    refine w_s (np := 22) (lv' := [some (eR a0), some (eI (zI a1)), some (eI (zI a2)), some (eI (zI a3)), some (eI (zI a4)), some (eI (zI a5))]) (st' := [eI (zI a2), eR v8, eI (zI v7), eR v2]) rfl rfl rfl ?_
    refine w_s (np := 24) (lv' := [some (eR a0), some (eI (zI a1)), some (eI (zI a2)), some (eI (zI a3)), some (eI (zI a4)), some (eI (zI a5))]) (st' := [eI (zI a5), eI (zI a2), eR v8, eI (zI v7), eR v2]) rfl rfl rfl ?_
    obtain ⟨v13, ev13, h⟩ := z_l_ex h
    refine w_s (np := 25) (lv' := [some (eR a0), some (eI (zI a1)), some (eI (zI a2)), some (eI (zI a3)), some (eI (zI a4)), some (eI (zI a5))]) (st' := [eI (zI v13), eR v8, eI (zI v7), eR v2]) rfl (s_iadd ev13) rfl ?_
    clear ev13
    obtain ⟨v14, h, k15⟩ := x_lh_ok (ty := 0) h hR hG (by decide) rfl (by decide)
    refine v_la (np := 26) rfl rfl k15 ?_
    clear k15
    refine w_s (np := 27) (lv' := [some (eR a0), some (eI (zI a1)), some (eI (zI a2)), some (eI (zI a3)), some (eI (zI a4)), some (eI (zI a5))]) (st' := [eR a0, eI (zI v14), eI (zI v7), eR v2]) rfl (s_an rfl p0) rfl ?_
    obtain ⟨v16, h, k17, e18⟩ := x_gf_ok (ty := 3) h hR (by decide) rfl
    obtain ⟨g19, h⟩ := f_if_ok h
    have q20 : 0 < v16 := Nat.ble_eq.mp g19
    refine v_gf3 (np := 30) rfl rfl k17 e18 ?_
    clear k17 e18
    refine w_s (np := 32) (lv' := [some (eR a0), some (eI (zI a1)), some (eI (zI a2)), some (eI (zI a3)), some (eI (zI a4)), some (eI (zI a5))]) (st' := [eI (zI a4), eR v16, eI (zI v14), eI (zI v7), eR v2]) rfl rfl rfl ?_
    refine w_s (np := 34) (lv' := [some (eR a0), some (eI (zI a1)), some (eI (zI a2)), some (eI (zI a3)), some (eI (zI a4)), some (eI (zI a5))]) (st' := [eI (zI a5), eI (zI a4), eR v16, eI (zI v14), eI (zI v7), eR v2]) rfl rfl rfl ?_
    obtain ⟨v21, ev21, h⟩ := z_l_ex h
    refine w_s (np := 35) (lv' := [some (eR a0), some (eI (zI a1)), some (eI (zI a2)), some (eI (zI a3)), some (eI (zI a4)), some (eI (zI a5))]) (st' := [eI (zI v21), eR v16, eI (zI v14), eI (zI v7), eR v2]) rfl (s_iadd ev21) rfl ?_
    clear ev21
    obtain ⟨v22, h, k23⟩ := x_lh_ok (ty := 0) h hR hG (by decide) rfl (by decide)
    refine v_la (np := 36) rfl rfl k23 ?_
    clear k23
    obtain ⟨v24, ev24, h⟩ := z_l_ex h
    refine w_s (np := 37) (lv' := [some (eR a0), some (eI (zI a1)), some (eI (zI a2)), some (eI (zI a3)), some (eI (zI a4)), some (eI (zI a5))]) (st' := [eI (zI v24), eI (zI v7), eR v2]) rfl (s_iadd ev24) rfl ?_
    clear ev24
    refine w_s (np := 38) (lv' := [some (eR a0), some (eI (zI a1)), some (eI (zI a2)), some (eI (zI a3)), some (eI (zI a4)), some (eI (zI a5))]) (st' := [eR a0, eI (zI v24), eI (zI v7), eR v2]) rfl (s_an rfl p0) rfl ?_
    obtain ⟨v25, h, k26, e27⟩ := x_gf_ok (ty := 3) h hR (by decide) rfl
    obtain ⟨g28, h⟩ := f_if_ok h
    have q29 : 0 < v25 := Nat.ble_eq.mp g28
    refine v_gf3 (np := 41) rfl rfl k26 e27 ?_
    clear k26 e27
    refine w_s (np := 42) (lv' := [some (eR a0), some (eI (zI a1)), some (eI (zI a2)), some (eI (zI a3)), some (eI (zI a4)), some (eI (zI a5))]) (st' := [eI (zI a3), eR v25, eI (zI v24), eI (zI v7), eR v2]) rfl rfl rfl ?_
    refine w_s (np := 44) (lv' := [some (eR a0), some (eI (zI a1)), some (eI (zI a2)), some (eI (zI a3)), some (eI (zI a4)), some (eI (zI a5))]) (st' := [eI (zI a5), eI (zI a3), eR v25, eI (zI v24), eI (zI v7), eR v2]) rfl rfl rfl ?_
    obtain ⟨v30, ev30, h⟩ := z_l_ex h
    refine w_s (np := 45) (lv' := [some (eR a0), some (eI (zI a1)), some (eI (zI a2)), some (eI (zI a3)), some (eI (zI a4)), some (eI (zI a5))]) (st' := [eI (zI v30), eR v25, eI (zI v24), eI (zI v7), eR v2]) rfl (s_iadd ev30) rfl ?_
    clear ev30
    obtain ⟨v31, h, k32⟩ := x_lh_ok (ty := 0) h hR hG (by decide) rfl (by decide)
    refine v_la (np := 46) rfl rfl k32 ?_
    clear k32
    obtain ⟨v33, ev33, h⟩ := z_l_ex h
    refine w_s (np := 47) (lv' := [some (eR a0), some (eI (zI a1)), some (eI (zI a2)), some (eI (zI a3)), some (eI (zI a4)), some (eI (zI a5))]) (st' := [eI (zI v33), eI (zI v7), eR v2]) rfl (s_isub ev33) rfl ?_
    clear ev33
    obtain ⟨M34, μ35, h, k38, hR36, hl37⟩ := x_sa_ex (ty := 0) h hR hl rfl (by decide)
    refine v_sa (np := 48) rfl rfl k38 ?_
    clear k38
    obtain ⟨v39, ev39, h⟩ := z_l_ex h
    refine w_s (np := 51) (lv' := [some (eR a0), some (eI (zI a1)), some (eI (zI a2)), some (eI (zI a3)), some (eI (zI a4)), some (eI (zI v39))]) (st' := []) rfl (s_iinc (b := 1) rfl rfl ev39 rfl) rfl ?_
    clear ev39
    refine w_go (t1 := 3) rfl rfl ?_
    obtain ⟨w40, ew40, h⟩ := z_f_ex h
    subst ew40
    exact h3 _ M34 μ35 h hR36 hl37
  · refine v_ge_t (t1 := 54) rfl rfl g1 ?_
    exact v_rv rfl rfl (hK _ _ h hR hl)
theorem m_232_3_ok {fg : eG} {μz : eM} {rc : eQ} {d : Nat} {f : eFr} {F : List eFr} {μ0 : eM} {a0 a1 a2 a3 a4 : Nat} {K : yM → Bool} (hG : yG fg y_T) (hk : ev_kd μ0 a0 = some 11) (p0 : 0 < a0) (hK : ∀ (M : yM) (μ : eM), K M = true → xQ μz M μ → y_le μ0 μ → ex_q fg rc (d + 1, (f.1, f.2.1, f.2.2.1, f.2.2.2), F, μ)) : ∀ n : Nat, ∀ (a5 : Nat) (M : yM) (μ : eM), m_232_3 a0 a1 a2 a3 a4 K n a5 M = true → xQ μz M μ → y_le μ0 μ → ex_q fg rc (d, (232, 3, [some (eR a0), some (eI (zI a1)), some (eI (zI a2)), some (eI (zI a3)), some (eI (zI a4)), some (eI (zI a5))], []), f :: F, μ) := by
  intro n
  induction n with
  | zero =>
    intro a5 M μ h hR hl
    exact absurd h Bool.false_ne_true
  | succ n ih =>
    intro a5 M μ h hR hl
    exact m_232_3b_ok hG hk p0 hK ih a5 M μ h hR hl
noncomputable def m_232 (a0 a1 a2 a3 a4 : Nat) (M : yM) (K : yM → Bool) : Bool := m_232_3 a0 a1 a2 a3 a4 K 100000 0 M
theorem m_232_ok {fg : eG} {μz : eM} {rc : eQ} {d : Nat} {f : eFr} {F : List eFr} {M : yM} {μ0 : eM} {a0 a1 a2 a3 a4 : Nat} {K : yM → Bool} (hG : yG fg y_T) (h : m_232 a0 a1 a2 a3 a4 M K = true) (hR : xQ μz M μ0) (hk : ev_kd μ0 a0 = some 11) (p0 : 0 < a0) (hK : ∀ (M : yM) (μ : eM), K M = true → xQ μz M μ → y_le μ0 μ → ex_q fg rc (d + 1, (f.1, f.2.1, f.2.2.1, f.2.2.2), F, μ)) : ex_q fg rc (d, (232, 0, [some (eR a0), some (eI (zI a1)), some (eI (zI a2)), some (eI (zI a3)), some (eI (zI a4)), none], []), f :: F, μ0) := by
  unfold m_232 at h
  have hl := y_le_r μ0
  refine w_s (np := 1) (lv' := [some (eR a0), some (eI (zI a1)), some (eI (zI a2)), some (eI (zI a3)), some (eI (zI a4)), none]) (st' := [eI (zI 0)]) rfl rfl rfl ?_
  refine w_s (np := 3) (lv' := [some (eR a0), some (eI (zI a1)), some (eI (zI a2)), some (eI (zI a3)), some (eI (zI a4)), some (eI (zI 0))]) (st' := []) rfl rfl rfl ?_
  exact m_232_3_ok hG hk p0 hK 100000 _ M μ0 h hR hl
noncomputable def m_233_3b (a0 a1 a2 a3 a4 a5 a6 : Nat) (K : yM → Bool) (i3 : Nat → yM → Bool) (a7 : Nat) (M : yM) : Bool := z_if (z_lt a7 4) (y_gf M a0 11 11 fun v83 => f_if false (Nat.ble 1 v83) (y_gf M a0 11 18 fun v88 => z_l (z_mul 12 v88) fun v91 => z_l (z_add v91 a7) fun v92 => y_gf M a0 11 19 fun v93 => f_if false (Nat.ble 1 v93) (z_l (z_add a4 a7) fun v98 => y_lh 100 M v93 v98 fun v99 => y_sa 100 M v83 v92 v99 fun M101 => y_gf M101 a0 11 11 fun v106 => f_if false (Nat.ble 1 v106) (y_gf M101 a0 11 18 fun v111 => z_l (z_mul 12 v111) fun v114 => z_l (z_add v114 4) fun v115 => z_l (z_add v115 a7) fun v116 => y_gf M101 a0 11 19 fun v117 => f_if false (Nat.ble 1 v117) (z_l (z_add a5 a7) fun v122 => y_lh 100 M101 v117 v122 fun v123 => y_sa 100 M101 v106 v116 v123 fun M125 => y_gf M125 a0 11 11 fun v130 => f_if false (Nat.ble 1 v130) (y_gf M125 a0 11 18 fun v135 => z_l (z_mul 12 v135) fun v138 => z_l (z_add v138 8) fun v139 => z_l (z_add v139 a7) fun v140 => y_gf M125 a0 11 19 fun v141 => f_if false (Nat.ble 1 v141) (z_l (z_add a6 a7) fun v146 => y_lh 100 M125 v141 v146 fun v147 => y_sa 100 M125 v130 v140 v147 fun M149 => z_l (z_add a7 1) fun v154 => z_f v154 fun w155 => i3 w155 M149))))))) (y_gf M a0 11 13 fun v2 => f_if false (Nat.ble 1 v2) (y_gf M a0 11 18 fun v7 => y_sa 100 M v2 v7 a2 fun M10 => y_gf M10 a0 11 17 fun v15 => f_if false (Nat.ble 1 v15) (y_gf M10 a0 11 18 fun v20 => y_gf M10 a0 11 16 fun v23 => f_if false (Nat.ble 1 v23) (y_lh 100 M10 v23 a1 fun v28 => z_l (z_mul 3 v28) fun v30 => z_l (z_add v30 a3) fun v31 => y_sa 100 M10 v15 v20 v31 fun M32 => y_gf M32 a0 11 14 fun v37 => f_if false (Nat.ble 1 v37) (y_gf M32 a0 11 20 fun v42 => z_l (z_mul 890 v42) fun v45 => y_gf M32 a0 11 18 fun v46 => z_l (z_add v45 v46) fun v49 => y_sa 100 M32 v37 v49 a1 fun M50 => y_gf M50 a0 11 15 fun v55 => f_if false (Nat.ble 1 v55) (y_gf M50 a0 11 20 fun v60 => z_l (z_mul 890 v60) fun v63 => y_gf M50 a0 11 18 fun v64 => z_l (z_add v63 v64) fun v67 => y_sa 100 M50 v55 v67 a3 fun M68 => y_gf M68 a0 11 18 fun v73 => z_l (z_add v73 1) fun v76 => y_wf M68 a0 11 18 v76 fun M77 => K M77))))))
noncomputable def m_233_3 (a0 a1 a2 a3 a4 a5 a6 : Nat) (K : yM → Bool) (n : Nat) : Nat → yM → Bool := @Nat.rec (fun _ => Nat → yM → Bool) (fun _ _ => false) (fun _ ih => m_233_3b a0 a1 a2 a3 a4 a5 a6 K ih) n
theorem m_233_3b_ok {fg : eG} {μz : eM} {rc : eQ} {d : Nat} {f : eFr} {F : List eFr} {μ0 : eM} {a0 a1 a2 a3 a4 a5 a6 : Nat} {K : yM → Bool} {i3 : Nat → yM → Bool} (hG : yG fg y_T) (hk : ev_kd μ0 a0 = some 11) (p0 : 0 < a0) (hK : ∀ (M : yM) (μ : eM), K M = true → xQ μz M μ → y_le μ0 μ → ex_q fg rc (d + 1, (f.1, f.2.1, f.2.2.1, f.2.2.2), F, μ)) (h3 : ∀ (a7 : Nat) (M : yM) (μ : eM), i3 a7 M = true → xQ μz M μ → y_le μ0 μ → ex_q fg rc (d, (233, 3, [some (eR a0), some (eI (zI a1)), some (eI (zI a2)), some (eI (zI a3)), some (eI (zI a4)), some (eI (zI a5)), some (eI (zI a6)), some (eI (zI a7))], []), f :: F, μ)) : ∀ (a7 : Nat) (M : yM) (μ : eM), m_233_3b a0 a1 a2 a3 a4 a5 a6 K i3 a7 M = true → xQ μz M μ → y_le μ0 μ → ex_q fg rc (d, (233, 3, [some (eR a0), some (eI (zI a1)), some (eI (zI a2)), some (eI (zI a3)), some (eI (zI a4)), some (eI (zI a5)), some (eI (zI a6)), some (eI (zI a7))], []), f :: F, μ) := by
  intro a7 M μ h hR hl
  unfold m_233_3b at h
  refine w_s (np := 5) (lv' := [some (eR a0), some (eI (zI a1)), some (eI (zI a2)), some (eI (zI a3)), some (eI (zI a4)), some (eI (zI a5)), some (eI (zI a6)), some (eI (zI a7))]) (st' := [eI (zI a7)]) rfl rfl rfl ?_
  refine w_s (np := 6) (lv' := [some (eR a0), some (eI (zI a1)), some (eI (zI a2)), some (eI (zI a3)), some (eI (zI a4)), some (eI (zI a5)), some (eI (zI a6)), some (eI (zI a7))]) (st' := [eI (zI 4), eI (zI a7)]) rfl rfl rfl ?_
  rcases z_if_t h with ⟨g1, h⟩ | ⟨g1, h⟩
  · refine v_ge_f (t1 := 95) rfl rfl g1 ?_
    refine w_s (np := 10) (lv' := [some (eR a0), some (eI (zI a1)), some (eI (zI a2)), some (eI (zI a3)), some (eI (zI a4)), some (eI (zI a5)), some (eI (zI a6)), some (eI (zI a7))]) (st' := [eR a0]) rfl (s_an rfl p0) rfl ?_
    obtain ⟨v83, h, k84, e85⟩ := x_gf_ok (ty := 3) h hR (by decide) rfl
    obtain ⟨g86, h⟩ := f_if_ok h
    have q87 : 0 < v83 := Nat.ble_eq.mp g86
    refine v_gf3 (np := 13) rfl rfl k84 e85 ?_
    clear k84 e85
    refine w_s (np := 15) (lv' := [some (eR a0), some (eI (zI a1)), some (eI (zI a2)), some (eI (zI a3)), some (eI (zI a4)), some (eI (zI a5)), some (eI (zI a6)), some (eI (zI a7))]) (st' := [eI (zI 12), eR v83]) rfl rfl rfl ?_
    refine w_s (np := 16) (lv' := [some (eR a0), some (eI (zI a1)), some (eI (zI a2)), some (eI (zI a3)), some (eI (zI a4)), some (eI (zI a5)), some (eI (zI a6)), some (eI (zI a7))]) (st' := [eR a0, eI (zI 12), eR v83]) rfl (s_an rfl p0) rfl ?_
    obtain ⟨v88, h, k89, e90⟩ := x_gf_ok (ty := 0) h hR (by decide) rfl
    refine v_gf0 (np := 19) rfl rfl k89 e90 ?_
    clear k89 e90
    obtain ⟨v91, ev91, h⟩ := z_l_ex h
    refine w_s (np := 20) (lv' := [some (eR a0), some (eI (zI a1)), some (eI (zI a2)), some (eI (zI a3)), some (eI (zI a4)), some (eI (zI a5)), some (eI (zI a6)), some (eI (zI a7))]) (st' := [eI (zI v91), eR v83]) rfl (s_imul ev91) rfl ?_
    clear ev91
    refine w_s (np := 22) (lv' := [some (eR a0), some (eI (zI a1)), some (eI (zI a2)), some (eI (zI a3)), some (eI (zI a4)), some (eI (zI a5)), some (eI (zI a6)), some (eI (zI a7))]) (st' := [eI (zI a7), eI (zI v91), eR v83]) rfl rfl rfl ?_
    obtain ⟨v92, ev92, h⟩ := z_l_ex h
    refine w_s (np := 23) (lv' := [some (eR a0), some (eI (zI a1)), some (eI (zI a2)), some (eI (zI a3)), some (eI (zI a4)), some (eI (zI a5)), some (eI (zI a6)), some (eI (zI a7))]) (st' := [eI (zI v92), eR v83]) rfl (s_iadd ev92) rfl ?_
    clear ev92
    refine w_s (np := 24) (lv' := [some (eR a0), some (eI (zI a1)), some (eI (zI a2)), some (eI (zI a3)), some (eI (zI a4)), some (eI (zI a5)), some (eI (zI a6)), some (eI (zI a7))]) (st' := [eR a0, eI (zI v92), eR v83]) rfl (s_an rfl p0) rfl ?_
    obtain ⟨v93, h, k94, e95⟩ := x_gf_ok (ty := 3) h hR (by decide) rfl
    obtain ⟨g96, h⟩ := f_if_ok h
    have q97 : 0 < v93 := Nat.ble_eq.mp g96
    refine v_gf3 (np := 27) rfl rfl k94 e95 ?_
    clear k94 e95
    refine w_s (np := 29) (lv' := [some (eR a0), some (eI (zI a1)), some (eI (zI a2)), some (eI (zI a3)), some (eI (zI a4)), some (eI (zI a5)), some (eI (zI a6)), some (eI (zI a7))]) (st' := [eI (zI a4), eR v93, eI (zI v92), eR v83]) rfl rfl rfl ?_
    refine w_s (np := 31) (lv' := [some (eR a0), some (eI (zI a1)), some (eI (zI a2)), some (eI (zI a3)), some (eI (zI a4)), some (eI (zI a5)), some (eI (zI a6)), some (eI (zI a7))]) (st' := [eI (zI a7), eI (zI a4), eR v93, eI (zI v92), eR v83]) rfl rfl rfl ?_
    obtain ⟨v98, ev98, h⟩ := z_l_ex h
    refine w_s (np := 32) (lv' := [some (eR a0), some (eI (zI a1)), some (eI (zI a2)), some (eI (zI a3)), some (eI (zI a4)), some (eI (zI a5)), some (eI (zI a6)), some (eI (zI a7))]) (st' := [eI (zI v98), eR v93, eI (zI v92), eR v83]) rfl (s_iadd ev98) rfl ?_
    clear ev98
    obtain ⟨v99, h, k100⟩ := x_lh_ok (ty := 0) h hR hG (by decide) rfl (by decide)
    refine v_la (np := 33) rfl rfl k100 ?_
    clear k100
    obtain ⟨M101, μ102, h, k105, hR103, hl104⟩ := x_sa_ex (ty := 0) h hR hl rfl (by decide)
    refine v_sa (np := 34) rfl rfl k105 ?_
    clear k105
    refine w_s (np := 35) (lv' := [some (eR a0), some (eI (zI a1)), some (eI (zI a2)), some (eI (zI a3)), some (eI (zI a4)), some (eI (zI a5)), some (eI (zI a6)), some (eI (zI a7))]) (st' := [eR a0]) rfl (s_an rfl p0) rfl ?_
    obtain ⟨v106, h, k107, e108⟩ := x_gf_ok (ty := 3) h hR103 (by decide) rfl
    obtain ⟨g109, h⟩ := f_if_ok h
    have q110 : 0 < v106 := Nat.ble_eq.mp g109
    refine v_gf3 (np := 38) rfl rfl k107 e108 ?_
    clear k107 e108
    refine w_s (np := 40) (lv' := [some (eR a0), some (eI (zI a1)), some (eI (zI a2)), some (eI (zI a3)), some (eI (zI a4)), some (eI (zI a5)), some (eI (zI a6)), some (eI (zI a7))]) (st' := [eI (zI 12), eR v106]) rfl rfl rfl ?_
    refine w_s (np := 41) (lv' := [some (eR a0), some (eI (zI a1)), some (eI (zI a2)), some (eI (zI a3)), some (eI (zI a4)), some (eI (zI a5)), some (eI (zI a6)), some (eI (zI a7))]) (st' := [eR a0, eI (zI 12), eR v106]) rfl (s_an rfl p0) rfl ?_
    obtain ⟨v111, h, k112, e113⟩ := x_gf_ok (ty := 0) h hR103 (by decide) rfl
    refine v_gf0 (np := 44) rfl rfl k112 e113 ?_
    clear k112 e113
    obtain ⟨v114, ev114, h⟩ := z_l_ex h
    refine w_s (np := 45) (lv' := [some (eR a0), some (eI (zI a1)), some (eI (zI a2)), some (eI (zI a3)), some (eI (zI a4)), some (eI (zI a5)), some (eI (zI a6)), some (eI (zI a7))]) (st' := [eI (zI v114), eR v106]) rfl (s_imul ev114) rfl ?_
    clear ev114
    refine w_s (np := 46) (lv' := [some (eR a0), some (eI (zI a1)), some (eI (zI a2)), some (eI (zI a3)), some (eI (zI a4)), some (eI (zI a5)), some (eI (zI a6)), some (eI (zI a7))]) (st' := [eI (zI 4), eI (zI v114), eR v106]) rfl rfl rfl ?_
    obtain ⟨v115, ev115, h⟩ := z_l_ex h
    refine w_s (np := 47) (lv' := [some (eR a0), some (eI (zI a1)), some (eI (zI a2)), some (eI (zI a3)), some (eI (zI a4)), some (eI (zI a5)), some (eI (zI a6)), some (eI (zI a7))]) (st' := [eI (zI v115), eR v106]) rfl (s_iadd ev115) rfl ?_
    clear ev115
    refine w_s (np := 49) (lv' := [some (eR a0), some (eI (zI a1)), some (eI (zI a2)), some (eI (zI a3)), some (eI (zI a4)), some (eI (zI a5)), some (eI (zI a6)), some (eI (zI a7))]) (st' := [eI (zI a7), eI (zI v115), eR v106]) rfl rfl rfl ?_
    obtain ⟨v116, ev116, h⟩ := z_l_ex h
    refine w_s (np := 50) (lv' := [some (eR a0), some (eI (zI a1)), some (eI (zI a2)), some (eI (zI a3)), some (eI (zI a4)), some (eI (zI a5)), some (eI (zI a6)), some (eI (zI a7))]) (st' := [eI (zI v116), eR v106]) rfl (s_iadd ev116) rfl ?_
    clear ev116
    refine w_s (np := 51) (lv' := [some (eR a0), some (eI (zI a1)), some (eI (zI a2)), some (eI (zI a3)), some (eI (zI a4)), some (eI (zI a5)), some (eI (zI a6)), some (eI (zI a7))]) (st' := [eR a0, eI (zI v116), eR v106]) rfl (s_an rfl p0) rfl ?_
    obtain ⟨v117, h, k118, e119⟩ := x_gf_ok (ty := 3) h hR103 (by decide) rfl
    obtain ⟨g120, h⟩ := f_if_ok h
    have q121 : 0 < v117 := Nat.ble_eq.mp g120
    refine v_gf3 (np := 54) rfl rfl k118 e119 ?_
    clear k118 e119
    refine w_s (np := 56) (lv' := [some (eR a0), some (eI (zI a1)), some (eI (zI a2)), some (eI (zI a3)), some (eI (zI a4)), some (eI (zI a5)), some (eI (zI a6)), some (eI (zI a7))]) (st' := [eI (zI a5), eR v117, eI (zI v116), eR v106]) rfl rfl rfl ?_
    refine w_s (np := 58) (lv' := [some (eR a0), some (eI (zI a1)), some (eI (zI a2)), some (eI (zI a3)), some (eI (zI a4)), some (eI (zI a5)), some (eI (zI a6)), some (eI (zI a7))]) (st' := [eI (zI a7), eI (zI a5), eR v117, eI (zI v116), eR v106]) rfl rfl rfl ?_
    obtain ⟨v122, ev122, h⟩ := z_l_ex h
    refine w_s (np := 59) (lv' := [some (eR a0), some (eI (zI a1)), some (eI (zI a2)), some (eI (zI a3)), some (eI (zI a4)), some (eI (zI a5)), some (eI (zI a6)), some (eI (zI a7))]) (st' := [eI (zI v122), eR v117, eI (zI v116), eR v106]) rfl (s_iadd ev122) rfl ?_
    clear ev122
    obtain ⟨v123, h, k124⟩ := x_lh_ok (ty := 0) h hR103 hG (by decide) rfl (by decide)
    refine v_la (np := 60) rfl rfl k124 ?_
    clear k124
    obtain ⟨M125, μ126, h, k129, hR127, hl128⟩ := x_sa_ex (ty := 0) h hR103 hl104 rfl (by decide)
    refine v_sa (np := 61) rfl rfl k129 ?_
    clear k129
    refine w_s (np := 62) (lv' := [some (eR a0), some (eI (zI a1)), some (eI (zI a2)), some (eI (zI a3)), some (eI (zI a4)), some (eI (zI a5)), some (eI (zI a6)), some (eI (zI a7))]) (st' := [eR a0]) rfl (s_an rfl p0) rfl ?_
    obtain ⟨v130, h, k131, e132⟩ := x_gf_ok (ty := 3) h hR127 (by decide) rfl
    obtain ⟨g133, h⟩ := f_if_ok h
    have q134 : 0 < v130 := Nat.ble_eq.mp g133
    refine v_gf3 (np := 65) rfl rfl k131 e132 ?_
    clear k131 e132
    refine w_s (np := 67) (lv' := [some (eR a0), some (eI (zI a1)), some (eI (zI a2)), some (eI (zI a3)), some (eI (zI a4)), some (eI (zI a5)), some (eI (zI a6)), some (eI (zI a7))]) (st' := [eI (zI 12), eR v130]) rfl rfl rfl ?_
    refine w_s (np := 68) (lv' := [some (eR a0), some (eI (zI a1)), some (eI (zI a2)), some (eI (zI a3)), some (eI (zI a4)), some (eI (zI a5)), some (eI (zI a6)), some (eI (zI a7))]) (st' := [eR a0, eI (zI 12), eR v130]) rfl (s_an rfl p0) rfl ?_
    obtain ⟨v135, h, k136, e137⟩ := x_gf_ok (ty := 0) h hR127 (by decide) rfl
    refine v_gf0 (np := 71) rfl rfl k136 e137 ?_
    clear k136 e137
    obtain ⟨v138, ev138, h⟩ := z_l_ex h
    refine w_s (np := 72) (lv' := [some (eR a0), some (eI (zI a1)), some (eI (zI a2)), some (eI (zI a3)), some (eI (zI a4)), some (eI (zI a5)), some (eI (zI a6)), some (eI (zI a7))]) (st' := [eI (zI v138), eR v130]) rfl (s_imul ev138) rfl ?_
    clear ev138
    refine w_s (np := 74) (lv' := [some (eR a0), some (eI (zI a1)), some (eI (zI a2)), some (eI (zI a3)), some (eI (zI a4)), some (eI (zI a5)), some (eI (zI a6)), some (eI (zI a7))]) (st' := [eI (zI 8), eI (zI v138), eR v130]) rfl rfl rfl ?_
    obtain ⟨v139, ev139, h⟩ := z_l_ex h
    refine w_s (np := 75) (lv' := [some (eR a0), some (eI (zI a1)), some (eI (zI a2)), some (eI (zI a3)), some (eI (zI a4)), some (eI (zI a5)), some (eI (zI a6)), some (eI (zI a7))]) (st' := [eI (zI v139), eR v130]) rfl (s_iadd ev139) rfl ?_
    clear ev139
    refine w_s (np := 77) (lv' := [some (eR a0), some (eI (zI a1)), some (eI (zI a2)), some (eI (zI a3)), some (eI (zI a4)), some (eI (zI a5)), some (eI (zI a6)), some (eI (zI a7))]) (st' := [eI (zI a7), eI (zI v139), eR v130]) rfl rfl rfl ?_
    obtain ⟨v140, ev140, h⟩ := z_l_ex h
    refine w_s (np := 78) (lv' := [some (eR a0), some (eI (zI a1)), some (eI (zI a2)), some (eI (zI a3)), some (eI (zI a4)), some (eI (zI a5)), some (eI (zI a6)), some (eI (zI a7))]) (st' := [eI (zI v140), eR v130]) rfl (s_iadd ev140) rfl ?_
    clear ev140
    refine w_s (np := 79) (lv' := [some (eR a0), some (eI (zI a1)), some (eI (zI a2)), some (eI (zI a3)), some (eI (zI a4)), some (eI (zI a5)), some (eI (zI a6)), some (eI (zI a7))]) (st' := [eR a0, eI (zI v140), eR v130]) rfl (s_an rfl p0) rfl ?_
    obtain ⟨v141, h, k142, e143⟩ := x_gf_ok (ty := 3) h hR127 (by decide) rfl
    obtain ⟨g144, h⟩ := f_if_ok h
    have q145 : 0 < v141 := Nat.ble_eq.mp g144
    refine v_gf3 (np := 82) rfl rfl k142 e143 ?_
    clear k142 e143
    refine w_s (np := 84) (lv' := [some (eR a0), some (eI (zI a1)), some (eI (zI a2)), some (eI (zI a3)), some (eI (zI a4)), some (eI (zI a5)), some (eI (zI a6)), some (eI (zI a7))]) (st' := [eI (zI a6), eR v141, eI (zI v140), eR v130]) rfl rfl rfl ?_
    refine w_s (np := 86) (lv' := [some (eR a0), some (eI (zI a1)), some (eI (zI a2)), some (eI (zI a3)), some (eI (zI a4)), some (eI (zI a5)), some (eI (zI a6)), some (eI (zI a7))]) (st' := [eI (zI a7), eI (zI a6), eR v141, eI (zI v140), eR v130]) rfl rfl rfl ?_
    obtain ⟨v146, ev146, h⟩ := z_l_ex h
    refine w_s (np := 87) (lv' := [some (eR a0), some (eI (zI a1)), some (eI (zI a2)), some (eI (zI a3)), some (eI (zI a4)), some (eI (zI a5)), some (eI (zI a6)), some (eI (zI a7))]) (st' := [eI (zI v146), eR v141, eI (zI v140), eR v130]) rfl (s_iadd ev146) rfl ?_
    clear ev146
    obtain ⟨v147, h, k148⟩ := x_lh_ok (ty := 0) h hR127 hG (by decide) rfl (by decide)
    refine v_la (np := 88) rfl rfl k148 ?_
    clear k148
    obtain ⟨M149, μ150, h, k153, hR151, hl152⟩ := x_sa_ex (ty := 0) h hR127 hl128 rfl (by decide)
    refine v_sa (np := 89) rfl rfl k153 ?_
    clear k153
    obtain ⟨v154, ev154, h⟩ := z_l_ex h
    refine w_s (np := 92) (lv' := [some (eR a0), some (eI (zI a1)), some (eI (zI a2)), some (eI (zI a3)), some (eI (zI a4)), some (eI (zI a5)), some (eI (zI a6)), some (eI (zI v154))]) (st' := []) rfl (s_iinc (b := 1) rfl rfl ev154 rfl) rfl ?_
    clear ev154
    refine w_go (t1 := 3) rfl rfl ?_
    obtain ⟨w155, ew155, h⟩ := z_f_ex h
    subst ew155
    exact h3 _ M149 μ150 h hR151 hl152
  · refine v_ge_t (t1 := 95) rfl rfl g1 ?_
    refine w_s (np := 96) (lv' := [some (eR a0), some (eI (zI a1)), some (eI (zI a2)), some (eI (zI a3)), some (eI (zI a4)), some (eI (zI a5)), some (eI (zI a6)), some (eI (zI a7))]) (st' := [eR a0]) rfl (s_an rfl p0) rfl ?_
    obtain ⟨v2, h, k3, e4⟩ := x_gf_ok (ty := 3) h hR (by decide) rfl
    obtain ⟨g5, h⟩ := f_if_ok h
    have q6 : 0 < v2 := Nat.ble_eq.mp g5
    refine v_gf3 (np := 99) rfl rfl k3 e4 ?_
    clear k3 e4
    refine w_s (np := 100) (lv' := [some (eR a0), some (eI (zI a1)), some (eI (zI a2)), some (eI (zI a3)), some (eI (zI a4)), some (eI (zI a5)), some (eI (zI a6)), some (eI (zI a7))]) (st' := [eR a0, eR v2]) rfl (s_an rfl p0) rfl ?_
    obtain ⟨v7, h, k8, e9⟩ := x_gf_ok (ty := 0) h hR (by decide) rfl
    refine v_gf0 (np := 103) rfl rfl k8 e9 ?_
    clear k8 e9
    refine w_s (np := 104) (lv' := [some (eR a0), some (eI (zI a1)), some (eI (zI a2)), some (eI (zI a3)), some (eI (zI a4)), some (eI (zI a5)), some (eI (zI a6)), some (eI (zI a7))]) (st' := [eI (zI a2), eI (zI v7), eR v2]) rfl rfl rfl ?_
    obtain ⟨M10, μ11, h, k14, hR12, hl13⟩ := x_sa_ex (ty := 0) h hR hl rfl (by decide)
    refine v_sa (np := 105) rfl rfl k14 ?_
    clear k14
    refine w_s (np := 106) (lv' := [some (eR a0), some (eI (zI a1)), some (eI (zI a2)), some (eI (zI a3)), some (eI (zI a4)), some (eI (zI a5)), some (eI (zI a6)), some (eI (zI a7))]) (st' := [eR a0]) rfl (s_an rfl p0) rfl ?_
    obtain ⟨v15, h, k16, e17⟩ := x_gf_ok (ty := 3) h hR12 (by decide) rfl
    obtain ⟨g18, h⟩ := f_if_ok h
    have q19 : 0 < v15 := Nat.ble_eq.mp g18
    refine v_gf3 (np := 109) rfl rfl k16 e17 ?_
    clear k16 e17
    refine w_s (np := 110) (lv' := [some (eR a0), some (eI (zI a1)), some (eI (zI a2)), some (eI (zI a3)), some (eI (zI a4)), some (eI (zI a5)), some (eI (zI a6)), some (eI (zI a7))]) (st' := [eR a0, eR v15]) rfl (s_an rfl p0) rfl ?_
    obtain ⟨v20, h, k21, e22⟩ := x_gf_ok (ty := 0) h hR12 (by decide) rfl
    refine v_gf0 (np := 113) rfl rfl k21 e22 ?_
    clear k21 e22
    refine w_s (np := 114) (lv' := [some (eR a0), some (eI (zI a1)), some (eI (zI a2)), some (eI (zI a3)), some (eI (zI a4)), some (eI (zI a5)), some (eI (zI a6)), some (eI (zI a7))]) (st' := [eI (zI 3), eI (zI v20), eR v15]) rfl rfl rfl ?_
    refine w_s (np := 115) (lv' := [some (eR a0), some (eI (zI a1)), some (eI (zI a2)), some (eI (zI a3)), some (eI (zI a4)), some (eI (zI a5)), some (eI (zI a6)), some (eI (zI a7))]) (st' := [eR a0, eI (zI 3), eI (zI v20), eR v15]) rfl (s_an rfl p0) rfl ?_
    obtain ⟨v23, h, k24, e25⟩ := x_gf_ok (ty := 3) h hR12 (by decide) rfl
    obtain ⟨g26, h⟩ := f_if_ok h
    have q27 : 0 < v23 := Nat.ble_eq.mp g26
    refine v_gf3 (np := 118) rfl rfl k24 e25 ?_
    clear k24 e25
    refine w_s (np := 119) (lv' := [some (eR a0), some (eI (zI a1)), some (eI (zI a2)), some (eI (zI a3)), some (eI (zI a4)), some (eI (zI a5)), some (eI (zI a6)), some (eI (zI a7))]) (st' := [eI (zI a1), eR v23, eI (zI 3), eI (zI v20), eR v15]) rfl rfl rfl ?_
    obtain ⟨v28, h, k29⟩ := x_lh_ok (ty := 0) h hR12 hG (by decide) rfl (by decide)
    refine v_la (np := 120) rfl rfl k29 ?_
    clear k29
    obtain ⟨v30, ev30, h⟩ := z_l_ex h
    refine w_s (np := 121) (lv' := [some (eR a0), some (eI (zI a1)), some (eI (zI a2)), some (eI (zI a3)), some (eI (zI a4)), some (eI (zI a5)), some (eI (zI a6)), some (eI (zI a7))]) (st' := [eI (zI v30), eI (zI v20), eR v15]) rfl (s_imul ev30) rfl ?_
    clear ev30
    refine w_s (np := 122) (lv' := [some (eR a0), some (eI (zI a1)), some (eI (zI a2)), some (eI (zI a3)), some (eI (zI a4)), some (eI (zI a5)), some (eI (zI a6)), some (eI (zI a7))]) (st' := [eI (zI a3), eI (zI v30), eI (zI v20), eR v15]) rfl rfl rfl ?_
    obtain ⟨v31, ev31, h⟩ := z_l_ex h
    refine w_s (np := 123) (lv' := [some (eR a0), some (eI (zI a1)), some (eI (zI a2)), some (eI (zI a3)), some (eI (zI a4)), some (eI (zI a5)), some (eI (zI a6)), some (eI (zI a7))]) (st' := [eI (zI v31), eI (zI v20), eR v15]) rfl (s_iadd ev31) rfl ?_
    clear ev31
    obtain ⟨M32, μ33, h, k36, hR34, hl35⟩ := x_sa_ex (ty := 0) h hR12 hl13 rfl (by decide)
    refine v_sa (np := 124) rfl rfl k36 ?_
    clear k36
    refine w_s (np := 125) (lv' := [some (eR a0), some (eI (zI a1)), some (eI (zI a2)), some (eI (zI a3)), some (eI (zI a4)), some (eI (zI a5)), some (eI (zI a6)), some (eI (zI a7))]) (st' := [eR a0]) rfl (s_an rfl p0) rfl ?_
    obtain ⟨v37, h, k38, e39⟩ := x_gf_ok (ty := 3) h hR34 (by decide) rfl
    obtain ⟨g40, h⟩ := f_if_ok h
    have q41 : 0 < v37 := Nat.ble_eq.mp g40
    refine v_gf3 (np := 128) rfl rfl k38 e39 ?_
    clear k38 e39
    refine w_s (np := 131) (lv' := [some (eR a0), some (eI (zI a1)), some (eI (zI a2)), some (eI (zI a3)), some (eI (zI a4)), some (eI (zI a5)), some (eI (zI a6)), some (eI (zI a7))]) (st' := [eI (zI 890), eR v37]) rfl rfl rfl ?_
    refine w_s (np := 132) (lv' := [some (eR a0), some (eI (zI a1)), some (eI (zI a2)), some (eI (zI a3)), some (eI (zI a4)), some (eI (zI a5)), some (eI (zI a6)), some (eI (zI a7))]) (st' := [eR a0, eI (zI 890), eR v37]) rfl (s_an rfl p0) rfl ?_
    obtain ⟨v42, h, k43, e44⟩ := x_gf_ok (ty := 0) h hR34 (by decide) rfl
    refine v_gf0 (np := 135) rfl rfl k43 e44 ?_
    clear k43 e44
    obtain ⟨v45, ev45, h⟩ := z_l_ex h
    refine w_s (np := 136) (lv' := [some (eR a0), some (eI (zI a1)), some (eI (zI a2)), some (eI (zI a3)), some (eI (zI a4)), some (eI (zI a5)), some (eI (zI a6)), some (eI (zI a7))]) (st' := [eI (zI v45), eR v37]) rfl (s_imul ev45) rfl ?_
    clear ev45
    refine w_s (np := 137) (lv' := [some (eR a0), some (eI (zI a1)), some (eI (zI a2)), some (eI (zI a3)), some (eI (zI a4)), some (eI (zI a5)), some (eI (zI a6)), some (eI (zI a7))]) (st' := [eR a0, eI (zI v45), eR v37]) rfl (s_an rfl p0) rfl ?_
    obtain ⟨v46, h, k47, e48⟩ := x_gf_ok (ty := 0) h hR34 (by decide) rfl
    refine v_gf0 (np := 140) rfl rfl k47 e48 ?_
    clear k47 e48
    obtain ⟨v49, ev49, h⟩ := z_l_ex h
    refine w_s (np := 141) (lv' := [some (eR a0), some (eI (zI a1)), some (eI (zI a2)), some (eI (zI a3)), some (eI (zI a4)), some (eI (zI a5)), some (eI (zI a6)), some (eI (zI a7))]) (st' := [eI (zI v49), eR v37]) rfl (s_iadd ev49) rfl ?_
    clear ev49
    refine w_s (np := 142) (lv' := [some (eR a0), some (eI (zI a1)), some (eI (zI a2)), some (eI (zI a3)), some (eI (zI a4)), some (eI (zI a5)), some (eI (zI a6)), some (eI (zI a7))]) (st' := [eI (zI a1), eI (zI v49), eR v37]) rfl rfl rfl ?_
    obtain ⟨M50, μ51, h, k54, hR52, hl53⟩ := x_sa_ex (ty := 0) h hR34 hl35 rfl (by decide)
    refine v_sa (np := 143) rfl rfl k54 ?_
    clear k54
    refine w_s (np := 144) (lv' := [some (eR a0), some (eI (zI a1)), some (eI (zI a2)), some (eI (zI a3)), some (eI (zI a4)), some (eI (zI a5)), some (eI (zI a6)), some (eI (zI a7))]) (st' := [eR a0]) rfl (s_an rfl p0) rfl ?_
    obtain ⟨v55, h, k56, e57⟩ := x_gf_ok (ty := 3) h hR52 (by decide) rfl
    obtain ⟨g58, h⟩ := f_if_ok h
    have q59 : 0 < v55 := Nat.ble_eq.mp g58
    refine v_gf3 (np := 147) rfl rfl k56 e57 ?_
    clear k56 e57
    refine w_s (np := 150) (lv' := [some (eR a0), some (eI (zI a1)), some (eI (zI a2)), some (eI (zI a3)), some (eI (zI a4)), some (eI (zI a5)), some (eI (zI a6)), some (eI (zI a7))]) (st' := [eI (zI 890), eR v55]) rfl rfl rfl ?_
    refine w_s (np := 151) (lv' := [some (eR a0), some (eI (zI a1)), some (eI (zI a2)), some (eI (zI a3)), some (eI (zI a4)), some (eI (zI a5)), some (eI (zI a6)), some (eI (zI a7))]) (st' := [eR a0, eI (zI 890), eR v55]) rfl (s_an rfl p0) rfl ?_
    obtain ⟨v60, h, k61, e62⟩ := x_gf_ok (ty := 0) h hR52 (by decide) rfl
    refine v_gf0 (np := 154) rfl rfl k61 e62 ?_
    clear k61 e62
    obtain ⟨v63, ev63, h⟩ := z_l_ex h
    refine w_s (np := 155) (lv' := [some (eR a0), some (eI (zI a1)), some (eI (zI a2)), some (eI (zI a3)), some (eI (zI a4)), some (eI (zI a5)), some (eI (zI a6)), some (eI (zI a7))]) (st' := [eI (zI v63), eR v55]) rfl (s_imul ev63) rfl ?_
    clear ev63
    refine w_s (np := 156) (lv' := [some (eR a0), some (eI (zI a1)), some (eI (zI a2)), some (eI (zI a3)), some (eI (zI a4)), some (eI (zI a5)), some (eI (zI a6)), some (eI (zI a7))]) (st' := [eR a0, eI (zI v63), eR v55]) rfl (s_an rfl p0) rfl ?_
    obtain ⟨v64, h, k65, e66⟩ := x_gf_ok (ty := 0) h hR52 (by decide) rfl
    refine v_gf0 (np := 159) rfl rfl k65 e66 ?_
    clear k65 e66
    obtain ⟨v67, ev67, h⟩ := z_l_ex h
    refine w_s (np := 160) (lv' := [some (eR a0), some (eI (zI a1)), some (eI (zI a2)), some (eI (zI a3)), some (eI (zI a4)), some (eI (zI a5)), some (eI (zI a6)), some (eI (zI a7))]) (st' := [eI (zI v67), eR v55]) rfl (s_iadd ev67) rfl ?_
    clear ev67
    refine w_s (np := 161) (lv' := [some (eR a0), some (eI (zI a1)), some (eI (zI a2)), some (eI (zI a3)), some (eI (zI a4)), some (eI (zI a5)), some (eI (zI a6)), some (eI (zI a7))]) (st' := [eI (zI a3), eI (zI v67), eR v55]) rfl rfl rfl ?_
    obtain ⟨M68, μ69, h, k72, hR70, hl71⟩ := x_sa_ex (ty := 0) h hR52 hl53 rfl (by decide)
    refine v_sa (np := 162) rfl rfl k72 ?_
    clear k72
    refine w_s (np := 163) (lv' := [some (eR a0), some (eI (zI a1)), some (eI (zI a2)), some (eI (zI a3)), some (eI (zI a4)), some (eI (zI a5)), some (eI (zI a6)), some (eI (zI a7))]) (st' := [eR a0]) rfl (s_an rfl p0) rfl ?_
    refine w_s (np := 164) (lv' := [some (eR a0), some (eI (zI a1)), some (eI (zI a2)), some (eI (zI a3)), some (eI (zI a4)), some (eI (zI a5)), some (eI (zI a6)), some (eI (zI a7))]) (st' := [eR a0, eR a0]) rfl rfl rfl ?_
    obtain ⟨v73, h, k74, e75⟩ := x_gf_ok (ty := 0) h hR70 (by decide) rfl
    refine v_gf0 (np := 167) rfl rfl k74 e75 ?_
    clear k74 e75
    refine w_s (np := 168) (lv' := [some (eR a0), some (eI (zI a1)), some (eI (zI a2)), some (eI (zI a3)), some (eI (zI a4)), some (eI (zI a5)), some (eI (zI a6)), some (eI (zI a7))]) (st' := [eI (zI 1), eI (zI v73), eR a0]) rfl rfl rfl ?_
    obtain ⟨v76, ev76, h⟩ := z_l_ex h
    refine w_s (np := 169) (lv' := [some (eR a0), some (eI (zI a1)), some (eI (zI a2)), some (eI (zI a3)), some (eI (zI a4)), some (eI (zI a5)), some (eI (zI a6)), some (eI (zI a7))]) (st' := [eI (zI v76), eR a0]) rfl (s_iadd ev76) rfl ?_
    clear ev76
    obtain ⟨M77, μ78, h, k81, hR79, hl80, e82⟩ := x_wf_ex (ty := 0) h hR70 hl71 rfl (by decide)
    refine v_pe0 (np := 172) rfl rfl k81 e82 ?_
    clear k81 e82
    exact v_rv rfl rfl (hK _ _ h hR79 hl80)
theorem m_233_3_ok {fg : eG} {μz : eM} {rc : eQ} {d : Nat} {f : eFr} {F : List eFr} {μ0 : eM} {a0 a1 a2 a3 a4 a5 a6 : Nat} {K : yM → Bool} (hG : yG fg y_T) (hk : ev_kd μ0 a0 = some 11) (p0 : 0 < a0) (hK : ∀ (M : yM) (μ : eM), K M = true → xQ μz M μ → y_le μ0 μ → ex_q fg rc (d + 1, (f.1, f.2.1, f.2.2.1, f.2.2.2), F, μ)) : ∀ n : Nat, ∀ (a7 : Nat) (M : yM) (μ : eM), m_233_3 a0 a1 a2 a3 a4 a5 a6 K n a7 M = true → xQ μz M μ → y_le μ0 μ → ex_q fg rc (d, (233, 3, [some (eR a0), some (eI (zI a1)), some (eI (zI a2)), some (eI (zI a3)), some (eI (zI a4)), some (eI (zI a5)), some (eI (zI a6)), some (eI (zI a7))], []), f :: F, μ) := by
  intro n
  induction n with
  | zero =>
    intro a7 M μ h hR hl
    exact absurd h Bool.false_ne_true
  | succ n ih =>
    intro a7 M μ h hR hl
    exact m_233_3b_ok hG hk p0 hK ih a7 M μ h hR hl
noncomputable def m_233 (a0 a1 a2 a3 a4 a5 a6 : Nat) (M : yM) (K : yM → Bool) : Bool := m_233_3 a0 a1 a2 a3 a4 a5 a6 K 100000 0 M
theorem m_233_ok {fg : eG} {μz : eM} {rc : eQ} {d : Nat} {f : eFr} {F : List eFr} {M : yM} {μ0 : eM} {a0 a1 a2 a3 a4 a5 a6 : Nat} {K : yM → Bool} (hG : yG fg y_T) (h : m_233 a0 a1 a2 a3 a4 a5 a6 M K = true) (hR : xQ μz M μ0) (hk : ev_kd μ0 a0 = some 11) (p0 : 0 < a0) (hK : ∀ (M : yM) (μ : eM), K M = true → xQ μz M μ → y_le μ0 μ → ex_q fg rc (d + 1, (f.1, f.2.1, f.2.2.1, f.2.2.2), F, μ)) : ex_q fg rc (d, (233, 0, [some (eR a0), some (eI (zI a1)), some (eI (zI a2)), some (eI (zI a3)), some (eI (zI a4)), some (eI (zI a5)), some (eI (zI a6)), none], []), f :: F, μ0) := by
  unfold m_233 at h
  have hl := y_le_r μ0
  refine w_s (np := 1) (lv' := [some (eR a0), some (eI (zI a1)), some (eI (zI a2)), some (eI (zI a3)), some (eI (zI a4)), some (eI (zI a5)), some (eI (zI a6)), none]) (st' := [eI (zI 0)]) rfl rfl rfl ?_
  refine w_s (np := 3) (lv' := [some (eR a0), some (eI (zI a1)), some (eI (zI a2)), some (eI (zI a3)), some (eI (zI a4)), some (eI (zI a5)), some (eI (zI a6)), some (eI (zI 0))]) (st' := []) rfl rfl rfl ?_
  exact m_233_3_ok hG hk p0 hK 100000 _ M μ0 h hR hl
