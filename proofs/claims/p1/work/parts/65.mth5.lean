/-! RhombInflator$Sides.<init> -/
noncomputable def m_106 (a0 a1 : Nat) (M : yM) (K : yM → Bool) : Bool := y_wr M a0 8 6 a1 fun M1 => y_na M1 100 2670 fun r7 M8 => y_wr M8 a0 8 0 r7 fun M16 => y_na M16 100 512 fun r22 M23 => y_wr M23 a0 8 1 r22 fun M31 => y_na M31 100 2670 fun r37 M38 => y_wr M38 a0 8 2 r37 fun M46 => y_na M46 100 890 fun r52 M53 => y_wr M53 a0 8 3 r52 fun M61 => y_na M61 100 890 fun r67 M68 => y_wr M68 a0 8 4 r67 fun M76 => y_na M76 100 512 fun r82 M83 => y_wr M83 a0 8 5 r82 fun M91 => K M91
theorem m_106_ok {fg : eG} {rc rs d : Nat} {f : eFr} {F : List eFr} {M : yM} {μ0 : eM} {a0 a1 : Nat} {K : yM → Bool} (hG : yG fg y_T) (h : m_106 a0 a1 M K = true) (hR : yR M μ0) (hk : ev_kd μ0 a0 = some 8) (p0 : 0 < a0) (p1 : 0 < a1) (hK : ∀ (M : yM) (μ : eM), K M = true → yR M μ → y_le μ0 μ → ex_fine fg rc rs (d + 2, (f.1, f.2.1, f.2.2.1, f.2.2.2), F, μ)) : ex_fine fg rc rs (d + 1, (106, 0, [some (eR a0), some (eR a1)], []), f :: F, μ0) := by
  unfold m_106 at h
  have hl := y_le_r μ0
  refine w_s (np := 1) (lv' := [some (eR a0), some (eR a1)]) (st' := [eR a0]) rfl (s_an rfl p0) rfl ?_
  refine v_oi (np := 4) rfl rfl p0 rfl ?_
  refine w_s (np := 5) (lv' := [some (eR a0), some (eR a1)]) (st' := [eR a0]) rfl (s_an rfl p0) rfl ?_
  refine w_s (np := 6) (lv' := [some (eR a0), some (eR a1)]) (st' := [eR a1, eR a0]) rfl (s_an rfl p1) rfl ?_
  obtain ⟨M1, μ2, h, k5, hR3, hl4, e6⟩ := y_wr_ex h hR hl rfl
  refine v_pe3 (np := 9) rfl rfl k5 e6 ?_
  clear k5 e6
  refine w_s (np := 10) (lv' := [some (eR a0), some (eR a1)]) (st' := [eR a0]) rfl (s_an rfl p0) rfl ?_
  refine w_s (np := 13) (lv' := [some (eR a0), some (eR a1)]) (st' := [eI (zI 2670), eR a0]) rfl rfl rfl ?_
  obtain ⟨r7, M8, μ9, h, q13, e14, g12, hR10, hl11, e15⟩ := y_na_ex h hR3 hl4
  refine v_ae (np := 15) rfl rfl g12 e14 e15 ?_
  clear g12 e14 e15
  obtain ⟨M16, μ17, h, k20, hR18, hl19, e21⟩ := y_wr_ex h hR10 hl11 rfl
  refine v_pe3 (np := 18) rfl rfl k20 e21 ?_
  clear k20 e21
  refine w_s (np := 19) (lv' := [some (eR a0), some (eR a1)]) (st' := [eR a0]) rfl (s_an rfl p0) rfl ?_
  refine w_s (np := 22) (lv' := [some (eR a0), some (eR a1)]) (st' := [eI (zI 512), eR a0]) rfl rfl rfl ?_
  obtain ⟨r22, M23, μ24, h, q28, e29, g27, hR25, hl26, e30⟩ := y_na_ex h hR18 hl19
  refine v_ae (np := 24) rfl rfl g27 e29 e30 ?_
  clear g27 e29 e30
  obtain ⟨M31, μ32, h, k35, hR33, hl34, e36⟩ := y_wr_ex h hR25 hl26 rfl
  refine v_pe3 (np := 27) rfl rfl k35 e36 ?_
  clear k35 e36
  refine w_s (np := 28) (lv' := [some (eR a0), some (eR a1)]) (st' := [eR a0]) rfl (s_an rfl p0) rfl ?_
  refine w_s (np := 31) (lv' := [some (eR a0), some (eR a1)]) (st' := [eI (zI 2670), eR a0]) rfl rfl rfl ?_
  obtain ⟨r37, M38, μ39, h, q43, e44, g42, hR40, hl41, e45⟩ := y_na_ex h hR33 hl34
  refine v_ae (np := 33) rfl rfl g42 e44 e45 ?_
  clear g42 e44 e45
  obtain ⟨M46, μ47, h, k50, hR48, hl49, e51⟩ := y_wr_ex h hR40 hl41 rfl
  refine v_pe3 (np := 36) rfl rfl k50 e51 ?_
  clear k50 e51
  refine w_s (np := 37) (lv' := [some (eR a0), some (eR a1)]) (st' := [eR a0]) rfl (s_an rfl p0) rfl ?_
  refine w_s (np := 40) (lv' := [some (eR a0), some (eR a1)]) (st' := [eI (zI 890), eR a0]) rfl rfl rfl ?_
  obtain ⟨r52, M53, μ54, h, q58, e59, g57, hR55, hl56, e60⟩ := y_na_ex h hR48 hl49
  refine v_ae (np := 42) rfl rfl g57 e59 e60 ?_
  clear g57 e59 e60
  obtain ⟨M61, μ62, h, k65, hR63, hl64, e66⟩ := y_wr_ex h hR55 hl56 rfl
  refine v_pe3 (np := 45) rfl rfl k65 e66 ?_
  clear k65 e66
  refine w_s (np := 46) (lv' := [some (eR a0), some (eR a1)]) (st' := [eR a0]) rfl (s_an rfl p0) rfl ?_
  refine w_s (np := 49) (lv' := [some (eR a0), some (eR a1)]) (st' := [eI (zI 890), eR a0]) rfl rfl rfl ?_
  obtain ⟨r67, M68, μ69, h, q73, e74, g72, hR70, hl71, e75⟩ := y_na_ex h hR63 hl64
  refine v_ae (np := 51) rfl rfl g72 e74 e75 ?_
  clear g72 e74 e75
  obtain ⟨M76, μ77, h, k80, hR78, hl79, e81⟩ := y_wr_ex h hR70 hl71 rfl
  refine v_pe3 (np := 54) rfl rfl k80 e81 ?_
  clear k80 e81
  refine w_s (np := 55) (lv' := [some (eR a0), some (eR a1)]) (st' := [eR a0]) rfl (s_an rfl p0) rfl ?_
  refine w_s (np := 58) (lv' := [some (eR a0), some (eR a1)]) (st' := [eI (zI 512), eR a0]) rfl rfl rfl ?_
  obtain ⟨r82, M83, μ84, h, q88, e89, g87, hR85, hl86, e90⟩ := y_na_ex h hR78 hl79
  refine v_ae (np := 60) rfl rfl g87 e89 e90 ?_
  clear g87 e89 e90
  obtain ⟨M91, μ92, h, k95, hR93, hl94, e96⟩ := y_wr_ex h hR85 hl86 rfl
  refine v_pe3 (np := 63) rfl rfl k95 e96 ?_
  clear k95 e96
  exact v_rv rfl rfl (hK _ _ h hR93 hl94)
noncomputable def m_109_30 (a0 a1 a2 : Nat) (K : Nat → yM → Bool) (a3 s0 : Nat) (M : yM) : Bool := y_gf M a0 8 6 fun v1 => f_if false (Nat.ble 1 v1) (z_l (z_div a1 3) fun v6 => y_is M v1 2 (m_21 v1 v6 s0 M fun v12 M7 => K v12 M7))
theorem m_109_30_ok {fg : eG} {rc rs d : Nat} {f : eFr} {F : List eFr} {μ0 : eM} {a0 a1 a2 : Nat} {K : Nat → yM → Bool} (hG : yG fg y_T) (hk : ev_kd μ0 a0 = some 8) (p0 : 0 < a0) (hK : ∀ (r : Nat) (M : yM) (μ : eM), K r M = true → yR M μ → y_le μ0 μ → ex_fine fg rc rs (d + 2, (f.1, f.2.1, f.2.2.1, eI (zI r) :: f.2.2.2), F, μ)) : ∀ (a3 s0 : Nat) (M : yM) (μ : eM), m_109_30 a0 a1 a2 K a3 s0 M = true → yR M μ → y_le μ0 μ → ex_fine fg rc rs (d + 1, (109, 30, [some (eR a0), some (eI (zI a1)), some (eI (zI a2)), some (eI (zI a3)), none], [eI (zI s0)]), f :: F, μ) := by
  intro a3 s0 M μ h hR hl
  unfold m_109_30 at h
  refine w_s (np := 32) (lv' := [some (eR a0), some (eI (zI a1)), some (eI (zI a2)), some (eI (zI a3)), some (eI (zI s0))]) (st' := []) rfl rfl rfl ?_
  refine w_s (np := 33) (lv' := [some (eR a0), some (eI (zI a1)), some (eI (zI a2)), some (eI (zI a3)), some (eI (zI s0))]) (st' := [eR a0]) rfl (s_an rfl p0) rfl ?_
  obtain ⟨v1, h, k2, e3⟩ := y_gf_ok (ty := 3) h hR (by decide) rfl
  obtain ⟨g4, h⟩ := f_if_ok h
  have q5 : 0 < v1 := Nat.ble_eq.mp g4
  refine v_gf3 (np := 36) rfl rfl k2 e3 ?_
  clear k2 e3
  refine w_s (np := 37) (lv' := [some (eR a0), some (eI (zI a1)), some (eI (zI a2)), some (eI (zI a3)), some (eI (zI s0))]) (st' := [eI (zI a1), eR v1]) rfl rfl rfl ?_
  refine w_s (np := 38) (lv' := [some (eR a0), some (eI (zI a1)), some (eI (zI a2)), some (eI (zI a3)), some (eI (zI s0))]) (st' := [eI (zI 3), eI (zI a1), eR v1]) rfl rfl rfl ?_
  obtain ⟨v6, ev6, h⟩ := z_l_ex h
  refine w_s (np := 39) (lv' := [some (eR a0), some (eI (zI a1)), some (eI (zI a2)), some (eI (zI a3)), some (eI (zI s0))]) (st' := [eI (zI v6), eR v1]) rfl (s_idiv ⟨by decide, by decide⟩ ev6) rfl ?_
  clear ev6
  refine w_s (np := 41) (lv' := [some (eR a0), some (eI (zI a1)), some (eI (zI a2)), some (eI (zI a3)), some (eI (zI s0))]) (st' := [eI (zI s0), eI (zI v6), eR v1]) rfl rfl rfl ?_
  obtain ⟨k13, h⟩ := y_is_ok h hR
  refine w_cv (np := 44) (as := [eI (zI v6), eI (zI s0)]) (lv' := [some (eR v1), some (eI (zI v6)), some (eI (zI s0))]) (rest := []) rfl rfl rfl (Nat.ble_eq.mp rfl) rfl rfl rfl k13 rfl ?_
  refine m_21_ok hG h hR k13 q5 ?_
  intro v12 M7 μ8 h hR9 hl11
  have hl10 := y_le.tr hl hl11
  show ex_fine fg rc rs (d + 1, (109, 44, [some (eR a0), some (eI (zI a1)), some (eI (zI a2)), some (eI (zI a3)), some (eI (zI s0))], [eI (zI v12)]), f :: F, μ8)
  exact v_ri rfl rfl (hK _ _ _ h hR9 hl10)
/-! RhombInflator$Sides.endOf -/
noncomputable def m_109 (a0 a1 a2 : Nat) (M : yM) (K : Nat → yM → Bool) : Bool := z_l (z_rem a1 3) fun v1 => z_if (z_e0 a2) (z_if (z_eq v1 2) (m_109_30 a0 a1 a2 K v1 1 M) (m_109_30 a0 a1 a2 K v1 0 M)) (z_if (z_e0 v1) (m_109_30 a0 a1 a2 K v1 1 M) (m_109_30 a0 a1 a2 K v1 2 M))
theorem m_109_ok {fg : eG} {rc rs d : Nat} {f : eFr} {F : List eFr} {M : yM} {μ0 : eM} {a0 a1 a2 : Nat} {K : Nat → yM → Bool} (hG : yG fg y_T) (h : m_109 a0 a1 a2 M K = true) (hR : yR M μ0) (hk : ev_kd μ0 a0 = some 8) (p0 : 0 < a0) (hK : ∀ (r : Nat) (M : yM) (μ : eM), K r M = true → yR M μ → y_le μ0 μ → ex_fine fg rc rs (d + 2, (f.1, f.2.1, f.2.2.1, eI (zI r) :: f.2.2.2), F, μ)) : ex_fine fg rc rs (d + 1, (109, 0, [some (eR a0), some (eI (zI a1)), some (eI (zI a2)), none, none], []), f :: F, μ0) := by
  unfold m_109 at h
  have hl := y_le_r μ0
  refine w_s (np := 1) (lv' := [some (eR a0), some (eI (zI a1)), some (eI (zI a2)), none, none]) (st' := [eI (zI a1)]) rfl rfl rfl ?_
  refine w_s (np := 2) (lv' := [some (eR a0), some (eI (zI a1)), some (eI (zI a2)), none, none]) (st' := [eI (zI 3), eI (zI a1)]) rfl rfl rfl ?_
  obtain ⟨v1, ev1, h⟩ := z_l_ex h
  refine w_s (np := 3) (lv' := [some (eR a0), some (eI (zI a1)), some (eI (zI a2)), none, none]) (st' := [eI (zI v1)]) rfl (s_irem ⟨by decide, by decide⟩ ev1) rfl ?_
  clear ev1
  refine w_s (np := 4) (lv' := [some (eR a0), some (eI (zI a1)), some (eI (zI a2)), some (eI (zI v1)), none]) (st' := []) rfl rfl rfl ?_
  refine w_s (np := 5) (lv' := [some (eR a0), some (eI (zI a1)), some (eI (zI a2)), some (eI (zI v1)), none]) (st' := [eI (zI a2)]) rfl rfl rfl ?_
  rcases z_if_t h with ⟨g2, h⟩ | ⟨g2, h⟩
  · refine v_eq0_t (t1 := 20) rfl rfl g2 ?_
    refine w_s (np := 21) (lv' := [some (eR a0), some (eI (zI a1)), some (eI (zI a2)), some (eI (zI v1)), none]) (st' := [eI (zI v1)]) rfl rfl rfl ?_
    refine w_s (np := 22) (lv' := [some (eR a0), some (eI (zI a1)), some (eI (zI a2)), some (eI (zI v1)), none]) (st' := [eI (zI 2), eI (zI v1)]) rfl rfl rfl ?_
    rcases z_if_t h with ⟨g3, h⟩ | ⟨g3, h⟩
    · refine v_ne_f (t1 := 29) rfl rfl g3 ?_
      refine w_s (np := 26) (lv' := [some (eR a0), some (eI (zI a1)), some (eI (zI a2)), some (eI (zI v1)), none]) (st' := [eI (zI 1)]) rfl rfl rfl ?_
      refine w_go (t1 := 30) rfl rfl ?_
      exact m_109_30_ok hG hk p0 hK _ _ M μ0 h hR hl
    · refine v_ne_t (t1 := 29) rfl rfl g3 ?_
      refine w_s (np := 30) (lv' := [some (eR a0), some (eI (zI a1)), some (eI (zI a2)), some (eI (zI v1)), none]) (st' := [eI (zI 0)]) rfl rfl rfl ?_
      exact m_109_30_ok hG hk p0 hK _ _ M μ0 h hR hl
  · refine v_eq0_f (t1 := 20) rfl rfl g2 ?_
    refine w_s (np := 9) (lv' := [some (eR a0), some (eI (zI a1)), some (eI (zI a2)), some (eI (zI v1)), none]) (st' := [eI (zI v1)]) rfl rfl rfl ?_
    rcases z_if_t h with ⟨g4, h⟩ | ⟨g4, h⟩
    · refine v_ne0_f (t1 := 16) rfl rfl g4 ?_
      refine w_s (np := 13) (lv' := [some (eR a0), some (eI (zI a1)), some (eI (zI a2)), some (eI (zI v1)), none]) (st' := [eI (zI 1)]) rfl rfl rfl ?_
      refine w_go (t1 := 30) rfl rfl ?_
      exact m_109_30_ok hG hk p0 hK _ _ M μ0 h hR hl
    · refine v_ne0_t (t1 := 16) rfl rfl g4 ?_
      refine w_s (np := 17) (lv' := [some (eR a0), some (eI (zI a1)), some (eI (zI a2)), some (eI (zI v1)), none]) (st' := [eI (zI 2)]) rfl rfl rfl ?_
      refine w_go (t1 := 30) rfl rfl ?_
      exact m_109_30_ok hG hk p0 hK _ _ M μ0 h hR hl
/-! RhombInflator$Sides.lesserEnd -/
noncomputable def m_110 (a0 a1 : Nat) (M : yM) (K : Nat → yM → Bool) : Bool := m_109 a0 a1 0 M fun v6 M1 => m_109 a0 a1 1 M1 fun v12 M7 => m_364 v6 v12 M7 fun v18 M13 => K v18 M13
theorem m_110_ok {fg : eG} {rc rs d : Nat} {f : eFr} {F : List eFr} {M : yM} {μ0 : eM} {a0 a1 : Nat} {K : Nat → yM → Bool} (hG : yG fg y_T) (h : m_110 a0 a1 M K = true) (hR : yR M μ0) (hk : ev_kd μ0 a0 = some 8) (p0 : 0 < a0) (hK : ∀ (r : Nat) (M : yM) (μ : eM), K r M = true → yR M μ → y_le μ0 μ → ex_fine fg rc rs (d + 3, (f.1, f.2.1, f.2.2.1, eI (zI r) :: f.2.2.2), F, μ)) : ex_fine fg rc rs (d + 2, (110, 0, [some (eR a0), some (eI (zI a1))], []), f :: F, μ0) := by
  unfold m_110 at h
  have hl := y_le_r μ0
  refine w_s (np := 1) (lv' := [some (eR a0), some (eI (zI a1))]) (st' := [eR a0]) rfl (s_an rfl p0) rfl ?_
  refine w_s (np := 2) (lv' := [some (eR a0), some (eI (zI a1))]) (st' := [eI (zI a1), eR a0]) rfl rfl rfl ?_
  refine w_s (np := 3) (lv' := [some (eR a0), some (eI (zI a1))]) (st' := [eI (zI 0), eI (zI a1), eR a0]) rfl rfl rfl ?_
  refine w_cv (np := 6) (as := [eI (zI a1), eI (zI 0)]) (lv' := [some (eR a0), some (eI (zI a1)), some (eI (zI 0)), none, none]) (rest := []) rfl rfl rfl (Nat.ble_eq.mp rfl) rfl rfl rfl (hl _ _ hk) rfl ?_
  refine m_109_ok hG h hR (hl _ _ hk) p0 ?_
  intro v6 M1 μ2 h hR3 hl5
  have hl4 := y_le.tr hl hl5
  show ex_fine fg rc rs (d + 2, (110, 6, [some (eR a0), some (eI (zI a1))], [eI (zI v6)]), f :: F, μ2)
  refine w_s (np := 7) (lv' := [some (eR a0), some (eI (zI a1))]) (st' := [eR a0, eI (zI v6)]) rfl (s_an rfl p0) rfl ?_
  refine w_s (np := 8) (lv' := [some (eR a0), some (eI (zI a1))]) (st' := [eI (zI a1), eR a0, eI (zI v6)]) rfl rfl rfl ?_
  refine w_s (np := 9) (lv' := [some (eR a0), some (eI (zI a1))]) (st' := [eI (zI 1), eI (zI a1), eR a0, eI (zI v6)]) rfl rfl rfl ?_
  refine w_cv (np := 12) (as := [eI (zI a1), eI (zI 1)]) (lv' := [some (eR a0), some (eI (zI a1)), some (eI (zI 1)), none, none]) (rest := [eI (zI v6)]) rfl rfl rfl (Nat.ble_eq.mp rfl) rfl rfl rfl (hl4 _ _ hk) rfl ?_
  refine m_109_ok hG h hR3 (hl4 _ _ hk) p0 ?_
  intro v12 M7 μ8 h hR9 hl11
  have hl10 := y_le.tr hl4 hl11
  show ex_fine fg rc rs (d + 2, (110, 12, [some (eR a0), some (eI (zI a1))], [eI (zI v12), eI (zI v6)]), f :: F, μ8)
  refine w_cs (np := 15) (as := [eI (zI v6), eI (zI v12)]) (lv' := [some (eI (zI v6)), some (eI (zI v12))]) (rest := []) rfl rfl rfl (Nat.ble_eq.mp rfl) rfl rfl rfl rfl ?_
  refine m_364_ok hG h hR9 ?_
  intro v18 M13 μ14 h hR15 hl17
  have hl16 := y_le.tr hl10 hl17
  show ex_fine fg rc rs (d + 2, (110, 15, [some (eR a0), some (eI (zI a1))], [eI (zI v18)]), f :: F, μ14)
  exact v_ri rfl rfl (hK _ _ _ h hR15 hl16)
/-! RhombInflator$Sides.greaterEnd -/
noncomputable def m_111 (a0 a1 : Nat) (M : yM) (K : Nat → yM → Bool) : Bool := m_109 a0 a1 0 M fun v6 M1 => m_109 a0 a1 1 M1 fun v12 M7 => m_363 v6 v12 M7 fun v18 M13 => K v18 M13
theorem m_111_ok {fg : eG} {rc rs d : Nat} {f : eFr} {F : List eFr} {M : yM} {μ0 : eM} {a0 a1 : Nat} {K : Nat → yM → Bool} (hG : yG fg y_T) (h : m_111 a0 a1 M K = true) (hR : yR M μ0) (hk : ev_kd μ0 a0 = some 8) (p0 : 0 < a0) (hK : ∀ (r : Nat) (M : yM) (μ : eM), K r M = true → yR M μ → y_le μ0 μ → ex_fine fg rc rs (d + 3, (f.1, f.2.1, f.2.2.1, eI (zI r) :: f.2.2.2), F, μ)) : ex_fine fg rc rs (d + 2, (111, 0, [some (eR a0), some (eI (zI a1))], []), f :: F, μ0) := by
  unfold m_111 at h
  have hl := y_le_r μ0
  refine w_s (np := 1) (lv' := [some (eR a0), some (eI (zI a1))]) (st' := [eR a0]) rfl (s_an rfl p0) rfl ?_
  refine w_s (np := 2) (lv' := [some (eR a0), some (eI (zI a1))]) (st' := [eI (zI a1), eR a0]) rfl rfl rfl ?_
  refine w_s (np := 3) (lv' := [some (eR a0), some (eI (zI a1))]) (st' := [eI (zI 0), eI (zI a1), eR a0]) rfl rfl rfl ?_
  refine w_cv (np := 6) (as := [eI (zI a1), eI (zI 0)]) (lv' := [some (eR a0), some (eI (zI a1)), some (eI (zI 0)), none, none]) (rest := []) rfl rfl rfl (Nat.ble_eq.mp rfl) rfl rfl rfl (hl _ _ hk) rfl ?_
  refine m_109_ok hG h hR (hl _ _ hk) p0 ?_
  intro v6 M1 μ2 h hR3 hl5
  have hl4 := y_le.tr hl hl5
  show ex_fine fg rc rs (d + 2, (111, 6, [some (eR a0), some (eI (zI a1))], [eI (zI v6)]), f :: F, μ2)
  refine w_s (np := 7) (lv' := [some (eR a0), some (eI (zI a1))]) (st' := [eR a0, eI (zI v6)]) rfl (s_an rfl p0) rfl ?_
  refine w_s (np := 8) (lv' := [some (eR a0), some (eI (zI a1))]) (st' := [eI (zI a1), eR a0, eI (zI v6)]) rfl rfl rfl ?_
  refine w_s (np := 9) (lv' := [some (eR a0), some (eI (zI a1))]) (st' := [eI (zI 1), eI (zI a1), eR a0, eI (zI v6)]) rfl rfl rfl ?_
  refine w_cv (np := 12) (as := [eI (zI a1), eI (zI 1)]) (lv' := [some (eR a0), some (eI (zI a1)), some (eI (zI 1)), none, none]) (rest := [eI (zI v6)]) rfl rfl rfl (Nat.ble_eq.mp rfl) rfl rfl rfl (hl4 _ _ hk) rfl ?_
  refine m_109_ok hG h hR3 (hl4 _ _ hk) p0 ?_
  intro v12 M7 μ8 h hR9 hl11
  have hl10 := y_le.tr hl4 hl11
  show ex_fine fg rc rs (d + 2, (111, 12, [some (eR a0), some (eI (zI a1))], [eI (zI v12), eI (zI v6)]), f :: F, μ8)
  refine w_cs (np := 15) (as := [eI (zI v6), eI (zI v12)]) (lv' := [some (eI (zI v6)), some (eI (zI v12))]) (rest := []) rfl rfl rfl (Nat.ble_eq.mp rfl) rfl rfl rfl rfl ?_
  refine m_363_ok hG h hR9 ?_
  intro v18 M13 μ14 h hR15 hl17
  have hl16 := y_le.tr hl10 hl17
  show ex_fine fg rc rs (d + 2, (111, 15, [some (eR a0), some (eI (zI a1))], [eI (zI v18)]), f :: F, μ14)
  exact v_ri rfl rfl (hK _ _ _ h hR15 hl16)
noncomputable def m_108_77 (a0 a1 : Nat) (K : yM → Bool) (a2 a3 a4 : Nat) (M : yM) : Bool := y_gf M a0 8 2 fun v1 => f_if false (Nat.ble 1 v1) (y_gf M a0 8 1 fun v6 => f_if false (Nat.ble 1 v6) (y_lh 100 M v6 a2 fun v11 => y_sa 100 M v1 a1 v11 fun M13 => y_gf M13 a0 8 1 fun v18 => f_if false (Nat.ble 1 v18) (y_sa 100 M13 v18 a2 a1 fun M23 => K M23)))
theorem m_108_77_ok {fg : eG} {rc rs d : Nat} {f : eFr} {F : List eFr} {μ0 : eM} {a0 a1 : Nat} {K : yM → Bool} (hG : yG fg y_T) (hk : ev_kd μ0 a0 = some 8) (p0 : 0 < a0) (hK : ∀ (M : yM) (μ : eM), K M = true → yR M μ → y_le μ0 μ → ex_fine fg rc rs (d + 4, (f.1, f.2.1, f.2.2.1, f.2.2.2), F, μ)) : ∀ (a2 a3 a4 : Nat) (M : yM) (μ : eM), m_108_77 a0 a1 K a2 a3 a4 M = true → yR M μ → y_le μ0 μ → ex_fine fg rc rs (d + 3, (108, 77, [some (eR a0), some (eI (zI a1)), some (eI (zI a2)), some (eI (zI a3)), some (eI (zI a4))], []), f :: F, μ) := by
  intro a2 a3 a4 M μ h hR hl
  unfold m_108_77 at h
  refine w_s (np := 78) (lv' := [some (eR a0), some (eI (zI a1)), some (eI (zI a2)), some (eI (zI a3)), some (eI (zI a4))]) (st' := [eR a0]) rfl (s_an rfl p0) rfl ?_
  obtain ⟨v1, h, k2, e3⟩ := y_gf_ok (ty := 3) h hR (by decide) rfl
  obtain ⟨g4, h⟩ := f_if_ok h
  have q5 : 0 < v1 := Nat.ble_eq.mp g4
  refine v_gf3 (np := 81) rfl rfl k2 e3 ?_
  clear k2 e3
  refine w_s (np := 82) (lv' := [some (eR a0), some (eI (zI a1)), some (eI (zI a2)), some (eI (zI a3)), some (eI (zI a4))]) (st' := [eI (zI a1), eR v1]) rfl rfl rfl ?_
  refine w_s (np := 83) (lv' := [some (eR a0), some (eI (zI a1)), some (eI (zI a2)), some (eI (zI a3)), some (eI (zI a4))]) (st' := [eR a0, eI (zI a1), eR v1]) rfl (s_an rfl p0) rfl ?_
  obtain ⟨v6, h, k7, e8⟩ := y_gf_ok (ty := 3) h hR (by decide) rfl
  obtain ⟨g9, h⟩ := f_if_ok h
  have q10 : 0 < v6 := Nat.ble_eq.mp g9
  refine v_gf3 (np := 86) rfl rfl k7 e8 ?_
  clear k7 e8
  refine w_s (np := 87) (lv' := [some (eR a0), some (eI (zI a1)), some (eI (zI a2)), some (eI (zI a3)), some (eI (zI a4))]) (st' := [eI (zI a2), eR v6, eI (zI a1), eR v1]) rfl rfl rfl ?_
  obtain ⟨v11, h, k12⟩ := y_lh_ok (ty := 0) h hR hG (by decide) rfl (by decide)
  refine v_la (np := 88) rfl rfl k12 ?_
  clear k12
  obtain ⟨M13, μ14, h, k17, hR15, hl16⟩ := y_sa_ex (ty := 0) h hR hl rfl (by decide)
  refine v_sa (np := 89) rfl rfl k17 ?_
  clear k17
  refine w_s (np := 90) (lv' := [some (eR a0), some (eI (zI a1)), some (eI (zI a2)), some (eI (zI a3)), some (eI (zI a4))]) (st' := [eR a0]) rfl (s_an rfl p0) rfl ?_
  obtain ⟨v18, h, k19, e20⟩ := y_gf_ok (ty := 3) h hR15 (by decide) rfl
  obtain ⟨g21, h⟩ := f_if_ok h
  have q22 : 0 < v18 := Nat.ble_eq.mp g21
  refine v_gf3 (np := 93) rfl rfl k19 e20 ?_
  clear k19 e20
  refine w_s (np := 94) (lv' := [some (eR a0), some (eI (zI a1)), some (eI (zI a2)), some (eI (zI a3)), some (eI (zI a4))]) (st' := [eI (zI a2), eR v18]) rfl rfl rfl ?_
  refine w_s (np := 95) (lv' := [some (eR a0), some (eI (zI a1)), some (eI (zI a2)), some (eI (zI a3)), some (eI (zI a4))]) (st' := [eI (zI a1), eI (zI a2), eR v18]) rfl rfl rfl ?_
  obtain ⟨M23, μ24, h, k27, hR25, hl26⟩ := y_sa_ex (ty := 0) h hR15 hl16 rfl (by decide)
  refine v_sa (np := 96) rfl rfl k27 ?_
  clear k27
  exact v_rv rfl rfl (hK _ _ h hR25 hl26)
noncomputable def m_108_64 (a0 a1 : Nat) (K : yM → Bool) (i23 : Nat → Nat → Nat → yM → Bool) (a2 a3 a4 : Nat) (M : yM) : Bool := y_gf M a0 8 2 fun v1 => f_if false (Nat.ble 1 v1) (y_lh 100 M v1 a3 fun v6 => z_l (z_add a4 1) fun v8 => z_f v6 fun w9 => z_f v8 fun w10 => i23 a2 w9 w10 M)
theorem m_108_64_ok {fg : eG} {rc rs d : Nat} {f : eFr} {F : List eFr} {μ0 : eM} {a0 a1 : Nat} {K : yM → Bool} {i23 : Nat → Nat → Nat → yM → Bool} (hG : yG fg y_T) (hk : ev_kd μ0 a0 = some 8) (p0 : 0 < a0) (hK : ∀ (M : yM) (μ : eM), K M = true → yR M μ → y_le μ0 μ → ex_fine fg rc rs (d + 4, (f.1, f.2.1, f.2.2.1, f.2.2.2), F, μ)) (h23 : ∀ (a2 a3 a4 : Nat) (M : yM) (μ : eM), i23 a2 a3 a4 M = true → yR M μ → y_le μ0 μ → ex_fine fg rc rs (d + 3, (108, 23, [some (eR a0), some (eI (zI a1)), some (eI (zI a2)), some (eI (zI a3)), some (eI (zI a4))], []), f :: F, μ)) : ∀ (a2 a3 a4 : Nat) (M : yM) (μ : eM), m_108_64 a0 a1 K i23 a2 a3 a4 M = true → yR M μ → y_le μ0 μ → ex_fine fg rc rs (d + 3, (108, 64, [some (eR a0), some (eI (zI a1)), some (eI (zI a2)), some (eI (zI a3)), some (eI (zI a4))], []), f :: F, μ) := by
  intro a2 a3 a4 M μ h hR hl
  unfold m_108_64 at h
  refine w_s (np := 65) (lv' := [some (eR a0), some (eI (zI a1)), some (eI (zI a2)), some (eI (zI a3)), some (eI (zI a4))]) (st' := [eR a0]) rfl (s_an rfl p0) rfl ?_
  obtain ⟨v1, h, k2, e3⟩ := y_gf_ok (ty := 3) h hR (by decide) rfl
  obtain ⟨g4, h⟩ := f_if_ok h
  have q5 : 0 < v1 := Nat.ble_eq.mp g4
  refine v_gf3 (np := 68) rfl rfl k2 e3 ?_
  clear k2 e3
  refine w_s (np := 69) (lv' := [some (eR a0), some (eI (zI a1)), some (eI (zI a2)), some (eI (zI a3)), some (eI (zI a4))]) (st' := [eI (zI a3), eR v1]) rfl rfl rfl ?_
  obtain ⟨v6, h, k7⟩ := y_lh_ok (ty := 0) h hR hG (by decide) rfl (by decide)
  refine v_la (np := 70) rfl rfl k7 ?_
  clear k7
  refine w_s (np := 71) (lv' := [some (eR a0), some (eI (zI a1)), some (eI (zI a2)), some (eI (zI v6)), some (eI (zI a4))]) (st' := []) rfl rfl rfl ?_
  obtain ⟨v8, ev8, h⟩ := z_l_ex h
  refine w_s (np := 74) (lv' := [some (eR a0), some (eI (zI a1)), some (eI (zI a2)), some (eI (zI v6)), some (eI (zI v8))]) (st' := []) rfl (s_iinc (b := 1) rfl rfl ev8 rfl) rfl ?_
  clear ev8
  refine w_go (t1 := 23) rfl rfl ?_
  obtain ⟨w9, ew9, h⟩ := z_f_ex h
  subst ew9
  obtain ⟨w10, ew10, h⟩ := z_f_ex h
  subst ew10
  exact h23 _ _ _ M μ h hR hl
noncomputable def m_108_23b (a0 a1 : Nat) (K : yM → Bool) (i23 : Nat → Nat → Nat → yM → Bool) (a2 a3 a4 : Nat) (M : yM) : Bool := y_gf M a0 8 2 fun v1 => f_if false (Nat.ble 1 v1) (y_ln y_T M v1 fun v6 => z_if (z_lt a4 v6) (z_if (z_l0 a3) (m_108_77 a0 a1 K a2 a3 a4 M) (m_111 a0 a3 M fun v16 M11 => m_111 a0 a1 M11 fun v22 M17 => z_if (z_eq v16 v22) (y_gf M17 a0 8 0 fun v24 => f_if false (Nat.ble 1 v24) (y_sa 100 M17 v24 a1 a3 fun M29 => y_gf M29 a0 8 0 fun v34 => f_if false (Nat.ble 1 v34) (y_sa 100 M29 v34 a3 a1 fun M39 => m_108_64 a0 a1 K i23 a2 a3 a4 M39))) (m_108_64 a0 a1 K i23 a2 a3 a4 M17))) (m_108_77 a0 a1 K a2 a3 a4 M))
noncomputable def m_108_23 (a0 a1 : Nat) (K : yM → Bool) (n : Nat) : Nat → Nat → Nat → yM → Bool := @Nat.rec (fun _ => Nat → Nat → Nat → yM → Bool) (fun _ _ _ _ => false) (fun _ ih => m_108_23b a0 a1 K ih) n
theorem m_108_23b_ok {fg : eG} {rc rs d : Nat} {f : eFr} {F : List eFr} {μ0 : eM} {a0 a1 : Nat} {K : yM → Bool} {i23 : Nat → Nat → Nat → yM → Bool} (hG : yG fg y_T) (hk : ev_kd μ0 a0 = some 8) (p0 : 0 < a0) (hK : ∀ (M : yM) (μ : eM), K M = true → yR M μ → y_le μ0 μ → ex_fine fg rc rs (d + 4, (f.1, f.2.1, f.2.2.1, f.2.2.2), F, μ)) (h23 : ∀ (a2 a3 a4 : Nat) (M : yM) (μ : eM), i23 a2 a3 a4 M = true → yR M μ → y_le μ0 μ → ex_fine fg rc rs (d + 3, (108, 23, [some (eR a0), some (eI (zI a1)), some (eI (zI a2)), some (eI (zI a3)), some (eI (zI a4))], []), f :: F, μ)) : ∀ (a2 a3 a4 : Nat) (M : yM) (μ : eM), m_108_23b a0 a1 K i23 a2 a3 a4 M = true → yR M μ → y_le μ0 μ → ex_fine fg rc rs (d + 3, (108, 23, [some (eR a0), some (eI (zI a1)), some (eI (zI a2)), some (eI (zI a3)), some (eI (zI a4))], []), f :: F, μ) := by
  intro a2 a3 a4 M μ h hR hl
  unfold m_108_23b at h
  refine w_s (np := 25) (lv' := [some (eR a0), some (eI (zI a1)), some (eI (zI a2)), some (eI (zI a3)), some (eI (zI a4))]) (st' := [eI (zI a4)]) rfl rfl rfl ?_
  refine w_s (np := 26) (lv' := [some (eR a0), some (eI (zI a1)), some (eI (zI a2)), some (eI (zI a3)), some (eI (zI a4))]) (st' := [eR a0, eI (zI a4)]) rfl (s_an rfl p0) rfl ?_
  obtain ⟨v1, h, k2, e3⟩ := y_gf_ok (ty := 3) h hR (by decide) rfl
  obtain ⟨g4, h⟩ := f_if_ok h
  have q5 : 0 < v1 := Nat.ble_eq.mp g4
  refine v_gf3 (np := 29) rfl rfl k2 e3 ?_
  clear k2 e3
  obtain ⟨v6, h, n7, k8⟩ := y_ln_ok h hR hG
  refine v_ln (np := 30) rfl rfl k8 ?_
  rcases z_if_t h with ⟨g9, h⟩ | ⟨g9, h⟩
  · refine v_ge_f (t1 := 77) rfl rfl g9 ?_
    refine w_s (np := 34) (lv' := [some (eR a0), some (eI (zI a1)), some (eI (zI a2)), some (eI (zI a3)), some (eI (zI a4))]) (st' := [eI (zI a3)]) rfl rfl rfl ?_
    rcases z_if_t h with ⟨g10, h⟩ | ⟨g10, h⟩
    · refine v_lt0_t (t1 := 77) rfl rfl g10 ?_
      exact m_108_77_ok hG hk p0 hK _ _ _ M μ h hR hl
    · refine v_lt0_f (t1 := 77) rfl rfl g10 ?_
      refine w_s (np := 38) (lv' := [some (eR a0), some (eI (zI a1)), some (eI (zI a2)), some (eI (zI a3)), some (eI (zI a4))]) (st' := [eR a0]) rfl (s_an rfl p0) rfl ?_
      refine w_s (np := 39) (lv' := [some (eR a0), some (eI (zI a1)), some (eI (zI a2)), some (eI (zI a3)), some (eI (zI a4))]) (st' := [eI (zI a3), eR a0]) rfl rfl rfl ?_
      refine w_cv (np := 42) (as := [eI (zI a3)]) (lv' := [some (eR a0), some (eI (zI a3))]) (rest := []) rfl rfl rfl (Nat.ble_eq.mp rfl) rfl rfl rfl (hl _ _ hk) rfl ?_
      refine m_111_ok hG h hR (hl _ _ hk) p0 ?_
      intro v16 M11 μ12 h hR13 hl15
      have hl14 := y_le.tr hl hl15
      show ex_fine fg rc rs (d + 3, (108, 42, [some (eR a0), some (eI (zI a1)), some (eI (zI a2)), some (eI (zI a3)), some (eI (zI a4))], [eI (zI v16)]), f :: F, μ12)
      refine w_s (np := 43) (lv' := [some (eR a0), some (eI (zI a1)), some (eI (zI a2)), some (eI (zI a3)), some (eI (zI a4))]) (st' := [eR a0, eI (zI v16)]) rfl (s_an rfl p0) rfl ?_
      refine w_s (np := 44) (lv' := [some (eR a0), some (eI (zI a1)), some (eI (zI a2)), some (eI (zI a3)), some (eI (zI a4))]) (st' := [eI (zI a1), eR a0, eI (zI v16)]) rfl rfl rfl ?_
      refine w_cv (np := 47) (as := [eI (zI a1)]) (lv' := [some (eR a0), some (eI (zI a1))]) (rest := [eI (zI v16)]) rfl rfl rfl (Nat.ble_eq.mp rfl) rfl rfl rfl (hl14 _ _ hk) rfl ?_
      refine m_111_ok hG h hR13 (hl14 _ _ hk) p0 ?_
      intro v22 M17 μ18 h hR19 hl21
      have hl20 := y_le.tr hl14 hl21
      show ex_fine fg rc rs (d + 3, (108, 47, [some (eR a0), some (eI (zI a1)), some (eI (zI a2)), some (eI (zI a3)), some (eI (zI a4))], [eI (zI v22), eI (zI v16)]), f :: F, μ18)
      rcases z_if_t h with ⟨g23, h⟩ | ⟨g23, h⟩
      · refine v_ne_f (t1 := 64) rfl rfl g23 ?_
        refine w_s (np := 51) (lv' := [some (eR a0), some (eI (zI a1)), some (eI (zI a2)), some (eI (zI a3)), some (eI (zI a4))]) (st' := [eR a0]) rfl (s_an rfl p0) rfl ?_
        obtain ⟨v24, h, k25, e26⟩ := y_gf_ok (ty := 3) h hR19 (by decide) rfl
        obtain ⟨g27, h⟩ := f_if_ok h
        have q28 : 0 < v24 := Nat.ble_eq.mp g27
        refine v_gf3 (np := 54) rfl rfl k25 e26 ?_
        clear k25 e26
        refine w_s (np := 55) (lv' := [some (eR a0), some (eI (zI a1)), some (eI (zI a2)), some (eI (zI a3)), some (eI (zI a4))]) (st' := [eI (zI a1), eR v24]) rfl rfl rfl ?_
        refine w_s (np := 56) (lv' := [some (eR a0), some (eI (zI a1)), some (eI (zI a2)), some (eI (zI a3)), some (eI (zI a4))]) (st' := [eI (zI a3), eI (zI a1), eR v24]) rfl rfl rfl ?_
        obtain ⟨M29, μ30, h, k33, hR31, hl32⟩ := y_sa_ex (ty := 0) h hR19 hl20 rfl (by decide)
        refine v_sa (np := 57) rfl rfl k33 ?_
        clear k33
        refine w_s (np := 58) (lv' := [some (eR a0), some (eI (zI a1)), some (eI (zI a2)), some (eI (zI a3)), some (eI (zI a4))]) (st' := [eR a0]) rfl (s_an rfl p0) rfl ?_
        obtain ⟨v34, h, k35, e36⟩ := y_gf_ok (ty := 3) h hR31 (by decide) rfl
        obtain ⟨g37, h⟩ := f_if_ok h
        have q38 : 0 < v34 := Nat.ble_eq.mp g37
        refine v_gf3 (np := 61) rfl rfl k35 e36 ?_
        clear k35 e36
        refine w_s (np := 62) (lv' := [some (eR a0), some (eI (zI a1)), some (eI (zI a2)), some (eI (zI a3)), some (eI (zI a4))]) (st' := [eI (zI a3), eR v34]) rfl rfl rfl ?_
        refine w_s (np := 63) (lv' := [some (eR a0), some (eI (zI a1)), some (eI (zI a2)), some (eI (zI a3)), some (eI (zI a4))]) (st' := [eI (zI a1), eI (zI a3), eR v34]) rfl rfl rfl ?_
        obtain ⟨M39, μ40, h, k43, hR41, hl42⟩ := y_sa_ex (ty := 0) h hR31 hl32 rfl (by decide)
        refine v_sa (np := 64) rfl rfl k43 ?_
        clear k43
        exact m_108_64_ok hG hk p0 hK h23 _ _ _ M39 μ40 h hR41 hl42
      · refine v_ne_t (t1 := 64) rfl rfl g23 ?_
        exact m_108_64_ok hG hk p0 hK h23 _ _ _ M17 μ18 h hR19 hl20
  · refine v_ge_t (t1 := 77) rfl rfl g9 ?_
    exact m_108_77_ok hG hk p0 hK _ _ _ M μ h hR hl
theorem m_108_23_ok {fg : eG} {rc rs d : Nat} {f : eFr} {F : List eFr} {μ0 : eM} {a0 a1 : Nat} {K : yM → Bool} (hG : yG fg y_T) (hk : ev_kd μ0 a0 = some 8) (p0 : 0 < a0) (hK : ∀ (M : yM) (μ : eM), K M = true → yR M μ → y_le μ0 μ → ex_fine fg rc rs (d + 4, (f.1, f.2.1, f.2.2.1, f.2.2.2), F, μ)) : ∀ n : Nat, ∀ (a2 a3 a4 : Nat) (M : yM) (μ : eM), m_108_23 a0 a1 K n a2 a3 a4 M = true → yR M μ → y_le μ0 μ → ex_fine fg rc rs (d + 3, (108, 23, [some (eR a0), some (eI (zI a1)), some (eI (zI a2)), some (eI (zI a3)), some (eI (zI a4))], []), f :: F, μ) := by
  intro n
  induction n with
  | zero =>
    intro a2 a3 a4 M μ h hR hl
    exact absurd h Bool.false_ne_true
  | succ n ih =>
    intro a2 a3 a4 M μ h hR hl
    exact m_108_23b_ok hG hk p0 hK ih a2 a3 a4 M μ h hR hl
/-! RhombInflator$Sides.joinSide -/
noncomputable def m_108 (a0 a1 : Nat) (M : yM) (K : yM → Bool) : Bool := m_110 a0 a1 M fun v6 M1 => y_gf M1 a0 8 0 fun v7 => f_if false (Nat.ble 1 v7) (y_sa 100 M1 v7 a1 4294967295 fun M12 => y_gf M12 a0 8 1 fun v17 => f_if false (Nat.ble 1 v17) (y_lh 100 M12 v17 v6 fun v22 => m_108_23 a0 a1 K 100000 v6 v22 0 M12))
theorem m_108_ok {fg : eG} {rc rs d : Nat} {f : eFr} {F : List eFr} {M : yM} {μ0 : eM} {a0 a1 : Nat} {K : yM → Bool} (hG : yG fg y_T) (h : m_108 a0 a1 M K = true) (hR : yR M μ0) (hk : ev_kd μ0 a0 = some 8) (p0 : 0 < a0) (hK : ∀ (M : yM) (μ : eM), K M = true → yR M μ → y_le μ0 μ → ex_fine fg rc rs (d + 4, (f.1, f.2.1, f.2.2.1, f.2.2.2), F, μ)) : ex_fine fg rc rs (d + 3, (108, 0, [some (eR a0), some (eI (zI a1)), none, none, none], []), f :: F, μ0) := by
  unfold m_108 at h
  have hl := y_le_r μ0
  refine w_s (np := 1) (lv' := [some (eR a0), some (eI (zI a1)), none, none, none]) (st' := [eR a0]) rfl (s_an rfl p0) rfl ?_
  refine w_s (np := 2) (lv' := [some (eR a0), some (eI (zI a1)), none, none, none]) (st' := [eI (zI a1), eR a0]) rfl rfl rfl ?_
  refine w_cv (np := 5) (as := [eI (zI a1)]) (lv' := [some (eR a0), some (eI (zI a1))]) (rest := []) rfl rfl rfl (Nat.ble_eq.mp rfl) rfl rfl rfl (hl _ _ hk) rfl ?_
  refine m_110_ok hG h hR (hl _ _ hk) p0 ?_
  intro v6 M1 μ2 h hR3 hl5
  have hl4 := y_le.tr hl hl5
  show ex_fine fg rc rs (d + 3, (108, 5, [some (eR a0), some (eI (zI a1)), none, none, none], [eI (zI v6)]), f :: F, μ2)
  refine w_s (np := 6) (lv' := [some (eR a0), some (eI (zI a1)), some (eI (zI v6)), none, none]) (st' := []) rfl rfl rfl ?_
  refine w_s (np := 7) (lv' := [some (eR a0), some (eI (zI a1)), some (eI (zI v6)), none, none]) (st' := [eR a0]) rfl (s_an rfl p0) rfl ?_
  obtain ⟨v7, h, k8, e9⟩ := y_gf_ok (ty := 3) h hR3 (by decide) rfl
  obtain ⟨g10, h⟩ := f_if_ok h
  have q11 : 0 < v7 := Nat.ble_eq.mp g10
  refine v_gf3 (np := 10) rfl rfl k8 e9 ?_
  clear k8 e9
  refine w_s (np := 11) (lv' := [some (eR a0), some (eI (zI a1)), some (eI (zI v6)), none, none]) (st' := [eI (zI a1), eR v7]) rfl rfl rfl ?_
  refine w_s (np := 12) (lv' := [some (eR a0), some (eI (zI a1)), some (eI (zI v6)), none, none]) (st' := [eI (zI 4294967295), eI (zI a1), eR v7]) rfl rfl rfl ?_
  obtain ⟨M12, μ13, h, k16, hR14, hl15⟩ := y_sa_ex (ty := 0) h hR3 hl4 rfl (by decide)
  refine v_sa (np := 13) rfl rfl k16 ?_
  clear k16
  refine w_s (np := 14) (lv' := [some (eR a0), some (eI (zI a1)), some (eI (zI v6)), none, none]) (st' := [eR a0]) rfl (s_an rfl p0) rfl ?_
  obtain ⟨v17, h, k18, e19⟩ := y_gf_ok (ty := 3) h hR14 (by decide) rfl
  obtain ⟨g20, h⟩ := f_if_ok h
  have q21 : 0 < v17 := Nat.ble_eq.mp g20
  refine v_gf3 (np := 17) rfl rfl k18 e19 ?_
  clear k18 e19
  refine w_s (np := 18) (lv' := [some (eR a0), some (eI (zI a1)), some (eI (zI v6)), none, none]) (st' := [eI (zI v6), eR v17]) rfl rfl rfl ?_
  obtain ⟨v22, h, k23⟩ := y_lh_ok (ty := 0) h hR14 hG (by decide) rfl (by decide)
  refine v_la (np := 19) rfl rfl k23 ?_
  clear k23
  refine w_s (np := 20) (lv' := [some (eR a0), some (eI (zI a1)), some (eI (zI v6)), some (eI (zI v22)), none]) (st' := []) rfl rfl rfl ?_
  refine w_s (np := 21) (lv' := [some (eR a0), some (eI (zI a1)), some (eI (zI v6)), some (eI (zI v22)), none]) (st' := [eI (zI 0)]) rfl rfl rfl ?_
  refine w_s (np := 23) (lv' := [some (eR a0), some (eI (zI a1)), some (eI (zI v6)), some (eI (zI v22)), some (eI (zI 0))]) (st' := []) rfl rfl rfl ?_
  exact m_108_23_ok hG hk p0 hK 100000 _ _ _ M12 μ13 h hR14 hl15
noncomputable def m_113_24 (a0 a1 : Nat) (K : Nat → yM → Bool) (s0 : Nat) (M : yM) : Bool := f_if false (Nat.ble s0 1) (K s0 M)
theorem m_113_24_ok {fg : eG} {rc rs d : Nat} {f : eFr} {F : List eFr} {μ0 : eM} {a0 a1 : Nat} {K : Nat → yM → Bool} (hG : yG fg y_T) (hk : ev_kd μ0 a0 = some 8) (p0 : 0 < a0) (hK : ∀ (r : Nat) (M : yM) (μ : eM), K r M = true → yR M μ → y_le μ0 μ → ex_fine fg rc rs (d + 1, (f.1, f.2.1, f.2.2.1, eI (zI r) :: f.2.2.2), F, μ)) : ∀ (s0 : Nat) (M : yM) (μ : eM), m_113_24 a0 a1 K s0 M = true → yR M μ → y_le μ0 μ → ex_fine fg rc rs (d, (113, 24, [some (eR a0), some (eI (zI a1))], [eI (zI s0)]), f :: F, μ) := by
  intro s0 M μ h hR hl
  unfold m_113_24 at h
  obtain ⟨g1, h⟩ := f_if_ok h
  exact v_rz rfl rfl g1 (hK _ _ _ h hR hl)
noncomputable def m_113_19 (a0 a1 : Nat) (K : Nat → yM → Bool) (M : yM) : Bool := m_113_24 a0 a1 K 1 M
theorem m_113_19_ok {fg : eG} {rc rs d : Nat} {f : eFr} {F : List eFr} {μ0 : eM} {a0 a1 : Nat} {K : Nat → yM → Bool} (hG : yG fg y_T) (hk : ev_kd μ0 a0 = some 8) (p0 : 0 < a0) (hK : ∀ (r : Nat) (M : yM) (μ : eM), K r M = true → yR M μ → y_le μ0 μ → ex_fine fg rc rs (d + 1, (f.1, f.2.1, f.2.2.1, eI (zI r) :: f.2.2.2), F, μ)) : ∀ (M : yM) (μ : eM), m_113_19 a0 a1 K M = true → yR M μ → y_le μ0 μ → ex_fine fg rc rs (d, (113, 19, [some (eR a0), some (eI (zI a1))], []), f :: F, μ) := by
  intro M μ h hR hl
  unfold m_113_19 at h
  refine w_s (np := 20) (lv' := [some (eR a0), some (eI (zI a1))]) (st' := [eI (zI 1)]) rfl rfl rfl ?_
  refine w_go (t1 := 24) rfl rfl ?_
  exact m_113_24_ok hG hk p0 hK _ M μ h hR hl
/-! RhombInflator$Sides.standsFirst -/
noncomputable def m_113 (a0 a1 : Nat) (M : yM) (K : Nat → yM → Bool) : Bool := y_gf M a0 8 0 fun v1 => f_if false (Nat.ble 1 v1) (y_lh 100 M v1 a1 fun v6 => z_if (z_l0 v6) (m_113_19 a0 a1 K M) (y_gf M a0 8 0 fun v9 => f_if false (Nat.ble 1 v9) (y_lh 100 M v9 a1 fun v14 => z_if (z_lt a1 v14) (m_113_19 a0 a1 K M) (m_113_24 a0 a1 K 0 M))))
theorem m_113_ok {fg : eG} {rc rs d : Nat} {f : eFr} {F : List eFr} {M : yM} {μ0 : eM} {a0 a1 : Nat} {K : Nat → yM → Bool} (hG : yG fg y_T) (h : m_113 a0 a1 M K = true) (hR : yR M μ0) (hk : ev_kd μ0 a0 = some 8) (p0 : 0 < a0) (hK : ∀ (r : Nat) (M : yM) (μ : eM), K r M = true → yR M μ → y_le μ0 μ → ex_fine fg rc rs (d + 1, (f.1, f.2.1, f.2.2.1, eI (zI r) :: f.2.2.2), F, μ)) : ex_fine fg rc rs (d, (113, 0, [some (eR a0), some (eI (zI a1))], []), f :: F, μ0) := by
  unfold m_113 at h
  have hl := y_le_r μ0
  refine w_s (np := 1) (lv' := [some (eR a0), some (eI (zI a1))]) (st' := [eR a0]) rfl (s_an rfl p0) rfl ?_
  obtain ⟨v1, h, k2, e3⟩ := y_gf_ok (ty := 3) h hR (by decide) rfl
  obtain ⟨g4, h⟩ := f_if_ok h
  have q5 : 0 < v1 := Nat.ble_eq.mp g4
  refine v_gf3 (np := 4) rfl rfl k2 e3 ?_
  clear k2 e3
  refine w_s (np := 5) (lv' := [some (eR a0), some (eI (zI a1))]) (st' := [eI (zI a1), eR v1]) rfl rfl rfl ?_
  obtain ⟨v6, h, k7⟩ := y_lh_ok (ty := 0) h hR hG (by decide) rfl (by decide)
  refine v_la (np := 6) rfl rfl k7 ?_
  clear k7
  rcases z_if_t h with ⟨g8, h⟩ | ⟨g8, h⟩
  · refine v_lt0_t (t1 := 19) rfl rfl g8 ?_
    exact m_113_19_ok hG hk p0 hK M μ0 h hR hl
  · refine v_lt0_f (t1 := 19) rfl rfl g8 ?_
    refine w_s (np := 10) (lv' := [some (eR a0), some (eI (zI a1))]) (st' := [eR a0]) rfl (s_an rfl p0) rfl ?_
    obtain ⟨v9, h, k10, e11⟩ := y_gf_ok (ty := 3) h hR (by decide) rfl
    obtain ⟨g12, h⟩ := f_if_ok h
    have q13 : 0 < v9 := Nat.ble_eq.mp g12
    refine v_gf3 (np := 13) rfl rfl k10 e11 ?_
    clear k10 e11
    refine w_s (np := 14) (lv' := [some (eR a0), some (eI (zI a1))]) (st' := [eI (zI a1), eR v9]) rfl rfl rfl ?_
    obtain ⟨v14, h, k15⟩ := y_lh_ok (ty := 0) h hR hG (by decide) rfl (by decide)
    refine v_la (np := 15) rfl rfl k15 ?_
    clear k15
    refine w_s (np := 16) (lv' := [some (eR a0), some (eI (zI a1))]) (st' := [eI (zI a1), eI (zI v14)]) rfl rfl rfl ?_
    rcases z_if_t h with ⟨g16, h⟩ | ⟨g16, h⟩
    · refine v_le_f (t1 := 23) rfl rfl g16 ?_
      exact m_113_19_ok hG hk p0 hK M μ0 h hR hl
    · refine v_le_t (t1 := 23) rfl rfl g16 ?_
      refine w_s (np := 24) (lv' := [some (eR a0), some (eI (zI a1))]) (st' := [eI (zI 0)]) rfl rfl rfl ?_
      exact m_113_24_ok hG hk p0 hK _ M μ0 h hR hl
noncomputable def m_115_36 (a0 a1 : Nat) (K : Nat → yM → Bool) (a2 s0 s1 s2 : Nat) (M : yM) : Bool := y_is M s2 2 (m_21 s2 s1 s0 M fun v6 M1 => K v6 M1)
theorem m_115_36_ok {fg : eG} {rc rs d : Nat} {f : eFr} {F : List eFr} {μ0 : eM} {a0 a1 : Nat} {K : Nat → yM → Bool} (hG : yG fg y_T) (hk : ev_kd μ0 a0 = some 8) (p0 : 0 < a0) (hK : ∀ (r : Nat) (M : yM) (μ : eM), K r M = true → yR M μ → y_le μ0 μ → ex_fine fg rc rs (d + 2, (f.1, f.2.1, f.2.2.1, eI (zI r) :: f.2.2.2), F, μ)) : ∀ (a2 s0 s1 s2 : Nat) (M : yM) (μ : eM), m_115_36 a0 a1 K a2 s0 s1 s2 M = true → yR M μ → y_le μ0 μ → 0 < s2 → ex_fine fg rc rs (d + 1, (115, 36, [some (eR a0), some (eI (zI a1)), some (eI (zI a2))], [eI (zI s0), eI (zI s1), eR s2]), f :: F, μ) := by
  intro a2 s0 s1 s2 M μ h hR hl q2
  unfold m_115_36 at h
  obtain ⟨k7, h⟩ := y_is_ok h hR
  refine w_cv (np := 39) (as := [eI (zI s1), eI (zI s0)]) (lv' := [some (eR s2), some (eI (zI s1)), some (eI (zI s0))]) (rest := []) rfl rfl rfl (Nat.ble_eq.mp rfl) rfl rfl rfl k7 rfl ?_
  refine m_21_ok hG h hR k7 q2 ?_
  intro v6 M1 μ2 h hR3 hl5
  have hl4 := y_le.tr hl hl5
  show ex_fine fg rc rs (d + 1, (115, 39, [some (eR a0), some (eI (zI a1)), some (eI (zI a2))], [eI (zI v6)]), f :: F, μ2)
  exact v_ri rfl rfl (hK _ _ _ h hR3 hl4)
/-! RhombInflator$Sides.arrowHead -/
noncomputable def m_115 (a0 a1 : Nat) (M : yM) (K : Nat → yM → Bool) : Bool := z_l (z_div a1 3) fun v1 => y_gf M a0 8 6 fun v2 => f_if false (Nat.ble 1 v2) (z_l (z_rem a1 3) fun v7 => z_if (z_eq v7 1) (m_115_36 a0 a1 K v1 2 v1 v2 M) (y_gf M a0 8 6 fun v9 => f_if false (Nat.ble 1 v9) (y_is M v9 2 (m_19 v9 v1 M fun v19 M14 => z_if (z_e0 v19) (m_115_36 a0 a1 K v1 1 v1 v2 M14) (m_115_36 a0 a1 K v1 0 v1 v2 M14)))))
theorem m_115_ok {fg : eG} {rc rs d : Nat} {f : eFr} {F : List eFr} {M : yM} {μ0 : eM} {a0 a1 : Nat} {K : Nat → yM → Bool} (hG : yG fg y_T) (h : m_115 a0 a1 M K = true) (hR : yR M μ0) (hk : ev_kd μ0 a0 = some 8) (p0 : 0 < a0) (hK : ∀ (r : Nat) (M : yM) (μ : eM), K r M = true → yR M μ → y_le μ0 μ → ex_fine fg rc rs (d + 2, (f.1, f.2.1, f.2.2.1, eI (zI r) :: f.2.2.2), F, μ)) : ex_fine fg rc rs (d + 1, (115, 0, [some (eR a0), some (eI (zI a1)), none], []), f :: F, μ0) := by
  unfold m_115 at h
  have hl := y_le_r μ0
  refine w_s (np := 1) (lv' := [some (eR a0), some (eI (zI a1)), none]) (st' := [eI (zI a1)]) rfl rfl rfl ?_
  refine w_s (np := 2) (lv' := [some (eR a0), some (eI (zI a1)), none]) (st' := [eI (zI 3), eI (zI a1)]) rfl rfl rfl ?_
  obtain ⟨v1, ev1, h⟩ := z_l_ex h
  refine w_s (np := 3) (lv' := [some (eR a0), some (eI (zI a1)), none]) (st' := [eI (zI v1)]) rfl (s_idiv ⟨by decide, by decide⟩ ev1) rfl ?_
  clear ev1
  refine w_s (np := 4) (lv' := [some (eR a0), some (eI (zI a1)), some (eI (zI v1))]) (st' := []) rfl rfl rfl ?_
  refine w_s (np := 5) (lv' := [some (eR a0), some (eI (zI a1)), some (eI (zI v1))]) (st' := [eR a0]) rfl (s_an rfl p0) rfl ?_
  obtain ⟨v2, h, k3, e4⟩ := y_gf_ok (ty := 3) h hR (by decide) rfl
  obtain ⟨g5, h⟩ := f_if_ok h
  have q6 : 0 < v2 := Nat.ble_eq.mp g5
  refine v_gf3 (np := 8) rfl rfl k3 e4 ?_
  clear k3 e4
  refine w_s (np := 9) (lv' := [some (eR a0), some (eI (zI a1)), some (eI (zI v1))]) (st' := [eI (zI v1), eR v2]) rfl rfl rfl ?_
  refine w_s (np := 10) (lv' := [some (eR a0), some (eI (zI a1)), some (eI (zI v1))]) (st' := [eI (zI a1), eI (zI v1), eR v2]) rfl rfl rfl ?_
  refine w_s (np := 11) (lv' := [some (eR a0), some (eI (zI a1)), some (eI (zI v1))]) (st' := [eI (zI 3), eI (zI a1), eI (zI v1), eR v2]) rfl rfl rfl ?_
  obtain ⟨v7, ev7, h⟩ := z_l_ex h
  refine w_s (np := 12) (lv' := [some (eR a0), some (eI (zI a1)), some (eI (zI v1))]) (st' := [eI (zI v7), eI (zI v1), eR v2]) rfl (s_irem ⟨by decide, by decide⟩ ev7) rfl ?_
  clear ev7
  refine w_s (np := 13) (lv' := [some (eR a0), some (eI (zI a1)), some (eI (zI v1))]) (st' := [eI (zI 1), eI (zI v7), eI (zI v1), eR v2]) rfl rfl rfl ?_
  rcases z_if_t h with ⟨g8, h⟩ | ⟨g8, h⟩
  · refine v_ne_f (t1 := 20) rfl rfl g8 ?_
    refine w_s (np := 17) (lv' := [some (eR a0), some (eI (zI a1)), some (eI (zI v1))]) (st' := [eI (zI 2), eI (zI v1), eR v2]) rfl rfl rfl ?_
    refine w_go (t1 := 36) rfl rfl ?_
    exact m_115_36_ok hG hk p0 hK _ _ _ _ M μ0 h hR hl q6
  · refine v_ne_t (t1 := 20) rfl rfl g8 ?_
    refine w_s (np := 21) (lv' := [some (eR a0), some (eI (zI a1)), some (eI (zI v1))]) (st' := [eR a0, eI (zI v1), eR v2]) rfl (s_an rfl p0) rfl ?_
    obtain ⟨v9, h, k10, e11⟩ := y_gf_ok (ty := 3) h hR (by decide) rfl
    obtain ⟨g12, h⟩ := f_if_ok h
    have q13 : 0 < v9 := Nat.ble_eq.mp g12
    refine v_gf3 (np := 24) rfl rfl k10 e11 ?_
    clear k10 e11
    refine w_s (np := 25) (lv' := [some (eR a0), some (eI (zI a1)), some (eI (zI v1))]) (st' := [eI (zI v1), eR v9, eI (zI v1), eR v2]) rfl rfl rfl ?_
    obtain ⟨k20, h⟩ := y_is_ok h hR
    refine w_cv (np := 28) (as := [eI (zI v1)]) (lv' := [some (eR v9), some (eI (zI v1))]) (rest := [eI (zI v1), eR v2]) rfl rfl rfl (Nat.ble_eq.mp rfl) rfl rfl rfl k20 rfl ?_
    refine m_19_ok hG h hR k20 q13 ?_
    intro v19 M14 μ15 h hR16 hl18
    have hl17 := y_le.tr hl hl18
    show ex_fine fg rc rs (d + 1, (115, 28, [some (eR a0), some (eI (zI a1)), some (eI (zI v1))], [eI (zI v19), eI (zI v1), eR v2]), f :: F, μ15)
    rcases z_if_t h with ⟨g21, h⟩ | ⟨g21, h⟩
    · refine v_ne0_f (t1 := 35) rfl rfl g21 ?_
      refine w_s (np := 32) (lv' := [some (eR a0), some (eI (zI a1)), some (eI (zI v1))]) (st' := [eI (zI 1), eI (zI v1), eR v2]) rfl rfl rfl ?_
      refine w_go (t1 := 36) rfl rfl ?_
      exact m_115_36_ok hG hk p0 hK _ _ _ _ M14 μ15 h hR16 hl17 q6
    · refine v_ne0_t (t1 := 35) rfl rfl g21 ?_
      refine w_s (np := 36) (lv' := [some (eR a0), some (eI (zI a1)), some (eI (zI v1))]) (st' := [eI (zI 0), eI (zI v1), eR v2]) rfl rfl rfl ?_
      exact m_115_36_ok hG hk p0 hK _ _ _ _ M14 μ15 h hR16 hl17 q6
noncomputable def m_114_62 (a0 a1 a2 : Nat) (K : yM → Bool) (M : yM) : Bool := K M
theorem m_114_62_ok {fg : eG} {rc rs d : Nat} {f : eFr} {F : List eFr} {μ0 : eM} {a0 a1 a2 : Nat} {K : yM → Bool} (hG : yG fg y_T) (hk : ev_kd μ0 a0 = some 8) (p0 : 0 < a0) (hK : ∀ (M : yM) (μ : eM), K M = true → yR M μ → y_le μ0 μ → ex_fine fg rc rs (d + 3, (f.1, f.2.1, f.2.2.1, f.2.2.2), F, μ)) : ∀ (M : yM) (μ : eM), m_114_62 a0 a1 a2 K M = true → yR M μ → y_le μ0 μ → ex_fine fg rc rs (d + 2, (114, 62, [some (eR a0), some (eI (zI a1)), some (eI (zI a2))], []), f :: F, μ) := by
  intro M μ h hR hl
  unfold m_114_62 at h
  exact v_rv rfl rfl (hK _ _ h hR hl)
noncomputable def m_114_52 (a0 a1 a2 : Nat) (K : yM → Bool) (M : yM) : Bool := y_gf M a0 8 10 fun v1 => z_l (z_add v1 1) fun v4 => y_wf M a0 8 10 v4 fun M5 => m_114_62 a0 a1 a2 K M5
theorem m_114_52_ok {fg : eG} {rc rs d : Nat} {f : eFr} {F : List eFr} {μ0 : eM} {a0 a1 a2 : Nat} {K : yM → Bool} (hG : yG fg y_T) (hk : ev_kd μ0 a0 = some 8) (p0 : 0 < a0) (hK : ∀ (M : yM) (μ : eM), K M = true → yR M μ → y_le μ0 μ → ex_fine fg rc rs (d + 3, (f.1, f.2.1, f.2.2.1, f.2.2.2), F, μ)) : ∀ (M : yM) (μ : eM), m_114_52 a0 a1 a2 K M = true → yR M μ → y_le μ0 μ → ex_fine fg rc rs (d + 2, (114, 52, [some (eR a0), some (eI (zI a1)), some (eI (zI a2))], []), f :: F, μ) := by
  intro M μ h hR hl
  unfold m_114_52 at h
  refine w_s (np := 53) (lv' := [some (eR a0), some (eI (zI a1)), some (eI (zI a2))]) (st' := [eR a0]) rfl (s_an rfl p0) rfl ?_
  refine w_s (np := 54) (lv' := [some (eR a0), some (eI (zI a1)), some (eI (zI a2))]) (st' := [eR a0, eR a0]) rfl rfl rfl ?_
  obtain ⟨v1, h, k2, e3⟩ := y_gf_ok (ty := 0) h hR (by decide) rfl
  refine v_gf0 (np := 57) rfl rfl k2 e3 ?_
  clear k2 e3
  refine w_s (np := 58) (lv' := [some (eR a0), some (eI (zI a1)), some (eI (zI a2))]) (st' := [eI (zI 1), eI (zI v1), eR a0]) rfl rfl rfl ?_
  obtain ⟨v4, ev4, h⟩ := z_l_ex h
  refine w_s (np := 59) (lv' := [some (eR a0), some (eI (zI a1)), some (eI (zI a2))]) (st' := [eI (zI v4), eR a0]) rfl (s_iadd ev4) rfl ?_
  clear ev4
  obtain ⟨M5, μ6, h, k9, hR7, hl8, e10⟩ := y_wf_ex (ty := 0) h hR hl rfl (by decide)
  refine v_pe0 (np := 62) rfl rfl k9 e10 ?_
  clear k9 e10
  exact m_114_62_ok hG hk p0 hK M5 μ6 h hR7 hl8
/-! RhombInflator$Sides.countLeg -/
noncomputable def m_114 (a0 a1 a2 : Nat) (M : yM) (K : yM → Bool) : Bool := z_if (z_l0 a2) (y_gf M a0 8 11 fun v28 => z_l (z_add v28 1) fun v31 => y_wf M a0 8 11 v31 fun M32 => m_114_62 a0 a1 a2 K M32) (z_l (z_rem a1 3) fun v2 => z_l (z_rem a2 3) fun v3 => z_if (z_eq v2 v3) (m_115 a0 a1 M fun v10 M5 => m_115 a0 a2 M5 fun v16 M11 => z_if (z_eq v10 v16) (y_gf M11 a0 8 9 fun v18 => z_l (z_add v18 1) fun v21 => y_wf M11 a0 8 9 v21 fun M22 => m_114_62 a0 a1 a2 K M22) (m_114_52 a0 a1 a2 K M11)) (m_114_52 a0 a1 a2 K M))
theorem m_114_ok {fg : eG} {rc rs d : Nat} {f : eFr} {F : List eFr} {M : yM} {μ0 : eM} {a0 a1 a2 : Nat} {K : yM → Bool} (hG : yG fg y_T) (h : m_114 a0 a1 a2 M K = true) (hR : yR M μ0) (hk : ev_kd μ0 a0 = some 8) (p0 : 0 < a0) (hK : ∀ (M : yM) (μ : eM), K M = true → yR M μ → y_le μ0 μ → ex_fine fg rc rs (d + 3, (f.1, f.2.1, f.2.2.1, f.2.2.2), F, μ)) : ex_fine fg rc rs (d + 2, (114, 0, [some (eR a0), some (eI (zI a1)), some (eI (zI a2))], []), f :: F, μ0) := by
  unfold m_114 at h
  have hl := y_le_r μ0
  refine w_s (np := 1) (lv' := [some (eR a0), some (eI (zI a1)), some (eI (zI a2))]) (st' := [eI (zI a2)]) rfl rfl rfl ?_
  rcases z_if_t h with ⟨g1, h⟩ | ⟨g1, h⟩
  · refine v_ge0_f (t1 := 17) rfl rfl g1 ?_
    refine w_s (np := 5) (lv' := [some (eR a0), some (eI (zI a1)), some (eI (zI a2))]) (st' := [eR a0]) rfl (s_an rfl p0) rfl ?_
    refine w_s (np := 6) (lv' := [some (eR a0), some (eI (zI a1)), some (eI (zI a2))]) (st' := [eR a0, eR a0]) rfl rfl rfl ?_
    obtain ⟨v28, h, k29, e30⟩ := y_gf_ok (ty := 0) h hR (by decide) rfl
    refine v_gf0 (np := 9) rfl rfl k29 e30 ?_
    clear k29 e30
    refine w_s (np := 10) (lv' := [some (eR a0), some (eI (zI a1)), some (eI (zI a2))]) (st' := [eI (zI 1), eI (zI v28), eR a0]) rfl rfl rfl ?_
    obtain ⟨v31, ev31, h⟩ := z_l_ex h
    refine w_s (np := 11) (lv' := [some (eR a0), some (eI (zI a1)), some (eI (zI a2))]) (st' := [eI (zI v31), eR a0]) rfl (s_iadd ev31) rfl ?_
    clear ev31
    obtain ⟨M32, μ33, h, k36, hR34, hl35, e37⟩ := y_wf_ex (ty := 0) h hR hl rfl (by decide)
    refine v_pe0 (np := 14) rfl rfl k36 e37 ?_
    clear k36 e37
    refine w_go (t1 := 62) rfl rfl ?_
    exact m_114_62_ok hG hk p0 hK M32 μ33 h hR34 hl35
  · refine v_ge0_t (t1 := 17) rfl rfl g1 ?_
    refine w_s (np := 18) (lv' := [some (eR a0), some (eI (zI a1)), some (eI (zI a2))]) (st' := [eI (zI a1)]) rfl rfl rfl ?_
    refine w_s (np := 19) (lv' := [some (eR a0), some (eI (zI a1)), some (eI (zI a2))]) (st' := [eI (zI 3), eI (zI a1)]) rfl rfl rfl ?_
    obtain ⟨v2, ev2, h⟩ := z_l_ex h
    refine w_s (np := 20) (lv' := [some (eR a0), some (eI (zI a1)), some (eI (zI a2))]) (st' := [eI (zI v2)]) rfl (s_irem ⟨by decide, by decide⟩ ev2) rfl ?_
    clear ev2
    refine w_s (np := 21) (lv' := [some (eR a0), some (eI (zI a1)), some (eI (zI a2))]) (st' := [eI (zI a2), eI (zI v2)]) rfl rfl rfl ?_
    refine w_s (np := 22) (lv' := [some (eR a0), some (eI (zI a1)), some (eI (zI a2))]) (st' := [eI (zI 3), eI (zI a2), eI (zI v2)]) rfl rfl rfl ?_
    obtain ⟨v3, ev3, h⟩ := z_l_ex h
    refine w_s (np := 23) (lv' := [some (eR a0), some (eI (zI a1)), some (eI (zI a2))]) (st' := [eI (zI v3), eI (zI v2)]) rfl (s_irem ⟨by decide, by decide⟩ ev3) rfl ?_
    clear ev3
    rcases z_if_t h with ⟨g4, h⟩ | ⟨g4, h⟩
    · refine v_ne_f (t1 := 52) rfl rfl g4 ?_
      refine w_s (np := 27) (lv' := [some (eR a0), some (eI (zI a1)), some (eI (zI a2))]) (st' := [eR a0]) rfl (s_an rfl p0) rfl ?_
      refine w_s (np := 28) (lv' := [some (eR a0), some (eI (zI a1)), some (eI (zI a2))]) (st' := [eI (zI a1), eR a0]) rfl rfl rfl ?_
      refine w_cv (np := 31) (as := [eI (zI a1)]) (lv' := [some (eR a0), some (eI (zI a1)), none]) (rest := []) rfl rfl rfl (Nat.ble_eq.mp rfl) rfl rfl rfl (hl _ _ hk) rfl ?_
      refine m_115_ok hG h hR (hl _ _ hk) p0 ?_
      intro v10 M5 μ6 h hR7 hl9
      have hl8 := y_le.tr hl hl9
      show ex_fine fg rc rs (d + 2, (114, 31, [some (eR a0), some (eI (zI a1)), some (eI (zI a2))], [eI (zI v10)]), f :: F, μ6)
      refine w_s (np := 32) (lv' := [some (eR a0), some (eI (zI a1)), some (eI (zI a2))]) (st' := [eR a0, eI (zI v10)]) rfl (s_an rfl p0) rfl ?_
      refine w_s (np := 33) (lv' := [some (eR a0), some (eI (zI a1)), some (eI (zI a2))]) (st' := [eI (zI a2), eR a0, eI (zI v10)]) rfl rfl rfl ?_
      refine w_cv (np := 36) (as := [eI (zI a2)]) (lv' := [some (eR a0), some (eI (zI a2)), none]) (rest := [eI (zI v10)]) rfl rfl rfl (Nat.ble_eq.mp rfl) rfl rfl rfl (hl8 _ _ hk) rfl ?_
      refine m_115_ok hG h hR7 (hl8 _ _ hk) p0 ?_
      intro v16 M11 μ12 h hR13 hl15
      have hl14 := y_le.tr hl8 hl15
      show ex_fine fg rc rs (d + 2, (114, 36, [some (eR a0), some (eI (zI a1)), some (eI (zI a2))], [eI (zI v16), eI (zI v10)]), f :: F, μ12)
      rcases z_if_t h with ⟨g17, h⟩ | ⟨g17, h⟩
      · refine v_ne_f (t1 := 52) rfl rfl g17 ?_
        refine w_s (np := 40) (lv' := [some (eR a0), some (eI (zI a1)), some (eI (zI a2))]) (st' := [eR a0]) rfl (s_an rfl p0) rfl ?_
        refine w_s (np := 41) (lv' := [some (eR a0), some (eI (zI a1)), some (eI (zI a2))]) (st' := [eR a0, eR a0]) rfl rfl rfl ?_
        obtain ⟨v18, h, k19, e20⟩ := y_gf_ok (ty := 0) h hR13 (by decide) rfl
        refine v_gf0 (np := 44) rfl rfl k19 e20 ?_
        clear k19 e20
        refine w_s (np := 45) (lv' := [some (eR a0), some (eI (zI a1)), some (eI (zI a2))]) (st' := [eI (zI 1), eI (zI v18), eR a0]) rfl rfl rfl ?_
        obtain ⟨v21, ev21, h⟩ := z_l_ex h
        refine w_s (np := 46) (lv' := [some (eR a0), some (eI (zI a1)), some (eI (zI a2))]) (st' := [eI (zI v21), eR a0]) rfl (s_iadd ev21) rfl ?_
        clear ev21
        obtain ⟨M22, μ23, h, k26, hR24, hl25, e27⟩ := y_wf_ex (ty := 0) h hR13 hl14 rfl (by decide)
        refine v_pe0 (np := 49) rfl rfl k26 e27 ?_
        clear k26 e27
        refine w_go (t1 := 62) rfl rfl ?_
        exact m_114_62_ok hG hk p0 hK M22 μ23 h hR24 hl25
      · refine v_ne_t (t1 := 52) rfl rfl g17 ?_
        exact m_114_52_ok hG hk p0 hK M11 μ12 h hR13 hl14
    · refine v_ne_t (t1 := 52) rfl rfl g4 ?_
      exact m_114_52_ok hG hk p0 hK M μ0 h hR hl
noncomputable def m_112_139 (a0 : Nat) (K : yM → Bool) (i32 : Nat → yM → Bool) (a1 : Nat) (M : yM) : Bool := z_l (z_add a1 1) fun v1 => z_f v1 fun w2 => i32 w2 M
theorem m_112_139_ok {fg : eG} {rc rs d : Nat} {f : eFr} {F : List eFr} {μ0 : eM} {a0 : Nat} {K : yM → Bool} {i32 : Nat → yM → Bool} (hG : yG fg y_T) (hk : ev_kd μ0 a0 = some 8) (p0 : 0 < a0) (hK : ∀ (M : yM) (μ : eM), K M = true → yR M μ → y_le μ0 μ → ex_fine fg rc rs (d + 4, (f.1, f.2.1, f.2.2.1, f.2.2.2), F, μ)) (h32 : ∀ (a1 : Nat) (M : yM) (μ : eM), i32 a1 M = true → yR M μ → y_le μ0 μ → ex_fine fg rc rs (d + 3, (112, 32, [some (eR a0), some (eI (zI a1))], []), f :: F, μ)) : ∀ (a1 : Nat) (M : yM) (μ : eM), m_112_139 a0 K i32 a1 M = true → yR M μ → y_le μ0 μ → ex_fine fg rc rs (d + 3, (112, 139, [some (eR a0), some (eI (zI a1))], []), f :: F, μ) := by
  intro a1 M μ h hR hl
  unfold m_112_139 at h
  obtain ⟨v1, ev1, h⟩ := z_l_ex h
  refine w_s (np := 142) (lv' := [some (eR a0), some (eI (zI v1))]) (st' := []) rfl (s_iinc (b := 1) rfl rfl ev1 rfl) rfl ?_
  clear ev1
  refine w_go (t1 := 32) rfl rfl ?_
  obtain ⟨w2, ew2, h⟩ := z_f_ex h
  subst ew2
  exact h32 _ M μ h hR hl
noncomputable def m_112_103 (a0 : Nat) (K : yM → Bool) (i32 : Nat → yM → Bool) (a1 s0 s1 s2 : Nat) (M : yM) : Bool := z_l (z_add s1 s0) fun v1 => y_wf M s2 8 7 v1 fun M2 => m_112_139 a0 K i32 a1 M2
theorem m_112_103_ok {fg : eG} {rc rs d : Nat} {f : eFr} {F : List eFr} {μ0 : eM} {a0 : Nat} {K : yM → Bool} {i32 : Nat → yM → Bool} (hG : yG fg y_T) (hk : ev_kd μ0 a0 = some 8) (p0 : 0 < a0) (hK : ∀ (M : yM) (μ : eM), K M = true → yR M μ → y_le μ0 μ → ex_fine fg rc rs (d + 4, (f.1, f.2.1, f.2.2.1, f.2.2.2), F, μ)) (h32 : ∀ (a1 : Nat) (M : yM) (μ : eM), i32 a1 M = true → yR M μ → y_le μ0 μ → ex_fine fg rc rs (d + 3, (112, 32, [some (eR a0), some (eI (zI a1))], []), f :: F, μ)) : ∀ (a1 s0 s1 s2 : Nat) (M : yM) (μ : eM), m_112_103 a0 K i32 a1 s0 s1 s2 M = true → yR M μ → y_le μ0 μ → 0 < s2 → ex_fine fg rc rs (d + 3, (112, 103, [some (eR a0), some (eI (zI a1))], [eI (zI s0), eI (zI s1), eR s2]), f :: F, μ) := by
  intro a1 s0 s1 s2 M μ h hR hl q2
  unfold m_112_103 at h
  obtain ⟨v1, ev1, h⟩ := z_l_ex h
  refine w_s (np := 104) (lv' := [some (eR a0), some (eI (zI a1))]) (st' := [eI (zI v1), eR s2]) rfl (s_iadd ev1) rfl ?_
  clear ev1
  obtain ⟨M2, μ3, h, k6, hR4, hl5, e7⟩ := y_wf_ex (ty := 0) h hR hl rfl (by decide)
  refine v_pe0 (np := 107) rfl rfl k6 e7 ?_
  clear k6 e7
  refine w_go (t1 := 139) rfl rfl ?_
  exact m_112_139_ok hG hk p0 hK h32 _ M2 μ3 h hR4 hl5
noncomputable def m_112_102 (a0 : Nat) (K : yM → Bool) (i32 : Nat → yM → Bool) (a1 s0 s1 : Nat) (M : yM) : Bool := m_112_103 a0 K i32 a1 0 s0 s1 M
theorem m_112_102_ok {fg : eG} {rc rs d : Nat} {f : eFr} {F : List eFr} {μ0 : eM} {a0 : Nat} {K : yM → Bool} {i32 : Nat → yM → Bool} (hG : yG fg y_T) (hk : ev_kd μ0 a0 = some 8) (p0 : 0 < a0) (hK : ∀ (M : yM) (μ : eM), K M = true → yR M μ → y_le μ0 μ → ex_fine fg rc rs (d + 4, (f.1, f.2.1, f.2.2.1, f.2.2.2), F, μ)) (h32 : ∀ (a1 : Nat) (M : yM) (μ : eM), i32 a1 M = true → yR M μ → y_le μ0 μ → ex_fine fg rc rs (d + 3, (112, 32, [some (eR a0), some (eI (zI a1))], []), f :: F, μ)) : ∀ (a1 s0 s1 : Nat) (M : yM) (μ : eM), m_112_102 a0 K i32 a1 s0 s1 M = true → yR M μ → y_le μ0 μ → 0 < s1 → ex_fine fg rc rs (d + 3, (112, 102, [some (eR a0), some (eI (zI a1))], [eI (zI s0), eR s1]), f :: F, μ) := by
  intro a1 s0 s1 M μ h hR hl q1
  unfold m_112_102 at h
  refine w_s (np := 103) (lv' := [some (eR a0), some (eI (zI a1))]) (st' := [eI (zI 0), eI (zI s0), eR s1]) rfl rfl rfl ?_
  exact m_112_103_ok hG hk p0 hK h32 _ _ _ _ M μ h hR hl q1
noncomputable def m_112_71 (a0 : Nat) (K : yM → Bool) (i32 : Nat → yM → Bool) (a1 s0 s1 s2 : Nat) (M : yM) : Bool := z_l (z_add s1 s0) fun v1 => y_wf M s2 8 12 v1 fun M2 => y_gf M2 a0 8 7 fun v8 => m_113 a0 a1 M2 fun v16 M11 => z_if (z_e0 v16) (m_112_102 a0 K i32 a1 v8 a0 M11) (z_l (z_div a1 3) fun v18 => m_117 a0 v18 M11 fun v24 M19 => z_if (z_l0 v24) (m_112_102 a0 K i32 a1 v8 a0 M19) (m_112_103 a0 K i32 a1 1 v8 a0 M19))
theorem m_112_71_ok {fg : eG} {rc rs d : Nat} {f : eFr} {F : List eFr} {μ0 : eM} {a0 : Nat} {K : yM → Bool} {i32 : Nat → yM → Bool} (hG : yG fg y_T) (hk : ev_kd μ0 a0 = some 8) (p0 : 0 < a0) (hK : ∀ (M : yM) (μ : eM), K M = true → yR M μ → y_le μ0 μ → ex_fine fg rc rs (d + 4, (f.1, f.2.1, f.2.2.1, f.2.2.2), F, μ)) (h32 : ∀ (a1 : Nat) (M : yM) (μ : eM), i32 a1 M = true → yR M μ → y_le μ0 μ → ex_fine fg rc rs (d + 3, (112, 32, [some (eR a0), some (eI (zI a1))], []), f :: F, μ)) : ∀ (a1 s0 s1 s2 : Nat) (M : yM) (μ : eM), m_112_71 a0 K i32 a1 s0 s1 s2 M = true → yR M μ → y_le μ0 μ → 0 < s2 → ex_fine fg rc rs (d + 3, (112, 71, [some (eR a0), some (eI (zI a1))], [eI (zI s0), eI (zI s1), eR s2]), f :: F, μ) := by
  intro a1 s0 s1 s2 M μ h hR hl q2
  unfold m_112_71 at h
  obtain ⟨v1, ev1, h⟩ := z_l_ex h
  refine w_s (np := 72) (lv' := [some (eR a0), some (eI (zI a1))]) (st' := [eI (zI v1), eR s2]) rfl (s_iadd ev1) rfl ?_
  clear ev1
  obtain ⟨M2, μ3, h, k6, hR4, hl5, e7⟩ := y_wf_ex (ty := 0) h hR hl rfl (by decide)
  refine v_pe0 (np := 75) rfl rfl k6 e7 ?_
  clear k6 e7
  refine w_s (np := 76) (lv' := [some (eR a0), some (eI (zI a1))]) (st' := [eR a0]) rfl (s_an rfl p0) rfl ?_
  refine w_s (np := 77) (lv' := [some (eR a0), some (eI (zI a1))]) (st' := [eR a0, eR a0]) rfl rfl rfl ?_
  obtain ⟨v8, h, k9, e10⟩ := y_gf_ok (ty := 0) h hR4 (by decide) rfl
  refine v_gf0 (np := 80) rfl rfl k9 e10 ?_
  clear k9 e10
  refine w_s (np := 81) (lv' := [some (eR a0), some (eI (zI a1))]) (st' := [eR a0, eI (zI v8), eR a0]) rfl (s_an rfl p0) rfl ?_
  refine w_s (np := 82) (lv' := [some (eR a0), some (eI (zI a1))]) (st' := [eI (zI a1), eR a0, eI (zI v8), eR a0]) rfl rfl rfl ?_
  refine w_cv (np := 85) (as := [eI (zI a1)]) (lv' := [some (eR a0), some (eI (zI a1))]) (rest := [eI (zI v8), eR a0]) rfl rfl rfl (Nat.ble_eq.mp rfl) rfl rfl rfl (hl5 _ _ hk) rfl ?_
  refine m_113_ok hG h hR4 (hl5 _ _ hk) p0 ?_
  intro v16 M11 μ12 h hR13 hl15
  have hl14 := y_le.tr hl5 hl15
  show ex_fine fg rc rs (d + 3, (112, 85, [some (eR a0), some (eI (zI a1))], [eI (zI v16), eI (zI v8), eR a0]), f :: F, μ12)
  rcases z_if_t h with ⟨g17, h⟩ | ⟨g17, h⟩
  · refine v_eq0_t (t1 := 102) rfl rfl g17 ?_
    exact m_112_102_ok hG hk p0 hK h32 _ _ _ M11 μ12 h hR13 hl14 p0
  · refine v_eq0_f (t1 := 102) rfl rfl g17 ?_
    refine w_s (np := 89) (lv' := [some (eR a0), some (eI (zI a1))]) (st' := [eR a0, eI (zI v8), eR a0]) rfl (s_an rfl p0) rfl ?_
    refine w_s (np := 90) (lv' := [some (eR a0), some (eI (zI a1))]) (st' := [eI (zI a1), eR a0, eI (zI v8), eR a0]) rfl rfl rfl ?_
    refine w_s (np := 91) (lv' := [some (eR a0), some (eI (zI a1))]) (st' := [eI (zI 3), eI (zI a1), eR a0, eI (zI v8), eR a0]) rfl rfl rfl ?_
    obtain ⟨v18, ev18, h⟩ := z_l_ex h
    refine w_s (np := 92) (lv' := [some (eR a0), some (eI (zI a1))]) (st' := [eI (zI v18), eR a0, eI (zI v8), eR a0]) rfl (s_idiv ⟨by decide, by decide⟩ ev18) rfl ?_
    clear ev18
    refine w_cv (np := 95) (as := [eI (zI v18)]) (lv' := [some (eR a0), some (eI (zI v18)), none, none]) (rest := [eI (zI v8), eR a0]) rfl rfl rfl (Nat.ble_eq.mp rfl) rfl rfl rfl (hl14 _ _ hk) rfl ?_
    refine m_117_ok hG h hR13 (hl14 _ _ hk) p0 ?_
    intro v24 M19 μ20 h hR21 hl23
    have hl22 := y_le.tr hl14 hl23
    show ex_fine fg rc rs (d + 3, (112, 95, [some (eR a0), some (eI (zI a1))], [eI (zI v24), eI (zI v8), eR a0]), f :: F, μ20)
    rcases z_if_t h with ⟨g25, h⟩ | ⟨g25, h⟩
    · refine v_lt0_t (t1 := 102) rfl rfl g25 ?_
      exact m_112_102_ok hG hk p0 hK h32 _ _ _ M19 μ20 h hR21 hl22 p0
    · refine v_lt0_f (t1 := 102) rfl rfl g25 ?_
      refine w_s (np := 99) (lv' := [some (eR a0), some (eI (zI a1))]) (st' := [eI (zI 1), eI (zI v8), eR a0]) rfl rfl rfl ?_
      refine w_go (t1 := 103) rfl rfl ?_
      exact m_112_103_ok hG hk p0 hK h32 _ _ _ _ M19 μ20 h hR21 hl22 p0
noncomputable def m_112_32b (a0 : Nat) (K : yM → Bool) (i32 : Nat → yM → Bool) (a1 : Nat) (M : yM) : Bool := y_gf M a0 8 6 fun v1 => f_if false (Nat.ble 1 v1) (y_gf M v1 2 7 fun v6 => z_l (z_mul 3 v6) fun v9 => z_if (z_lt a1 v9) (z_l (z_rem a1 3) fun v11 => z_if (z_eq v11 2) (y_gf M a0 8 12 fun v42 => y_gf M a0 8 0 fun v45 => f_if false (Nat.ble 1 v45) (y_lh 100 M v45 a1 fun v50 => z_if (z_l0 v50) (m_112_71 a0 K i32 a1 1 v42 a0 M) (m_112_71 a0 K i32 a1 0 v42 a0 M))) (m_113 a0 a1 M fun v18 M13 => z_if (z_e0 v18) (m_112_139 a0 K i32 a1 M13) (y_gf M13 a0 8 8 fun v20 => z_l (z_add v20 1) fun v23 => y_wf M13 a0 8 8 v23 fun M24 => y_gf M24 a0 8 0 fun v30 => f_if false (Nat.ble 1 v30) (y_lh 100 M24 v30 a1 fun v35 => m_114 a0 a1 v35 M24 fun M37 => m_112_139 a0 K i32 a1 M37)))) (K M))
noncomputable def m_112_32 (a0 : Nat) (K : yM → Bool) (n : Nat) : Nat → yM → Bool := @Nat.rec (fun _ => Nat → yM → Bool) (fun _ _ => false) (fun _ ih => m_112_32b a0 K ih) n
theorem m_112_32b_ok {fg : eG} {rc rs d : Nat} {f : eFr} {F : List eFr} {μ0 : eM} {a0 : Nat} {K : yM → Bool} {i32 : Nat → yM → Bool} (hG : yG fg y_T) (hk : ev_kd μ0 a0 = some 8) (p0 : 0 < a0) (hK : ∀ (M : yM) (μ : eM), K M = true → yR M μ → y_le μ0 μ → ex_fine fg rc rs (d + 4, (f.1, f.2.1, f.2.2.1, f.2.2.2), F, μ)) (h32 : ∀ (a1 : Nat) (M : yM) (μ : eM), i32 a1 M = true → yR M μ → y_le μ0 μ → ex_fine fg rc rs (d + 3, (112, 32, [some (eR a0), some (eI (zI a1))], []), f :: F, μ)) : ∀ (a1 : Nat) (M : yM) (μ : eM), m_112_32b a0 K i32 a1 M = true → yR M μ → y_le μ0 μ → ex_fine fg rc rs (d + 3, (112, 32, [some (eR a0), some (eI (zI a1))], []), f :: F, μ) := by
  intro a1 M μ h hR hl
  unfold m_112_32b at h
  refine w_s (np := 33) (lv' := [some (eR a0), some (eI (zI a1))]) (st' := [eI (zI a1)]) rfl rfl rfl ?_
  refine w_s (np := 34) (lv' := [some (eR a0), some (eI (zI a1))]) (st' := [eI (zI 3), eI (zI a1)]) rfl rfl rfl ?_
  refine w_s (np := 35) (lv' := [some (eR a0), some (eI (zI a1))]) (st' := [eR a0, eI (zI 3), eI (zI a1)]) rfl (s_an rfl p0) rfl ?_
  obtain ⟨v1, h, k2, e3⟩ := y_gf_ok (ty := 3) h hR (by decide) rfl
  obtain ⟨g4, h⟩ := f_if_ok h
  have q5 : 0 < v1 := Nat.ble_eq.mp g4
  refine v_gf3 (np := 38) rfl rfl k2 e3 ?_
  clear k2 e3
  obtain ⟨v6, h, k7, e8⟩ := y_gf_ok (ty := 0) h hR (by decide) rfl
  refine v_gf0 (np := 41) rfl rfl k7 e8 ?_
  clear k7 e8
  obtain ⟨v9, ev9, h⟩ := z_l_ex h
  refine w_s (np := 42) (lv' := [some (eR a0), some (eI (zI a1))]) (st' := [eI (zI v9), eI (zI a1)]) rfl (s_imul ev9) rfl ?_
  clear ev9
  rcases z_if_t h with ⟨g10, h⟩ | ⟨g10, h⟩
  · refine v_ge_f (t1 := 145) rfl rfl g10 ?_
    refine w_s (np := 46) (lv' := [some (eR a0), some (eI (zI a1))]) (st' := [eI (zI a1)]) rfl rfl rfl ?_
    refine w_s (np := 47) (lv' := [some (eR a0), some (eI (zI a1))]) (st' := [eI (zI 3), eI (zI a1)]) rfl rfl rfl ?_
    obtain ⟨v11, ev11, h⟩ := z_l_ex h
    refine w_s (np := 48) (lv' := [some (eR a0), some (eI (zI a1))]) (st' := [eI (zI v11)]) rfl (s_irem ⟨by decide, by decide⟩ ev11) rfl ?_
    clear ev11
    refine w_s (np := 49) (lv' := [some (eR a0), some (eI (zI a1))]) (st' := [eI (zI 2), eI (zI v11)]) rfl rfl rfl ?_
    rcases z_if_t h with ⟨g12, h⟩ | ⟨g12, h⟩
    · refine v_ne_f (t1 := 110) rfl rfl g12 ?_
      refine w_s (np := 53) (lv' := [some (eR a0), some (eI (zI a1))]) (st' := [eR a0]) rfl (s_an rfl p0) rfl ?_
      refine w_s (np := 54) (lv' := [some (eR a0), some (eI (zI a1))]) (st' := [eR a0, eR a0]) rfl rfl rfl ?_
      obtain ⟨v42, h, k43, e44⟩ := y_gf_ok (ty := 0) h hR (by decide) rfl
      refine v_gf0 (np := 57) rfl rfl k43 e44 ?_
      clear k43 e44
      refine w_s (np := 58) (lv' := [some (eR a0), some (eI (zI a1))]) (st' := [eR a0, eI (zI v42), eR a0]) rfl (s_an rfl p0) rfl ?_
      obtain ⟨v45, h, k46, e47⟩ := y_gf_ok (ty := 3) h hR (by decide) rfl
      obtain ⟨g48, h⟩ := f_if_ok h
      have q49 : 0 < v45 := Nat.ble_eq.mp g48
      refine v_gf3 (np := 61) rfl rfl k46 e47 ?_
      clear k46 e47
      refine w_s (np := 62) (lv' := [some (eR a0), some (eI (zI a1))]) (st' := [eI (zI a1), eR v45, eI (zI v42), eR a0]) rfl rfl rfl ?_
      obtain ⟨v50, h, k51⟩ := y_lh_ok (ty := 0) h hR hG (by decide) rfl (by decide)
      refine v_la (np := 63) rfl rfl k51 ?_
      clear k51
      rcases z_if_t h with ⟨g52, h⟩ | ⟨g52, h⟩
      · refine v_ge0_f (t1 := 70) rfl rfl g52 ?_
        refine w_s (np := 67) (lv' := [some (eR a0), some (eI (zI a1))]) (st' := [eI (zI 1), eI (zI v42), eR a0]) rfl rfl rfl ?_
        refine w_go (t1 := 71) rfl rfl ?_
        exact m_112_71_ok hG hk p0 hK h32 _ _ _ _ M μ h hR hl p0
      · refine v_ge0_t (t1 := 70) rfl rfl g52 ?_
        refine w_s (np := 71) (lv' := [some (eR a0), some (eI (zI a1))]) (st' := [eI (zI 0), eI (zI v42), eR a0]) rfl rfl rfl ?_
        exact m_112_71_ok hG hk p0 hK h32 _ _ _ _ M μ h hR hl p0
    · refine v_ne_t (t1 := 110) rfl rfl g12 ?_
      refine w_s (np := 111) (lv' := [some (eR a0), some (eI (zI a1))]) (st' := [eR a0]) rfl (s_an rfl p0) rfl ?_
      refine w_s (np := 112) (lv' := [some (eR a0), some (eI (zI a1))]) (st' := [eI (zI a1), eR a0]) rfl rfl rfl ?_
      refine w_cv (np := 115) (as := [eI (zI a1)]) (lv' := [some (eR a0), some (eI (zI a1))]) (rest := []) rfl rfl rfl (Nat.ble_eq.mp rfl) rfl rfl rfl (hl _ _ hk) rfl ?_
      refine m_113_ok hG h hR (hl _ _ hk) p0 ?_
      intro v18 M13 μ14 h hR15 hl17
      have hl16 := y_le.tr hl hl17
      show ex_fine fg rc rs (d + 3, (112, 115, [some (eR a0), some (eI (zI a1))], [eI (zI v18)]), f :: F, μ14)
      rcases z_if_t h with ⟨g19, h⟩ | ⟨g19, h⟩
      · refine v_eq0_t (t1 := 139) rfl rfl g19 ?_
        exact m_112_139_ok hG hk p0 hK h32 _ M13 μ14 h hR15 hl16
      · refine v_eq0_f (t1 := 139) rfl rfl g19 ?_
        refine w_s (np := 119) (lv' := [some (eR a0), some (eI (zI a1))]) (st' := [eR a0]) rfl (s_an rfl p0) rfl ?_
        refine w_s (np := 120) (lv' := [some (eR a0), some (eI (zI a1))]) (st' := [eR a0, eR a0]) rfl rfl rfl ?_
        obtain ⟨v20, h, k21, e22⟩ := y_gf_ok (ty := 0) h hR15 (by decide) rfl
        refine v_gf0 (np := 123) rfl rfl k21 e22 ?_
        clear k21 e22
        refine w_s (np := 124) (lv' := [some (eR a0), some (eI (zI a1))]) (st' := [eI (zI 1), eI (zI v20), eR a0]) rfl rfl rfl ?_
        obtain ⟨v23, ev23, h⟩ := z_l_ex h
        refine w_s (np := 125) (lv' := [some (eR a0), some (eI (zI a1))]) (st' := [eI (zI v23), eR a0]) rfl (s_iadd ev23) rfl ?_
        clear ev23
        obtain ⟨M24, μ25, h, k28, hR26, hl27, e29⟩ := y_wf_ex (ty := 0) h hR15 hl16 rfl (by decide)
        refine v_pe0 (np := 128) rfl rfl k28 e29 ?_
        clear k28 e29
        refine w_s (np := 129) (lv' := [some (eR a0), some (eI (zI a1))]) (st' := [eR a0]) rfl (s_an rfl p0) rfl ?_
        refine w_s (np := 130) (lv' := [some (eR a0), some (eI (zI a1))]) (st' := [eI (zI a1), eR a0]) rfl rfl rfl ?_
        refine w_s (np := 131) (lv' := [some (eR a0), some (eI (zI a1))]) (st' := [eR a0, eI (zI a1), eR a0]) rfl (s_an rfl p0) rfl ?_
        obtain ⟨v30, h, k31, e32⟩ := y_gf_ok (ty := 3) h hR26 (by decide) rfl
        obtain ⟨g33, h⟩ := f_if_ok h
        have q34 : 0 < v30 := Nat.ble_eq.mp g33
        refine v_gf3 (np := 134) rfl rfl k31 e32 ?_
        clear k31 e32
        refine w_s (np := 135) (lv' := [some (eR a0), some (eI (zI a1))]) (st' := [eI (zI a1), eR v30, eI (zI a1), eR a0]) rfl rfl rfl ?_
        obtain ⟨v35, h, k36⟩ := y_lh_ok (ty := 0) h hR26 hG (by decide) rfl (by decide)
        refine v_la (np := 136) rfl rfl k36 ?_
        clear k36
        refine w_cv (np := 139) (as := [eI (zI a1), eI (zI v35)]) (lv' := [some (eR a0), some (eI (zI a1)), some (eI (zI v35))]) (rest := []) rfl rfl rfl (Nat.ble_eq.mp rfl) rfl rfl rfl (hl27 _ _ hk) rfl ?_
        refine m_114_ok hG h hR26 (hl27 _ _ hk) p0 ?_
        intro M37 μ38 h hR39 hl41
        have hl40 := y_le.tr hl27 hl41
        show ex_fine fg rc rs (d + 3, (112, 139, [some (eR a0), some (eI (zI a1))], []), f :: F, μ38)
        exact m_112_139_ok hG hk p0 hK h32 _ M37 μ38 h hR39 hl40
  · refine v_ge_t (t1 := 145) rfl rfl g10 ?_
    exact v_rv rfl rfl (hK _ _ h hR hl)
theorem m_112_32_ok {fg : eG} {rc rs d : Nat} {f : eFr} {F : List eFr} {μ0 : eM} {a0 : Nat} {K : yM → Bool} (hG : yG fg y_T) (hk : ev_kd μ0 a0 = some 8) (p0 : 0 < a0) (hK : ∀ (M : yM) (μ : eM), K M = true → yR M μ → y_le μ0 μ → ex_fine fg rc rs (d + 4, (f.1, f.2.1, f.2.2.1, f.2.2.2), F, μ)) : ∀ n : Nat, ∀ (a1 : Nat) (M : yM) (μ : eM), m_112_32 a0 K n a1 M = true → yR M μ → y_le μ0 μ → ex_fine fg rc rs (d + 3, (112, 32, [some (eR a0), some (eI (zI a1))], []), f :: F, μ) := by
  intro n
  induction n with
  | zero =>
    intro a1 M μ h hR hl
    exact absurd h Bool.false_ne_true
  | succ n ih =>
    intro a1 M μ h hR hl
    exact m_112_32b_ok hG hk p0 hK ih a1 M μ h hR hl
/-! RhombInflator$Sides.countSides -/
noncomputable def m_112 (a0 : Nat) (M : yM) (K : yM → Bool) : Bool := y_wf M a0 8 7 0 fun M1 => y_wf M1 a0 8 8 0 fun M7 => y_wf M7 a0 8 9 0 fun M13 => y_wf M13 a0 8 10 0 fun M19 => y_wf M19 a0 8 11 0 fun M25 => y_wf M25 a0 8 12 0 fun M31 => m_112_32 a0 K 100000 0 M31
theorem m_112_ok {fg : eG} {rc rs d : Nat} {f : eFr} {F : List eFr} {M : yM} {μ0 : eM} {a0 : Nat} {K : yM → Bool} (hG : yG fg y_T) (h : m_112 a0 M K = true) (hR : yR M μ0) (hk : ev_kd μ0 a0 = some 8) (p0 : 0 < a0) (hK : ∀ (M : yM) (μ : eM), K M = true → yR M μ → y_le μ0 μ → ex_fine fg rc rs (d + 4, (f.1, f.2.1, f.2.2.1, f.2.2.2), F, μ)) : ex_fine fg rc rs (d + 3, (112, 0, [some (eR a0), none], []), f :: F, μ0) := by
  unfold m_112 at h
  have hl := y_le_r μ0
  refine w_s (np := 1) (lv' := [some (eR a0), none]) (st' := [eR a0]) rfl (s_an rfl p0) rfl ?_
  refine w_s (np := 2) (lv' := [some (eR a0), none]) (st' := [eI (zI 0), eR a0]) rfl rfl rfl ?_
  obtain ⟨M1, μ2, h, k5, hR3, hl4, e6⟩ := y_wf_ex (ty := 0) h hR hl rfl (by decide)
  refine v_pe0 (np := 5) rfl rfl k5 e6 ?_
  clear k5 e6
  refine w_s (np := 6) (lv' := [some (eR a0), none]) (st' := [eR a0]) rfl (s_an rfl p0) rfl ?_
  refine w_s (np := 7) (lv' := [some (eR a0), none]) (st' := [eI (zI 0), eR a0]) rfl rfl rfl ?_
  obtain ⟨M7, μ8, h, k11, hR9, hl10, e12⟩ := y_wf_ex (ty := 0) h hR3 hl4 rfl (by decide)
  refine v_pe0 (np := 10) rfl rfl k11 e12 ?_
  clear k11 e12
  refine w_s (np := 11) (lv' := [some (eR a0), none]) (st' := [eR a0]) rfl (s_an rfl p0) rfl ?_
  refine w_s (np := 12) (lv' := [some (eR a0), none]) (st' := [eI (zI 0), eR a0]) rfl rfl rfl ?_
  obtain ⟨M13, μ14, h, k17, hR15, hl16, e18⟩ := y_wf_ex (ty := 0) h hR9 hl10 rfl (by decide)
  refine v_pe0 (np := 15) rfl rfl k17 e18 ?_
  clear k17 e18
  refine w_s (np := 16) (lv' := [some (eR a0), none]) (st' := [eR a0]) rfl (s_an rfl p0) rfl ?_
  refine w_s (np := 17) (lv' := [some (eR a0), none]) (st' := [eI (zI 0), eR a0]) rfl rfl rfl ?_
  obtain ⟨M19, μ20, h, k23, hR21, hl22, e24⟩ := y_wf_ex (ty := 0) h hR15 hl16 rfl (by decide)
  refine v_pe0 (np := 20) rfl rfl k23 e24 ?_
  clear k23 e24
  refine w_s (np := 21) (lv' := [some (eR a0), none]) (st' := [eR a0]) rfl (s_an rfl p0) rfl ?_
  refine w_s (np := 22) (lv' := [some (eR a0), none]) (st' := [eI (zI 0), eR a0]) rfl rfl rfl ?_
  obtain ⟨M25, μ26, h, k29, hR27, hl28, e30⟩ := y_wf_ex (ty := 0) h hR21 hl22 rfl (by decide)
  refine v_pe0 (np := 25) rfl rfl k29 e30 ?_
  clear k29 e30
  refine w_s (np := 26) (lv' := [some (eR a0), none]) (st' := [eR a0]) rfl (s_an rfl p0) rfl ?_
  refine w_s (np := 27) (lv' := [some (eR a0), none]) (st' := [eI (zI 0), eR a0]) rfl rfl rfl ?_
  obtain ⟨M31, μ32, h, k35, hR33, hl34, e36⟩ := y_wf_ex (ty := 0) h hR27 hl28 rfl (by decide)
  refine v_pe0 (np := 30) rfl rfl k35 e36 ?_
  clear k35 e36
  refine w_s (np := 31) (lv' := [some (eR a0), none]) (st' := [eI (zI 0)]) rfl rfl rfl ?_
  refine w_s (np := 32) (lv' := [some (eR a0), some (eI (zI 0))]) (st' := []) rfl rfl rfl ?_
  exact m_112_32_ok hG hk p0 hK 100000 _ M31 μ32 h hR33 hl34
noncomputable def m_107_10b (a0 : Nat) (K : yM → Bool) (i10 : Nat → yM → Bool) (a1 : Nat) (M : yM) : Bool := y_gf M a0 8 6 fun v1 => f_if false (Nat.ble 1 v1) (y_gf M v1 2 7 fun v6 => z_l (z_mul 3 v6) fun v9 => z_if (z_lt a1 v9) (m_108 a0 a1 M fun M16 => z_l (z_add a1 1) fun v21 => z_f v21 fun w22 => i10 w22 M16) (m_112 a0 M fun M11 => K M11))
noncomputable def m_107_10 (a0 : Nat) (K : yM → Bool) (n : Nat) : Nat → yM → Bool := @Nat.rec (fun _ => Nat → yM → Bool) (fun _ _ => false) (fun _ ih => m_107_10b a0 K ih) n
theorem m_107_10b_ok {fg : eG} {rc rs d : Nat} {f : eFr} {F : List eFr} {μ0 : eM} {a0 : Nat} {K : yM → Bool} {i10 : Nat → yM → Bool} (hG : yG fg y_T) (hk : ev_kd μ0 a0 = some 8) (p0 : 0 < a0) (hK : ∀ (M : yM) (μ : eM), K M = true → yR M μ → y_le μ0 μ → ex_fine fg rc rs (d + 5, (f.1, f.2.1, f.2.2.1, f.2.2.2), F, μ)) (h10 : ∀ (a1 : Nat) (M : yM) (μ : eM), i10 a1 M = true → yR M μ → y_le μ0 μ → ex_fine fg rc rs (d + 4, (107, 10, [some (eR a0), some (eI (zI a1))], []), f :: F, μ)) : ∀ (a1 : Nat) (M : yM) (μ : eM), m_107_10b a0 K i10 a1 M = true → yR M μ → y_le μ0 μ → ex_fine fg rc rs (d + 4, (107, 10, [some (eR a0), some (eI (zI a1))], []), f :: F, μ) := by
  intro a1 M μ h hR hl
  unfold m_107_10b at h
  refine w_s (np := 11) (lv' := [some (eR a0), some (eI (zI a1))]) (st' := [eI (zI a1)]) rfl rfl rfl ?_
  refine w_s (np := 12) (lv' := [some (eR a0), some (eI (zI a1))]) (st' := [eI (zI 3), eI (zI a1)]) rfl rfl rfl ?_
  refine w_s (np := 13) (lv' := [some (eR a0), some (eI (zI a1))]) (st' := [eR a0, eI (zI 3), eI (zI a1)]) rfl (s_an rfl p0) rfl ?_
  obtain ⟨v1, h, k2, e3⟩ := y_gf_ok (ty := 3) h hR (by decide) rfl
  obtain ⟨g4, h⟩ := f_if_ok h
  have q5 : 0 < v1 := Nat.ble_eq.mp g4
  refine v_gf3 (np := 16) rfl rfl k2 e3 ?_
  clear k2 e3
  obtain ⟨v6, h, k7, e8⟩ := y_gf_ok (ty := 0) h hR (by decide) rfl
  refine v_gf0 (np := 19) rfl rfl k7 e8 ?_
  clear k7 e8
  obtain ⟨v9, ev9, h⟩ := z_l_ex h
  refine w_s (np := 20) (lv' := [some (eR a0), some (eI (zI a1))]) (st' := [eI (zI v9), eI (zI a1)]) rfl (s_imul ev9) rfl ?_
  clear ev9
  rcases z_if_t h with ⟨g10, h⟩ | ⟨g10, h⟩
  · refine v_ge_f (t1 := 34) rfl rfl g10 ?_
    refine w_s (np := 24) (lv' := [some (eR a0), some (eI (zI a1))]) (st' := [eR a0]) rfl (s_an rfl p0) rfl ?_
    refine w_s (np := 25) (lv' := [some (eR a0), some (eI (zI a1))]) (st' := [eI (zI a1), eR a0]) rfl rfl rfl ?_
    refine w_cv (np := 28) (as := [eI (zI a1)]) (lv' := [some (eR a0), some (eI (zI a1)), none, none, none]) (rest := []) rfl rfl rfl (Nat.ble_eq.mp rfl) rfl rfl rfl (hl _ _ hk) rfl ?_
    refine m_108_ok hG h hR (hl _ _ hk) p0 ?_
    intro M16 μ17 h hR18 hl20
    have hl19 := y_le.tr hl hl20
    show ex_fine fg rc rs (d + 4, (107, 28, [some (eR a0), some (eI (zI a1))], []), f :: F, μ17)
    obtain ⟨v21, ev21, h⟩ := z_l_ex h
    refine w_s (np := 31) (lv' := [some (eR a0), some (eI (zI v21))]) (st' := []) rfl (s_iinc (b := 1) rfl rfl ev21 rfl) rfl ?_
    clear ev21
    refine w_go (t1 := 10) rfl rfl ?_
    obtain ⟨w22, ew22, h⟩ := z_f_ex h
    subst ew22
    exact h10 _ M16 μ17 h hR18 hl19
  · refine v_ge_t (t1 := 34) rfl rfl g10 ?_
    refine w_s (np := 35) (lv' := [some (eR a0), some (eI (zI a1))]) (st' := [eR a0]) rfl (s_an rfl p0) rfl ?_
    refine w_cv (np := 38) (as := []) (lv' := [some (eR a0), none]) (rest := []) rfl rfl rfl (Nat.ble_eq.mp rfl) rfl rfl rfl (hl _ _ hk) rfl ?_
    refine m_112_ok hG h hR (hl _ _ hk) p0 ?_
    intro M11 μ12 h hR13 hl15
    have hl14 := y_le.tr hl hl15
    show ex_fine fg rc rs (d + 4, (107, 38, [some (eR a0), some (eI (zI a1))], []), f :: F, μ12)
    exact v_rv rfl rfl (hK _ _ h hR13 hl14)
theorem m_107_10_ok {fg : eG} {rc rs d : Nat} {f : eFr} {F : List eFr} {μ0 : eM} {a0 : Nat} {K : yM → Bool} (hG : yG fg y_T) (hk : ev_kd μ0 a0 = some 8) (p0 : 0 < a0) (hK : ∀ (M : yM) (μ : eM), K M = true → yR M μ → y_le μ0 μ → ex_fine fg rc rs (d + 5, (f.1, f.2.1, f.2.2.1, f.2.2.2), F, μ)) : ∀ n : Nat, ∀ (a1 : Nat) (M : yM) (μ : eM), m_107_10 a0 K n a1 M = true → yR M μ → y_le μ0 μ → ex_fine fg rc rs (d + 4, (107, 10, [some (eR a0), some (eI (zI a1))], []), f :: F, μ) := by
  intro n
  induction n with
  | zero =>
    intro a1 M μ h hR hl
    exact absurd h Bool.false_ne_true
  | succ n ih =>
    intro a1 M μ h hR hl
    exact m_107_10b_ok hG hk p0 hK ih a1 M μ h hR hl
/-! RhombInflator$Sides.fill -/
noncomputable def m_107 (a0 : Nat) (M : yM) (K : yM → Bool) : Bool := y_gf M a0 8 1 fun v1 => f_if false (Nat.ble 1 v1) (m_365 v1 4294967295 M fun M6 => m_107_10 a0 K 100000 0 M6)
theorem m_107_ok {fg : eG} {rc rs d : Nat} {f : eFr} {F : List eFr} {M : yM} {μ0 : eM} {a0 : Nat} {K : yM → Bool} (hG : yG fg y_T) (h : m_107 a0 M K = true) (hR : yR M μ0) (hk : ev_kd μ0 a0 = some 8) (p0 : 0 < a0) (hK : ∀ (M : yM) (μ : eM), K M = true → yR M μ → y_le μ0 μ → ex_fine fg rc rs (d + 5, (f.1, f.2.1, f.2.2.1, f.2.2.2), F, μ)) : ex_fine fg rc rs (d + 4, (107, 0, [some (eR a0), none], []), f :: F, μ0) := by
  unfold m_107 at h
  have hl := y_le_r μ0
  refine w_s (np := 1) (lv' := [some (eR a0), none]) (st' := [eR a0]) rfl (s_an rfl p0) rfl ?_
  obtain ⟨v1, h, k2, e3⟩ := y_gf_ok (ty := 3) h hR (by decide) rfl
  obtain ⟨g4, h⟩ := f_if_ok h
  have q5 : 0 < v1 := Nat.ble_eq.mp g4
  refine v_gf3 (np := 4) rfl rfl k2 e3 ?_
  clear k2 e3
  refine w_s (np := 5) (lv' := [some (eR a0), none]) (st' := [eI (zI 4294967295), eR v1]) rfl rfl rfl ?_
  refine w_cs (np := 8) (as := [eR v1, eI (zI 4294967295)]) (lv' := [some (eR v1), some (eI (zI 4294967295)), none, none]) (rest := []) rfl rfl rfl (Nat.ble_eq.mp rfl) rfl rfl rfl rfl ?_
  refine m_365_ok hG h hR q5 ?_
  intro M6 μ7 h hR8 hl10
  have hl9 := y_le.tr hl hl10
  show ex_fine fg rc rs (d + 4, (107, 8, [some (eR a0), none], []), f :: F, μ7)
  refine w_s (np := 9) (lv' := [some (eR a0), none]) (st' := [eI (zI 0)]) rfl rfl rfl ?_
  refine w_s (np := 10) (lv' := [some (eR a0), some (eI (zI 0))]) (st' := []) rfl rfl rfl ?_
  exact m_107_10_ok hG hk p0 hK 100000 _ M6 μ7 h hR8 hl9
noncomputable def m_14_90b (a0 a1 : Nat) (K : yM → Bool) (i55 : Nat → yM → Bool) (i90 : Nat → Nat → yM → Bool) (a2 a3 : Nat) (M : yM) : Bool := y_gf M a0 1 3 fun v1 => f_if false (Nat.ble 1 v1) (y_gf M v1 0 9 fun v6 => z_if (z_lt a3 v6) (y_gf M a0 1 3 fun v12 => f_if false (Nat.ble 1 v12) (y_is M v12 0 (m_9 v12 a3 M fun v22 M17 => m_15 a0 a1 v22 a2 M17 fun M24 => z_l (z_add a3 1) fun v29 => z_f v29 fun w30 => i90 a2 w30 M24))) (z_l (z_add a2 1) fun v10 => z_f v10 fun w11 => i55 w11 M))
noncomputable def m_14_90 (a0 a1 : Nat) (K : yM → Bool) (i55 : Nat → yM → Bool) (n : Nat) : Nat → Nat → yM → Bool := @Nat.rec (fun _ => Nat → Nat → yM → Bool) (fun _ _ _ => false) (fun _ ih => m_14_90b a0 a1 K i55 ih) n
theorem m_14_90b_ok {fg : eG} {rc rs d : Nat} {f : eFr} {F : List eFr} {μ0 : eM} {a0 a1 : Nat} {K : yM → Bool} {i55 : Nat → yM → Bool} {i90 : Nat → Nat → yM → Bool} (hG : yG fg y_T) (hk : ev_kd μ0 a0 = some 1) (p0 : 0 < a0) (hK : ∀ (M : yM) (μ : eM), K M = true → yR M μ → y_le μ0 μ → ex_fine fg rc rs (d + 6, (f.1, f.2.1, f.2.2.1, f.2.2.2), F, μ)) (h55 : ∀ (a2 : Nat) (x3 : Option eV) (M : yM) (μ : eM), i55 a2 M = true → yR M μ → y_le μ0 μ → ex_fine fg rc rs (d + 5, (14, 55, [some (eR a0), some (eI (zI a1)), some (eI (zI a2)), x3], []), f :: F, μ)) (h90 : ∀ (a2 a3 : Nat) (M : yM) (μ : eM), i90 a2 a3 M = true → yR M μ → y_le μ0 μ → ex_fine fg rc rs (d + 5, (14, 90, [some (eR a0), some (eI (zI a1)), some (eI (zI a2)), some (eI (zI a3))], []), f :: F, μ)) : ∀ (a2 a3 : Nat) (M : yM) (μ : eM), m_14_90b a0 a1 K i55 i90 a2 a3 M = true → yR M μ → y_le μ0 μ → ex_fine fg rc rs (d + 5, (14, 90, [some (eR a0), some (eI (zI a1)), some (eI (zI a2)), some (eI (zI a3))], []), f :: F, μ) := by
  intro a2 a3 M μ h hR hl
  unfold m_14_90b at h
  refine w_s (np := 91) (lv' := [some (eR a0), some (eI (zI a1)), some (eI (zI a2)), some (eI (zI a3))]) (st' := [eI (zI a3)]) rfl rfl rfl ?_
  refine w_s (np := 92) (lv' := [some (eR a0), some (eI (zI a1)), some (eI (zI a2)), some (eI (zI a3))]) (st' := [eR a0, eI (zI a3)]) rfl (s_an rfl p0) rfl ?_
  obtain ⟨v1, h, k2, e3⟩ := y_gf_ok (ty := 3) h hR (by decide) rfl
  obtain ⟨g4, h⟩ := f_if_ok h
  have q5 : 0 < v1 := Nat.ble_eq.mp g4
  refine v_gf3 (np := 95) rfl rfl k2 e3 ?_
  clear k2 e3
  obtain ⟨v6, h, k7, e8⟩ := y_gf_ok (ty := 0) h hR (by decide) rfl
  refine v_gf0 (np := 98) rfl rfl k7 e8 ?_
  clear k7 e8
  rcases z_if_t h with ⟨g9, h⟩ | ⟨g9, h⟩
  · refine v_ge_f (t1 := 121) rfl rfl g9 ?_
    refine w_s (np := 102) (lv' := [some (eR a0), some (eI (zI a1)), some (eI (zI a2)), some (eI (zI a3))]) (st' := [eR a0]) rfl (s_an rfl p0) rfl ?_
    refine w_s (np := 103) (lv' := [some (eR a0), some (eI (zI a1)), some (eI (zI a2)), some (eI (zI a3))]) (st' := [eI (zI a1), eR a0]) rfl rfl rfl ?_
    refine w_s (np := 104) (lv' := [some (eR a0), some (eI (zI a1)), some (eI (zI a2)), some (eI (zI a3))]) (st' := [eR a0, eI (zI a1), eR a0]) rfl (s_an rfl p0) rfl ?_
    obtain ⟨v12, h, k13, e14⟩ := y_gf_ok (ty := 3) h hR (by decide) rfl
    obtain ⟨g15, h⟩ := f_if_ok h
    have q16 : 0 < v12 := Nat.ble_eq.mp g15
    refine v_gf3 (np := 107) rfl rfl k13 e14 ?_
    clear k13 e14
    refine w_s (np := 108) (lv' := [some (eR a0), some (eI (zI a1)), some (eI (zI a2)), some (eI (zI a3))]) (st' := [eI (zI a3), eR v12, eI (zI a1), eR a0]) rfl rfl rfl ?_
    obtain ⟨k23, h⟩ := y_is_ok h hR
    refine w_cv (np := 111) (as := [eI (zI a3)]) (lv' := [some (eR v12), some (eI (zI a3))]) (rest := [eI (zI a1), eR a0]) rfl rfl rfl (Nat.ble_eq.mp rfl) rfl rfl rfl k23 rfl ?_
    refine m_9_ok hG h hR k23 q16 ?_
    intro v22 M17 μ18 h hR19 hl21
    have hl20 := y_le.tr hl hl21
    show ex_fine fg rc rs (d + 5, (14, 111, [some (eR a0), some (eI (zI a1)), some (eI (zI a2)), some (eI (zI a3))], [eI (zI v22), eI (zI a1), eR a0]), f :: F, μ18)
    refine w_s (np := 112) (lv' := [some (eR a0), some (eI (zI a1)), some (eI (zI a2)), some (eI (zI a3))]) (st' := [eI (zI a2), eI (zI v22), eI (zI a1), eR a0]) rfl rfl rfl ?_
    refine w_cv (np := 115) (as := [eI (zI a1), eI (zI v22), eI (zI a2)]) (lv' := [some (eR a0), some (eI (zI a1)), some (eI (zI v22)), some (eI (zI a2)), none]) (rest := []) rfl rfl rfl (Nat.ble_eq.mp rfl) rfl rfl rfl (hl20 _ _ hk) rfl ?_
    refine m_15_ok hG h hR19 (hl20 _ _ hk) p0 ?_
    intro M24 μ25 h hR26 hl28
    have hl27 := y_le.tr hl20 hl28
    show ex_fine fg rc rs (d + 5, (14, 115, [some (eR a0), some (eI (zI a1)), some (eI (zI a2)), some (eI (zI a3))], []), f :: F, μ25)
    obtain ⟨v29, ev29, h⟩ := z_l_ex h
    refine w_s (np := 118) (lv' := [some (eR a0), some (eI (zI a1)), some (eI (zI a2)), some (eI (zI v29))]) (st' := []) rfl (s_iinc (b := 1) rfl rfl ev29 rfl) rfl ?_
    clear ev29
    refine w_go (t1 := 90) rfl rfl ?_
    obtain ⟨w30, ew30, h⟩ := z_f_ex h
    subst ew30
    exact h90 _ _ M24 μ25 h hR26 hl27
  · refine v_ge_t (t1 := 121) rfl rfl g9 ?_
    obtain ⟨v10, ev10, h⟩ := z_l_ex h
    refine w_s (np := 124) (lv' := [some (eR a0), some (eI (zI a1)), some (eI (zI v10)), some (eI (zI a3))]) (st' := []) rfl (s_iinc (b := 1) rfl rfl ev10 rfl) rfl ?_
    clear ev10
    refine w_go (t1 := 55) rfl rfl ?_
    obtain ⟨w11, ew11, h⟩ := z_f_ex h
    subst ew11
    exact h55 _ _ M μ h hR hl
theorem m_14_90_ok {fg : eG} {rc rs d : Nat} {f : eFr} {F : List eFr} {μ0 : eM} {a0 a1 : Nat} {K : yM → Bool} {i55 : Nat → yM → Bool} (hG : yG fg y_T) (hk : ev_kd μ0 a0 = some 1) (p0 : 0 < a0) (hK : ∀ (M : yM) (μ : eM), K M = true → yR M μ → y_le μ0 μ → ex_fine fg rc rs (d + 6, (f.1, f.2.1, f.2.2.1, f.2.2.2), F, μ)) (h55 : ∀ (a2 : Nat) (x3 : Option eV) (M : yM) (μ : eM), i55 a2 M = true → yR M μ → y_le μ0 μ → ex_fine fg rc rs (d + 5, (14, 55, [some (eR a0), some (eI (zI a1)), some (eI (zI a2)), x3], []), f :: F, μ)) : ∀ n : Nat, ∀ (a2 a3 : Nat) (M : yM) (μ : eM), m_14_90 a0 a1 K i55 n a2 a3 M = true → yR M μ → y_le μ0 μ → ex_fine fg rc rs (d + 5, (14, 90, [some (eR a0), some (eI (zI a1)), some (eI (zI a2)), some (eI (zI a3))], []), f :: F, μ) := by
  intro n
  induction n with
  | zero =>
    intro a2 a3 M μ h hR hl
    exact absurd h Bool.false_ne_true
  | succ n ih =>
    intro a2 a3 M μ h hR hl
    exact m_14_90b_ok hG hk p0 hK h55 ih a2 a3 M μ h hR hl
noncomputable def m_14_55b (a0 a1 : Nat) (K : yM → Bool) (i55 : Nat → yM → Bool) (a2 : Nat) (M : yM) : Bool := z_if (z_lt 5 a2) (K M) (y_gf M a0 1 3 fun v2 => f_if false (Nat.ble 1 v2) (y_gf M v2 0 5 fun v7 => f_if false (Nat.ble 1 v7) (y_is M v7 2 (m_30 v7 a2 M fun M12 => y_gf M12 a0 1 3 fun v18 => f_if false (Nat.ble 1 v18) (y_gf M12 v18 0 6 fun v23 => f_if false (Nat.ble 1 v23) (y_is M12 v23 8 (m_107 v23 M12 fun M28 => y_gf M28 a0 1 3 fun v34 => f_if false (Nat.ble 1 v34) (y_is M28 v34 0 (m_2 v34 M28 fun M39 => m_14_90 a0 a1 K i55 100000 a2 0 M39)))))))))
noncomputable def m_14_55 (a0 a1 : Nat) (K : yM → Bool) (n : Nat) : Nat → yM → Bool := @Nat.rec (fun _ => Nat → yM → Bool) (fun _ _ => false) (fun _ ih => m_14_55b a0 a1 K ih) n
theorem m_14_55b_ok {fg : eG} {rc rs d : Nat} {f : eFr} {F : List eFr} {μ0 : eM} {a0 a1 : Nat} {K : yM → Bool} {i55 : Nat → yM → Bool} (hG : yG fg y_T) (hk : ev_kd μ0 a0 = some 1) (p0 : 0 < a0) (hK : ∀ (M : yM) (μ : eM), K M = true → yR M μ → y_le μ0 μ → ex_fine fg rc rs (d + 6, (f.1, f.2.1, f.2.2.1, f.2.2.2), F, μ)) (h55 : ∀ (a2 : Nat) (x3 : Option eV) (M : yM) (μ : eM), i55 a2 M = true → yR M μ → y_le μ0 μ → ex_fine fg rc rs (d + 5, (14, 55, [some (eR a0), some (eI (zI a1)), some (eI (zI a2)), x3], []), f :: F, μ)) : ∀ (a2 : Nat) (x3 : Option eV) (M : yM) (μ : eM), m_14_55b a0 a1 K i55 a2 M = true → yR M μ → y_le μ0 μ → ex_fine fg rc rs (d + 5, (14, 55, [some (eR a0), some (eI (zI a1)), some (eI (zI a2)), x3], []), f :: F, μ) := by
  intro a2 x3 M μ h hR hl
  unfold m_14_55b at h
  refine w_s (np := 56) (lv' := [some (eR a0), some (eI (zI a1)), some (eI (zI a2)), x3]) (st' := [eI (zI a2)]) rfl rfl rfl ?_
  refine w_s (np := 57) (lv' := [some (eR a0), some (eI (zI a1)), some (eI (zI a2)), x3]) (st' := [eI (zI 5), eI (zI a2)]) rfl rfl rfl ?_
  rcases z_if_t h with ⟨g1, h⟩ | ⟨g1, h⟩
  · refine v_gt_t (t1 := 127) rfl rfl g1 ?_
    exact v_rv rfl rfl (hK _ _ h hR hl)
  · refine v_gt_f (t1 := 127) rfl rfl g1 ?_
    refine w_s (np := 61) (lv' := [some (eR a0), some (eI (zI a1)), some (eI (zI a2)), x3]) (st' := [eR a0]) rfl (s_an rfl p0) rfl ?_
    obtain ⟨v2, h, k3, e4⟩ := y_gf_ok (ty := 3) h hR (by decide) rfl
    obtain ⟨g5, h⟩ := f_if_ok h
    have q6 : 0 < v2 := Nat.ble_eq.mp g5
    refine v_gf3 (np := 64) rfl rfl k3 e4 ?_
    clear k3 e4
    obtain ⟨v7, h, k8, e9⟩ := y_gf_ok (ty := 3) h hR (by decide) rfl
    obtain ⟨g10, h⟩ := f_if_ok h
    have q11 : 0 < v7 := Nat.ble_eq.mp g10
    refine v_gf3 (np := 67) rfl rfl k8 e9 ?_
    clear k8 e9
    refine w_s (np := 68) (lv' := [some (eR a0), some (eI (zI a1)), some (eI (zI a2)), x3]) (st' := [eI (zI a2), eR v7]) rfl rfl rfl ?_
    obtain ⟨k17, h⟩ := y_is_ok h hR
    refine w_cv (np := 71) (as := [eI (zI a2)]) (lv' := [some (eR v7), some (eI (zI a2)), none]) (rest := []) rfl rfl rfl (Nat.ble_eq.mp rfl) rfl rfl rfl k17 rfl ?_
    refine m_30_ok hG h hR k17 q11 ?_
    intro M12 μ13 h hR14 hl16
    have hl15 := y_le.tr hl hl16
    show ex_fine fg rc rs (d + 5, (14, 71, [some (eR a0), some (eI (zI a1)), some (eI (zI a2)), x3], []), f :: F, μ13)
    refine w_s (np := 72) (lv' := [some (eR a0), some (eI (zI a1)), some (eI (zI a2)), x3]) (st' := [eR a0]) rfl (s_an rfl p0) rfl ?_
    obtain ⟨v18, h, k19, e20⟩ := y_gf_ok (ty := 3) h hR14 (by decide) rfl
    obtain ⟨g21, h⟩ := f_if_ok h
    have q22 : 0 < v18 := Nat.ble_eq.mp g21
    refine v_gf3 (np := 75) rfl rfl k19 e20 ?_
    clear k19 e20
    obtain ⟨v23, h, k24, e25⟩ := y_gf_ok (ty := 3) h hR14 (by decide) rfl
    obtain ⟨g26, h⟩ := f_if_ok h
    have q27 : 0 < v23 := Nat.ble_eq.mp g26
    refine v_gf3 (np := 78) rfl rfl k24 e25 ?_
    clear k24 e25
    obtain ⟨k33, h⟩ := y_is_ok h hR14
    refine w_cv (np := 81) (as := []) (lv' := [some (eR v23), none]) (rest := []) rfl rfl rfl (Nat.ble_eq.mp rfl) rfl rfl rfl k33 rfl ?_
    refine m_107_ok hG h hR14 k33 q27 ?_
    intro M28 μ29 h hR30 hl32
    have hl31 := y_le.tr hl15 hl32
    show ex_fine fg rc rs (d + 5, (14, 81, [some (eR a0), some (eI (zI a1)), some (eI (zI a2)), x3], []), f :: F, μ29)
    refine w_s (np := 82) (lv' := [some (eR a0), some (eI (zI a1)), some (eI (zI a2)), x3]) (st' := [eR a0]) rfl (s_an rfl p0) rfl ?_
    obtain ⟨v34, h, k35, e36⟩ := y_gf_ok (ty := 3) h hR30 (by decide) rfl
    obtain ⟨g37, h⟩ := f_if_ok h
    have q38 : 0 < v34 := Nat.ble_eq.mp g37
    refine v_gf3 (np := 85) rfl rfl k35 e36 ?_
    clear k35 e36
    obtain ⟨k44, h⟩ := y_is_ok h hR30
    refine w_cv (np := 88) (as := []) (lv' := [some (eR v34), none, none]) (rest := []) rfl rfl rfl (Nat.ble_eq.mp rfl) rfl rfl rfl k44 rfl ?_
    refine m_2_ok hG h hR30 k44 q38 ?_
    intro M39 μ40 h hR41 hl43
    have hl42 := y_le.tr hl31 hl43
    show ex_fine fg rc rs (d + 5, (14, 88, [some (eR a0), some (eI (zI a1)), some (eI (zI a2)), x3], []), f :: F, μ40)
    refine w_s (np := 89) (lv' := [some (eR a0), some (eI (zI a1)), some (eI (zI a2)), x3]) (st' := [eI (zI 0)]) rfl rfl rfl ?_
    refine w_s (np := 90) (lv' := [some (eR a0), some (eI (zI a1)), some (eI (zI a2)), some (eI (zI 0))]) (st' := []) rfl rfl rfl ?_
    exact m_14_90_ok hG hk p0 hK h55 100000 _ _ M39 μ40 h hR41 hl42
theorem m_14_55_ok {fg : eG} {rc rs d : Nat} {f : eFr} {F : List eFr} {μ0 : eM} {a0 a1 : Nat} {K : yM → Bool} (hG : yG fg y_T) (hk : ev_kd μ0 a0 = some 1) (p0 : 0 < a0) (hK : ∀ (M : yM) (μ : eM), K M = true → yR M μ → y_le μ0 μ → ex_fine fg rc rs (d + 6, (f.1, f.2.1, f.2.2.1, f.2.2.2), F, μ)) : ∀ n : Nat, ∀ (a2 : Nat) (x3 : Option eV) (M : yM) (μ : eM), m_14_55 a0 a1 K n a2 M = true → yR M μ → y_le μ0 μ → ex_fine fg rc rs (d + 5, (14, 55, [some (eR a0), some (eI (zI a1)), some (eI (zI a2)), x3], []), f :: F, μ) := by
  intro n
  induction n with
  | zero =>
    intro a2 x3 M μ h hR hl
    exact absurd h Bool.false_ne_true
  | succ n ih =>
    intro a2 x3 M μ h hR hl
    exact m_14_55b_ok hG hk p0 hK ih a2 x3 M μ h hR hl
noncomputable def m_14_35 (a0 a1 : Nat) (K : yM → Bool) (M : yM) : Bool := y_gf M a0 1 2 fun v1 => f_if false (Nat.ble 1 v1) (y_sa 100 M v1 a1 0 fun M6 => y_gf M6 a0 1 3 fun v11 => f_if false (Nat.ble 1 v11) (y_gf M6 v11 0 5 fun v16 => f_if false (Nat.ble 1 v16) (y_is M6 v16 2 (m_26 v16 a1 M6 fun M21 => m_14_55 a0 a1 K 100000 0 M21))))
theorem m_14_35_ok {fg : eG} {rc rs d : Nat} {f : eFr} {F : List eFr} {μ0 : eM} {a0 a1 : Nat} {K : yM → Bool} (hG : yG fg y_T) (hk : ev_kd μ0 a0 = some 1) (p0 : 0 < a0) (hK : ∀ (M : yM) (μ : eM), K M = true → yR M μ → y_le μ0 μ → ex_fine fg rc rs (d + 6, (f.1, f.2.1, f.2.2.1, f.2.2.2), F, μ)) : ∀ (x2 : Option eV) (M : yM) (μ : eM), m_14_35 a0 a1 K M = true → yR M μ → y_le μ0 μ → ex_fine fg rc rs (d + 5, (14, 35, [some (eR a0), some (eI (zI a1)), x2, none], []), f :: F, μ) := by
  intro x2 M μ h hR hl
  unfold m_14_35 at h
  refine w_s (np := 36) (lv' := [some (eR a0), some (eI (zI a1)), x2, none]) (st' := [eR a0]) rfl (s_an rfl p0) rfl ?_
  obtain ⟨v1, h, k2, e3⟩ := y_gf_ok (ty := 3) h hR (by decide) rfl
  obtain ⟨g4, h⟩ := f_if_ok h
  have q5 : 0 < v1 := Nat.ble_eq.mp g4
  refine v_gf3 (np := 39) rfl rfl k2 e3 ?_
  clear k2 e3
  refine w_s (np := 40) (lv' := [some (eR a0), some (eI (zI a1)), x2, none]) (st' := [eI (zI a1), eR v1]) rfl rfl rfl ?_
  refine w_s (np := 41) (lv' := [some (eR a0), some (eI (zI a1)), x2, none]) (st' := [eI (zI 0), eI (zI a1), eR v1]) rfl rfl rfl ?_
  obtain ⟨M6, μ7, h, k10, hR8, hl9⟩ := y_sa_ex (ty := 0) h hR hl rfl (by decide)
  refine v_sa (np := 42) rfl rfl k10 ?_
  clear k10
  refine w_s (np := 43) (lv' := [some (eR a0), some (eI (zI a1)), x2, none]) (st' := [eR a0]) rfl (s_an rfl p0) rfl ?_
  obtain ⟨v11, h, k12, e13⟩ := y_gf_ok (ty := 3) h hR8 (by decide) rfl
  obtain ⟨g14, h⟩ := f_if_ok h
  have q15 : 0 < v11 := Nat.ble_eq.mp g14
  refine v_gf3 (np := 46) rfl rfl k12 e13 ?_
  clear k12 e13
  obtain ⟨v16, h, k17, e18⟩ := y_gf_ok (ty := 3) h hR8 (by decide) rfl
  obtain ⟨g19, h⟩ := f_if_ok h
  have q20 : 0 < v16 := Nat.ble_eq.mp g19
  refine v_gf3 (np := 49) rfl rfl k17 e18 ?_
  clear k17 e18
  refine w_s (np := 50) (lv' := [some (eR a0), some (eI (zI a1)), x2, none]) (st' := [eI (zI a1), eR v16]) rfl rfl rfl ?_
  obtain ⟨k26, h⟩ := y_is_ok h hR8
  refine w_cv (np := 53) (as := [eI (zI a1)]) (lv' := [some (eR v16), some (eI (zI a1)), none]) (rest := []) rfl rfl rfl (Nat.ble_eq.mp rfl) rfl rfl rfl k26 rfl ?_
  refine m_26_ok hG h hR8 k26 q20 ?_
  intro M21 μ22 h hR23 hl25
  have hl24 := y_le.tr hl9 hl25
  show ex_fine fg rc rs (d + 5, (14, 53, [some (eR a0), some (eI (zI a1)), x2, none], []), f :: F, μ22)
  refine w_s (np := 54) (lv' := [some (eR a0), some (eI (zI a1)), x2, none]) (st' := [eI (zI 0)]) rfl rfl rfl ?_
  refine w_s (np := 55) (lv' := [some (eR a0), some (eI (zI a1)), some (eI (zI 0)), none]) (st' := []) rfl rfl rfl ?_
  exact m_14_55_ok hG hk p0 hK 100000 _ _ M21 μ22 h hR23 hl24
/-! RhombInflator$Firsts.grow -/
noncomputable def m_14 (a0 a1 : Nat) (M : yM) (K : yM → Bool) : Bool := y_gf M a0 1 3 fun v1 => z_if (Nat.beq v1 0) (y_no M 2 8 fun r5 M6 => y_is M6 r5 2 (m_16 r5 M6 fun M14 => y_no M14 0 10 fun r20 M21 => y_no M21 8 15 fun r29 M30 => y_is M30 r29 8 (m_106 r29 r5 M30 fun M38 => y_is M38 r20 0 (m_1 r20 r5 r29 M38 fun M44 => y_wr M44 a0 1 3 r20 fun M50 => m_14_35 a0 a1 K M50)))) (m_14_35 a0 a1 K M)
theorem m_14_ok {fg : eG} {rc rs d : Nat} {f : eFr} {F : List eFr} {M : yM} {μ0 : eM} {a0 a1 : Nat} {K : yM → Bool} (hG : yG fg y_T) (h : m_14 a0 a1 M K = true) (hR : yR M μ0) (hk : ev_kd μ0 a0 = some 1) (p0 : 0 < a0) (hK : ∀ (M : yM) (μ : eM), K M = true → yR M μ → y_le μ0 μ → ex_fine fg rc rs (d + 6, (f.1, f.2.1, f.2.2.1, f.2.2.2), F, μ)) : ex_fine fg rc rs (d + 5, (14, 0, [some (eR a0), some (eI (zI a1)), none, none], []), f :: F, μ0) := by
  unfold m_14 at h
  have hl := y_le_r μ0
  refine w_s (np := 1) (lv' := [some (eR a0), some (eI (zI a1)), none, none]) (st' := [eR a0]) rfl (s_an rfl p0) rfl ?_
  obtain ⟨v1, h, k2, e3⟩ := y_gf_ok (ty := 3) h hR (by decide) rfl
  refine v_gf3 (np := 4) rfl rfl k2 e3 ?_
  clear k2 e3
  rcases z_if_t h with ⟨g4, h⟩ | ⟨g4, h⟩
  · refine v_nn_f (t1 := 35) rfl rfl g4 ?_
    obtain ⟨r5, M6, μ7, h, g10, q11, e12, hR8, hl9, e13⟩ := y_no_ex h hR hl
    refine v_ne (np := 10) rfl rfl rfl e12 e13 ?_
    clear e12 e13
    refine w_s (np := 11) (lv' := [some (eR a0), some (eI (zI a1)), none, none]) (st' := [eR r5, eR r5]) rfl rfl rfl ?_
    obtain ⟨k19, h⟩ := y_is_ok h hR8
    refine v_ci (np := 14) (as := []) (lv' := [some (eR r5)]) (rest := [eR r5]) rfl rfl rfl (Nat.ble_eq.mp rfl) rfl rfl rfl g10 rfl ?_
    refine m_16_ok hG h hR8 k19 q11 ?_
    intro M14 μ15 h hR16 hl18
    have hl17 := y_le.tr hl9 hl18
    show ex_fine fg rc rs (d + 5, (14, 14, [some (eR a0), some (eI (zI a1)), none, none], [eR r5]), f :: F, μ15)
    refine w_s (np := 15) (lv' := [some (eR a0), some (eI (zI a1)), some (eR r5), none]) (st' := []) rfl (s_sn (Nat.ble_eq.mp rfl) q11 rfl) rfl ?_
    refine w_s (np := 16) (lv' := [some (eR a0), some (eI (zI a1)), some (eR r5), none]) (st' := [eR a0]) rfl (s_an rfl p0) rfl ?_
    obtain ⟨r20, M21, μ22, h, g25, q26, e27, hR23, hl24, e28⟩ := y_no_ex h hR16 hl17
    refine v_ne (np := 19) rfl rfl rfl e27 e28 ?_
    clear e27 e28
    refine w_s (np := 20) (lv' := [some (eR a0), some (eI (zI a1)), some (eR r5), none]) (st' := [eR r20, eR r20, eR a0]) rfl rfl rfl ?_
    refine w_s (np := 21) (lv' := [some (eR a0), some (eI (zI a1)), some (eR r5), none]) (st' := [eR r5, eR r20, eR r20, eR a0]) rfl (s_an rfl q11) rfl ?_
    obtain ⟨r29, M30, μ31, h, g34, q35, e36, hR32, hl33, e37⟩ := y_no_ex h hR23 hl24
    refine v_ne (np := 24) rfl rfl rfl e36 e37 ?_
    clear e36 e37
    refine w_s (np := 25) (lv' := [some (eR a0), some (eI (zI a1)), some (eR r5), none]) (st' := [eR r29, eR r29, eR r5, eR r20, eR r20, eR a0]) rfl rfl rfl ?_
    refine w_s (np := 26) (lv' := [some (eR a0), some (eI (zI a1)), some (eR r5), none]) (st' := [eR r5, eR r29, eR r29, eR r5, eR r20, eR r20, eR a0]) rfl (s_an rfl q11) rfl ?_
    obtain ⟨k43, h⟩ := y_is_ok h hR32
    refine v_ci (np := 29) (as := [eR r5]) (lv' := [some (eR r29), some (eR r5)]) (rest := [eR r29, eR r5, eR r20, eR r20, eR a0]) rfl rfl rfl (Nat.ble_eq.mp rfl) rfl rfl rfl g34 rfl ?_
    refine m_106_ok hG h hR32 k43 q35 q11 ?_
    intro M38 μ39 h hR40 hl42
    have hl41 := y_le.tr hl33 hl42
    show ex_fine fg rc rs (d + 5, (14, 29, [some (eR a0), some (eI (zI a1)), some (eR r5), none], [eR r29, eR r5, eR r20, eR r20, eR a0]), f :: F, μ39)
    obtain ⟨k49, h⟩ := y_is_ok h hR40
    refine v_ci (np := 32) (as := [eR r5, eR r29]) (lv' := [some (eR r20), some (eR r5), some (eR r29)]) (rest := [eR r20, eR a0]) rfl rfl rfl (Nat.ble_eq.mp rfl) rfl rfl rfl g25 rfl ?_
    refine m_1_ok hG h hR40 k49 q26 q11 q35 ?_
    intro M44 μ45 h hR46 hl48
    have hl47 := y_le.tr hl41 hl48
    show ex_fine fg rc rs (d + 5, (14, 32, [some (eR a0), some (eI (zI a1)), some (eR r5), none], [eR r20, eR a0]), f :: F, μ45)
    obtain ⟨M50, μ51, h, k54, hR52, hl53, e55⟩ := y_wr_ex h hR46 hl47 rfl
    refine v_pe3 (np := 35) rfl rfl k54 e55 ?_
    clear k54 e55
    exact m_14_35_ok hG hk p0 hK _ M50 μ51 h hR52 hl53
  · refine v_nn_t (t1 := 35) rfl rfl g4 ?_
    exact m_14_35_ok hG hk p0 hK _ M μ0 h hR hl
noncomputable def m_12_9 (a0 a1 a2 : Nat) (K : Nat → yM → Bool) (M : yM) : Bool := K 4294967295 M
theorem m_12_9_ok {fg : eG} {rc rs d : Nat} {f : eFr} {F : List eFr} {μ0 : eM} {a0 a1 a2 : Nat} {K : Nat → yM → Bool} (hG : yG fg y_T) (hk : ev_kd μ0 a0 = some 1) (p0 : 0 < a0) (hK : ∀ (r : Nat) (M : yM) (μ : eM), K r M = true → yR M μ → y_le μ0 μ → ex_fine fg rc rs (d + 7, (f.1, f.2.1, f.2.2.1, eI (zI r) :: f.2.2.2), F, μ)) : ∀ (M : yM) (μ : eM), m_12_9 a0 a1 a2 K M = true → yR M μ → y_le μ0 μ → ex_fine fg rc rs (d + 6, (12, 9, [some (eR a0), some (eI (zI a1)), some (eI (zI a2)), none], []), f :: F, μ) := by
  intro M μ h hR hl
  unfold m_12_9 at h
  refine w_s (np := 10) (lv' := [some (eR a0), some (eI (zI a1)), some (eI (zI a2)), none]) (st' := [eI (zI 4294967295)]) rfl rfl rfl ?_
  exact v_ri rfl rfl (hK _ _ _ h hR hl)
noncomputable def m_12_46 (a0 a1 a2 : Nat) (K : Nat → yM → Bool) (a3 s0 : Nat) (M : yM) : Bool := K s0 M
theorem m_12_46_ok {fg : eG} {rc rs d : Nat} {f : eFr} {F : List eFr} {μ0 : eM} {a0 a1 a2 : Nat} {K : Nat → yM → Bool} (hG : yG fg y_T) (hk : ev_kd μ0 a0 = some 1) (p0 : 0 < a0) (hK : ∀ (r : Nat) (M : yM) (μ : eM), K r M = true → yR M μ → y_le μ0 μ → ex_fine fg rc rs (d + 7, (f.1, f.2.1, f.2.2.1, eI (zI r) :: f.2.2.2), F, μ)) : ∀ (a3 s0 : Nat) (M : yM) (μ : eM), m_12_46 a0 a1 a2 K a3 s0 M = true → yR M μ → y_le μ0 μ → ex_fine fg rc rs (d + 6, (12, 46, [some (eR a0), some (eI (zI a1)), some (eI (zI a2)), some (eI (zI a3))], [eI (zI s0)]), f :: F, μ) := by
  intro a3 s0 M μ h hR hl
  unfold m_12_46 at h
  exact v_ri rfl rfl (hK _ _ _ h hR hl)
noncomputable def m_12_25 (a0 a1 a2 : Nat) (K : Nat → yM → Bool) (M : yM) : Bool := m_13 a0 a1 a2 M fun v6 M1 => z_if (z_l0 v6) (m_12_46 a0 a1 a2 K v6 4294967295 M1) (y_gf M1 a0 1 1 fun v8 => f_if false (Nat.ble 1 v8) (y_lh 100 M1 v8 v6 fun v13 => m_12_46 a0 a1 a2 K v6 v13 M1))
theorem m_12_25_ok {fg : eG} {rc rs d : Nat} {f : eFr} {F : List eFr} {μ0 : eM} {a0 a1 a2 : Nat} {K : Nat → yM → Bool} (hG : yG fg y_T) (hk : ev_kd μ0 a0 = some 1) (p0 : 0 < a0) (hK : ∀ (r : Nat) (M : yM) (μ : eM), K r M = true → yR M μ → y_le μ0 μ → ex_fine fg rc rs (d + 7, (f.1, f.2.1, f.2.2.1, eI (zI r) :: f.2.2.2), F, μ)) : ∀ (M : yM) (μ : eM), m_12_25 a0 a1 a2 K M = true → yR M μ → y_le μ0 μ → ex_fine fg rc rs (d + 6, (12, 25, [some (eR a0), some (eI (zI a1)), some (eI (zI a2)), none], []), f :: F, μ) := by
  intro M μ h hR hl
  unfold m_12_25 at h
  refine w_s (np := 26) (lv' := [some (eR a0), some (eI (zI a1)), some (eI (zI a2)), none]) (st' := [eR a0]) rfl (s_an rfl p0) rfl ?_
  refine w_s (np := 27) (lv' := [some (eR a0), some (eI (zI a1)), some (eI (zI a2)), none]) (st' := [eI (zI a1), eR a0]) rfl rfl rfl ?_
  refine w_s (np := 28) (lv' := [some (eR a0), some (eI (zI a1)), some (eI (zI a2)), none]) (st' := [eI (zI a2), eI (zI a1), eR a0]) rfl rfl rfl ?_
  refine w_cv (np := 31) (as := [eI (zI a1), eI (zI a2)]) (lv' := [some (eR a0), some (eI (zI a1)), some (eI (zI a2)), none, none]) (rest := []) rfl rfl rfl (Nat.ble_eq.mp rfl) rfl rfl rfl (hl _ _ hk) rfl ?_
  refine m_13_ok hG h hR (hl _ _ hk) p0 ?_
  intro v6 M1 μ2 h hR3 hl5
  have hl4 := y_le.tr hl hl5
  show ex_fine fg rc rs (d + 6, (12, 31, [some (eR a0), some (eI (zI a1)), some (eI (zI a2)), none], [eI (zI v6)]), f :: F, μ2)
  refine w_s (np := 32) (lv' := [some (eR a0), some (eI (zI a1)), some (eI (zI a2)), some (eI (zI v6))]) (st' := []) rfl rfl rfl ?_
  refine w_s (np := 33) (lv' := [some (eR a0), some (eI (zI a1)), some (eI (zI a2)), some (eI (zI v6))]) (st' := [eI (zI v6)]) rfl rfl rfl ?_
  rcases z_if_t h with ⟨g7, h⟩ | ⟨g7, h⟩
  · refine v_ge0_f (t1 := 40) rfl rfl g7 ?_
    refine w_s (np := 37) (lv' := [some (eR a0), some (eI (zI a1)), some (eI (zI a2)), some (eI (zI v6))]) (st' := [eI (zI 4294967295)]) rfl rfl rfl ?_
    refine w_go (t1 := 46) rfl rfl ?_
    exact m_12_46_ok hG hk p0 hK _ _ M1 μ2 h hR3 hl4
  · refine v_ge0_t (t1 := 40) rfl rfl g7 ?_
    refine w_s (np := 41) (lv' := [some (eR a0), some (eI (zI a1)), some (eI (zI a2)), some (eI (zI v6))]) (st' := [eR a0]) rfl (s_an rfl p0) rfl ?_
    obtain ⟨v8, h, k9, e10⟩ := y_gf_ok (ty := 3) h hR3 (by decide) rfl
    obtain ⟨g11, h⟩ := f_if_ok h
    have q12 : 0 < v8 := Nat.ble_eq.mp g11
    refine v_gf3 (np := 44) rfl rfl k9 e10 ?_
    clear k9 e10
    refine w_s (np := 45) (lv' := [some (eR a0), some (eI (zI a1)), some (eI (zI a2)), some (eI (zI v6))]) (st' := [eI (zI v6), eR v8]) rfl rfl rfl ?_
    obtain ⟨v13, h, k14⟩ := y_lh_ok (ty := 0) h hR3 hG (by decide) rfl (by decide)
    refine v_la (np := 46) rfl rfl k14 ?_
    clear k14
    exact m_12_46_ok hG hk p0 hK _ _ M1 μ2 h hR3 hl4
/-! RhombInflator$Firsts.depthOf -/
noncomputable def m_12 (a0 a1 a2 : Nat) (M : yM) (K : Nat → yM → Bool) : Bool := z_if (z_l0 a1) (m_12_9 a0 a1 a2 K M) (z_if (z_lt 3 a1) (m_12_9 a0 a1 a2 K M) (y_gf M a0 1 2 fun v3 => f_if false (Nat.ble 1 v3) (y_lh 100 M v3 a1 fun v8 => z_if (z_l0 v8) (m_14 a0 a1 M fun M11 => m_12_25 a0 a1 a2 K M11) (m_12_25 a0 a1 a2 K M))))
theorem m_12_ok {fg : eG} {rc rs d : Nat} {f : eFr} {F : List eFr} {M : yM} {μ0 : eM} {a0 a1 a2 : Nat} {K : Nat → yM → Bool} (hG : yG fg y_T) (h : m_12 a0 a1 a2 M K = true) (hR : yR M μ0) (hk : ev_kd μ0 a0 = some 1) (p0 : 0 < a0) (hK : ∀ (r : Nat) (M : yM) (μ : eM), K r M = true → yR M μ → y_le μ0 μ → ex_fine fg rc rs (d + 7, (f.1, f.2.1, f.2.2.1, eI (zI r) :: f.2.2.2), F, μ)) : ex_fine fg rc rs (d + 6, (12, 0, [some (eR a0), some (eI (zI a1)), some (eI (zI a2)), none], []), f :: F, μ0) := by
  unfold m_12 at h
  have hl := y_le_r μ0
  refine w_s (np := 1) (lv' := [some (eR a0), some (eI (zI a1)), some (eI (zI a2)), none]) (st' := [eI (zI a1)]) rfl rfl rfl ?_
  rcases z_if_t h with ⟨g1, h⟩ | ⟨g1, h⟩
  · refine v_lt0_t (t1 := 9) rfl rfl g1 ?_
    exact m_12_9_ok hG hk p0 hK M μ0 h hR hl
  · refine v_lt0_f (t1 := 9) rfl rfl g1 ?_
    refine w_s (np := 5) (lv' := [some (eR a0), some (eI (zI a1)), some (eI (zI a2)), none]) (st' := [eI (zI a1)]) rfl rfl rfl ?_
    refine w_s (np := 6) (lv' := [some (eR a0), some (eI (zI a1)), some (eI (zI a2)), none]) (st' := [eI (zI 3), eI (zI a1)]) rfl rfl rfl ?_
    rcases z_if_t h with ⟨g2, h⟩ | ⟨g2, h⟩
    · refine v_le_f (t1 := 11) rfl rfl g2 ?_
      exact m_12_9_ok hG hk p0 hK M μ0 h hR hl
    · refine v_le_t (t1 := 11) rfl rfl g2 ?_
      refine w_s (np := 12) (lv' := [some (eR a0), some (eI (zI a1)), some (eI (zI a2)), none]) (st' := [eR a0]) rfl (s_an rfl p0) rfl ?_
      obtain ⟨v3, h, k4, e5⟩ := y_gf_ok (ty := 3) h hR (by decide) rfl
      obtain ⟨g6, h⟩ := f_if_ok h
      have q7 : 0 < v3 := Nat.ble_eq.mp g6
      refine v_gf3 (np := 15) rfl rfl k4 e5 ?_
      clear k4 e5
      refine w_s (np := 16) (lv' := [some (eR a0), some (eI (zI a1)), some (eI (zI a2)), none]) (st' := [eI (zI a1), eR v3]) rfl rfl rfl ?_
      obtain ⟨v8, h, k9⟩ := y_lh_ok (ty := 0) h hR hG (by decide) rfl (by decide)
      refine v_la (np := 17) rfl rfl k9 ?_
      clear k9
      rcases z_if_t h with ⟨g10, h⟩ | ⟨g10, h⟩
      · refine v_ge0_f (t1 := 25) rfl rfl g10 ?_
        refine w_s (np := 21) (lv' := [some (eR a0), some (eI (zI a1)), some (eI (zI a2)), none]) (st' := [eR a0]) rfl (s_an rfl p0) rfl ?_
        refine w_s (np := 22) (lv' := [some (eR a0), some (eI (zI a1)), some (eI (zI a2)), none]) (st' := [eI (zI a1), eR a0]) rfl rfl rfl ?_
        refine w_cv (np := 25) (as := [eI (zI a1)]) (lv' := [some (eR a0), some (eI (zI a1)), none, none]) (rest := []) rfl rfl rfl (Nat.ble_eq.mp rfl) rfl rfl rfl (hl _ _ hk) rfl ?_
        refine m_14_ok hG h hR (hl _ _ hk) p0 ?_
        intro M11 μ12 h hR13 hl15
        have hl14 := y_le.tr hl hl15
        show ex_fine fg rc rs (d + 6, (12, 25, [some (eR a0), some (eI (zI a1)), some (eI (zI a2)), none], []), f :: F, μ12)
        exact m_12_25_ok hG hk p0 hK M11 μ12 h hR13 hl14
      · refine v_ge0_t (t1 := 25) rfl rfl g10 ?_
        exact m_12_25_ok hG hk p0 hK M μ0 h hR hl
/-! RhombInflator.refuse -/
noncomputable def m_205 (a0 a1 : Nat) (M : yM) (K : Nat → yM → Bool) : Bool := y_wf M a0 10 13 a1 fun M1 => K 4294967295 M1
theorem m_205_ok {fg : eG} {rc rs d : Nat} {f : eFr} {F : List eFr} {M : yM} {μ0 : eM} {a0 a1 : Nat} {K : Nat → yM → Bool} (hG : yG fg y_T) (h : m_205 a0 a1 M K = true) (hR : yR M μ0) (hk : ev_kd μ0 a0 = some 10) (p0 : 0 < a0) (hK : ∀ (r : Nat) (M : yM) (μ : eM), K r M = true → yR M μ → y_le μ0 μ → ex_fine fg rc rs (d + 1, (f.1, f.2.1, f.2.2.1, eI (zI r) :: f.2.2.2), F, μ)) : ex_fine fg rc rs (d, (205, 0, [some (eR a0), some (eI (zI a1))], []), f :: F, μ0) := by
  unfold m_205 at h
  have hl := y_le_r μ0
  refine w_s (np := 1) (lv' := [some (eR a0), some (eI (zI a1))]) (st' := [eR a0]) rfl (s_an rfl p0) rfl ?_
  refine w_s (np := 2) (lv' := [some (eR a0), some (eI (zI a1))]) (st' := [eI (zI a1), eR a0]) rfl rfl rfl ?_
  obtain ⟨M1, μ2, h, k5, hR3, hl4, e6⟩ := y_wf_ex (ty := 0) h hR hl rfl (by decide)
  refine v_pe0 (np := 5) rfl rfl k5 e6 ?_
  clear k5 e6
  refine w_s (np := 6) (lv' := [some (eR a0), some (eI (zI a1))]) (st' := [eI (zI 4294967295)]) rfl rfl rfl ?_
  exact v_ri rfl rfl (hK _ _ _ h hR3 hl4)
/-! RhombInflator.answer -/
noncomputable def m_206 (a0 a1 : Nat) (M : yM) (K : Nat → yM → Bool) : Bool := y_wf M a0 10 13 0 fun M1 => K a1 M1
theorem m_206_ok {fg : eG} {rc rs d : Nat} {f : eFr} {F : List eFr} {M : yM} {μ0 : eM} {a0 a1 : Nat} {K : Nat → yM → Bool} (hG : yG fg y_T) (h : m_206 a0 a1 M K = true) (hR : yR M μ0) (hk : ev_kd μ0 a0 = some 10) (p0 : 0 < a0) (hK : ∀ (r : Nat) (M : yM) (μ : eM), K r M = true → yR M μ → y_le μ0 μ → ex_fine fg rc rs (d + 1, (f.1, f.2.1, f.2.2.1, eI (zI r) :: f.2.2.2), F, μ)) : ex_fine fg rc rs (d, (206, 0, [some (eR a0), some (eI (zI a1))], []), f :: F, μ0) := by
  unfold m_206 at h
  have hl := y_le_r μ0
  refine w_s (np := 1) (lv' := [some (eR a0), some (eI (zI a1))]) (st' := [eR a0]) rfl (s_an rfl p0) rfl ?_
  refine w_s (np := 2) (lv' := [some (eR a0), some (eI (zI a1))]) (st' := [eI (zI 0), eR a0]) rfl rfl rfl ?_
  obtain ⟨M1, μ2, h, k5, hR3, hl4, e6⟩ := y_wf_ex (ty := 0) h hR hl rfl (by decide)
  refine v_pe0 (np := 5) rfl rfl k5 e6 ?_
  clear k5 e6
  refine w_s (np := 6) (lv' := [some (eR a0), some (eI (zI a1))]) (st' := [eI (zI a1)]) rfl rfl rfl ?_
  exact v_ri rfl rfl (hK _ _ _ h hR3 hl4)
noncomputable def m_207_17 (a0 a1 : Nat) (K : Nat → yM → Bool) (s0 : Nat) (M : yM) : Bool := K s0 M
theorem m_207_17_ok {fg : eG} {rc rs d : Nat} {f : eFr} {F : List eFr} {μ0 : eM} {a0 a1 : Nat} {K : Nat → yM → Bool} (hG : yG fg y_T) (hk : ev_kd μ0 a0 = some 10) (p0 : 0 < a0) (hK : ∀ (r : Nat) (M : yM) (μ : eM), K r M = true → yR M μ → y_le μ0 μ → ex_fine fg rc rs (d + 2, (f.1, f.2.1, f.2.2.1, eI (zI r) :: f.2.2.2), F, μ)) : ∀ (s0 : Nat) (M : yM) (μ : eM), m_207_17 a0 a1 K s0 M = true → yR M μ → y_le μ0 μ → ex_fine fg rc rs (d + 1, (207, 17, [some (eR a0), some (eI (zI a1))], [eI (zI s0)]), f :: F, μ) := by
  intro s0 M μ h hR hl
  unfold m_207_17 at h
  exact v_ri rfl rfl (hK _ _ _ h hR hl)
/-! RhombInflator.orNone -/
noncomputable def m_207 (a0 a1 : Nat) (M : yM) (K : Nat → yM → Bool) : Bool := z_if (z_l0 a1) (m_205 a0 5 M fun v13 M8 => m_207_17 a0 a1 K v13 M8) (m_206 a0 a1 M fun v7 M2 => m_207_17 a0 a1 K v7 M2)
theorem m_207_ok {fg : eG} {rc rs d : Nat} {f : eFr} {F : List eFr} {M : yM} {μ0 : eM} {a0 a1 : Nat} {K : Nat → yM → Bool} (hG : yG fg y_T) (h : m_207 a0 a1 M K = true) (hR : yR M μ0) (hk : ev_kd μ0 a0 = some 10) (p0 : 0 < a0) (hK : ∀ (r : Nat) (M : yM) (μ : eM), K r M = true → yR M μ → y_le μ0 μ → ex_fine fg rc rs (d + 2, (f.1, f.2.1, f.2.2.1, eI (zI r) :: f.2.2.2), F, μ)) : ex_fine fg rc rs (d + 1, (207, 0, [some (eR a0), some (eI (zI a1))], []), f :: F, μ0) := by
  unfold m_207 at h
  have hl := y_le_r μ0
  refine w_s (np := 1) (lv' := [some (eR a0), some (eI (zI a1))]) (st' := [eI (zI a1)]) rfl rfl rfl ?_
  rcases z_if_t h with ⟨g1, h⟩ | ⟨g1, h⟩
  · refine v_ge0_f (t1 := 12) rfl rfl g1 ?_
    refine w_s (np := 5) (lv' := [some (eR a0), some (eI (zI a1))]) (st' := [eR a0]) rfl (s_an rfl p0) rfl ?_
    refine w_s (np := 6) (lv' := [some (eR a0), some (eI (zI a1))]) (st' := [eI (zI 5), eR a0]) rfl rfl rfl ?_
    refine w_cv (np := 9) (as := [eI (zI 5)]) (lv' := [some (eR a0), some (eI (zI 5))]) (rest := []) rfl rfl rfl (Nat.ble_eq.mp rfl) rfl rfl rfl (hl _ _ hk) rfl ?_
    refine m_205_ok hG h hR (hl _ _ hk) p0 ?_
    intro v13 M8 μ9 h hR10 hl12
    have hl11 := y_le.tr hl hl12
    show ex_fine fg rc rs (d + 1, (207, 9, [some (eR a0), some (eI (zI a1))], [eI (zI v13)]), f :: F, μ9)
    refine w_go (t1 := 17) rfl rfl ?_
    exact m_207_17_ok hG hk p0 hK _ M8 μ9 h hR10 hl11
  · refine v_ge0_t (t1 := 12) rfl rfl g1 ?_
    refine w_s (np := 13) (lv' := [some (eR a0), some (eI (zI a1))]) (st' := [eR a0]) rfl (s_an rfl p0) rfl ?_
    refine w_s (np := 14) (lv' := [some (eR a0), some (eI (zI a1))]) (st' := [eI (zI a1), eR a0]) rfl rfl rfl ?_
    refine w_cv (np := 17) (as := [eI (zI a1)]) (lv' := [some (eR a0), some (eI (zI a1))]) (rest := []) rfl rfl rfl (Nat.ble_eq.mp rfl) rfl rfl rfl (hl _ _ hk) rfl ?_
    refine m_206_ok hG h hR (hl _ _ hk) p0 ?_
    intro v7 M2 μ3 h hR4 hl6
    have hl5 := y_le.tr hl hl6
    show ex_fine fg rc rs (d + 1, (207, 17, [some (eR a0), some (eI (zI a1))], [eI (zI v7)]), f :: F, μ3)
    exact m_207_17_ok hG hk p0 hK _ M2 μ3 h hR4 hl5
noncomputable def m_184_13 (a0 a1 a2 : Nat) (K : Nat → yM → Bool) (M : yM) : Bool := m_205 a0 1 M fun v6 M1 => K v6 M1
theorem m_184_13_ok {fg : eG} {rc rs d : Nat} {f : eFr} {F : List eFr} {μ0 : eM} {a0 a1 a2 : Nat} {K : Nat → yM → Bool} (hG : yG fg y_T) (hk : ev_kd μ0 a0 = some 10) (p0 : 0 < a0) (hK : ∀ (r : Nat) (M : yM) (μ : eM), K r M = true → yR M μ → y_le μ0 μ → ex_fine fg rc rs (d + 8, (f.1, f.2.1, f.2.2.1, eI (zI r) :: f.2.2.2), F, μ)) : ∀ (M : yM) (μ : eM), m_184_13 a0 a1 a2 K M = true → yR M μ → y_le μ0 μ → ex_fine fg rc rs (d + 7, (184, 13, [some (eR a0), some (eI (zI a1)), some (eI (zI a2))], []), f :: F, μ) := by
  intro M μ h hR hl
  unfold m_184_13 at h
  refine w_s (np := 14) (lv' := [some (eR a0), some (eI (zI a1)), some (eI (zI a2))]) (st' := [eR a0]) rfl (s_an rfl p0) rfl ?_
  refine w_s (np := 15) (lv' := [some (eR a0), some (eI (zI a1)), some (eI (zI a2))]) (st' := [eI (zI 1), eR a0]) rfl rfl rfl ?_
  refine w_cv (np := 18) (as := [eI (zI 1)]) (lv' := [some (eR a0), some (eI (zI 1))]) (rest := []) rfl rfl rfl (Nat.ble_eq.mp rfl) rfl rfl rfl (hl _ _ hk) rfl ?_
  refine m_205_ok hG h hR (hl _ _ hk) p0 ?_
  intro v6 M1 μ2 h hR3 hl5
  have hl4 := y_le.tr hl hl5
  show ex_fine fg rc rs (d + 7, (184, 18, [some (eR a0), some (eI (zI a1)), some (eI (zI a2))], [eI (zI v6)]), f :: F, μ2)
  exact v_ri rfl rfl (hK _ _ _ h hR3 hl4)
noncomputable def m_184_37 (a0 a1 a2 : Nat) (K : Nat → yM → Bool) (M : yM) : Bool := y_gf M a0 10 10 fun v1 => f_if false (Nat.ble 1 v1) (y_is M v1 1 (m_12 v1 a1 a2 M fun v11 M6 => m_207 a0 v11 M6 fun v18 M13 => K v18 M13))
theorem m_184_37_ok {fg : eG} {rc rs d : Nat} {f : eFr} {F : List eFr} {μ0 : eM} {a0 a1 a2 : Nat} {K : Nat → yM → Bool} (hG : yG fg y_T) (hk : ev_kd μ0 a0 = some 10) (p0 : 0 < a0) (hK : ∀ (r : Nat) (M : yM) (μ : eM), K r M = true → yR M μ → y_le μ0 μ → ex_fine fg rc rs (d + 8, (f.1, f.2.1, f.2.2.1, eI (zI r) :: f.2.2.2), F, μ)) : ∀ (M : yM) (μ : eM), m_184_37 a0 a1 a2 K M = true → yR M μ → y_le μ0 μ → ex_fine fg rc rs (d + 7, (184, 37, [some (eR a0), some (eI (zI a1)), some (eI (zI a2))], []), f :: F, μ) := by
  intro M μ h hR hl
  unfold m_184_37 at h
  refine w_s (np := 38) (lv' := [some (eR a0), some (eI (zI a1)), some (eI (zI a2))]) (st' := [eR a0]) rfl (s_an rfl p0) rfl ?_
  refine w_s (np := 39) (lv' := [some (eR a0), some (eI (zI a1)), some (eI (zI a2))]) (st' := [eR a0, eR a0]) rfl (s_an rfl p0) rfl ?_
  obtain ⟨v1, h, k2, e3⟩ := y_gf_ok (ty := 3) h hR (by decide) rfl
  obtain ⟨g4, h⟩ := f_if_ok h
  have q5 : 0 < v1 := Nat.ble_eq.mp g4
  refine v_gf3 (np := 42) rfl rfl k2 e3 ?_
  clear k2 e3
  refine w_s (np := 43) (lv' := [some (eR a0), some (eI (zI a1)), some (eI (zI a2))]) (st' := [eI (zI a1), eR v1, eR a0]) rfl rfl rfl ?_
  refine w_s (np := 44) (lv' := [some (eR a0), some (eI (zI a1)), some (eI (zI a2))]) (st' := [eI (zI a2), eI (zI a1), eR v1, eR a0]) rfl rfl rfl ?_
  obtain ⟨k12, h⟩ := y_is_ok h hR
  refine w_cv (np := 47) (as := [eI (zI a1), eI (zI a2)]) (lv' := [some (eR v1), some (eI (zI a1)), some (eI (zI a2)), none]) (rest := [eR a0]) rfl rfl rfl (Nat.ble_eq.mp rfl) rfl rfl rfl k12 rfl ?_
  refine m_12_ok hG h hR k12 q5 ?_
  intro v11 M6 μ7 h hR8 hl10
  have hl9 := y_le.tr hl hl10
  show ex_fine fg rc rs (d + 7, (184, 47, [some (eR a0), some (eI (zI a1)), some (eI (zI a2))], [eI (zI v11), eR a0]), f :: F, μ7)
  refine w_cv (np := 50) (as := [eI (zI v11)]) (lv' := [some (eR a0), some (eI (zI v11))]) (rest := []) rfl rfl rfl (Nat.ble_eq.mp rfl) rfl rfl rfl (hl9 _ _ hk) rfl ?_
  refine m_207_ok hG h hR8 (hl9 _ _ hk) p0 ?_
  intro v18 M13 μ14 h hR15 hl17
  have hl16 := y_le.tr hl9 hl17
  show ex_fine fg rc rs (d + 7, (184, 50, [some (eR a0), some (eI (zI a1)), some (eI (zI a2))], [eI (zI v18)]), f :: F, μ14)
  exact v_ri rfl rfl (hK _ _ _ h hR15 hl16)
/-! RhombInflator.comes -/
noncomputable def m_184 (a0 a1 a2 : Nat) (M : yM) (K : Nat → yM → Bool) : Bool := z_if (z_l0 a1) (m_184_13 a0 a1 a2 K M) (z_if (z_lt 3 a1) (m_184_13 a0 a1 a2 K M) (z_if (z_l0 a2) (m_184_13 a0 a1 a2 K M) (y_gf M a0 10 10 fun v4 => z_if (Nat.beq v4 0) (y_no M 1 4 fun r8 M9 => y_is M9 r8 1 (m_11 r8 M9 fun M17 => y_wr M17 a0 10 10 r8 fun M23 => m_184_37 a0 a1 a2 K M23)) (m_184_37 a0 a1 a2 K M))))
theorem m_184_ok {fg : eG} {rc rs d : Nat} {f : eFr} {F : List eFr} {M : yM} {μ0 : eM} {a0 a1 a2 : Nat} {K : Nat → yM → Bool} (hG : yG fg y_T) (h : m_184 a0 a1 a2 M K = true) (hR : yR M μ0) (hk : ev_kd μ0 a0 = some 10) (p0 : 0 < a0) (hK : ∀ (r : Nat) (M : yM) (μ : eM), K r M = true → yR M μ → y_le μ0 μ → ex_fine fg rc rs (d + 8, (f.1, f.2.1, f.2.2.1, eI (zI r) :: f.2.2.2), F, μ)) : ex_fine fg rc rs (d + 7, (184, 0, [some (eR a0), some (eI (zI a1)), some (eI (zI a2))], []), f :: F, μ0) := by
  unfold m_184 at h
  have hl := y_le_r μ0
  refine w_s (np := 1) (lv' := [some (eR a0), some (eI (zI a1)), some (eI (zI a2))]) (st' := [eI (zI a1)]) rfl rfl rfl ?_
  rcases z_if_t h with ⟨g1, h⟩ | ⟨g1, h⟩
  · refine v_lt0_t (t1 := 13) rfl rfl g1 ?_
    exact m_184_13_ok hG hk p0 hK M μ0 h hR hl
  · refine v_lt0_f (t1 := 13) rfl rfl g1 ?_
    refine w_s (np := 5) (lv' := [some (eR a0), some (eI (zI a1)), some (eI (zI a2))]) (st' := [eI (zI a1)]) rfl rfl rfl ?_
    refine w_s (np := 6) (lv' := [some (eR a0), some (eI (zI a1)), some (eI (zI a2))]) (st' := [eI (zI 3), eI (zI a1)]) rfl rfl rfl ?_
    rcases z_if_t h with ⟨g2, h⟩ | ⟨g2, h⟩
    · refine v_gt_t (t1 := 13) rfl rfl g2 ?_
      exact m_184_13_ok hG hk p0 hK M μ0 h hR hl
    · refine v_gt_f (t1 := 13) rfl rfl g2 ?_
      refine w_s (np := 10) (lv' := [some (eR a0), some (eI (zI a1)), some (eI (zI a2))]) (st' := [eI (zI a2)]) rfl rfl rfl ?_
      rcases z_if_t h with ⟨g3, h⟩ | ⟨g3, h⟩
      · refine v_ge0_f (t1 := 19) rfl rfl g3 ?_
        exact m_184_13_ok hG hk p0 hK M μ0 h hR hl
      · refine v_ge0_t (t1 := 19) rfl rfl g3 ?_
        refine w_s (np := 20) (lv' := [some (eR a0), some (eI (zI a1)), some (eI (zI a2))]) (st' := [eR a0]) rfl (s_an rfl p0) rfl ?_
        obtain ⟨v4, h, k5, e6⟩ := y_gf_ok (ty := 3) h hR (by decide) rfl
        refine v_gf3 (np := 23) rfl rfl k5 e6 ?_
        clear k5 e6
        rcases z_if_t h with ⟨g7, h⟩ | ⟨g7, h⟩
        · refine v_nn_f (t1 := 37) rfl rfl g7 ?_
          refine w_s (np := 27) (lv' := [some (eR a0), some (eI (zI a1)), some (eI (zI a2))]) (st' := [eR a0]) rfl (s_an rfl p0) rfl ?_
          obtain ⟨r8, M9, μ10, h, g13, q14, e15, hR11, hl12, e16⟩ := y_no_ex h hR hl
          refine v_ne (np := 30) rfl rfl rfl e15 e16 ?_
          clear e15 e16
          refine w_s (np := 31) (lv' := [some (eR a0), some (eI (zI a1)), some (eI (zI a2))]) (st' := [eR r8, eR r8, eR a0]) rfl rfl rfl ?_
          obtain ⟨k22, h⟩ := y_is_ok h hR11
          refine v_ci (np := 34) (as := []) (lv' := [some (eR r8)]) (rest := [eR r8, eR a0]) rfl rfl rfl (Nat.ble_eq.mp rfl) rfl rfl rfl g13 rfl ?_
          refine m_11_ok hG h hR11 k22 q14 ?_
          intro M17 μ18 h hR19 hl21
          have hl20 := y_le.tr hl12 hl21
          show ex_fine fg rc rs (d + 7, (184, 34, [some (eR a0), some (eI (zI a1)), some (eI (zI a2))], [eR r8, eR a0]), f :: F, μ18)
          obtain ⟨M23, μ24, h, k27, hR25, hl26, e28⟩ := y_wr_ex h hR19 hl20 rfl
          refine v_pe3 (np := 37) rfl rfl k27 e28 ?_
          clear k27 e28
          exact m_184_37_ok hG hk p0 hK M23 μ24 h hR25 hl26
        · refine v_nn_t (t1 := 37) rfl rfl g7 ?_
          exact m_184_37_ok hG hk p0 hK M μ0 h hR hl
