/-! comes with isThere left open; isThere, cut at its loop -/
noncomputable def mq_299_2b (T : Nat → Bool → Bool → Bool) (a0 : Nat) (K : Nat → yM → Bool) (i2 : Nat → yM → Bool) (a2 : Nat) (M : yM) : Bool := y_gf M a0 11 28 fun v1 => z_if (z_lt a2 v1) (m_253 a0 a2 M fun v11 M6 => T v11 (f_if false (Nat.ble 1 1) (K 1 M6)) (z_l (z_add a2 1) fun v13 => z_f v13 fun w14 => i2 w14 M6)) (f_if false (Nat.ble 0 1) (K 0 M))
noncomputable def mq_299_2 (T : Nat → Bool → Bool → Bool) (a0 : Nat) (K : Nat → yM → Bool) (n : Nat) : Nat → yM → Bool := @Nat.rec (fun _ => Nat → yM → Bool) (fun _ _ => false) (fun _ ih => mq_299_2b T a0 K ih) n
theorem mq_299_2b_ok {fg : eG} {rc rs d : Nat} {f : eFr} {F : List eFr} {μ0 : eM} {T : Nat → Bool → Bool → Bool} {a0 a1 : Nat} {K : Nat → yM → Bool} {i2 : Nat → yM → Bool} (hT : zT a1 T) (hn : z_l0 a1 = false) (hG : yG fg y_T) (hk : ev_kd μ0 a0 = some 11) (p0 : 0 < a0) (hK : ∀ (r : Nat) (M : yM) (μ : eM), K r M = true → yR M μ → y_le μ0 μ → ex_fine fg rc rs (d + 6, (f.1, f.2.1, f.2.2.1, eI (zI r) :: f.2.2.2), F, μ)) (h2 : ∀ (a2 : Nat) (M : yM) (μ : eM), i2 a2 M = true → yR M μ → y_le μ0 μ → ex_fine fg rc rs (d + 5, (299, 2, [some (eR a0), some (eI (zI a1)), some (eI (zI a2))], []), f :: F, μ)) : ∀ (a2 : Nat) (M : yM) (μ : eM), mq_299_2b T a0 K i2 a2 M = true → yR M μ → y_le μ0 μ → ex_fine fg rc rs (d + 5, (299, 2, [some (eR a0), some (eI (zI a1)), some (eI (zI a2))], []), f :: F, μ) := by
  intro a2 M μ h hR hl
  unfold mq_299_2b at h
  refine w_s (np := 3) (lv' := [some (eR a0), some (eI (zI a1)), some (eI (zI a2))]) (st' := [eI (zI a2)]) rfl rfl rfl ?_
  refine w_s (np := 4) (lv' := [some (eR a0), some (eI (zI a1)), some (eI (zI a2))]) (st' := [eR a0, eI (zI a2)]) rfl (s_an rfl p0) rfl ?_
  obtain ⟨v1, h, k2, e3⟩ := y_gf_ok (ty := 0) h hR (by decide) rfl
  refine v_gf0 (np := 7) rfl rfl k2 e3 ?_
  clear k2 e3
  rcases z_if_t h with ⟨g4, h⟩ | ⟨g4, h⟩
  · refine v_ge_f (t1 := 27) rfl rfl g4 ?_
    refine w_s (np := 11) (lv' := [some (eR a0), some (eI (zI a1)), some (eI (zI a2))]) (st' := [eR a0]) rfl (s_an rfl p0) rfl ?_
    refine w_s (np := 12) (lv' := [some (eR a0), some (eI (zI a1)), some (eI (zI a2))]) (st' := [eI (zI a2), eR a0]) rfl rfl rfl ?_
    refine w_cv (np := 15) (as := [eI (zI a2)]) (lv' := [some (eR a0), some (eI (zI a2)), none, none, none]) (rest := []) rfl rfl rfl (Nat.ble_eq.mp rfl) rfl rfl rfl (hl _ _ hk) rfl ?_
    refine m_253_ok hG h hR (hl _ _ hk) p0 ?_
    intro v11 M6 μ7 h hR8 hl10
    have hl9 := y_le.tr hl hl10
    show ex_fine fg rc rs (d + 5, (299, 15, [some (eR a0), some (eI (zI a1)), some (eI (zI a2))], [eI (zI v11)]), f :: F, μ7)
    refine w_s (np := 16) (lv' := [some (eR a0), some (eI (zI a1)), some (eI (zI a2))]) (st' := [eI (zI a1), eI (zI v11)]) rfl rfl rfl ?_
    rcases hT _ _ _ h with ⟨g12, h⟩ | ⟨g12, h⟩
    · refine v_ne_f (t1 := 21) rfl rfl g12 ?_
      refine w_s (np := 20) (lv' := [some (eR a0), some (eI (zI a1)), some (eI (zI a2))]) (st' := [eI (zI 1)]) rfl rfl rfl ?_
      obtain ⟨g15, h⟩ := f_if_ok h
      exact v_rz rfl rfl g15 (hK _ _ _ h hR8 hl9)
    · refine v_ne_t (t1 := 21) rfl rfl g12 ?_
      obtain ⟨v13, ev13, h⟩ := z_l_ex h
      refine w_s (np := 24) (lv' := [some (eR a0), some (eI (zI a1)), some (eI (zI v13))]) (st' := []) rfl (s_iinc (b := 1) rfl rfl ev13 rfl) rfl ?_
      clear ev13
      refine w_go (t1 := 2) rfl rfl ?_
      obtain ⟨w14, ew14, h⟩ := z_f_ex h
      subst ew14
      exact h2 _ M6 μ7 h hR8 hl9
  · refine v_ge_t (t1 := 27) rfl rfl g4 ?_
    refine w_s (np := 28) (lv' := [some (eR a0), some (eI (zI a1)), some (eI (zI a2))]) (st' := [eI (zI 0)]) rfl rfl rfl ?_
    obtain ⟨g5, h⟩ := f_if_ok h
    exact v_rz rfl rfl g5 (hK _ _ _ h hR hl)
theorem mq_299_2_ok {fg : eG} {rc rs d : Nat} {f : eFr} {F : List eFr} {μ0 : eM} {T : Nat → Bool → Bool → Bool} {a0 a1 : Nat} {K : Nat → yM → Bool} (hT : zT a1 T) (hn : z_l0 a1 = false) (hG : yG fg y_T) (hk : ev_kd μ0 a0 = some 11) (p0 : 0 < a0) (hK : ∀ (r : Nat) (M : yM) (μ : eM), K r M = true → yR M μ → y_le μ0 μ → ex_fine fg rc rs (d + 6, (f.1, f.2.1, f.2.2.1, eI (zI r) :: f.2.2.2), F, μ)) : ∀ n : Nat, ∀ (a2 : Nat) (M : yM) (μ : eM), mq_299_2 T a0 K n a2 M = true → yR M μ → y_le μ0 μ → ex_fine fg rc rs (d + 5, (299, 2, [some (eR a0), some (eI (zI a1)), some (eI (zI a2))], []), f :: F, μ) := by
  intro n
  induction n with
  | zero =>
    intro a2 M μ h hR hl
    exact absurd h Bool.false_ne_true
  | succ n ih =>
    intro a2 M μ h hR hl
    exact mq_299_2b_ok hT hn hG hk p0 hK ih a2 M μ h hR hl
noncomputable def mq_299_2r (T : Nat → Bool → Bool → Bool) (a0 : Nat) (K : Nat → yM → Bool) (base : Nat → yM → Bool) (n : Nat) : Nat → yM → Bool := @Nat.rec (fun _ => Nat → yM → Bool) base (fun _ ih => mq_299_2b T a0 K ih) n
theorem mq_299_2r_ok {fg : eG} {rc rs d : Nat} {f : eFr} {F : List eFr} {μ0 : eM} {T : Nat → Bool → Bool → Bool} {a0 a1 : Nat} {K : Nat → yM → Bool} {base : Nat → yM → Bool} (hT : zT a1 T) (hn : z_l0 a1 = false) (hG : yG fg y_T) (hk : ev_kd μ0 a0 = some 11) (p0 : 0 < a0) (hK : ∀ (r : Nat) (M : yM) (μ : eM), K r M = true → yR M μ → y_le μ0 μ → ex_fine fg rc rs (d + 6, (f.1, f.2.1, f.2.2.1, eI (zI r) :: f.2.2.2), F, μ)) (hb : ∀ (a2 : Nat) (M : yM) (μ : eM), base a2 M = true → yR M μ → y_le μ0 μ → ex_fine fg rc rs (d + 5, (299, 2, [some (eR a0), some (eI (zI a1)), some (eI (zI a2))], []), f :: F, μ)) : ∀ n : Nat, ∀ (a2 : Nat) (M : yM) (μ : eM), mq_299_2r T a0 K base n a2 M = true → yR M μ → y_le μ0 μ → ex_fine fg rc rs (d + 5, (299, 2, [some (eR a0), some (eI (zI a1)), some (eI (zI a2))], []), f :: F, μ) := by
  intro n
  induction n with
  | zero =>
    intro a2 M μ h hR hl
    exact hb a2 M μ h hR hl
  | succ n ih =>
    intro a2 M μ h hR hl
    exact mq_299_2b_ok hT hn hG hk p0 hK ih a2 M μ h hR hl
/-! RhombInflatorModel.isThere -/
noncomputable def mq_299 (T : Nat → Bool → Bool → Bool) (i2 : Nat → yM → Bool) (a0 : Nat) (M : yM) (K : Nat → yM → Bool) : Bool := z_f 0 fun w1 => i2 w1 M
theorem mq_299_ok {fg : eG} {rc rs d : Nat} {f : eFr} {F : List eFr} {M : yM} {μ0 : eM} {T : Nat → Bool → Bool → Bool} {i2 : Nat → yM → Bool} {a0 a1 : Nat} {K : Nat → yM → Bool} (hT : zT a1 T) (hn : z_l0 a1 = false) (hG : yG fg y_T) (h : mq_299 T i2 a0 M K = true) (hR : yR M μ0) (hk : ev_kd μ0 a0 = some 11) (p0 : 0 < a0) (h2 : ∀ (a2 : Nat) (M : yM) (μ : eM), i2 a2 M = true → yR M μ → y_le μ0 μ → ex_fine fg rc rs (d + 5, (299, 2, [some (eR a0), some (eI (zI a1)), some (eI (zI a2))], []), f :: F, μ)) (hK : ∀ (r : Nat) (M : yM) (μ : eM), K r M = true → yR M μ → y_le μ0 μ → ex_fine fg rc rs (d + 6, (f.1, f.2.1, f.2.2.1, eI (zI r) :: f.2.2.2), F, μ)) : ex_fine fg rc rs (d + 5, (299, 0, [some (eR a0), some (eI (zI a1)), none], []), f :: F, μ0) := by
  unfold mq_299 at h
  have hl := y_le_r μ0
  refine w_s (np := 1) (lv' := [some (eR a0), some (eI (zI a1)), none]) (st' := [eI (zI 0)]) rfl rfl rfl ?_
  refine w_s (np := 2) (lv' := [some (eR a0), some (eI (zI a1)), some (eI (zI 0))]) (st' := []) rfl rfl rfl ?_
  obtain ⟨w1, ew1, h⟩ := z_f_ex h
  subst ew1
  exact h2 _ M μ0 h hR hl
noncomputable def mq_300_102 (T : Nat → Bool → Bool → Bool) (c239 : Nat → Nat → Nat → yM → (yM → Bool) → Bool) (c299 : Nat → yM → (Nat → yM → Bool) → Bool) (a0 a1 : Nat) (K : Nat → yM → Bool) (i44 : Nat → Nat → Nat → Nat → yM → Bool) (a3 a4 a5 a6 s0 : Nat) (M : yM) : Bool := K s0 M
theorem mq_300_102_ok {fg : eG} {rc rs d : Nat} {f : eFr} {F : List eFr} {μ0 : eM} {T : Nat → Bool → Bool → Bool} {c239 : Nat → Nat → Nat → yM → (yM → Bool) → Bool} {c299 : Nat → yM → (Nat → yM → Bool) → Bool} {a0 a1 a2 : Nat} {K : Nat → yM → Bool} {i44 : Nat → Nat → Nat → Nat → yM → Bool} (hT : zT a2 T) (hn : z_l0 a2 = false) (hc239 : ∀ (d : Nat) (f : eFr) (F : List eFr) (b0 b1 b2 : Nat) (M : yM) (μ : eM) (K : yM → Bool), c239 b0 b1 b2 M K = true → yR M μ → ev_kd μ b0 = some 11 → 0 < b0 → (∀ (M : yM) (μ2 : eM), K M = true → yR M μ2 → y_le μ μ2 → ex_fine fg rc rs (d + 6, (f.1, f.2.1, f.2.2.1, f.2.2.2), F, μ2)) → ex_fine fg rc rs (d + 5, (239, 0, [some (eR b0), some (eI (zI b1)), some (eI (zI b2)), none, none], []), f :: F, μ)) (hc299 : ∀ (d : Nat) (f : eFr) (F : List eFr) (b0 : Nat) (M : yM) (μ : eM) (K : Nat → yM → Bool), c299 b0 M K = true → yR M μ → ev_kd μ b0 = some 11 → 0 < b0 → (∀ (r : Nat) (M : yM) (μ2 : eM), K r M = true → yR M μ2 → y_le μ μ2 → ex_fine fg rc rs (d + 6, (f.1, f.2.1, f.2.2.1, eI (zI r) :: f.2.2.2), F, μ2)) → ex_fine fg rc rs (d + 5, (299, 0, [some (eR b0), some (eI (zI a2)), none], []), f :: F, μ)) (hG : yG fg y_T) (hk : ev_kd μ0 a0 = some 11) (p0 : 0 < a0) (hK : ∀ (r : Nat) (M : yM) (μ : eM), K r M = true → yR M μ → y_le μ0 μ → ex_fine fg rc rs (d + 7, (f.1, f.2.1, f.2.2.1, eI (zI r) :: f.2.2.2), F, μ)) (h44 : ∀ (a3 a4 a5 a6 : Nat) (M : yM) (μ : eM), i44 a3 a4 a5 a6 M = true → yR M μ → y_le μ0 μ → ex_fine fg rc rs (d + 6, (300, 44, [some (eR a0), some (eI (zI a1)), some (eI (zI a2)), some (eI (zI a3)), some (eI (zI a4)), some (eI (zI a5)), some (eI (zI a6))], []), f :: F, μ)) : ∀ (a3 a4 a5 a6 s0 : Nat) (M : yM) (μ : eM), mq_300_102 T c239 c299 a0 a1 K i44 a3 a4 a5 a6 s0 M = true → yR M μ → y_le μ0 μ → ex_fine fg rc rs (d + 6, (300, 102, [some (eR a0), some (eI (zI a1)), some (eI (zI a2)), some (eI (zI a3)), some (eI (zI a4)), some (eI (zI a5)), some (eI (zI a6))], [eI (zI s0)]), f :: F, μ) := by
  intro a3 a4 a5 a6 s0 M μ h hR hl
  unfold mq_300_102 at h
  exact v_ri rfl rfl (hK _ _ _ h hR hl)
noncomputable def mq_300_80 (T : Nat → Bool → Bool → Bool) (c239 : Nat → Nat → Nat → yM → (yM → Bool) → Bool) (c299 : Nat → yM → (Nat → yM → Bool) → Bool) (a0 a1 : Nat) (K : Nat → yM → Bool) (i44 : Nat → Nat → Nat → Nat → yM → Bool) (a3 a4 a5 a6 : Nat) (M : yM) : Bool := c239 a0 a3 a4 M fun M1 => z_if (z_l0 a5) (m_214 a0 5 M1 fun v12 M7 => mq_300_102 T c239 c299 a0 a1 K i44 a3 a4 a5 a6 v12 M7) (mq_300_102 T c239 c299 a0 a1 K i44 a3 a4 a5 a6 a5 M1)
theorem mq_300_80_ok {fg : eG} {rc rs d : Nat} {f : eFr} {F : List eFr} {μ0 : eM} {T : Nat → Bool → Bool → Bool} {c239 : Nat → Nat → Nat → yM → (yM → Bool) → Bool} {c299 : Nat → yM → (Nat → yM → Bool) → Bool} {a0 a1 a2 : Nat} {K : Nat → yM → Bool} {i44 : Nat → Nat → Nat → Nat → yM → Bool} (hT : zT a2 T) (hn : z_l0 a2 = false) (hc239 : ∀ (d : Nat) (f : eFr) (F : List eFr) (b0 b1 b2 : Nat) (M : yM) (μ : eM) (K : yM → Bool), c239 b0 b1 b2 M K = true → yR M μ → ev_kd μ b0 = some 11 → 0 < b0 → (∀ (M : yM) (μ2 : eM), K M = true → yR M μ2 → y_le μ μ2 → ex_fine fg rc rs (d + 6, (f.1, f.2.1, f.2.2.1, f.2.2.2), F, μ2)) → ex_fine fg rc rs (d + 5, (239, 0, [some (eR b0), some (eI (zI b1)), some (eI (zI b2)), none, none], []), f :: F, μ)) (hc299 : ∀ (d : Nat) (f : eFr) (F : List eFr) (b0 : Nat) (M : yM) (μ : eM) (K : Nat → yM → Bool), c299 b0 M K = true → yR M μ → ev_kd μ b0 = some 11 → 0 < b0 → (∀ (r : Nat) (M : yM) (μ2 : eM), K r M = true → yR M μ2 → y_le μ μ2 → ex_fine fg rc rs (d + 6, (f.1, f.2.1, f.2.2.1, eI (zI r) :: f.2.2.2), F, μ2)) → ex_fine fg rc rs (d + 5, (299, 0, [some (eR b0), some (eI (zI a2)), none], []), f :: F, μ)) (hG : yG fg y_T) (hk : ev_kd μ0 a0 = some 11) (p0 : 0 < a0) (hK : ∀ (r : Nat) (M : yM) (μ : eM), K r M = true → yR M μ → y_le μ0 μ → ex_fine fg rc rs (d + 7, (f.1, f.2.1, f.2.2.1, eI (zI r) :: f.2.2.2), F, μ)) (h44 : ∀ (a3 a4 a5 a6 : Nat) (M : yM) (μ : eM), i44 a3 a4 a5 a6 M = true → yR M μ → y_le μ0 μ → ex_fine fg rc rs (d + 6, (300, 44, [some (eR a0), some (eI (zI a1)), some (eI (zI a2)), some (eI (zI a3)), some (eI (zI a4)), some (eI (zI a5)), some (eI (zI a6))], []), f :: F, μ)) : ∀ (a3 a4 a5 a6 : Nat) (M : yM) (μ : eM), mq_300_80 T c239 c299 a0 a1 K i44 a3 a4 a5 a6 M = true → yR M μ → y_le μ0 μ → ex_fine fg rc rs (d + 6, (300, 80, [some (eR a0), some (eI (zI a1)), some (eI (zI a2)), some (eI (zI a3)), some (eI (zI a4)), some (eI (zI a5)), some (eI (zI a6))], []), f :: F, μ) := by
  intro a3 a4 a5 a6 M μ h hR hl
  unfold mq_300_80 at h
  refine w_s (np := 81) (lv' := [some (eR a0), some (eI (zI a1)), some (eI (zI a2)), some (eI (zI a3)), some (eI (zI a4)), some (eI (zI a5)), some (eI (zI a6))]) (st' := [eR a0]) rfl (s_an rfl p0) rfl ?_
  refine w_s (np := 82) (lv' := [some (eR a0), some (eI (zI a1)), some (eI (zI a2)), some (eI (zI a3)), some (eI (zI a4)), some (eI (zI a5)), some (eI (zI a6))]) (st' := [eI (zI a3), eR a0]) rfl rfl rfl ?_
  refine w_s (np := 84) (lv' := [some (eR a0), some (eI (zI a1)), some (eI (zI a2)), some (eI (zI a3)), some (eI (zI a4)), some (eI (zI a5)), some (eI (zI a6))]) (st' := [eI (zI a4), eI (zI a3), eR a0]) rfl rfl rfl ?_
  refine w_cv (np := 87) (as := [eI (zI a3), eI (zI a4)]) (lv' := [some (eR a0), some (eI (zI a3)), some (eI (zI a4)), none, none]) (rest := []) rfl rfl rfl (Nat.ble_eq.mp rfl) rfl rfl rfl (hl _ _ hk) rfl ?_
  refine hc239 _ _ _ _ _ _ _ _ _ h hR (hl _ _ hk) p0 ?_
  intro M1 μ2 h hR3 hl5
  have hl4 := y_le.tr hl hl5
  show ex_fine fg rc rs (d + 6, (300, 87, [some (eR a0), some (eI (zI a1)), some (eI (zI a2)), some (eI (zI a3)), some (eI (zI a4)), some (eI (zI a5)), some (eI (zI a6))], []), f :: F, μ2)
  refine w_s (np := 89) (lv' := [some (eR a0), some (eI (zI a1)), some (eI (zI a2)), some (eI (zI a3)), some (eI (zI a4)), some (eI (zI a5)), some (eI (zI a6))]) (st' := [eI (zI a5)]) rfl rfl rfl ?_
  rcases z_if_t h with ⟨g6, h⟩ | ⟨g6, h⟩
  · refine v_ge0_f (t1 := 100) rfl rfl g6 ?_
    refine w_s (np := 93) (lv' := [some (eR a0), some (eI (zI a1)), some (eI (zI a2)), some (eI (zI a3)), some (eI (zI a4)), some (eI (zI a5)), some (eI (zI a6))]) (st' := [eR a0]) rfl (s_an rfl p0) rfl ?_
    refine w_s (np := 94) (lv' := [some (eR a0), some (eI (zI a1)), some (eI (zI a2)), some (eI (zI a3)), some (eI (zI a4)), some (eI (zI a5)), some (eI (zI a6))]) (st' := [eI (zI 5), eR a0]) rfl rfl rfl ?_
    refine w_cv (np := 97) (as := [eI (zI 5)]) (lv' := [some (eR a0), some (eI (zI 5))]) (rest := []) rfl rfl rfl (Nat.ble_eq.mp rfl) rfl rfl rfl (hl4 _ _ hk) rfl ?_
    refine m_214_ok hG h hR3 (hl4 _ _ hk) p0 ?_
    intro v12 M7 μ8 h hR9 hl11
    have hl10 := y_le.tr hl4 hl11
    show ex_fine fg rc rs (d + 6, (300, 97, [some (eR a0), some (eI (zI a1)), some (eI (zI a2)), some (eI (zI a3)), some (eI (zI a4)), some (eI (zI a5)), some (eI (zI a6))], [eI (zI v12)]), f :: F, μ8)
    refine w_go (t1 := 102) rfl rfl ?_
    exact mq_300_102_ok hT hn hc239 hc299 hG hk p0 hK h44 _ _ _ _ _ M7 μ8 h hR9 hl10
  · refine v_ge0_t (t1 := 100) rfl rfl g6 ?_
    refine w_s (np := 102) (lv' := [some (eR a0), some (eI (zI a1)), some (eI (zI a2)), some (eI (zI a3)), some (eI (zI a4)), some (eI (zI a5)), some (eI (zI a6))]) (st' := [eI (zI a5)]) rfl rfl rfl ?_
    exact mq_300_102_ok hT hn hc239 hc299 hG hk p0 hK h44 _ _ _ _ _ M1 μ2 h hR3 hl4
noncomputable def mq_300_74 (T : Nat → Bool → Bool → Bool) (c239 : Nat → Nat → Nat → yM → (yM → Bool) → Bool) (c299 : Nat → yM → (Nat → yM → Bool) → Bool) (a0 a1 : Nat) (K : Nat → yM → Bool) (i44 : Nat → Nat → Nat → Nat → yM → Bool) (a3 a4 a5 a6 : Nat) (M : yM) : Bool := z_l (z_add a6 1) fun v1 => z_f v1 fun w2 => i44 a3 a4 a5 w2 M
theorem mq_300_74_ok {fg : eG} {rc rs d : Nat} {f : eFr} {F : List eFr} {μ0 : eM} {T : Nat → Bool → Bool → Bool} {c239 : Nat → Nat → Nat → yM → (yM → Bool) → Bool} {c299 : Nat → yM → (Nat → yM → Bool) → Bool} {a0 a1 a2 : Nat} {K : Nat → yM → Bool} {i44 : Nat → Nat → Nat → Nat → yM → Bool} (hT : zT a2 T) (hn : z_l0 a2 = false) (hc239 : ∀ (d : Nat) (f : eFr) (F : List eFr) (b0 b1 b2 : Nat) (M : yM) (μ : eM) (K : yM → Bool), c239 b0 b1 b2 M K = true → yR M μ → ev_kd μ b0 = some 11 → 0 < b0 → (∀ (M : yM) (μ2 : eM), K M = true → yR M μ2 → y_le μ μ2 → ex_fine fg rc rs (d + 6, (f.1, f.2.1, f.2.2.1, f.2.2.2), F, μ2)) → ex_fine fg rc rs (d + 5, (239, 0, [some (eR b0), some (eI (zI b1)), some (eI (zI b2)), none, none], []), f :: F, μ)) (hc299 : ∀ (d : Nat) (f : eFr) (F : List eFr) (b0 : Nat) (M : yM) (μ : eM) (K : Nat → yM → Bool), c299 b0 M K = true → yR M μ → ev_kd μ b0 = some 11 → 0 < b0 → (∀ (r : Nat) (M : yM) (μ2 : eM), K r M = true → yR M μ2 → y_le μ μ2 → ex_fine fg rc rs (d + 6, (f.1, f.2.1, f.2.2.1, eI (zI r) :: f.2.2.2), F, μ2)) → ex_fine fg rc rs (d + 5, (299, 0, [some (eR b0), some (eI (zI a2)), none], []), f :: F, μ)) (hG : yG fg y_T) (hk : ev_kd μ0 a0 = some 11) (p0 : 0 < a0) (hK : ∀ (r : Nat) (M : yM) (μ : eM), K r M = true → yR M μ → y_le μ0 μ → ex_fine fg rc rs (d + 7, (f.1, f.2.1, f.2.2.1, eI (zI r) :: f.2.2.2), F, μ)) (h44 : ∀ (a3 a4 a5 a6 : Nat) (M : yM) (μ : eM), i44 a3 a4 a5 a6 M = true → yR M μ → y_le μ0 μ → ex_fine fg rc rs (d + 6, (300, 44, [some (eR a0), some (eI (zI a1)), some (eI (zI a2)), some (eI (zI a3)), some (eI (zI a4)), some (eI (zI a5)), some (eI (zI a6))], []), f :: F, μ)) : ∀ (a3 a4 a5 a6 : Nat) (M : yM) (μ : eM), mq_300_74 T c239 c299 a0 a1 K i44 a3 a4 a5 a6 M = true → yR M μ → y_le μ0 μ → ex_fine fg rc rs (d + 6, (300, 74, [some (eR a0), some (eI (zI a1)), some (eI (zI a2)), some (eI (zI a3)), some (eI (zI a4)), some (eI (zI a5)), some (eI (zI a6))], []), f :: F, μ) := by
  intro a3 a4 a5 a6 M μ h hR hl
  unfold mq_300_74 at h
  obtain ⟨v1, ev1, h⟩ := z_l_ex h
  refine w_s (np := 77) (lv' := [some (eR a0), some (eI (zI a1)), some (eI (zI a2)), some (eI (zI a3)), some (eI (zI a4)), some (eI (zI a5)), some (eI (zI v1))]) (st' := []) rfl (s_iinc (b := 1) rfl rfl ev1 rfl) rfl ?_
  clear ev1
  refine w_go (t1 := 44) rfl rfl ?_
  obtain ⟨w2, ew2, h⟩ := z_f_ex h
  subst ew2
  exact h44 _ _ _ _ M μ h hR hl
noncomputable def mq_300_44b (T : Nat → Bool → Bool → Bool) (c239 : Nat → Nat → Nat → yM → (yM → Bool) → Bool) (c299 : Nat → yM → (Nat → yM → Bool) → Bool) (a0 a1 : Nat) (K : Nat → yM → Bool) (i44 : Nat → Nat → Nat → Nat → yM → Bool) (a3 a4 a5 a6 : Nat) (M : yM) : Bool := z_if (z_lt 5 a6) (mq_300_80 T c239 c299 a0 a1 K i44 a3 a4 a5 a6 M) (z_if (z_l0 a5) (c239 a0 a1 a6 M fun M3 => c299 a0 M3 fun v13 M8 => z_if (z_e0 v13) (mq_300_74 T c239 c299 a0 a1 K i44 a3 a4 a5 a6 M8) (mq_300_74 T c239 c299 a0 a1 K i44 a3 a4 a6 a6 M8)) (mq_300_80 T c239 c299 a0 a1 K i44 a3 a4 a5 a6 M))
noncomputable def mq_300_44 (T : Nat → Bool → Bool → Bool) (c239 : Nat → Nat → Nat → yM → (yM → Bool) → Bool) (c299 : Nat → yM → (Nat → yM → Bool) → Bool) (a0 a1 : Nat) (K : Nat → yM → Bool) (n : Nat) : Nat → Nat → Nat → Nat → yM → Bool := @Nat.rec (fun _ => Nat → Nat → Nat → Nat → yM → Bool) (fun _ _ _ _ _ => false) (fun _ ih => mq_300_44b T c239 c299 a0 a1 K ih) n
theorem mq_300_44b_ok {fg : eG} {rc rs d : Nat} {f : eFr} {F : List eFr} {μ0 : eM} {T : Nat → Bool → Bool → Bool} {c239 : Nat → Nat → Nat → yM → (yM → Bool) → Bool} {c299 : Nat → yM → (Nat → yM → Bool) → Bool} {a0 a1 a2 : Nat} {K : Nat → yM → Bool} {i44 : Nat → Nat → Nat → Nat → yM → Bool} (hT : zT a2 T) (hn : z_l0 a2 = false) (hc239 : ∀ (d : Nat) (f : eFr) (F : List eFr) (b0 b1 b2 : Nat) (M : yM) (μ : eM) (K : yM → Bool), c239 b0 b1 b2 M K = true → yR M μ → ev_kd μ b0 = some 11 → 0 < b0 → (∀ (M : yM) (μ2 : eM), K M = true → yR M μ2 → y_le μ μ2 → ex_fine fg rc rs (d + 6, (f.1, f.2.1, f.2.2.1, f.2.2.2), F, μ2)) → ex_fine fg rc rs (d + 5, (239, 0, [some (eR b0), some (eI (zI b1)), some (eI (zI b2)), none, none], []), f :: F, μ)) (hc299 : ∀ (d : Nat) (f : eFr) (F : List eFr) (b0 : Nat) (M : yM) (μ : eM) (K : Nat → yM → Bool), c299 b0 M K = true → yR M μ → ev_kd μ b0 = some 11 → 0 < b0 → (∀ (r : Nat) (M : yM) (μ2 : eM), K r M = true → yR M μ2 → y_le μ μ2 → ex_fine fg rc rs (d + 6, (f.1, f.2.1, f.2.2.1, eI (zI r) :: f.2.2.2), F, μ2)) → ex_fine fg rc rs (d + 5, (299, 0, [some (eR b0), some (eI (zI a2)), none], []), f :: F, μ)) (hG : yG fg y_T) (hk : ev_kd μ0 a0 = some 11) (p0 : 0 < a0) (hK : ∀ (r : Nat) (M : yM) (μ : eM), K r M = true → yR M μ → y_le μ0 μ → ex_fine fg rc rs (d + 7, (f.1, f.2.1, f.2.2.1, eI (zI r) :: f.2.2.2), F, μ)) (h44 : ∀ (a3 a4 a5 a6 : Nat) (M : yM) (μ : eM), i44 a3 a4 a5 a6 M = true → yR M μ → y_le μ0 μ → ex_fine fg rc rs (d + 6, (300, 44, [some (eR a0), some (eI (zI a1)), some (eI (zI a2)), some (eI (zI a3)), some (eI (zI a4)), some (eI (zI a5)), some (eI (zI a6))], []), f :: F, μ)) : ∀ (a3 a4 a5 a6 : Nat) (M : yM) (μ : eM), mq_300_44b T c239 c299 a0 a1 K i44 a3 a4 a5 a6 M = true → yR M μ → y_le μ0 μ → ex_fine fg rc rs (d + 6, (300, 44, [some (eR a0), some (eI (zI a1)), some (eI (zI a2)), some (eI (zI a3)), some (eI (zI a4)), some (eI (zI a5)), some (eI (zI a6))], []), f :: F, μ) := by
  intro a3 a4 a5 a6 M μ h hR hl
  unfold mq_300_44b at h
  refine w_s (np := 46) (lv' := [some (eR a0), some (eI (zI a1)), some (eI (zI a2)), some (eI (zI a3)), some (eI (zI a4)), some (eI (zI a5)), some (eI (zI a6))]) (st' := [eI (zI a6)]) rfl rfl rfl ?_
  refine w_s (np := 47) (lv' := [some (eR a0), some (eI (zI a1)), some (eI (zI a2)), some (eI (zI a3)), some (eI (zI a4)), some (eI (zI a5)), some (eI (zI a6))]) (st' := [eI (zI 5), eI (zI a6)]) rfl rfl rfl ?_
  rcases z_if_t h with ⟨g1, h⟩ | ⟨g1, h⟩
  · refine v_gt_t (t1 := 80) rfl rfl g1 ?_
    exact mq_300_80_ok hT hn hc239 hc299 hG hk p0 hK h44 _ _ _ _ M μ h hR hl
  · refine v_gt_f (t1 := 80) rfl rfl g1 ?_
    refine w_s (np := 52) (lv' := [some (eR a0), some (eI (zI a1)), some (eI (zI a2)), some (eI (zI a3)), some (eI (zI a4)), some (eI (zI a5)), some (eI (zI a6))]) (st' := [eI (zI a5)]) rfl rfl rfl ?_
    rcases z_if_t h with ⟨g2, h⟩ | ⟨g2, h⟩
    · refine v_ge0_f (t1 := 80) rfl rfl g2 ?_
      refine w_s (np := 56) (lv' := [some (eR a0), some (eI (zI a1)), some (eI (zI a2)), some (eI (zI a3)), some (eI (zI a4)), some (eI (zI a5)), some (eI (zI a6))]) (st' := [eR a0]) rfl (s_an rfl p0) rfl ?_
      refine w_s (np := 57) (lv' := [some (eR a0), some (eI (zI a1)), some (eI (zI a2)), some (eI (zI a3)), some (eI (zI a4)), some (eI (zI a5)), some (eI (zI a6))]) (st' := [eI (zI a1), eR a0]) rfl rfl rfl ?_
      refine w_s (np := 59) (lv' := [some (eR a0), some (eI (zI a1)), some (eI (zI a2)), some (eI (zI a3)), some (eI (zI a4)), some (eI (zI a5)), some (eI (zI a6))]) (st' := [eI (zI a6), eI (zI a1), eR a0]) rfl rfl rfl ?_
      refine w_cv (np := 62) (as := [eI (zI a1), eI (zI a6)]) (lv' := [some (eR a0), some (eI (zI a1)), some (eI (zI a6)), none, none]) (rest := []) rfl rfl rfl (Nat.ble_eq.mp rfl) rfl rfl rfl (hl _ _ hk) rfl ?_
      refine hc239 _ _ _ _ _ _ _ _ _ h hR (hl _ _ hk) p0 ?_
      intro M3 μ4 h hR5 hl7
      have hl6 := y_le.tr hl hl7
      show ex_fine fg rc rs (d + 6, (300, 62, [some (eR a0), some (eI (zI a1)), some (eI (zI a2)), some (eI (zI a3)), some (eI (zI a4)), some (eI (zI a5)), some (eI (zI a6))], []), f :: F, μ4)
      refine w_s (np := 63) (lv' := [some (eR a0), some (eI (zI a1)), some (eI (zI a2)), some (eI (zI a3)), some (eI (zI a4)), some (eI (zI a5)), some (eI (zI a6))]) (st' := [eR a0]) rfl (s_an rfl p0) rfl ?_
      refine w_s (np := 64) (lv' := [some (eR a0), some (eI (zI a1)), some (eI (zI a2)), some (eI (zI a3)), some (eI (zI a4)), some (eI (zI a5)), some (eI (zI a6))]) (st' := [eI (zI a2), eR a0]) rfl rfl rfl ?_
      refine w_cv (np := 67) (as := [eI (zI a2)]) (lv' := [some (eR a0), some (eI (zI a2)), none]) (rest := []) rfl rfl rfl (Nat.ble_eq.mp rfl) rfl rfl rfl (hl6 _ _ hk) rfl ?_
      refine hc299 _ _ _ _ _ _ _ h hR5 (hl6 _ _ hk) p0 ?_
      intro v13 M8 μ9 h hR10 hl12
      have hl11 := y_le.tr hl6 hl12
      show ex_fine fg rc rs (d + 6, (300, 67, [some (eR a0), some (eI (zI a1)), some (eI (zI a2)), some (eI (zI a3)), some (eI (zI a4)), some (eI (zI a5)), some (eI (zI a6))], [eI (zI v13)]), f :: F, μ9)
      rcases z_if_t h with ⟨g14, h⟩ | ⟨g14, h⟩
      · refine v_eq0_t (t1 := 74) rfl rfl g14 ?_
        exact mq_300_74_ok hT hn hc239 hc299 hG hk p0 hK h44 _ _ _ _ M8 μ9 h hR10 hl11
      · refine v_eq0_f (t1 := 74) rfl rfl g14 ?_
        refine w_s (np := 72) (lv' := [some (eR a0), some (eI (zI a1)), some (eI (zI a2)), some (eI (zI a3)), some (eI (zI a4)), some (eI (zI a5)), some (eI (zI a6))]) (st' := [eI (zI a6)]) rfl rfl rfl ?_
        refine w_s (np := 74) (lv' := [some (eR a0), some (eI (zI a1)), some (eI (zI a2)), some (eI (zI a3)), some (eI (zI a4)), some (eI (zI a6)), some (eI (zI a6))]) (st' := []) rfl rfl rfl ?_
        exact mq_300_74_ok hT hn hc239 hc299 hG hk p0 hK h44 _ _ _ _ M8 μ9 h hR10 hl11
    · refine v_ge0_t (t1 := 80) rfl rfl g2 ?_
      exact mq_300_80_ok hT hn hc239 hc299 hG hk p0 hK h44 _ _ _ _ M μ h hR hl
theorem mq_300_44_ok {fg : eG} {rc rs d : Nat} {f : eFr} {F : List eFr} {μ0 : eM} {T : Nat → Bool → Bool → Bool} {c239 : Nat → Nat → Nat → yM → (yM → Bool) → Bool} {c299 : Nat → yM → (Nat → yM → Bool) → Bool} {a0 a1 a2 : Nat} {K : Nat → yM → Bool} (hT : zT a2 T) (hn : z_l0 a2 = false) (hc239 : ∀ (d : Nat) (f : eFr) (F : List eFr) (b0 b1 b2 : Nat) (M : yM) (μ : eM) (K : yM → Bool), c239 b0 b1 b2 M K = true → yR M μ → ev_kd μ b0 = some 11 → 0 < b0 → (∀ (M : yM) (μ2 : eM), K M = true → yR M μ2 → y_le μ μ2 → ex_fine fg rc rs (d + 6, (f.1, f.2.1, f.2.2.1, f.2.2.2), F, μ2)) → ex_fine fg rc rs (d + 5, (239, 0, [some (eR b0), some (eI (zI b1)), some (eI (zI b2)), none, none], []), f :: F, μ)) (hc299 : ∀ (d : Nat) (f : eFr) (F : List eFr) (b0 : Nat) (M : yM) (μ : eM) (K : Nat → yM → Bool), c299 b0 M K = true → yR M μ → ev_kd μ b0 = some 11 → 0 < b0 → (∀ (r : Nat) (M : yM) (μ2 : eM), K r M = true → yR M μ2 → y_le μ μ2 → ex_fine fg rc rs (d + 6, (f.1, f.2.1, f.2.2.1, eI (zI r) :: f.2.2.2), F, μ2)) → ex_fine fg rc rs (d + 5, (299, 0, [some (eR b0), some (eI (zI a2)), none], []), f :: F, μ)) (hG : yG fg y_T) (hk : ev_kd μ0 a0 = some 11) (p0 : 0 < a0) (hK : ∀ (r : Nat) (M : yM) (μ : eM), K r M = true → yR M μ → y_le μ0 μ → ex_fine fg rc rs (d + 7, (f.1, f.2.1, f.2.2.1, eI (zI r) :: f.2.2.2), F, μ)) : ∀ n : Nat, ∀ (a3 a4 a5 a6 : Nat) (M : yM) (μ : eM), mq_300_44 T c239 c299 a0 a1 K n a3 a4 a5 a6 M = true → yR M μ → y_le μ0 μ → ex_fine fg rc rs (d + 6, (300, 44, [some (eR a0), some (eI (zI a1)), some (eI (zI a2)), some (eI (zI a3)), some (eI (zI a4)), some (eI (zI a5)), some (eI (zI a6))], []), f :: F, μ) := by
  intro n
  induction n with
  | zero =>
    intro a3 a4 a5 a6 M μ h hR hl
    exact absurd h Bool.false_ne_true
  | succ n ih =>
    intro a3 a4 a5 a6 M μ h hR hl
    exact mq_300_44b_ok hT hn hc239 hc299 hG hk p0 hK ih a3 a4 a5 a6 M μ h hR hl
noncomputable def mq_300_19 (T : Nat → Bool → Bool → Bool) (c239 : Nat → Nat → Nat → yM → (yM → Bool) → Bool) (c299 : Nat → yM → (Nat → yM → Bool) → Bool) (a0 a1 : Nat) (K : Nat → yM → Bool) (i44 : Nat → Nat → Nat → Nat → yM → Bool) (s0 s1 : Nat) (M : yM) : Bool := y_is M s1 11 (m_215 s1 s0 M fun v6 M1 => z_if (z_e0 v6) (K 4294967295 M1) (y_gf M1 a0 11 6 fun v9 => y_gf M1 a0 11 7 fun v12 => z_f v9 fun w15 => z_f v12 fun w16 => z_f 4294967295 fun w17 => z_f 0 fun w18 => i44 w15 w16 w17 w18 M1))
theorem mq_300_19_ok {fg : eG} {rc rs d : Nat} {f : eFr} {F : List eFr} {μ0 : eM} {T : Nat → Bool → Bool → Bool} {c239 : Nat → Nat → Nat → yM → (yM → Bool) → Bool} {c299 : Nat → yM → (Nat → yM → Bool) → Bool} {a0 a1 a2 : Nat} {K : Nat → yM → Bool} {i44 : Nat → Nat → Nat → Nat → yM → Bool} (hT : zT a2 T) (hn : z_l0 a2 = false) (hc239 : ∀ (d : Nat) (f : eFr) (F : List eFr) (b0 b1 b2 : Nat) (M : yM) (μ : eM) (K : yM → Bool), c239 b0 b1 b2 M K = true → yR M μ → ev_kd μ b0 = some 11 → 0 < b0 → (∀ (M : yM) (μ2 : eM), K M = true → yR M μ2 → y_le μ μ2 → ex_fine fg rc rs (d + 6, (f.1, f.2.1, f.2.2.1, f.2.2.2), F, μ2)) → ex_fine fg rc rs (d + 5, (239, 0, [some (eR b0), some (eI (zI b1)), some (eI (zI b2)), none, none], []), f :: F, μ)) (hc299 : ∀ (d : Nat) (f : eFr) (F : List eFr) (b0 : Nat) (M : yM) (μ : eM) (K : Nat → yM → Bool), c299 b0 M K = true → yR M μ → ev_kd μ b0 = some 11 → 0 < b0 → (∀ (r : Nat) (M : yM) (μ2 : eM), K r M = true → yR M μ2 → y_le μ μ2 → ex_fine fg rc rs (d + 6, (f.1, f.2.1, f.2.2.1, eI (zI r) :: f.2.2.2), F, μ2)) → ex_fine fg rc rs (d + 5, (299, 0, [some (eR b0), some (eI (zI a2)), none], []), f :: F, μ)) (hG : yG fg y_T) (hk : ev_kd μ0 a0 = some 11) (p0 : 0 < a0) (hK : ∀ (r : Nat) (M : yM) (μ : eM), K r M = true → yR M μ → y_le μ0 μ → ex_fine fg rc rs (d + 7, (f.1, f.2.1, f.2.2.1, eI (zI r) :: f.2.2.2), F, μ)) (h44 : ∀ (a3 a4 a5 a6 : Nat) (M : yM) (μ : eM), i44 a3 a4 a5 a6 M = true → yR M μ → y_le μ0 μ → ex_fine fg rc rs (d + 6, (300, 44, [some (eR a0), some (eI (zI a1)), some (eI (zI a2)), some (eI (zI a3)), some (eI (zI a4)), some (eI (zI a5)), some (eI (zI a6))], []), f :: F, μ)) : ∀ (s0 s1 : Nat) (M : yM) (μ : eM), mq_300_19 T c239 c299 a0 a1 K i44 s0 s1 M = true → yR M μ → y_le μ0 μ → 0 < s1 → ex_fine fg rc rs (d + 6, (300, 19, [some (eR a0), some (eI (zI a1)), some (eI (zI a2)), none, none, none, none], [eI (zI s0), eR s1]), f :: F, μ) := by
  intro s0 s1 M μ h hR hl q1
  unfold mq_300_19 at h
  obtain ⟨k7, h⟩ := y_is_ok h hR
  refine w_cv (np := 22) (as := [eI (zI s0)]) (lv' := [some (eR s1), some (eI (zI s0))]) (rest := []) rfl rfl rfl (Nat.ble_eq.mp rfl) rfl rfl rfl k7 rfl ?_
  refine m_215_ok hG h hR k7 q1 ?_
  intro v6 M1 μ2 h hR3 hl5
  have hl4 := y_le.tr hl hl5
  show ex_fine fg rc rs (d + 6, (300, 22, [some (eR a0), some (eI (zI a1)), some (eI (zI a2)), none, none, none, none], [eI (zI v6)]), f :: F, μ2)
  rcases z_if_t h with ⟨g8, h⟩ | ⟨g8, h⟩
  · refine v_ne0_f (t1 := 27) rfl rfl g8 ?_
    refine w_s (np := 26) (lv' := [some (eR a0), some (eI (zI a1)), some (eI (zI a2)), none, none, none, none]) (st' := [eI (zI 4294967295)]) rfl rfl rfl ?_
    exact v_ri rfl rfl (hK _ _ _ h hR3 hl4)
  · refine v_ne0_t (t1 := 27) rfl rfl g8 ?_
    refine w_s (np := 28) (lv' := [some (eR a0), some (eI (zI a1)), some (eI (zI a2)), none, none, none, none]) (st' := [eR a0]) rfl (s_an rfl p0) rfl ?_
    obtain ⟨v9, h, k10, e11⟩ := y_gf_ok (ty := 0) h hR3 (by decide) rfl
    refine v_gf0 (np := 31) rfl rfl k10 e11 ?_
    clear k10 e11
    refine w_s (np := 32) (lv' := [some (eR a0), some (eI (zI a1)), some (eI (zI a2)), some (eI (zI v9)), none, none, none]) (st' := []) rfl rfl rfl ?_
    refine w_s (np := 33) (lv' := [some (eR a0), some (eI (zI a1)), some (eI (zI a2)), some (eI (zI v9)), none, none, none]) (st' := [eR a0]) rfl (s_an rfl p0) rfl ?_
    obtain ⟨v12, h, k13, e14⟩ := y_gf_ok (ty := 0) h hR3 (by decide) rfl
    refine v_gf0 (np := 36) rfl rfl k13 e14 ?_
    clear k13 e14
    refine w_s (np := 38) (lv' := [some (eR a0), some (eI (zI a1)), some (eI (zI a2)), some (eI (zI v9)), some (eI (zI v12)), none, none]) (st' := []) rfl rfl rfl ?_
    refine w_s (np := 39) (lv' := [some (eR a0), some (eI (zI a1)), some (eI (zI a2)), some (eI (zI v9)), some (eI (zI v12)), none, none]) (st' := [eI (zI 4294967295)]) rfl rfl rfl ?_
    refine w_s (np := 41) (lv' := [some (eR a0), some (eI (zI a1)), some (eI (zI a2)), some (eI (zI v9)), some (eI (zI v12)), some (eI (zI 4294967295)), none]) (st' := []) rfl rfl rfl ?_
    refine w_s (np := 42) (lv' := [some (eR a0), some (eI (zI a1)), some (eI (zI a2)), some (eI (zI v9)), some (eI (zI v12)), some (eI (zI 4294967295)), none]) (st' := [eI (zI 0)]) rfl rfl rfl ?_
    refine w_s (np := 44) (lv' := [some (eR a0), some (eI (zI a1)), some (eI (zI a2)), some (eI (zI v9)), some (eI (zI v12)), some (eI (zI 4294967295)), some (eI (zI 0))]) (st' := []) rfl rfl rfl ?_
    obtain ⟨w15, ew15, h⟩ := z_f_ex h
    subst ew15
    obtain ⟨w16, ew16, h⟩ := z_f_ex h
    subst ew16
    obtain ⟨w17, ew17, h⟩ := z_f_ex h
    subst ew17
    obtain ⟨w18, ew18, h⟩ := z_f_ex h
    subst ew18
    exact h44 _ _ _ _ M1 μ2 h hR3 hl4
noncomputable def mq_300_14 (T : Nat → Bool → Bool → Bool) (c239 : Nat → Nat → Nat → yM → (yM → Bool) → Bool) (c299 : Nat → yM → (Nat → yM → Bool) → Bool) (a0 a1 : Nat) (K : Nat → yM → Bool) (i44 : Nat → Nat → Nat → Nat → yM → Bool) (s0 : Nat) (M : yM) : Bool := mq_300_19 T c239 c299 a0 a1 K i44 1 s0 M
theorem mq_300_14_ok {fg : eG} {rc rs d : Nat} {f : eFr} {F : List eFr} {μ0 : eM} {T : Nat → Bool → Bool → Bool} {c239 : Nat → Nat → Nat → yM → (yM → Bool) → Bool} {c299 : Nat → yM → (Nat → yM → Bool) → Bool} {a0 a1 a2 : Nat} {K : Nat → yM → Bool} {i44 : Nat → Nat → Nat → Nat → yM → Bool} (hT : zT a2 T) (hn : z_l0 a2 = false) (hc239 : ∀ (d : Nat) (f : eFr) (F : List eFr) (b0 b1 b2 : Nat) (M : yM) (μ : eM) (K : yM → Bool), c239 b0 b1 b2 M K = true → yR M μ → ev_kd μ b0 = some 11 → 0 < b0 → (∀ (M : yM) (μ2 : eM), K M = true → yR M μ2 → y_le μ μ2 → ex_fine fg rc rs (d + 6, (f.1, f.2.1, f.2.2.1, f.2.2.2), F, μ2)) → ex_fine fg rc rs (d + 5, (239, 0, [some (eR b0), some (eI (zI b1)), some (eI (zI b2)), none, none], []), f :: F, μ)) (hc299 : ∀ (d : Nat) (f : eFr) (F : List eFr) (b0 : Nat) (M : yM) (μ : eM) (K : Nat → yM → Bool), c299 b0 M K = true → yR M μ → ev_kd μ b0 = some 11 → 0 < b0 → (∀ (r : Nat) (M : yM) (μ2 : eM), K r M = true → yR M μ2 → y_le μ μ2 → ex_fine fg rc rs (d + 6, (f.1, f.2.1, f.2.2.1, eI (zI r) :: f.2.2.2), F, μ2)) → ex_fine fg rc rs (d + 5, (299, 0, [some (eR b0), some (eI (zI a2)), none], []), f :: F, μ)) (hG : yG fg y_T) (hk : ev_kd μ0 a0 = some 11) (p0 : 0 < a0) (hK : ∀ (r : Nat) (M : yM) (μ : eM), K r M = true → yR M μ → y_le μ0 μ → ex_fine fg rc rs (d + 7, (f.1, f.2.1, f.2.2.1, eI (zI r) :: f.2.2.2), F, μ)) (h44 : ∀ (a3 a4 a5 a6 : Nat) (M : yM) (μ : eM), i44 a3 a4 a5 a6 M = true → yR M μ → y_le μ0 μ → ex_fine fg rc rs (d + 6, (300, 44, [some (eR a0), some (eI (zI a1)), some (eI (zI a2)), some (eI (zI a3)), some (eI (zI a4)), some (eI (zI a5)), some (eI (zI a6))], []), f :: F, μ)) : ∀ (s0 : Nat) (M : yM) (μ : eM), mq_300_14 T c239 c299 a0 a1 K i44 s0 M = true → yR M μ → y_le μ0 μ → 0 < s0 → ex_fine fg rc rs (d + 6, (300, 14, [some (eR a0), some (eI (zI a1)), some (eI (zI a2)), none, none, none, none], [eR s0]), f :: F, μ) := by
  intro s0 M μ h hR hl q0
  unfold mq_300_14 at h
  refine w_s (np := 15) (lv' := [some (eR a0), some (eI (zI a1)), some (eI (zI a2)), none, none, none, none]) (st' := [eI (zI 1), eR s0]) rfl rfl rfl ?_
  refine w_go (t1 := 19) rfl rfl ?_
  exact mq_300_19_ok hT hn hc239 hc299 hG hk p0 hK h44 _ _ M μ h hR hl q0
/-! RhombInflatorModel.comes -/
noncomputable def mq_300 (T : Nat → Bool → Bool → Bool) (c239 : Nat → Nat → Nat → yM → (yM → Bool) → Bool) (c299 : Nat → yM → (Nat → yM → Bool) → Bool) (i44 : Nat → Nat → Nat → Nat → yM → Bool) (a0 a1 : Nat) (M : yM) (K : Nat → yM → Bool) : Bool := m_216 a1 0 3 M fun v6 M1 => z_if (z_e0 v6) (mq_300_14 T c239 c299 a0 a1 K i44 a0 M1) (mq_300_19 T c239 c299 a0 a1 K i44 0 a0 M1)
theorem mq_300_ok {fg : eG} {rc rs d : Nat} {f : eFr} {F : List eFr} {M : yM} {μ0 : eM} {T : Nat → Bool → Bool → Bool} {c239 : Nat → Nat → Nat → yM → (yM → Bool) → Bool} {c299 : Nat → yM → (Nat → yM → Bool) → Bool} {i44 : Nat → Nat → Nat → Nat → yM → Bool} {a0 a1 a2 : Nat} {K : Nat → yM → Bool} (hT : zT a2 T) (hn : z_l0 a2 = false) (hc239 : ∀ (d : Nat) (f : eFr) (F : List eFr) (b0 b1 b2 : Nat) (M : yM) (μ : eM) (K : yM → Bool), c239 b0 b1 b2 M K = true → yR M μ → ev_kd μ b0 = some 11 → 0 < b0 → (∀ (M : yM) (μ2 : eM), K M = true → yR M μ2 → y_le μ μ2 → ex_fine fg rc rs (d + 6, (f.1, f.2.1, f.2.2.1, f.2.2.2), F, μ2)) → ex_fine fg rc rs (d + 5, (239, 0, [some (eR b0), some (eI (zI b1)), some (eI (zI b2)), none, none], []), f :: F, μ)) (hc299 : ∀ (d : Nat) (f : eFr) (F : List eFr) (b0 : Nat) (M : yM) (μ : eM) (K : Nat → yM → Bool), c299 b0 M K = true → yR M μ → ev_kd μ b0 = some 11 → 0 < b0 → (∀ (r : Nat) (M : yM) (μ2 : eM), K r M = true → yR M μ2 → y_le μ μ2 → ex_fine fg rc rs (d + 6, (f.1, f.2.1, f.2.2.1, eI (zI r) :: f.2.2.2), F, μ2)) → ex_fine fg rc rs (d + 5, (299, 0, [some (eR b0), some (eI (zI a2)), none], []), f :: F, μ)) (hG : yG fg y_T) (h : mq_300 T c239 c299 i44 a0 a1 M K = true) (hR : yR M μ0) (hk : ev_kd μ0 a0 = some 11) (p0 : 0 < a0) (h44 : ∀ (a3 a4 a5 a6 : Nat) (M : yM) (μ : eM), i44 a3 a4 a5 a6 M = true → yR M μ → y_le μ0 μ → ex_fine fg rc rs (d + 6, (300, 44, [some (eR a0), some (eI (zI a1)), some (eI (zI a2)), some (eI (zI a3)), some (eI (zI a4)), some (eI (zI a5)), some (eI (zI a6))], []), f :: F, μ)) (hK : ∀ (r : Nat) (M : yM) (μ : eM), K r M = true → yR M μ → y_le μ0 μ → ex_fine fg rc rs (d + 7, (f.1, f.2.1, f.2.2.1, eI (zI r) :: f.2.2.2), F, μ)) : ex_fine fg rc rs (d + 6, (300, 0, [some (eR a0), some (eI (zI a1)), some (eI (zI a2)), none, none, none, none], []), f :: F, μ0) := by
  unfold mq_300 at h
  have hl := y_le_r μ0
  refine w_s (np := 1) (lv' := [some (eR a0), some (eI (zI a1)), some (eI (zI a2)), none, none, none, none]) (st' := [eR a0]) rfl (s_an rfl p0) rfl ?_
  refine w_s (np := 2) (lv' := [some (eR a0), some (eI (zI a1)), some (eI (zI a2)), none, none, none, none]) (st' := [eI (zI a1), eR a0]) rfl rfl rfl ?_
  refine w_s (np := 3) (lv' := [some (eR a0), some (eI (zI a1)), some (eI (zI a2)), none, none, none, none]) (st' := [eI (zI 0), eI (zI a1), eR a0]) rfl rfl rfl ?_
  refine w_s (np := 4) (lv' := [some (eR a0), some (eI (zI a1)), some (eI (zI a2)), none, none, none, none]) (st' := [eI (zI 3), eI (zI 0), eI (zI a1), eR a0]) rfl rfl rfl ?_
  refine w_cs (np := 7) (as := [eI (zI a1), eI (zI 0), eI (zI 3)]) (lv' := [some (eI (zI a1)), some (eI (zI 0)), some (eI (zI 3))]) (rest := [eR a0]) rfl rfl rfl (Nat.ble_eq.mp rfl) rfl rfl rfl rfl ?_
  refine m_216_ok hG h hR ?_
  intro v6 M1 μ2 h hR3 hl5
  have hl4 := y_le.tr hl hl5
  show ex_fine fg rc rs (d + 6, (300, 7, [some (eR a0), some (eI (zI a1)), some (eI (zI a2)), none, none, none, none], [eI (zI v6), eR a0]), f :: F, μ2)
  rcases z_if_t h with ⟨g7, h⟩ | ⟨g7, h⟩
  · refine v_eq0_t (t1 := 14) rfl rfl g7 ?_
    exact mq_300_14_ok hT hn hc239 hc299 hG hk p0 hK h44 _ M1 μ2 h hR3 hl4 p0
  · refine v_eq0_f (t1 := 14) rfl rfl g7 ?_
    refine w_s (np := 11) (lv' := [some (eR a0), some (eI (zI a1)), some (eI (zI a2)), none, none, none, none]) (st' := [eI (zI a2), eR a0]) rfl rfl rfl ?_
    refine v_ge0_t (t1 := 18) rfl rfl hn ?_
    refine w_s (np := 19) (lv' := [some (eR a0), some (eI (zI a1)), some (eI (zI a2)), none, none, none, none]) (st' := [eI (zI 0), eR a0]) rfl rfl rfl ?_
    exact mq_300_19_ok hT hn hc239 hc299 hG hk p0 hK h44 _ _ M1 μ2 h hR3 hl4 p0
