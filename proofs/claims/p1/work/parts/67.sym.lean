noncomputable def ms_13_8b (T : Nat → Bool → Bool → Bool) (c14 : Nat → Nat → yM → (yM → Bool) → Bool) (a0 a1 : Nat) (K : Nat → yM → Bool) (i8 : Nat → Nat → yM → Bool) (a3 a4 : Nat) (M : yM) : Bool := y_gf M a0 1 2 fun v1 => f_if false (Nat.ble 1 v1) (y_lh 100 M v1 a1 fun v6 => z_if (z_lt a4 v6) (y_gf M a0 1 0 fun v9 => f_if false (Nat.ble 1 v9) (z_l (z_add a3 a4) fun v14 => y_lh 100 M v9 v14 fun v15 => T v15 (z_l (z_add a3 a4) fun v20 => K v20 M) (z_l (z_add a4 1) fun v18 => z_f v18 fun w19 => i8 a3 w19 M))) (K 4294967295 M))
noncomputable def ms_13_8 (T : Nat → Bool → Bool → Bool) (c14 : Nat → Nat → yM → (yM → Bool) → Bool) (a0 a1 : Nat) (K : Nat → yM → Bool) (n : Nat) : Nat → Nat → yM → Bool := @Nat.rec (fun _ => Nat → Nat → yM → Bool) (fun _ _ _ => false) (fun _ ih => ms_13_8b T c14 a0 a1 K ih) n
theorem ms_13_8b_ok {fg : eG} {rc rs d : Nat} {f : eFr} {F : List eFr} {μ0 : eM} {T : Nat → Bool → Bool → Bool} {c14 : Nat → Nat → yM → (yM → Bool) → Bool} {a0 a1 a2 : Nat} {K : Nat → yM → Bool} {i8 : Nat → Nat → yM → Bool} (hT : zT a2 T) (hn : z_l0 a2 = false) (hc14 : ∀ (d : Nat) (f : eFr) (F : List eFr) (b0 b1 : Nat) (M : yM) (μ : eM) (K : yM → Bool), c14 b0 b1 M K = true → yR M μ → ev_kd μ b0 = some 1 → 0 < b0 → (∀ (M : yM) (μ2 : eM), K M = true → yR M μ2 → y_le μ μ2 → ex_fine fg rc rs (d + 6, (f.1, f.2.1, f.2.2.1, f.2.2.2), F, μ2)) → ex_fine fg rc rs (d + 5, (14, 0, [some (eR b0), some (eI (zI b1)), none, none], []), f :: F, μ)) (hG : yG fg y_T) (hk : ev_kd μ0 a0 = some 1) (p0 : 0 < a0) (hK : ∀ (r : Nat) (M : yM) (μ : eM), K r M = true → yR M μ → y_le μ0 μ → ex_fine fg rc rs (d + 1, (f.1, f.2.1, f.2.2.1, eI (zI r) :: f.2.2.2), F, μ)) (h8 : ∀ (a3 a4 : Nat) (M : yM) (μ : eM), i8 a3 a4 M = true → yR M μ → y_le μ0 μ → ex_fine fg rc rs (d, (13, 8, [some (eR a0), some (eI (zI a1)), some (eI (zI a2)), some (eI (zI a3)), some (eI (zI a4))], []), f :: F, μ)) : ∀ (a3 a4 : Nat) (M : yM) (μ : eM), ms_13_8b T c14 a0 a1 K i8 a3 a4 M = true → yR M μ → y_le μ0 μ → ex_fine fg rc rs (d, (13, 8, [some (eR a0), some (eI (zI a1)), some (eI (zI a2)), some (eI (zI a3)), some (eI (zI a4))], []), f :: F, μ) := by
  intro a3 a4 M μ h hR hl
  unfold ms_13_8b at h
  refine w_s (np := 10) (lv' := [some (eR a0), some (eI (zI a1)), some (eI (zI a2)), some (eI (zI a3)), some (eI (zI a4))]) (st' := [eI (zI a4)]) rfl rfl rfl ?_
  refine w_s (np := 11) (lv' := [some (eR a0), some (eI (zI a1)), some (eI (zI a2)), some (eI (zI a3)), some (eI (zI a4))]) (st' := [eR a0, eI (zI a4)]) rfl (s_an rfl p0) rfl ?_
  obtain ⟨v1, h, k2, e3⟩ := y_gf_ok (ty := 3) h hR (by decide) rfl
  obtain ⟨g4, h⟩ := f_if_ok h
  have q5 : 0 < v1 := Nat.ble_eq.mp g4
  refine v_gf3 (np := 14) rfl rfl k2 e3 ?_
  clear k2 e3
  refine w_s (np := 15) (lv' := [some (eR a0), some (eI (zI a1)), some (eI (zI a2)), some (eI (zI a3)), some (eI (zI a4))]) (st' := [eI (zI a1), eR v1, eI (zI a4)]) rfl rfl rfl ?_
  obtain ⟨v6, h, k7⟩ := y_lh_ok (ty := 0) h hR hG (by decide) rfl (by decide)
  refine v_la (np := 16) rfl rfl k7 ?_
  clear k7
  rcases z_if_t h with ⟨g8, h⟩ | ⟨g8, h⟩
  · refine v_ge_f (t1 := 43) rfl rfl g8 ?_
    refine w_s (np := 20) (lv' := [some (eR a0), some (eI (zI a1)), some (eI (zI a2)), some (eI (zI a3)), some (eI (zI a4))]) (st' := [eR a0]) rfl (s_an rfl p0) rfl ?_
    obtain ⟨v9, h, k10, e11⟩ := y_gf_ok (ty := 3) h hR (by decide) rfl
    obtain ⟨g12, h⟩ := f_if_ok h
    have q13 : 0 < v9 := Nat.ble_eq.mp g12
    refine v_gf3 (np := 23) rfl rfl k10 e11 ?_
    clear k10 e11
    refine w_s (np := 24) (lv' := [some (eR a0), some (eI (zI a1)), some (eI (zI a2)), some (eI (zI a3)), some (eI (zI a4))]) (st' := [eI (zI a3), eR v9]) rfl rfl rfl ?_
    refine w_s (np := 26) (lv' := [some (eR a0), some (eI (zI a1)), some (eI (zI a2)), some (eI (zI a3)), some (eI (zI a4))]) (st' := [eI (zI a4), eI (zI a3), eR v9]) rfl rfl rfl ?_
    obtain ⟨v14, ev14, h⟩ := z_l_ex h
    refine w_s (np := 27) (lv' := [some (eR a0), some (eI (zI a1)), some (eI (zI a2)), some (eI (zI a3)), some (eI (zI a4))]) (st' := [eI (zI v14), eR v9]) rfl (s_iadd ev14) rfl ?_
    clear ev14
    obtain ⟨v15, h, k16⟩ := y_lh_ok (ty := 0) h hR hG (by decide) rfl (by decide)
    refine v_la (np := 28) rfl rfl k16 ?_
    clear k16
    refine w_s (np := 29) (lv' := [some (eR a0), some (eI (zI a1)), some (eI (zI a2)), some (eI (zI a3)), some (eI (zI a4))]) (st' := [eI (zI a2), eI (zI v15)]) rfl rfl rfl ?_
    rcases hT _ _ _ h with ⟨g17, h⟩ | ⟨g17, h⟩
    · refine v_ne_f (t1 := 37) rfl rfl g17 ?_
      refine w_s (np := 33) (lv' := [some (eR a0), some (eI (zI a1)), some (eI (zI a2)), some (eI (zI a3)), some (eI (zI a4))]) (st' := [eI (zI a3)]) rfl rfl rfl ?_
      refine w_s (np := 35) (lv' := [some (eR a0), some (eI (zI a1)), some (eI (zI a2)), some (eI (zI a3)), some (eI (zI a4))]) (st' := [eI (zI a4), eI (zI a3)]) rfl rfl rfl ?_
      obtain ⟨v20, ev20, h⟩ := z_l_ex h
      refine w_s (np := 36) (lv' := [some (eR a0), some (eI (zI a1)), some (eI (zI a2)), some (eI (zI a3)), some (eI (zI a4))]) (st' := [eI (zI v20)]) rfl (s_iadd ev20) rfl ?_
      clear ev20
      exact v_ri rfl rfl (hK _ _ _ h hR hl)
    · refine v_ne_t (t1 := 37) rfl rfl g17 ?_
      obtain ⟨v18, ev18, h⟩ := z_l_ex h
      refine w_s (np := 40) (lv' := [some (eR a0), some (eI (zI a1)), some (eI (zI a2)), some (eI (zI a3)), some (eI (zI v18))]) (st' := []) rfl (s_iinc (b := 1) rfl rfl ev18 rfl) rfl ?_
      clear ev18
      refine w_go (t1 := 8) rfl rfl ?_
      obtain ⟨w19, ew19, h⟩ := z_f_ex h
      subst ew19
      exact h8 _ _ M μ h hR hl
  · refine v_ge_t (t1 := 43) rfl rfl g8 ?_
    refine w_s (np := 44) (lv' := [some (eR a0), some (eI (zI a1)), some (eI (zI a2)), some (eI (zI a3)), some (eI (zI a4))]) (st' := [eI (zI 4294967295)]) rfl rfl rfl ?_
    exact v_ri rfl rfl (hK _ _ _ h hR hl)
theorem ms_13_8_ok {fg : eG} {rc rs d : Nat} {f : eFr} {F : List eFr} {μ0 : eM} {T : Nat → Bool → Bool → Bool} {c14 : Nat → Nat → yM → (yM → Bool) → Bool} {a0 a1 a2 : Nat} {K : Nat → yM → Bool} (hT : zT a2 T) (hn : z_l0 a2 = false) (hc14 : ∀ (d : Nat) (f : eFr) (F : List eFr) (b0 b1 : Nat) (M : yM) (μ : eM) (K : yM → Bool), c14 b0 b1 M K = true → yR M μ → ev_kd μ b0 = some 1 → 0 < b0 → (∀ (M : yM) (μ2 : eM), K M = true → yR M μ2 → y_le μ μ2 → ex_fine fg rc rs (d + 6, (f.1, f.2.1, f.2.2.1, f.2.2.2), F, μ2)) → ex_fine fg rc rs (d + 5, (14, 0, [some (eR b0), some (eI (zI b1)), none, none], []), f :: F, μ)) (hG : yG fg y_T) (hk : ev_kd μ0 a0 = some 1) (p0 : 0 < a0) (hK : ∀ (r : Nat) (M : yM) (μ : eM), K r M = true → yR M μ → y_le μ0 μ → ex_fine fg rc rs (d + 1, (f.1, f.2.1, f.2.2.1, eI (zI r) :: f.2.2.2), F, μ)) : ∀ n : Nat, ∀ (a3 a4 : Nat) (M : yM) (μ : eM), ms_13_8 T c14 a0 a1 K n a3 a4 M = true → yR M μ → y_le μ0 μ → ex_fine fg rc rs (d, (13, 8, [some (eR a0), some (eI (zI a1)), some (eI (zI a2)), some (eI (zI a3)), some (eI (zI a4))], []), f :: F, μ) := by
  intro n
  induction n with
  | zero =>
    intro a3 a4 M μ h hR hl
    exact absurd h Bool.false_ne_true
  | succ n ih =>
    intro a3 a4 M μ h hR hl
    exact ms_13_8b_ok hT hn hc14 hG hk p0 hK ih a3 a4 M μ h hR hl
/-! RhombInflator$Firsts.placeOf -/
noncomputable def ms_13 (T : Nat → Bool → Bool → Bool) (c14 : Nat → Nat → yM → (yM → Bool) → Bool) (a0 a1 : Nat) (M : yM) (K : Nat → yM → Bool) : Bool := z_l (z_mul a1 64) fun v1 => ms_13_8 T c14 a0 a1 K 100000 v1 0 M
theorem ms_13_ok {fg : eG} {rc rs d : Nat} {f : eFr} {F : List eFr} {M : yM} {μ0 : eM} {T : Nat → Bool → Bool → Bool} {c14 : Nat → Nat → yM → (yM → Bool) → Bool} {a0 a1 a2 : Nat} {K : Nat → yM → Bool} (hT : zT a2 T) (hn : z_l0 a2 = false) (hc14 : ∀ (d : Nat) (f : eFr) (F : List eFr) (b0 b1 : Nat) (M : yM) (μ : eM) (K : yM → Bool), c14 b0 b1 M K = true → yR M μ → ev_kd μ b0 = some 1 → 0 < b0 → (∀ (M : yM) (μ2 : eM), K M = true → yR M μ2 → y_le μ μ2 → ex_fine fg rc rs (d + 6, (f.1, f.2.1, f.2.2.1, f.2.2.2), F, μ2)) → ex_fine fg rc rs (d + 5, (14, 0, [some (eR b0), some (eI (zI b1)), none, none], []), f :: F, μ)) (hG : yG fg y_T) (h : ms_13 T c14 a0 a1 M K = true) (hR : yR M μ0) (hk : ev_kd μ0 a0 = some 1) (p0 : 0 < a0) (hK : ∀ (r : Nat) (M : yM) (μ : eM), K r M = true → yR M μ → y_le μ0 μ → ex_fine fg rc rs (d + 1, (f.1, f.2.1, f.2.2.1, eI (zI r) :: f.2.2.2), F, μ)) : ex_fine fg rc rs (d, (13, 0, [some (eR a0), some (eI (zI a1)), some (eI (zI a2)), none, none], []), f :: F, μ0) := by
  unfold ms_13 at h
  have hl := y_le_r μ0
  refine w_s (np := 1) (lv' := [some (eR a0), some (eI (zI a1)), some (eI (zI a2)), none, none]) (st' := [eI (zI a1)]) rfl rfl rfl ?_
  refine w_s (np := 3) (lv' := [some (eR a0), some (eI (zI a1)), some (eI (zI a2)), none, none]) (st' := [eI (zI 64), eI (zI a1)]) rfl rfl rfl ?_
  obtain ⟨v1, ev1, h⟩ := z_l_ex h
  refine w_s (np := 4) (lv' := [some (eR a0), some (eI (zI a1)), some (eI (zI a2)), none, none]) (st' := [eI (zI v1)]) rfl (s_imul ev1) rfl ?_
  clear ev1
  refine w_s (np := 5) (lv' := [some (eR a0), some (eI (zI a1)), some (eI (zI a2)), some (eI (zI v1)), none]) (st' := []) rfl rfl rfl ?_
  refine w_s (np := 6) (lv' := [some (eR a0), some (eI (zI a1)), some (eI (zI a2)), some (eI (zI v1)), none]) (st' := [eI (zI 0)]) rfl rfl rfl ?_
  refine w_s (np := 8) (lv' := [some (eR a0), some (eI (zI a1)), some (eI (zI a2)), some (eI (zI v1)), some (eI (zI 0))]) (st' := []) rfl rfl rfl ?_
  exact ms_13_8_ok hT hn hc14 hG hk p0 hK 100000 _ _ M μ0 h hR hl
noncomputable def ms_12_9 (T : Nat → Bool → Bool → Bool) (c14 : Nat → Nat → yM → (yM → Bool) → Bool) (a0 a1 : Nat) (K : Nat → yM → Bool) (M : yM) : Bool := K 4294967295 M
theorem ms_12_9_ok {fg : eG} {rc rs d : Nat} {f : eFr} {F : List eFr} {μ0 : eM} {T : Nat → Bool → Bool → Bool} {c14 : Nat → Nat → yM → (yM → Bool) → Bool} {a0 a1 a2 : Nat} {K : Nat → yM → Bool} (hT : zT a2 T) (hn : z_l0 a2 = false) (hc14 : ∀ (d : Nat) (f : eFr) (F : List eFr) (b0 b1 : Nat) (M : yM) (μ : eM) (K : yM → Bool), c14 b0 b1 M K = true → yR M μ → ev_kd μ b0 = some 1 → 0 < b0 → (∀ (M : yM) (μ2 : eM), K M = true → yR M μ2 → y_le μ μ2 → ex_fine fg rc rs (d + 6, (f.1, f.2.1, f.2.2.1, f.2.2.2), F, μ2)) → ex_fine fg rc rs (d + 5, (14, 0, [some (eR b0), some (eI (zI b1)), none, none], []), f :: F, μ)) (hG : yG fg y_T) (hk : ev_kd μ0 a0 = some 1) (p0 : 0 < a0) (hK : ∀ (r : Nat) (M : yM) (μ : eM), K r M = true → yR M μ → y_le μ0 μ → ex_fine fg rc rs (d + 7, (f.1, f.2.1, f.2.2.1, eI (zI r) :: f.2.2.2), F, μ)) : ∀ (M : yM) (μ : eM), ms_12_9 T c14 a0 a1 K M = true → yR M μ → y_le μ0 μ → ex_fine fg rc rs (d + 6, (12, 9, [some (eR a0), some (eI (zI a1)), some (eI (zI a2)), none], []), f :: F, μ) := by
  intro M μ h hR hl
  unfold ms_12_9 at h
  refine w_s (np := 10) (lv' := [some (eR a0), some (eI (zI a1)), some (eI (zI a2)), none]) (st' := [eI (zI 4294967295)]) rfl rfl rfl ?_
  exact v_ri rfl rfl (hK _ _ _ h hR hl)
noncomputable def ms_12_46 (T : Nat → Bool → Bool → Bool) (c14 : Nat → Nat → yM → (yM → Bool) → Bool) (a0 a1 : Nat) (K : Nat → yM → Bool) (a3 s0 : Nat) (M : yM) : Bool := K s0 M
theorem ms_12_46_ok {fg : eG} {rc rs d : Nat} {f : eFr} {F : List eFr} {μ0 : eM} {T : Nat → Bool → Bool → Bool} {c14 : Nat → Nat → yM → (yM → Bool) → Bool} {a0 a1 a2 : Nat} {K : Nat → yM → Bool} (hT : zT a2 T) (hn : z_l0 a2 = false) (hc14 : ∀ (d : Nat) (f : eFr) (F : List eFr) (b0 b1 : Nat) (M : yM) (μ : eM) (K : yM → Bool), c14 b0 b1 M K = true → yR M μ → ev_kd μ b0 = some 1 → 0 < b0 → (∀ (M : yM) (μ2 : eM), K M = true → yR M μ2 → y_le μ μ2 → ex_fine fg rc rs (d + 6, (f.1, f.2.1, f.2.2.1, f.2.2.2), F, μ2)) → ex_fine fg rc rs (d + 5, (14, 0, [some (eR b0), some (eI (zI b1)), none, none], []), f :: F, μ)) (hG : yG fg y_T) (hk : ev_kd μ0 a0 = some 1) (p0 : 0 < a0) (hK : ∀ (r : Nat) (M : yM) (μ : eM), K r M = true → yR M μ → y_le μ0 μ → ex_fine fg rc rs (d + 7, (f.1, f.2.1, f.2.2.1, eI (zI r) :: f.2.2.2), F, μ)) : ∀ (a3 s0 : Nat) (M : yM) (μ : eM), ms_12_46 T c14 a0 a1 K a3 s0 M = true → yR M μ → y_le μ0 μ → ex_fine fg rc rs (d + 6, (12, 46, [some (eR a0), some (eI (zI a1)), some (eI (zI a2)), some (eI (zI a3))], [eI (zI s0)]), f :: F, μ) := by
  intro a3 s0 M μ h hR hl
  unfold ms_12_46 at h
  exact v_ri rfl rfl (hK _ _ _ h hR hl)
noncomputable def ms_12_25 (T : Nat → Bool → Bool → Bool) (c14 : Nat → Nat → yM → (yM → Bool) → Bool) (a0 a1 : Nat) (K : Nat → yM → Bool) (M : yM) : Bool := ms_13 T c14 a0 a1 M fun v6 M1 => z_if (z_l0 v6) (ms_12_46 T c14 a0 a1 K v6 4294967295 M1) (y_gf M1 a0 1 1 fun v8 => f_if false (Nat.ble 1 v8) (y_lh 100 M1 v8 v6 fun v13 => ms_12_46 T c14 a0 a1 K v6 v13 M1))
theorem ms_12_25_ok {fg : eG} {rc rs d : Nat} {f : eFr} {F : List eFr} {μ0 : eM} {T : Nat → Bool → Bool → Bool} {c14 : Nat → Nat → yM → (yM → Bool) → Bool} {a0 a1 a2 : Nat} {K : Nat → yM → Bool} (hT : zT a2 T) (hn : z_l0 a2 = false) (hc14 : ∀ (d : Nat) (f : eFr) (F : List eFr) (b0 b1 : Nat) (M : yM) (μ : eM) (K : yM → Bool), c14 b0 b1 M K = true → yR M μ → ev_kd μ b0 = some 1 → 0 < b0 → (∀ (M : yM) (μ2 : eM), K M = true → yR M μ2 → y_le μ μ2 → ex_fine fg rc rs (d + 6, (f.1, f.2.1, f.2.2.1, f.2.2.2), F, μ2)) → ex_fine fg rc rs (d + 5, (14, 0, [some (eR b0), some (eI (zI b1)), none, none], []), f :: F, μ)) (hG : yG fg y_T) (hk : ev_kd μ0 a0 = some 1) (p0 : 0 < a0) (hK : ∀ (r : Nat) (M : yM) (μ : eM), K r M = true → yR M μ → y_le μ0 μ → ex_fine fg rc rs (d + 7, (f.1, f.2.1, f.2.2.1, eI (zI r) :: f.2.2.2), F, μ)) : ∀ (M : yM) (μ : eM), ms_12_25 T c14 a0 a1 K M = true → yR M μ → y_le μ0 μ → ex_fine fg rc rs (d + 6, (12, 25, [some (eR a0), some (eI (zI a1)), some (eI (zI a2)), none], []), f :: F, μ) := by
  intro M μ h hR hl
  unfold ms_12_25 at h
  refine w_s (np := 26) (lv' := [some (eR a0), some (eI (zI a1)), some (eI (zI a2)), none]) (st' := [eR a0]) rfl (s_an rfl p0) rfl ?_
  refine w_s (np := 27) (lv' := [some (eR a0), some (eI (zI a1)), some (eI (zI a2)), none]) (st' := [eI (zI a1), eR a0]) rfl rfl rfl ?_
  refine w_s (np := 28) (lv' := [some (eR a0), some (eI (zI a1)), some (eI (zI a2)), none]) (st' := [eI (zI a2), eI (zI a1), eR a0]) rfl rfl rfl ?_
  refine w_cv (np := 31) (as := [eI (zI a1), eI (zI a2)]) (lv' := [some (eR a0), some (eI (zI a1)), some (eI (zI a2)), none, none]) (rest := []) rfl rfl rfl (Nat.ble_eq.mp rfl) rfl rfl rfl (hl _ _ hk) rfl ?_
  refine ms_13_ok hT hn hc14 hG h hR (hl _ _ hk) p0 ?_
  intro v6 M1 μ2 h hR3 hl5
  have hl4 := y_le.tr hl hl5
  show ex_fine fg rc rs (d + 6, (12, 31, [some (eR a0), some (eI (zI a1)), some (eI (zI a2)), none], [eI (zI v6)]), f :: F, μ2)
  refine w_s (np := 32) (lv' := [some (eR a0), some (eI (zI a1)), some (eI (zI a2)), some (eI (zI v6))]) (st' := []) rfl rfl rfl ?_
  refine w_s (np := 33) (lv' := [some (eR a0), some (eI (zI a1)), some (eI (zI a2)), some (eI (zI v6))]) (st' := [eI (zI v6)]) rfl rfl rfl ?_
  rcases z_if_t h with ⟨g7, h⟩ | ⟨g7, h⟩
  · refine v_ge0_f (t1 := 40) rfl rfl g7 ?_
    refine w_s (np := 37) (lv' := [some (eR a0), some (eI (zI a1)), some (eI (zI a2)), some (eI (zI v6))]) (st' := [eI (zI 4294967295)]) rfl rfl rfl ?_
    refine w_go (t1 := 46) rfl rfl ?_
    exact ms_12_46_ok hT hn hc14 hG hk p0 hK _ _ M1 μ2 h hR3 hl4
  · refine v_ge0_t (t1 := 40) rfl rfl g7 ?_
    refine w_s (np := 41) (lv' := [some (eR a0), some (eI (zI a1)), some (eI (zI a2)), some (eI (zI v6))]) (st' := [eR a0]) rfl (s_an rfl p0) rfl ?_
    obtain ⟨v8, h, k9, e10⟩ := y_gf_ok (ty := 3) h hR3 (by decide) rfl
    obtain ⟨g11, h⟩ := f_if_ok h
    have q12 : 0 < v8 := Nat.ble_eq.mp g11
    refine v_gf3 (np := 44) rfl rfl k9 e10 ?_
    clear k9 e10
    refine w_s (np := 45) (lv' := [some (eR a0), some (eI (zI a1)), some (eI (zI a2)), some (eI (zI v6))]) (st' := [eI (zI v6), eR v8]) rfl rfl rfl ?_
    obtain ⟨v13, h, k14⟩ := y_lh_ok (ty := 0) h hR3 hG (by decide) rfl (by decide)
    refine v_la (np := 46) rfl rfl k14 ?_
    clear k14
    exact ms_12_46_ok hT hn hc14 hG hk p0 hK _ _ M1 μ2 h hR3 hl4
/-! RhombInflator$Firsts.depthOf -/
noncomputable def ms_12 (T : Nat → Bool → Bool → Bool) (c14 : Nat → Nat → yM → (yM → Bool) → Bool) (a0 a1 : Nat) (M : yM) (K : Nat → yM → Bool) : Bool := z_if (z_l0 a1) (ms_12_9 T c14 a0 a1 K M) (z_if (z_lt 3 a1) (ms_12_9 T c14 a0 a1 K M) (y_gf M a0 1 2 fun v3 => f_if false (Nat.ble 1 v3) (y_lh 100 M v3 a1 fun v8 => z_if (z_l0 v8) (c14 a0 a1 M fun M11 => ms_12_25 T c14 a0 a1 K M11) (ms_12_25 T c14 a0 a1 K M))))
theorem ms_12_ok {fg : eG} {rc rs d : Nat} {f : eFr} {F : List eFr} {M : yM} {μ0 : eM} {T : Nat → Bool → Bool → Bool} {c14 : Nat → Nat → yM → (yM → Bool) → Bool} {a0 a1 a2 : Nat} {K : Nat → yM → Bool} (hT : zT a2 T) (hn : z_l0 a2 = false) (hc14 : ∀ (d : Nat) (f : eFr) (F : List eFr) (b0 b1 : Nat) (M : yM) (μ : eM) (K : yM → Bool), c14 b0 b1 M K = true → yR M μ → ev_kd μ b0 = some 1 → 0 < b0 → (∀ (M : yM) (μ2 : eM), K M = true → yR M μ2 → y_le μ μ2 → ex_fine fg rc rs (d + 6, (f.1, f.2.1, f.2.2.1, f.2.2.2), F, μ2)) → ex_fine fg rc rs (d + 5, (14, 0, [some (eR b0), some (eI (zI b1)), none, none], []), f :: F, μ)) (hG : yG fg y_T) (h : ms_12 T c14 a0 a1 M K = true) (hR : yR M μ0) (hk : ev_kd μ0 a0 = some 1) (p0 : 0 < a0) (hK : ∀ (r : Nat) (M : yM) (μ : eM), K r M = true → yR M μ → y_le μ0 μ → ex_fine fg rc rs (d + 7, (f.1, f.2.1, f.2.2.1, eI (zI r) :: f.2.2.2), F, μ)) : ex_fine fg rc rs (d + 6, (12, 0, [some (eR a0), some (eI (zI a1)), some (eI (zI a2)), none], []), f :: F, μ0) := by
  unfold ms_12 at h
  have hl := y_le_r μ0
  refine w_s (np := 1) (lv' := [some (eR a0), some (eI (zI a1)), some (eI (zI a2)), none]) (st' := [eI (zI a1)]) rfl rfl rfl ?_
  rcases z_if_t h with ⟨g1, h⟩ | ⟨g1, h⟩
  · refine v_lt0_t (t1 := 9) rfl rfl g1 ?_
    exact ms_12_9_ok hT hn hc14 hG hk p0 hK M μ0 h hR hl
  · refine v_lt0_f (t1 := 9) rfl rfl g1 ?_
    refine w_s (np := 5) (lv' := [some (eR a0), some (eI (zI a1)), some (eI (zI a2)), none]) (st' := [eI (zI a1)]) rfl rfl rfl ?_
    refine w_s (np := 6) (lv' := [some (eR a0), some (eI (zI a1)), some (eI (zI a2)), none]) (st' := [eI (zI 3), eI (zI a1)]) rfl rfl rfl ?_
    rcases z_if_t h with ⟨g2, h⟩ | ⟨g2, h⟩
    · refine v_le_f (t1 := 11) rfl rfl g2 ?_
      exact ms_12_9_ok hT hn hc14 hG hk p0 hK M μ0 h hR hl
    · refine v_le_t (t1 := 11) rfl rfl g2 ?_
      refine w_s (np := 12) (lv' := [some (eR a0), some (eI (zI a1)), some (eI (zI a2)), none]) (st' := [eR a0]) rfl (s_an rfl p0) rfl ?_
      obtain ⟨v3, h, k4, e5⟩ := y_gf_ok (ty := 3) h hR (by decide) rfl
      obtain ⟨g6, h⟩ := f_if_ok h
      have q7 : 0 < v3 := Nat.ble_eq.mp g6
      refine v_gf3 (np := 15) rfl rfl k4 e5 ?_
      clear k4 e5
      refine w_s (np := 16) (lv' := [some (eR a0), some (eI (zI a1)), some (eI (zI a2)), none]) (st' := [eI (zI a1), eR v3]) rfl rfl rfl ?_
      obtain ⟨v8, h, k9⟩ := y_lh_ok (ty := 0) h hR hG (by decide) rfl (by decide)
      refine v_la (np := 17) rfl rfl k9 ?_
      clear k9
      rcases z_if_t h with ⟨g10, h⟩ | ⟨g10, h⟩
      · refine v_ge0_f (t1 := 25) rfl rfl g10 ?_
        refine w_s (np := 21) (lv' := [some (eR a0), some (eI (zI a1)), some (eI (zI a2)), none]) (st' := [eR a0]) rfl (s_an rfl p0) rfl ?_
        refine w_s (np := 22) (lv' := [some (eR a0), some (eI (zI a1)), some (eI (zI a2)), none]) (st' := [eI (zI a1), eR a0]) rfl rfl rfl ?_
        refine w_cv (np := 25) (as := [eI (zI a1)]) (lv' := [some (eR a0), some (eI (zI a1)), none, none]) (rest := []) rfl rfl rfl (Nat.ble_eq.mp rfl) rfl rfl rfl (hl _ _ hk) rfl ?_
        refine hc14 _ _ _ _ _ _ _ _ h hR (hl _ _ hk) p0 ?_
        intro M11 μ12 h hR13 hl15
        have hl14 := y_le.tr hl hl15
        show ex_fine fg rc rs (d + 6, (12, 25, [some (eR a0), some (eI (zI a1)), some (eI (zI a2)), none], []), f :: F, μ12)
        exact ms_12_25_ok hT hn hc14 hG hk p0 hK M11 μ12 h hR13 hl14
      · refine v_ge0_t (t1 := 25) rfl rfl g10 ?_
        exact ms_12_25_ok hT hn hc14 hG hk p0 hK M μ0 h hR hl
noncomputable def ms_184_13 (T : Nat → Bool → Bool → Bool) (c14 : Nat → Nat → yM → (yM → Bool) → Bool) (a0 a1 : Nat) (K : Nat → yM → Bool) (M : yM) : Bool := m_205 a0 1 M fun v6 M1 => K v6 M1
theorem ms_184_13_ok {fg : eG} {rc rs d : Nat} {f : eFr} {F : List eFr} {μ0 : eM} {T : Nat → Bool → Bool → Bool} {c14 : Nat → Nat → yM → (yM → Bool) → Bool} {a0 a1 a2 : Nat} {K : Nat → yM → Bool} (hT : zT a2 T) (hn : z_l0 a2 = false) (hc14 : ∀ (d : Nat) (f : eFr) (F : List eFr) (b0 b1 : Nat) (M : yM) (μ : eM) (K : yM → Bool), c14 b0 b1 M K = true → yR M μ → ev_kd μ b0 = some 1 → 0 < b0 → (∀ (M : yM) (μ2 : eM), K M = true → yR M μ2 → y_le μ μ2 → ex_fine fg rc rs (d + 6, (f.1, f.2.1, f.2.2.1, f.2.2.2), F, μ2)) → ex_fine fg rc rs (d + 5, (14, 0, [some (eR b0), some (eI (zI b1)), none, none], []), f :: F, μ)) (hG : yG fg y_T) (hk : ev_kd μ0 a0 = some 10) (p0 : 0 < a0) (hK : ∀ (r : Nat) (M : yM) (μ : eM), K r M = true → yR M μ → y_le μ0 μ → ex_fine fg rc rs (d + 8, (f.1, f.2.1, f.2.2.1, eI (zI r) :: f.2.2.2), F, μ)) : ∀ (M : yM) (μ : eM), ms_184_13 T c14 a0 a1 K M = true → yR M μ → y_le μ0 μ → ex_fine fg rc rs (d + 7, (184, 13, [some (eR a0), some (eI (zI a1)), some (eI (zI a2))], []), f :: F, μ) := by
  intro M μ h hR hl
  unfold ms_184_13 at h
  refine w_s (np := 14) (lv' := [some (eR a0), some (eI (zI a1)), some (eI (zI a2))]) (st' := [eR a0]) rfl (s_an rfl p0) rfl ?_
  refine w_s (np := 15) (lv' := [some (eR a0), some (eI (zI a1)), some (eI (zI a2))]) (st' := [eI (zI 1), eR a0]) rfl rfl rfl ?_
  refine w_cv (np := 18) (as := [eI (zI 1)]) (lv' := [some (eR a0), some (eI (zI 1))]) (rest := []) rfl rfl rfl (Nat.ble_eq.mp rfl) rfl rfl rfl (hl _ _ hk) rfl ?_
  refine m_205_ok hG h hR (hl _ _ hk) p0 ?_
  intro v6 M1 μ2 h hR3 hl5
  have hl4 := y_le.tr hl hl5
  show ex_fine fg rc rs (d + 7, (184, 18, [some (eR a0), some (eI (zI a1)), some (eI (zI a2))], [eI (zI v6)]), f :: F, μ2)
  exact v_ri rfl rfl (hK _ _ _ h hR3 hl4)
noncomputable def ms_184_37 (T : Nat → Bool → Bool → Bool) (c14 : Nat → Nat → yM → (yM → Bool) → Bool) (a0 a1 : Nat) (K : Nat → yM → Bool) (M : yM) : Bool := y_gf M a0 10 10 fun v1 => f_if false (Nat.ble 1 v1) (y_is M v1 1 (ms_12 T c14 v1 a1 M fun v11 M6 => m_207 a0 v11 M6 fun v18 M13 => K v18 M13))
theorem ms_184_37_ok {fg : eG} {rc rs d : Nat} {f : eFr} {F : List eFr} {μ0 : eM} {T : Nat → Bool → Bool → Bool} {c14 : Nat → Nat → yM → (yM → Bool) → Bool} {a0 a1 a2 : Nat} {K : Nat → yM → Bool} (hT : zT a2 T) (hn : z_l0 a2 = false) (hc14 : ∀ (d : Nat) (f : eFr) (F : List eFr) (b0 b1 : Nat) (M : yM) (μ : eM) (K : yM → Bool), c14 b0 b1 M K = true → yR M μ → ev_kd μ b0 = some 1 → 0 < b0 → (∀ (M : yM) (μ2 : eM), K M = true → yR M μ2 → y_le μ μ2 → ex_fine fg rc rs (d + 6, (f.1, f.2.1, f.2.2.1, f.2.2.2), F, μ2)) → ex_fine fg rc rs (d + 5, (14, 0, [some (eR b0), some (eI (zI b1)), none, none], []), f :: F, μ)) (hG : yG fg y_T) (hk : ev_kd μ0 a0 = some 10) (p0 : 0 < a0) (hK : ∀ (r : Nat) (M : yM) (μ : eM), K r M = true → yR M μ → y_le μ0 μ → ex_fine fg rc rs (d + 8, (f.1, f.2.1, f.2.2.1, eI (zI r) :: f.2.2.2), F, μ)) : ∀ (M : yM) (μ : eM), ms_184_37 T c14 a0 a1 K M = true → yR M μ → y_le μ0 μ → ex_fine fg rc rs (d + 7, (184, 37, [some (eR a0), some (eI (zI a1)), some (eI (zI a2))], []), f :: F, μ) := by
  intro M μ h hR hl
  unfold ms_184_37 at h
  refine w_s (np := 38) (lv' := [some (eR a0), some (eI (zI a1)), some (eI (zI a2))]) (st' := [eR a0]) rfl (s_an rfl p0) rfl ?_
  refine w_s (np := 39) (lv' := [some (eR a0), some (eI (zI a1)), some (eI (zI a2))]) (st' := [eR a0, eR a0]) rfl (s_an rfl p0) rfl ?_
  obtain ⟨v1, h, k2, e3⟩ := y_gf_ok (ty := 3) h hR (by decide) rfl
  obtain ⟨g4, h⟩ := f_if_ok h
  have q5 : 0 < v1 := Nat.ble_eq.mp g4
  refine v_gf3 (np := 42) rfl rfl k2 e3 ?_
  clear k2 e3
  refine w_s (np := 43) (lv' := [some (eR a0), some (eI (zI a1)), some (eI (zI a2))]) (st' := [eI (zI a1), eR v1, eR a0]) rfl rfl rfl ?_
  refine w_s (np := 44) (lv' := [some (eR a0), some (eI (zI a1)), some (eI (zI a2))]) (st' := [eI (zI a2), eI (zI a1), eR v1, eR a0]) rfl rfl rfl ?_
  obtain ⟨k12, h⟩ := y_is_ok h hR
  refine w_cv (np := 47) (as := [eI (zI a1), eI (zI a2)]) (lv' := [some (eR v1), some (eI (zI a1)), some (eI (zI a2)), none]) (rest := [eR a0]) rfl rfl rfl (Nat.ble_eq.mp rfl) rfl rfl rfl k12 rfl ?_
  refine ms_12_ok hT hn hc14 hG h hR k12 q5 ?_
  intro v11 M6 μ7 h hR8 hl10
  have hl9 := y_le.tr hl hl10
  show ex_fine fg rc rs (d + 7, (184, 47, [some (eR a0), some (eI (zI a1)), some (eI (zI a2))], [eI (zI v11), eR a0]), f :: F, μ7)
  refine w_cv (np := 50) (as := [eI (zI v11)]) (lv' := [some (eR a0), some (eI (zI v11))]) (rest := []) rfl rfl rfl (Nat.ble_eq.mp rfl) rfl rfl rfl (hl9 _ _ hk) rfl ?_
  refine m_207_ok hG h hR8 (hl9 _ _ hk) p0 ?_
  intro v18 M13 μ14 h hR15 hl17
  have hl16 := y_le.tr hl9 hl17
  show ex_fine fg rc rs (d + 7, (184, 50, [some (eR a0), some (eI (zI a1)), some (eI (zI a2))], [eI (zI v18)]), f :: F, μ14)
  exact v_ri rfl rfl (hK _ _ _ h hR15 hl16)
/-! RhombInflator.comes -/
noncomputable def ms_184 (T : Nat → Bool → Bool → Bool) (c14 : Nat → Nat → yM → (yM → Bool) → Bool) (a0 a1 : Nat) (M : yM) (K : Nat → yM → Bool) : Bool := z_if (z_l0 a1) (ms_184_13 T c14 a0 a1 K M) (z_if (z_lt 3 a1) (ms_184_13 T c14 a0 a1 K M) (y_gf M a0 10 10 fun v4 => z_if (Nat.beq v4 0) (y_no M 1 4 fun r8 M9 => y_is M9 r8 1 (m_11 r8 M9 fun M17 => y_wr M17 a0 10 10 r8 fun M23 => ms_184_37 T c14 a0 a1 K M23)) (ms_184_37 T c14 a0 a1 K M)))
theorem ms_184_ok {fg : eG} {rc rs d : Nat} {f : eFr} {F : List eFr} {M : yM} {μ0 : eM} {T : Nat → Bool → Bool → Bool} {c14 : Nat → Nat → yM → (yM → Bool) → Bool} {a0 a1 a2 : Nat} {K : Nat → yM → Bool} (hT : zT a2 T) (hn : z_l0 a2 = false) (hc14 : ∀ (d : Nat) (f : eFr) (F : List eFr) (b0 b1 : Nat) (M : yM) (μ : eM) (K : yM → Bool), c14 b0 b1 M K = true → yR M μ → ev_kd μ b0 = some 1 → 0 < b0 → (∀ (M : yM) (μ2 : eM), K M = true → yR M μ2 → y_le μ μ2 → ex_fine fg rc rs (d + 6, (f.1, f.2.1, f.2.2.1, f.2.2.2), F, μ2)) → ex_fine fg rc rs (d + 5, (14, 0, [some (eR b0), some (eI (zI b1)), none, none], []), f :: F, μ)) (hG : yG fg y_T) (h : ms_184 T c14 a0 a1 M K = true) (hR : yR M μ0) (hk : ev_kd μ0 a0 = some 10) (p0 : 0 < a0) (hK : ∀ (r : Nat) (M : yM) (μ : eM), K r M = true → yR M μ → y_le μ0 μ → ex_fine fg rc rs (d + 8, (f.1, f.2.1, f.2.2.1, eI (zI r) :: f.2.2.2), F, μ)) : ex_fine fg rc rs (d + 7, (184, 0, [some (eR a0), some (eI (zI a1)), some (eI (zI a2))], []), f :: F, μ0) := by
  unfold ms_184 at h
  have hl := y_le_r μ0
  refine w_s (np := 1) (lv' := [some (eR a0), some (eI (zI a1)), some (eI (zI a2))]) (st' := [eI (zI a1)]) rfl rfl rfl ?_
  rcases z_if_t h with ⟨g1, h⟩ | ⟨g1, h⟩
  · refine v_lt0_t (t1 := 13) rfl rfl g1 ?_
    exact ms_184_13_ok hT hn hc14 hG hk p0 hK M μ0 h hR hl
  · refine v_lt0_f (t1 := 13) rfl rfl g1 ?_
    refine w_s (np := 5) (lv' := [some (eR a0), some (eI (zI a1)), some (eI (zI a2))]) (st' := [eI (zI a1)]) rfl rfl rfl ?_
    refine w_s (np := 6) (lv' := [some (eR a0), some (eI (zI a1)), some (eI (zI a2))]) (st' := [eI (zI 3), eI (zI a1)]) rfl rfl rfl ?_
    rcases z_if_t h with ⟨g2, h⟩ | ⟨g2, h⟩
    · refine v_gt_t (t1 := 13) rfl rfl g2 ?_
      exact ms_184_13_ok hT hn hc14 hG hk p0 hK M μ0 h hR hl
    · refine v_gt_f (t1 := 13) rfl rfl g2 ?_
      refine w_s (np := 10) (lv' := [some (eR a0), some (eI (zI a1)), some (eI (zI a2))]) (st' := [eI (zI a2)]) rfl rfl rfl ?_
      refine v_ge0_t (t1 := 19) rfl rfl hn ?_
      refine w_s (np := 20) (lv' := [some (eR a0), some (eI (zI a1)), some (eI (zI a2))]) (st' := [eR a0]) rfl (s_an rfl p0) rfl ?_
      obtain ⟨v4, h, k5, e6⟩ := y_gf_ok (ty := 3) h hR (by decide) rfl
      refine v_gf3 (np := 23) rfl rfl k5 e6 ?_
      clear k5 e6
      rcases z_if_t h with ⟨g7, h⟩ | ⟨g7, h⟩
      · refine v_nn_f (t1 := 37) rfl rfl g7 ?_
        refine w_s (np := 27) (lv' := [some (eR a0), some (eI (zI a1)), some (eI (zI a2))]) (st' := [eR a0]) rfl (s_an rfl p0) rfl ?_
        obtain ⟨r8, M9, μ10, h, g13, q14, e15, hR11, hl12, e16⟩ := y_no_ex h hR hl
        refine v_ne (np := 30) rfl rfl rfl e15 e16 ?_
        clear e15 e16
        refine w_s (np := 31) (lv' := [some (eR a0), some (eI (zI a1)), some (eI (zI a2))]) (st' := [eR r8, eR r8, eR a0]) rfl rfl rfl ?_
        obtain ⟨k22, h⟩ := y_is_ok h hR11
        refine v_ci (np := 34) (as := []) (lv' := [some (eR r8)]) (rest := [eR r8, eR a0]) rfl rfl rfl (Nat.ble_eq.mp rfl) rfl rfl rfl g13 rfl ?_
        refine m_11_ok hG h hR11 k22 q14 ?_
        intro M17 μ18 h hR19 hl21
        have hl20 := y_le.tr hl12 hl21
        show ex_fine fg rc rs (d + 7, (184, 34, [some (eR a0), some (eI (zI a1)), some (eI (zI a2))], [eR r8, eR a0]), f :: F, μ18)
        obtain ⟨M23, μ24, h, k27, hR25, hl26, e28⟩ := y_wr_ex h hR19 hl20 rfl
        refine v_pe3 (np := 37) rfl rfl k27 e28 ?_
        clear k27 e28
        exact ms_184_37_ok hT hn hc14 hG hk p0 hK M23 μ24 h hR25 hl26
      · refine v_nn_t (t1 := 37) rfl rfl g7 ?_
        exact ms_184_37_ok hT hn hc14 hG hk p0 hK M μ0 h hR hl
noncomputable def mr_299_2b (T : Nat → Bool → Bool → Bool) (c239 : Nat → Nat → Nat → yM → (yM → Bool) → Bool) (a0 : Nat) (K : Nat → yM → Bool) (i2 : Nat → yM → Bool) (a2 : Nat) (M : yM) : Bool := y_gf M a0 11 28 fun v1 => z_if (z_lt a2 v1) (m_253 a0 a2 M fun v11 M6 => T v11 (f_if false (Nat.ble 1 1) (K 1 M6)) (z_l (z_add a2 1) fun v13 => z_f v13 fun w14 => i2 w14 M6)) (f_if false (Nat.ble 0 1) (K 0 M))
noncomputable def mr_299_2 (T : Nat → Bool → Bool → Bool) (c239 : Nat → Nat → Nat → yM → (yM → Bool) → Bool) (a0 : Nat) (K : Nat → yM → Bool) (n : Nat) : Nat → yM → Bool := @Nat.rec (fun _ => Nat → yM → Bool) (fun _ _ => false) (fun _ ih => mr_299_2b T c239 a0 K ih) n
theorem mr_299_2b_ok {fg : eG} {rc rs d : Nat} {f : eFr} {F : List eFr} {μ0 : eM} {T : Nat → Bool → Bool → Bool} {c239 : Nat → Nat → Nat → yM → (yM → Bool) → Bool} {a0 a1 : Nat} {K : Nat → yM → Bool} {i2 : Nat → yM → Bool} (hT : zT a1 T) (hn : z_l0 a1 = false) (hc239 : ∀ (d : Nat) (f : eFr) (F : List eFr) (b0 b1 b2 : Nat) (M : yM) (μ : eM) (K : yM → Bool), c239 b0 b1 b2 M K = true → yR M μ → ev_kd μ b0 = some 11 → 0 < b0 → (∀ (M : yM) (μ2 : eM), K M = true → yR M μ2 → y_le μ μ2 → ex_fine fg rc rs (d + 6, (f.1, f.2.1, f.2.2.1, f.2.2.2), F, μ2)) → ex_fine fg rc rs (d + 5, (239, 0, [some (eR b0), some (eI (zI b1)), some (eI (zI b2)), none, none], []), f :: F, μ)) (hG : yG fg y_T) (hk : ev_kd μ0 a0 = some 11) (p0 : 0 < a0) (hK : ∀ (r : Nat) (M : yM) (μ : eM), K r M = true → yR M μ → y_le μ0 μ → ex_fine fg rc rs (d + 6, (f.1, f.2.1, f.2.2.1, eI (zI r) :: f.2.2.2), F, μ)) (h2 : ∀ (a2 : Nat) (M : yM) (μ : eM), i2 a2 M = true → yR M μ → y_le μ0 μ → ex_fine fg rc rs (d + 5, (299, 2, [some (eR a0), some (eI (zI a1)), some (eI (zI a2))], []), f :: F, μ)) : ∀ (a2 : Nat) (M : yM) (μ : eM), mr_299_2b T c239 a0 K i2 a2 M = true → yR M μ → y_le μ0 μ → ex_fine fg rc rs (d + 5, (299, 2, [some (eR a0), some (eI (zI a1)), some (eI (zI a2))], []), f :: F, μ) := by
  intro a2 M μ h hR hl
  unfold mr_299_2b at h
  refine w_s (np := 3) (lv' := [some (eR a0), some (eI (zI a1)), some (eI (zI a2))]) (st' := [eI (zI a2)]) rfl rfl rfl ?_
  refine w_s (np := 4) (lv' := [some (eR a0), some (eI (zI a1)), some (eI (zI a2))]) (st' := [eR a0, eI (zI a2)]) rfl (s_an rfl p0) rfl ?_
  obtain ⟨v1, h, k2, e3⟩ := y_gf_ok (ty := 0) h hR (by decide) rfl
  refine v_gf0 (np := 7) rfl rfl k2 e3 ?_
  clear k2 e3
  rcases z_if_t h with ⟨g4, h⟩ | ⟨g4, h⟩
  · refine v_ge_f (t1 := 27) rfl rfl g4 ?_
    refine w_s (np := 11) (lv' := [some (eR a0), some (eI (zI a1)), some (eI (zI a2))]) (st' := [eR a0]) rfl (s_an rfl p0) rfl ?_
    refine w_s (np := 12) (lv' := [some (eR a0), some (eI (zI a1)), some (eI (zI a2))]) (st' := [eI (zI a2), eR a0]) rfl rfl rfl ?_
    refine w_cv (np := 15) (as := [eI (zI a2)]) (lv' := [some (eR a0), some (eI (zI a2)), none, none, none]) (rest := []) rfl rfl rfl (Nat.ble_eq.mp rfl) rfl rfl rfl (hl _ _ hk) rfl ?_
    refine m_253_ok hG h hR (hl _ _ hk) p0 ?_
    intro v11 M6 μ7 h hR8 hl10
    have hl9 := y_le.tr hl hl10
    show ex_fine fg rc rs (d + 5, (299, 15, [some (eR a0), some (eI (zI a1)), some (eI (zI a2))], [eI (zI v11)]), f :: F, μ7)
    refine w_s (np := 16) (lv' := [some (eR a0), some (eI (zI a1)), some (eI (zI a2))]) (st' := [eI (zI a1), eI (zI v11)]) rfl rfl rfl ?_
    rcases hT _ _ _ h with ⟨g12, h⟩ | ⟨g12, h⟩
    · refine v_ne_f (t1 := 21) rfl rfl g12 ?_
      refine w_s (np := 20) (lv' := [some (eR a0), some (eI (zI a1)), some (eI (zI a2))]) (st' := [eI (zI 1)]) rfl rfl rfl ?_
      obtain ⟨g15, h⟩ := f_if_ok h
      exact v_rz rfl rfl g15 (hK _ _ _ h hR8 hl9)
    · refine v_ne_t (t1 := 21) rfl rfl g12 ?_
      obtain ⟨v13, ev13, h⟩ := z_l_ex h
      refine w_s (np := 24) (lv' := [some (eR a0), some (eI (zI a1)), some (eI (zI v13))]) (st' := []) rfl (s_iinc (b := 1) rfl rfl ev13 rfl) rfl ?_
      clear ev13
      refine w_go (t1 := 2) rfl rfl ?_
      obtain ⟨w14, ew14, h⟩ := z_f_ex h
      subst ew14
      exact h2 _ M6 μ7 h hR8 hl9
  · refine v_ge_t (t1 := 27) rfl rfl g4 ?_
    refine w_s (np := 28) (lv' := [some (eR a0), some (eI (zI a1)), some (eI (zI a2))]) (st' := [eI (zI 0)]) rfl rfl rfl ?_
    obtain ⟨g5, h⟩ := f_if_ok h
    exact v_rz rfl rfl g5 (hK _ _ _ h hR hl)
theorem mr_299_2_ok {fg : eG} {rc rs d : Nat} {f : eFr} {F : List eFr} {μ0 : eM} {T : Nat → Bool → Bool → Bool} {c239 : Nat → Nat → Nat → yM → (yM → Bool) → Bool} {a0 a1 : Nat} {K : Nat → yM → Bool} (hT : zT a1 T) (hn : z_l0 a1 = false) (hc239 : ∀ (d : Nat) (f : eFr) (F : List eFr) (b0 b1 b2 : Nat) (M : yM) (μ : eM) (K : yM → Bool), c239 b0 b1 b2 M K = true → yR M μ → ev_kd μ b0 = some 11 → 0 < b0 → (∀ (M : yM) (μ2 : eM), K M = true → yR M μ2 → y_le μ μ2 → ex_fine fg rc rs (d + 6, (f.1, f.2.1, f.2.2.1, f.2.2.2), F, μ2)) → ex_fine fg rc rs (d + 5, (239, 0, [some (eR b0), some (eI (zI b1)), some (eI (zI b2)), none, none], []), f :: F, μ)) (hG : yG fg y_T) (hk : ev_kd μ0 a0 = some 11) (p0 : 0 < a0) (hK : ∀ (r : Nat) (M : yM) (μ : eM), K r M = true → yR M μ → y_le μ0 μ → ex_fine fg rc rs (d + 6, (f.1, f.2.1, f.2.2.1, eI (zI r) :: f.2.2.2), F, μ)) : ∀ n : Nat, ∀ (a2 : Nat) (M : yM) (μ : eM), mr_299_2 T c239 a0 K n a2 M = true → yR M μ → y_le μ0 μ → ex_fine fg rc rs (d + 5, (299, 2, [some (eR a0), some (eI (zI a1)), some (eI (zI a2))], []), f :: F, μ) := by
  intro n
  induction n with
  | zero =>
    intro a2 M μ h hR hl
    exact absurd h Bool.false_ne_true
  | succ n ih =>
    intro a2 M μ h hR hl
    exact mr_299_2b_ok hT hn hc239 hG hk p0 hK ih a2 M μ h hR hl
/-! RhombInflatorModel.isThere -/
noncomputable def mr_299 (T : Nat → Bool → Bool → Bool) (c239 : Nat → Nat → Nat → yM → (yM → Bool) → Bool) (a0 : Nat) (M : yM) (K : Nat → yM → Bool) : Bool := mr_299_2 T c239 a0 K 100000 0 M
theorem mr_299_ok {fg : eG} {rc rs d : Nat} {f : eFr} {F : List eFr} {M : yM} {μ0 : eM} {T : Nat → Bool → Bool → Bool} {c239 : Nat → Nat → Nat → yM → (yM → Bool) → Bool} {a0 a1 : Nat} {K : Nat → yM → Bool} (hT : zT a1 T) (hn : z_l0 a1 = false) (hc239 : ∀ (d : Nat) (f : eFr) (F : List eFr) (b0 b1 b2 : Nat) (M : yM) (μ : eM) (K : yM → Bool), c239 b0 b1 b2 M K = true → yR M μ → ev_kd μ b0 = some 11 → 0 < b0 → (∀ (M : yM) (μ2 : eM), K M = true → yR M μ2 → y_le μ μ2 → ex_fine fg rc rs (d + 6, (f.1, f.2.1, f.2.2.1, f.2.2.2), F, μ2)) → ex_fine fg rc rs (d + 5, (239, 0, [some (eR b0), some (eI (zI b1)), some (eI (zI b2)), none, none], []), f :: F, μ)) (hG : yG fg y_T) (h : mr_299 T c239 a0 M K = true) (hR : yR M μ0) (hk : ev_kd μ0 a0 = some 11) (p0 : 0 < a0) (hK : ∀ (r : Nat) (M : yM) (μ : eM), K r M = true → yR M μ → y_le μ0 μ → ex_fine fg rc rs (d + 6, (f.1, f.2.1, f.2.2.1, eI (zI r) :: f.2.2.2), F, μ)) : ex_fine fg rc rs (d + 5, (299, 0, [some (eR a0), some (eI (zI a1)), none], []), f :: F, μ0) := by
  unfold mr_299 at h
  have hl := y_le_r μ0
  refine w_s (np := 1) (lv' := [some (eR a0), some (eI (zI a1)), none]) (st' := [eI (zI 0)]) rfl rfl rfl ?_
  refine w_s (np := 2) (lv' := [some (eR a0), some (eI (zI a1)), some (eI (zI 0))]) (st' := []) rfl rfl rfl ?_
  exact mr_299_2_ok hT hn hc239 hG hk p0 hK 100000 _ M μ0 h hR hl
noncomputable def mr_300_102 (T : Nat → Bool → Bool → Bool) (c239 : Nat → Nat → Nat → yM → (yM → Bool) → Bool) (a0 a1 : Nat) (K : Nat → yM → Bool) (i44 : Nat → Nat → Nat → Nat → yM → Bool) (a3 a4 a5 a6 s0 : Nat) (M : yM) : Bool := K s0 M
theorem mr_300_102_ok {fg : eG} {rc rs d : Nat} {f : eFr} {F : List eFr} {μ0 : eM} {T : Nat → Bool → Bool → Bool} {c239 : Nat → Nat → Nat → yM → (yM → Bool) → Bool} {a0 a1 a2 : Nat} {K : Nat → yM → Bool} {i44 : Nat → Nat → Nat → Nat → yM → Bool} (hT : zT a2 T) (hn : z_l0 a2 = false) (hc239 : ∀ (d : Nat) (f : eFr) (F : List eFr) (b0 b1 b2 : Nat) (M : yM) (μ : eM) (K : yM → Bool), c239 b0 b1 b2 M K = true → yR M μ → ev_kd μ b0 = some 11 → 0 < b0 → (∀ (M : yM) (μ2 : eM), K M = true → yR M μ2 → y_le μ μ2 → ex_fine fg rc rs (d + 6, (f.1, f.2.1, f.2.2.1, f.2.2.2), F, μ2)) → ex_fine fg rc rs (d + 5, (239, 0, [some (eR b0), some (eI (zI b1)), some (eI (zI b2)), none, none], []), f :: F, μ)) (hG : yG fg y_T) (hk : ev_kd μ0 a0 = some 11) (p0 : 0 < a0) (hK : ∀ (r : Nat) (M : yM) (μ : eM), K r M = true → yR M μ → y_le μ0 μ → ex_fine fg rc rs (d + 7, (f.1, f.2.1, f.2.2.1, eI (zI r) :: f.2.2.2), F, μ)) (h44 : ∀ (a3 a4 a5 a6 : Nat) (M : yM) (μ : eM), i44 a3 a4 a5 a6 M = true → yR M μ → y_le μ0 μ → ex_fine fg rc rs (d + 6, (300, 44, [some (eR a0), some (eI (zI a1)), some (eI (zI a2)), some (eI (zI a3)), some (eI (zI a4)), some (eI (zI a5)), some (eI (zI a6))], []), f :: F, μ)) : ∀ (a3 a4 a5 a6 s0 : Nat) (M : yM) (μ : eM), mr_300_102 T c239 a0 a1 K i44 a3 a4 a5 a6 s0 M = true → yR M μ → y_le μ0 μ → ex_fine fg rc rs (d + 6, (300, 102, [some (eR a0), some (eI (zI a1)), some (eI (zI a2)), some (eI (zI a3)), some (eI (zI a4)), some (eI (zI a5)), some (eI (zI a6))], [eI (zI s0)]), f :: F, μ) := by
  intro a3 a4 a5 a6 s0 M μ h hR hl
  unfold mr_300_102 at h
  exact v_ri rfl rfl (hK _ _ _ h hR hl)
noncomputable def mr_300_80 (T : Nat → Bool → Bool → Bool) (c239 : Nat → Nat → Nat → yM → (yM → Bool) → Bool) (a0 a1 : Nat) (K : Nat → yM → Bool) (i44 : Nat → Nat → Nat → Nat → yM → Bool) (a3 a4 a5 a6 : Nat) (M : yM) : Bool := c239 a0 a3 a4 M fun M1 => z_if (z_l0 a5) (m_214 a0 5 M1 fun v12 M7 => mr_300_102 T c239 a0 a1 K i44 a3 a4 a5 a6 v12 M7) (mr_300_102 T c239 a0 a1 K i44 a3 a4 a5 a6 a5 M1)
theorem mr_300_80_ok {fg : eG} {rc rs d : Nat} {f : eFr} {F : List eFr} {μ0 : eM} {T : Nat → Bool → Bool → Bool} {c239 : Nat → Nat → Nat → yM → (yM → Bool) → Bool} {a0 a1 a2 : Nat} {K : Nat → yM → Bool} {i44 : Nat → Nat → Nat → Nat → yM → Bool} (hT : zT a2 T) (hn : z_l0 a2 = false) (hc239 : ∀ (d : Nat) (f : eFr) (F : List eFr) (b0 b1 b2 : Nat) (M : yM) (μ : eM) (K : yM → Bool), c239 b0 b1 b2 M K = true → yR M μ → ev_kd μ b0 = some 11 → 0 < b0 → (∀ (M : yM) (μ2 : eM), K M = true → yR M μ2 → y_le μ μ2 → ex_fine fg rc rs (d + 6, (f.1, f.2.1, f.2.2.1, f.2.2.2), F, μ2)) → ex_fine fg rc rs (d + 5, (239, 0, [some (eR b0), some (eI (zI b1)), some (eI (zI b2)), none, none], []), f :: F, μ)) (hG : yG fg y_T) (hk : ev_kd μ0 a0 = some 11) (p0 : 0 < a0) (hK : ∀ (r : Nat) (M : yM) (μ : eM), K r M = true → yR M μ → y_le μ0 μ → ex_fine fg rc rs (d + 7, (f.1, f.2.1, f.2.2.1, eI (zI r) :: f.2.2.2), F, μ)) (h44 : ∀ (a3 a4 a5 a6 : Nat) (M : yM) (μ : eM), i44 a3 a4 a5 a6 M = true → yR M μ → y_le μ0 μ → ex_fine fg rc rs (d + 6, (300, 44, [some (eR a0), some (eI (zI a1)), some (eI (zI a2)), some (eI (zI a3)), some (eI (zI a4)), some (eI (zI a5)), some (eI (zI a6))], []), f :: F, μ)) : ∀ (a3 a4 a5 a6 : Nat) (M : yM) (μ : eM), mr_300_80 T c239 a0 a1 K i44 a3 a4 a5 a6 M = true → yR M μ → y_le μ0 μ → ex_fine fg rc rs (d + 6, (300, 80, [some (eR a0), some (eI (zI a1)), some (eI (zI a2)), some (eI (zI a3)), some (eI (zI a4)), some (eI (zI a5)), some (eI (zI a6))], []), f :: F, μ) := by
  intro a3 a4 a5 a6 M μ h hR hl
  unfold mr_300_80 at h
  refine w_s (np := 81) (lv' := [some (eR a0), some (eI (zI a1)), some (eI (zI a2)), some (eI (zI a3)), some (eI (zI a4)), some (eI (zI a5)), some (eI (zI a6))]) (st' := [eR a0]) rfl (s_an rfl p0) rfl ?_
  refine w_s (np := 82) (lv' := [some (eR a0), some (eI (zI a1)), some (eI (zI a2)), some (eI (zI a3)), some (eI (zI a4)), some (eI (zI a5)), some (eI (zI a6))]) (st' := [eI (zI a3), eR a0]) rfl rfl rfl ?_
  refine w_s (np := 84) (lv' := [some (eR a0), some (eI (zI a1)), some (eI (zI a2)), some (eI (zI a3)), some (eI (zI a4)), some (eI (zI a5)), some (eI (zI a6))]) (st' := [eI (zI a4), eI (zI a3), eR a0]) rfl rfl rfl ?_
  refine w_cv (np := 87) (as := [eI (zI a3), eI (zI a4)]) (lv' := [some (eR a0), some (eI (zI a3)), some (eI (zI a4)), none, none]) (rest := []) rfl rfl rfl (Nat.ble_eq.mp rfl) rfl rfl rfl (hl _ _ hk) rfl ?_
  refine hc239 _ _ _ _ _ _ _ _ _ h hR (hl _ _ hk) p0 ?_
  intro M1 μ2 h hR3 hl5
  have hl4 := y_le.tr hl hl5
  show ex_fine fg rc rs (d + 6, (300, 87, [some (eR a0), some (eI (zI a1)), some (eI (zI a2)), some (eI (zI a3)), some (eI (zI a4)), some (eI (zI a5)), some (eI (zI a6))], []), f :: F, μ2)
  refine w_s (np := 89) (lv' := [some (eR a0), some (eI (zI a1)), some (eI (zI a2)), some (eI (zI a3)), some (eI (zI a4)), some (eI (zI a5)), some (eI (zI a6))]) (st' := [eI (zI a5)]) rfl rfl rfl ?_
  rcases z_if_t h with ⟨g6, h⟩ | ⟨g6, h⟩
  · refine v_ge0_f (t1 := 100) rfl rfl g6 ?_
    refine w_s (np := 93) (lv' := [some (eR a0), some (eI (zI a1)), some (eI (zI a2)), some (eI (zI a3)), some (eI (zI a4)), some (eI (zI a5)), some (eI (zI a6))]) (st' := [eR a0]) rfl (s_an rfl p0) rfl ?_
    refine w_s (np := 94) (lv' := [some (eR a0), some (eI (zI a1)), some (eI (zI a2)), some (eI (zI a3)), some (eI (zI a4)), some (eI (zI a5)), some (eI (zI a6))]) (st' := [eI (zI 5), eR a0]) rfl rfl rfl ?_
    refine w_cv (np := 97) (as := [eI (zI 5)]) (lv' := [some (eR a0), some (eI (zI 5))]) (rest := []) rfl rfl rfl (Nat.ble_eq.mp rfl) rfl rfl rfl (hl4 _ _ hk) rfl ?_
    refine m_214_ok hG h hR3 (hl4 _ _ hk) p0 ?_
    intro v12 M7 μ8 h hR9 hl11
    have hl10 := y_le.tr hl4 hl11
    show ex_fine fg rc rs (d + 6, (300, 97, [some (eR a0), some (eI (zI a1)), some (eI (zI a2)), some (eI (zI a3)), some (eI (zI a4)), some (eI (zI a5)), some (eI (zI a6))], [eI (zI v12)]), f :: F, μ8)
    refine w_go (t1 := 102) rfl rfl ?_
    exact mr_300_102_ok hT hn hc239 hG hk p0 hK h44 _ _ _ _ _ M7 μ8 h hR9 hl10
  · refine v_ge0_t (t1 := 100) rfl rfl g6 ?_
    refine w_s (np := 102) (lv' := [some (eR a0), some (eI (zI a1)), some (eI (zI a2)), some (eI (zI a3)), some (eI (zI a4)), some (eI (zI a5)), some (eI (zI a6))]) (st' := [eI (zI a5)]) rfl rfl rfl ?_
    exact mr_300_102_ok hT hn hc239 hG hk p0 hK h44 _ _ _ _ _ M1 μ2 h hR3 hl4
noncomputable def mr_300_74 (T : Nat → Bool → Bool → Bool) (c239 : Nat → Nat → Nat → yM → (yM → Bool) → Bool) (a0 a1 : Nat) (K : Nat → yM → Bool) (i44 : Nat → Nat → Nat → Nat → yM → Bool) (a3 a4 a5 a6 : Nat) (M : yM) : Bool := z_l (z_add a6 1) fun v1 => z_f v1 fun w2 => i44 a3 a4 a5 w2 M
theorem mr_300_74_ok {fg : eG} {rc rs d : Nat} {f : eFr} {F : List eFr} {μ0 : eM} {T : Nat → Bool → Bool → Bool} {c239 : Nat → Nat → Nat → yM → (yM → Bool) → Bool} {a0 a1 a2 : Nat} {K : Nat → yM → Bool} {i44 : Nat → Nat → Nat → Nat → yM → Bool} (hT : zT a2 T) (hn : z_l0 a2 = false) (hc239 : ∀ (d : Nat) (f : eFr) (F : List eFr) (b0 b1 b2 : Nat) (M : yM) (μ : eM) (K : yM → Bool), c239 b0 b1 b2 M K = true → yR M μ → ev_kd μ b0 = some 11 → 0 < b0 → (∀ (M : yM) (μ2 : eM), K M = true → yR M μ2 → y_le μ μ2 → ex_fine fg rc rs (d + 6, (f.1, f.2.1, f.2.2.1, f.2.2.2), F, μ2)) → ex_fine fg rc rs (d + 5, (239, 0, [some (eR b0), some (eI (zI b1)), some (eI (zI b2)), none, none], []), f :: F, μ)) (hG : yG fg y_T) (hk : ev_kd μ0 a0 = some 11) (p0 : 0 < a0) (hK : ∀ (r : Nat) (M : yM) (μ : eM), K r M = true → yR M μ → y_le μ0 μ → ex_fine fg rc rs (d + 7, (f.1, f.2.1, f.2.2.1, eI (zI r) :: f.2.2.2), F, μ)) (h44 : ∀ (a3 a4 a5 a6 : Nat) (M : yM) (μ : eM), i44 a3 a4 a5 a6 M = true → yR M μ → y_le μ0 μ → ex_fine fg rc rs (d + 6, (300, 44, [some (eR a0), some (eI (zI a1)), some (eI (zI a2)), some (eI (zI a3)), some (eI (zI a4)), some (eI (zI a5)), some (eI (zI a6))], []), f :: F, μ)) : ∀ (a3 a4 a5 a6 : Nat) (M : yM) (μ : eM), mr_300_74 T c239 a0 a1 K i44 a3 a4 a5 a6 M = true → yR M μ → y_le μ0 μ → ex_fine fg rc rs (d + 6, (300, 74, [some (eR a0), some (eI (zI a1)), some (eI (zI a2)), some (eI (zI a3)), some (eI (zI a4)), some (eI (zI a5)), some (eI (zI a6))], []), f :: F, μ) := by
  intro a3 a4 a5 a6 M μ h hR hl
  unfold mr_300_74 at h
  obtain ⟨v1, ev1, h⟩ := z_l_ex h
  refine w_s (np := 77) (lv' := [some (eR a0), some (eI (zI a1)), some (eI (zI a2)), some (eI (zI a3)), some (eI (zI a4)), some (eI (zI a5)), some (eI (zI v1))]) (st' := []) rfl (s_iinc (b := 1) rfl rfl ev1 rfl) rfl ?_
  clear ev1
  refine w_go (t1 := 44) rfl rfl ?_
  obtain ⟨w2, ew2, h⟩ := z_f_ex h
  subst ew2
  exact h44 _ _ _ _ M μ h hR hl
noncomputable def mr_300_44b (T : Nat → Bool → Bool → Bool) (c239 : Nat → Nat → Nat → yM → (yM → Bool) → Bool) (a0 a1 : Nat) (K : Nat → yM → Bool) (i44 : Nat → Nat → Nat → Nat → yM → Bool) (a3 a4 a5 a6 : Nat) (M : yM) : Bool := z_if (z_lt 5 a6) (mr_300_80 T c239 a0 a1 K i44 a3 a4 a5 a6 M) (z_if (z_l0 a5) (c239 a0 a1 a6 M fun M3 => mr_299 T c239 a0 M3 fun v13 M8 => z_if (z_e0 v13) (mr_300_74 T c239 a0 a1 K i44 a3 a4 a5 a6 M8) (mr_300_74 T c239 a0 a1 K i44 a3 a4 a6 a6 M8)) (mr_300_80 T c239 a0 a1 K i44 a3 a4 a5 a6 M))
noncomputable def mr_300_44 (T : Nat → Bool → Bool → Bool) (c239 : Nat → Nat → Nat → yM → (yM → Bool) → Bool) (a0 a1 : Nat) (K : Nat → yM → Bool) (n : Nat) : Nat → Nat → Nat → Nat → yM → Bool := @Nat.rec (fun _ => Nat → Nat → Nat → Nat → yM → Bool) (fun _ _ _ _ _ => false) (fun _ ih => mr_300_44b T c239 a0 a1 K ih) n
theorem mr_300_44b_ok {fg : eG} {rc rs d : Nat} {f : eFr} {F : List eFr} {μ0 : eM} {T : Nat → Bool → Bool → Bool} {c239 : Nat → Nat → Nat → yM → (yM → Bool) → Bool} {a0 a1 a2 : Nat} {K : Nat → yM → Bool} {i44 : Nat → Nat → Nat → Nat → yM → Bool} (hT : zT a2 T) (hn : z_l0 a2 = false) (hc239 : ∀ (d : Nat) (f : eFr) (F : List eFr) (b0 b1 b2 : Nat) (M : yM) (μ : eM) (K : yM → Bool), c239 b0 b1 b2 M K = true → yR M μ → ev_kd μ b0 = some 11 → 0 < b0 → (∀ (M : yM) (μ2 : eM), K M = true → yR M μ2 → y_le μ μ2 → ex_fine fg rc rs (d + 6, (f.1, f.2.1, f.2.2.1, f.2.2.2), F, μ2)) → ex_fine fg rc rs (d + 5, (239, 0, [some (eR b0), some (eI (zI b1)), some (eI (zI b2)), none, none], []), f :: F, μ)) (hG : yG fg y_T) (hk : ev_kd μ0 a0 = some 11) (p0 : 0 < a0) (hK : ∀ (r : Nat) (M : yM) (μ : eM), K r M = true → yR M μ → y_le μ0 μ → ex_fine fg rc rs (d + 7, (f.1, f.2.1, f.2.2.1, eI (zI r) :: f.2.2.2), F, μ)) (h44 : ∀ (a3 a4 a5 a6 : Nat) (M : yM) (μ : eM), i44 a3 a4 a5 a6 M = true → yR M μ → y_le μ0 μ → ex_fine fg rc rs (d + 6, (300, 44, [some (eR a0), some (eI (zI a1)), some (eI (zI a2)), some (eI (zI a3)), some (eI (zI a4)), some (eI (zI a5)), some (eI (zI a6))], []), f :: F, μ)) : ∀ (a3 a4 a5 a6 : Nat) (M : yM) (μ : eM), mr_300_44b T c239 a0 a1 K i44 a3 a4 a5 a6 M = true → yR M μ → y_le μ0 μ → ex_fine fg rc rs (d + 6, (300, 44, [some (eR a0), some (eI (zI a1)), some (eI (zI a2)), some (eI (zI a3)), some (eI (zI a4)), some (eI (zI a5)), some (eI (zI a6))], []), f :: F, μ) := by
  intro a3 a4 a5 a6 M μ h hR hl
  unfold mr_300_44b at h
  refine w_s (np := 46) (lv' := [some (eR a0), some (eI (zI a1)), some (eI (zI a2)), some (eI (zI a3)), some (eI (zI a4)), some (eI (zI a5)), some (eI (zI a6))]) (st' := [eI (zI a6)]) rfl rfl rfl ?_
  refine w_s (np := 47) (lv' := [some (eR a0), some (eI (zI a1)), some (eI (zI a2)), some (eI (zI a3)), some (eI (zI a4)), some (eI (zI a5)), some (eI (zI a6))]) (st' := [eI (zI 5), eI (zI a6)]) rfl rfl rfl ?_
  rcases z_if_t h with ⟨g1, h⟩ | ⟨g1, h⟩
  · refine v_gt_t (t1 := 80) rfl rfl g1 ?_
    exact mr_300_80_ok hT hn hc239 hG hk p0 hK h44 _ _ _ _ M μ h hR hl
  · refine v_gt_f (t1 := 80) rfl rfl g1 ?_
    refine w_s (np := 52) (lv' := [some (eR a0), some (eI (zI a1)), some (eI (zI a2)), some (eI (zI a3)), some (eI (zI a4)), some (eI (zI a5)), some (eI (zI a6))]) (st' := [eI (zI a5)]) rfl rfl rfl ?_
    rcases z_if_t h with ⟨g2, h⟩ | ⟨g2, h⟩
    · refine v_ge0_f (t1 := 80) rfl rfl g2 ?_
      refine w_s (np := 56) (lv' := [some (eR a0), some (eI (zI a1)), some (eI (zI a2)), some (eI (zI a3)), some (eI (zI a4)), some (eI (zI a5)), some (eI (zI a6))]) (st' := [eR a0]) rfl (s_an rfl p0) rfl ?_
      refine w_s (np := 57) (lv' := [some (eR a0), some (eI (zI a1)), some (eI (zI a2)), some (eI (zI a3)), some (eI (zI a4)), some (eI (zI a5)), some (eI (zI a6))]) (st' := [eI (zI a1), eR a0]) rfl rfl rfl ?_
      refine w_s (np := 59) (lv' := [some (eR a0), some (eI (zI a1)), some (eI (zI a2)), some (eI (zI a3)), some (eI (zI a4)), some (eI (zI a5)), some (eI (zI a6))]) (st' := [eI (zI a6), eI (zI a1), eR a0]) rfl rfl rfl ?_
      refine w_cv (np := 62) (as := [eI (zI a1), eI (zI a6)]) (lv' := [some (eR a0), some (eI (zI a1)), some (eI (zI a6)), none, none]) (rest := []) rfl rfl rfl (Nat.ble_eq.mp rfl) rfl rfl rfl (hl _ _ hk) rfl ?_
      refine hc239 _ _ _ _ _ _ _ _ _ h hR (hl _ _ hk) p0 ?_
      intro M3 μ4 h hR5 hl7
      have hl6 := y_le.tr hl hl7
      show ex_fine fg rc rs (d + 6, (300, 62, [some (eR a0), some (eI (zI a1)), some (eI (zI a2)), some (eI (zI a3)), some (eI (zI a4)), some (eI (zI a5)), some (eI (zI a6))], []), f :: F, μ4)
      refine w_s (np := 63) (lv' := [some (eR a0), some (eI (zI a1)), some (eI (zI a2)), some (eI (zI a3)), some (eI (zI a4)), some (eI (zI a5)), some (eI (zI a6))]) (st' := [eR a0]) rfl (s_an rfl p0) rfl ?_
      refine w_s (np := 64) (lv' := [some (eR a0), some (eI (zI a1)), some (eI (zI a2)), some (eI (zI a3)), some (eI (zI a4)), some (eI (zI a5)), some (eI (zI a6))]) (st' := [eI (zI a2), eR a0]) rfl rfl rfl ?_
      refine w_cv (np := 67) (as := [eI (zI a2)]) (lv' := [some (eR a0), some (eI (zI a2)), none]) (rest := []) rfl rfl rfl (Nat.ble_eq.mp rfl) rfl rfl rfl (hl6 _ _ hk) rfl ?_
      refine mr_299_ok hT hn hc239 hG h hR5 (hl6 _ _ hk) p0 ?_
      intro v13 M8 μ9 h hR10 hl12
      have hl11 := y_le.tr hl6 hl12
      show ex_fine fg rc rs (d + 6, (300, 67, [some (eR a0), some (eI (zI a1)), some (eI (zI a2)), some (eI (zI a3)), some (eI (zI a4)), some (eI (zI a5)), some (eI (zI a6))], [eI (zI v13)]), f :: F, μ9)
      rcases z_if_t h with ⟨g14, h⟩ | ⟨g14, h⟩
      · refine v_eq0_t (t1 := 74) rfl rfl g14 ?_
        exact mr_300_74_ok hT hn hc239 hG hk p0 hK h44 _ _ _ _ M8 μ9 h hR10 hl11
      · refine v_eq0_f (t1 := 74) rfl rfl g14 ?_
        refine w_s (np := 72) (lv' := [some (eR a0), some (eI (zI a1)), some (eI (zI a2)), some (eI (zI a3)), some (eI (zI a4)), some (eI (zI a5)), some (eI (zI a6))]) (st' := [eI (zI a6)]) rfl rfl rfl ?_
        refine w_s (np := 74) (lv' := [some (eR a0), some (eI (zI a1)), some (eI (zI a2)), some (eI (zI a3)), some (eI (zI a4)), some (eI (zI a6)), some (eI (zI a6))]) (st' := []) rfl rfl rfl ?_
        exact mr_300_74_ok hT hn hc239 hG hk p0 hK h44 _ _ _ _ M8 μ9 h hR10 hl11
    · refine v_ge0_t (t1 := 80) rfl rfl g2 ?_
      exact mr_300_80_ok hT hn hc239 hG hk p0 hK h44 _ _ _ _ M μ h hR hl
theorem mr_300_44_ok {fg : eG} {rc rs d : Nat} {f : eFr} {F : List eFr} {μ0 : eM} {T : Nat → Bool → Bool → Bool} {c239 : Nat → Nat → Nat → yM → (yM → Bool) → Bool} {a0 a1 a2 : Nat} {K : Nat → yM → Bool} (hT : zT a2 T) (hn : z_l0 a2 = false) (hc239 : ∀ (d : Nat) (f : eFr) (F : List eFr) (b0 b1 b2 : Nat) (M : yM) (μ : eM) (K : yM → Bool), c239 b0 b1 b2 M K = true → yR M μ → ev_kd μ b0 = some 11 → 0 < b0 → (∀ (M : yM) (μ2 : eM), K M = true → yR M μ2 → y_le μ μ2 → ex_fine fg rc rs (d + 6, (f.1, f.2.1, f.2.2.1, f.2.2.2), F, μ2)) → ex_fine fg rc rs (d + 5, (239, 0, [some (eR b0), some (eI (zI b1)), some (eI (zI b2)), none, none], []), f :: F, μ)) (hG : yG fg y_T) (hk : ev_kd μ0 a0 = some 11) (p0 : 0 < a0) (hK : ∀ (r : Nat) (M : yM) (μ : eM), K r M = true → yR M μ → y_le μ0 μ → ex_fine fg rc rs (d + 7, (f.1, f.2.1, f.2.2.1, eI (zI r) :: f.2.2.2), F, μ)) : ∀ n : Nat, ∀ (a3 a4 a5 a6 : Nat) (M : yM) (μ : eM), mr_300_44 T c239 a0 a1 K n a3 a4 a5 a6 M = true → yR M μ → y_le μ0 μ → ex_fine fg rc rs (d + 6, (300, 44, [some (eR a0), some (eI (zI a1)), some (eI (zI a2)), some (eI (zI a3)), some (eI (zI a4)), some (eI (zI a5)), some (eI (zI a6))], []), f :: F, μ) := by
  intro n
  induction n with
  | zero =>
    intro a3 a4 a5 a6 M μ h hR hl
    exact absurd h Bool.false_ne_true
  | succ n ih =>
    intro a3 a4 a5 a6 M μ h hR hl
    exact mr_300_44b_ok hT hn hc239 hG hk p0 hK ih a3 a4 a5 a6 M μ h hR hl
noncomputable def mr_300_19 (T : Nat → Bool → Bool → Bool) (c239 : Nat → Nat → Nat → yM → (yM → Bool) → Bool) (a0 a1 : Nat) (K : Nat → yM → Bool) (i44 : Nat → Nat → Nat → Nat → yM → Bool) (s0 s1 : Nat) (M : yM) : Bool := y_is M s1 11 (m_215 s1 s0 M fun v6 M1 => z_if (z_e0 v6) (K 4294967295 M1) (y_gf M1 a0 11 6 fun v9 => y_gf M1 a0 11 7 fun v12 => z_f v9 fun w15 => z_f v12 fun w16 => z_f 4294967295 fun w17 => z_f 0 fun w18 => i44 w15 w16 w17 w18 M1))
theorem mr_300_19_ok {fg : eG} {rc rs d : Nat} {f : eFr} {F : List eFr} {μ0 : eM} {T : Nat → Bool → Bool → Bool} {c239 : Nat → Nat → Nat → yM → (yM → Bool) → Bool} {a0 a1 a2 : Nat} {K : Nat → yM → Bool} {i44 : Nat → Nat → Nat → Nat → yM → Bool} (hT : zT a2 T) (hn : z_l0 a2 = false) (hc239 : ∀ (d : Nat) (f : eFr) (F : List eFr) (b0 b1 b2 : Nat) (M : yM) (μ : eM) (K : yM → Bool), c239 b0 b1 b2 M K = true → yR M μ → ev_kd μ b0 = some 11 → 0 < b0 → (∀ (M : yM) (μ2 : eM), K M = true → yR M μ2 → y_le μ μ2 → ex_fine fg rc rs (d + 6, (f.1, f.2.1, f.2.2.1, f.2.2.2), F, μ2)) → ex_fine fg rc rs (d + 5, (239, 0, [some (eR b0), some (eI (zI b1)), some (eI (zI b2)), none, none], []), f :: F, μ)) (hG : yG fg y_T) (hk : ev_kd μ0 a0 = some 11) (p0 : 0 < a0) (hK : ∀ (r : Nat) (M : yM) (μ : eM), K r M = true → yR M μ → y_le μ0 μ → ex_fine fg rc rs (d + 7, (f.1, f.2.1, f.2.2.1, eI (zI r) :: f.2.2.2), F, μ)) (h44 : ∀ (a3 a4 a5 a6 : Nat) (M : yM) (μ : eM), i44 a3 a4 a5 a6 M = true → yR M μ → y_le μ0 μ → ex_fine fg rc rs (d + 6, (300, 44, [some (eR a0), some (eI (zI a1)), some (eI (zI a2)), some (eI (zI a3)), some (eI (zI a4)), some (eI (zI a5)), some (eI (zI a6))], []), f :: F, μ)) : ∀ (s0 s1 : Nat) (M : yM) (μ : eM), mr_300_19 T c239 a0 a1 K i44 s0 s1 M = true → yR M μ → y_le μ0 μ → 0 < s1 → ex_fine fg rc rs (d + 6, (300, 19, [some (eR a0), some (eI (zI a1)), some (eI (zI a2)), none, none, none, none], [eI (zI s0), eR s1]), f :: F, μ) := by
  intro s0 s1 M μ h hR hl q1
  unfold mr_300_19 at h
  obtain ⟨k7, h⟩ := y_is_ok h hR
  refine w_cv (np := 22) (as := [eI (zI s0)]) (lv' := [some (eR s1), some (eI (zI s0))]) (rest := []) rfl rfl rfl (Nat.ble_eq.mp rfl) rfl rfl rfl k7 rfl ?_
  refine m_215_ok hG h hR k7 q1 ?_
  intro v6 M1 μ2 h hR3 hl5
  have hl4 := y_le.tr hl hl5
  show ex_fine fg rc rs (d + 6, (300, 22, [some (eR a0), some (eI (zI a1)), some (eI (zI a2)), none, none, none, none], [eI (zI v6)]), f :: F, μ2)
  rcases z_if_t h with ⟨g8, h⟩ | ⟨g8, h⟩
  · refine v_ne0_f (t1 := 27) rfl rfl g8 ?_
    refine w_s (np := 26) (lv' := [some (eR a0), some (eI (zI a1)), some (eI (zI a2)), none, none, none, none]) (st' := [eI (zI 4294967295)]) rfl rfl rfl ?_
    exact v_ri rfl rfl (hK _ _ _ h hR3 hl4)
  · refine v_ne0_t (t1 := 27) rfl rfl g8 ?_
    refine w_s (np := 28) (lv' := [some (eR a0), some (eI (zI a1)), some (eI (zI a2)), none, none, none, none]) (st' := [eR a0]) rfl (s_an rfl p0) rfl ?_
    obtain ⟨v9, h, k10, e11⟩ := y_gf_ok (ty := 0) h hR3 (by decide) rfl
    refine v_gf0 (np := 31) rfl rfl k10 e11 ?_
    clear k10 e11
    refine w_s (np := 32) (lv' := [some (eR a0), some (eI (zI a1)), some (eI (zI a2)), some (eI (zI v9)), none, none, none]) (st' := []) rfl rfl rfl ?_
    refine w_s (np := 33) (lv' := [some (eR a0), some (eI (zI a1)), some (eI (zI a2)), some (eI (zI v9)), none, none, none]) (st' := [eR a0]) rfl (s_an rfl p0) rfl ?_
    obtain ⟨v12, h, k13, e14⟩ := y_gf_ok (ty := 0) h hR3 (by decide) rfl
    refine v_gf0 (np := 36) rfl rfl k13 e14 ?_
    clear k13 e14
    refine w_s (np := 38) (lv' := [some (eR a0), some (eI (zI a1)), some (eI (zI a2)), some (eI (zI v9)), some (eI (zI v12)), none, none]) (st' := []) rfl rfl rfl ?_
    refine w_s (np := 39) (lv' := [some (eR a0), some (eI (zI a1)), some (eI (zI a2)), some (eI (zI v9)), some (eI (zI v12)), none, none]) (st' := [eI (zI 4294967295)]) rfl rfl rfl ?_
    refine w_s (np := 41) (lv' := [some (eR a0), some (eI (zI a1)), some (eI (zI a2)), some (eI (zI v9)), some (eI (zI v12)), some (eI (zI 4294967295)), none]) (st' := []) rfl rfl rfl ?_
    refine w_s (np := 42) (lv' := [some (eR a0), some (eI (zI a1)), some (eI (zI a2)), some (eI (zI v9)), some (eI (zI v12)), some (eI (zI 4294967295)), none]) (st' := [eI (zI 0)]) rfl rfl rfl ?_
    refine w_s (np := 44) (lv' := [some (eR a0), some (eI (zI a1)), some (eI (zI a2)), some (eI (zI v9)), some (eI (zI v12)), some (eI (zI 4294967295)), some (eI (zI 0))]) (st' := []) rfl rfl rfl ?_
    obtain ⟨w15, ew15, h⟩ := z_f_ex h
    subst ew15
    obtain ⟨w16, ew16, h⟩ := z_f_ex h
    subst ew16
    obtain ⟨w17, ew17, h⟩ := z_f_ex h
    subst ew17
    obtain ⟨w18, ew18, h⟩ := z_f_ex h
    subst ew18
    exact h44 _ _ _ _ M1 μ2 h hR3 hl4
noncomputable def mr_300_14 (T : Nat → Bool → Bool → Bool) (c239 : Nat → Nat → Nat → yM → (yM → Bool) → Bool) (a0 a1 : Nat) (K : Nat → yM → Bool) (i44 : Nat → Nat → Nat → Nat → yM → Bool) (s0 : Nat) (M : yM) : Bool := mr_300_19 T c239 a0 a1 K i44 1 s0 M
theorem mr_300_14_ok {fg : eG} {rc rs d : Nat} {f : eFr} {F : List eFr} {μ0 : eM} {T : Nat → Bool → Bool → Bool} {c239 : Nat → Nat → Nat → yM → (yM → Bool) → Bool} {a0 a1 a2 : Nat} {K : Nat → yM → Bool} {i44 : Nat → Nat → Nat → Nat → yM → Bool} (hT : zT a2 T) (hn : z_l0 a2 = false) (hc239 : ∀ (d : Nat) (f : eFr) (F : List eFr) (b0 b1 b2 : Nat) (M : yM) (μ : eM) (K : yM → Bool), c239 b0 b1 b2 M K = true → yR M μ → ev_kd μ b0 = some 11 → 0 < b0 → (∀ (M : yM) (μ2 : eM), K M = true → yR M μ2 → y_le μ μ2 → ex_fine fg rc rs (d + 6, (f.1, f.2.1, f.2.2.1, f.2.2.2), F, μ2)) → ex_fine fg rc rs (d + 5, (239, 0, [some (eR b0), some (eI (zI b1)), some (eI (zI b2)), none, none], []), f :: F, μ)) (hG : yG fg y_T) (hk : ev_kd μ0 a0 = some 11) (p0 : 0 < a0) (hK : ∀ (r : Nat) (M : yM) (μ : eM), K r M = true → yR M μ → y_le μ0 μ → ex_fine fg rc rs (d + 7, (f.1, f.2.1, f.2.2.1, eI (zI r) :: f.2.2.2), F, μ)) (h44 : ∀ (a3 a4 a5 a6 : Nat) (M : yM) (μ : eM), i44 a3 a4 a5 a6 M = true → yR M μ → y_le μ0 μ → ex_fine fg rc rs (d + 6, (300, 44, [some (eR a0), some (eI (zI a1)), some (eI (zI a2)), some (eI (zI a3)), some (eI (zI a4)), some (eI (zI a5)), some (eI (zI a6))], []), f :: F, μ)) : ∀ (s0 : Nat) (M : yM) (μ : eM), mr_300_14 T c239 a0 a1 K i44 s0 M = true → yR M μ → y_le μ0 μ → 0 < s0 → ex_fine fg rc rs (d + 6, (300, 14, [some (eR a0), some (eI (zI a1)), some (eI (zI a2)), none, none, none, none], [eR s0]), f :: F, μ) := by
  intro s0 M μ h hR hl q0
  unfold mr_300_14 at h
  refine w_s (np := 15) (lv' := [some (eR a0), some (eI (zI a1)), some (eI (zI a2)), none, none, none, none]) (st' := [eI (zI 1), eR s0]) rfl rfl rfl ?_
  refine w_go (t1 := 19) rfl rfl ?_
  exact mr_300_19_ok hT hn hc239 hG hk p0 hK h44 _ _ M μ h hR hl q0
/-! RhombInflatorModel.comes -/
noncomputable def mr_300 (T : Nat → Bool → Bool → Bool) (c239 : Nat → Nat → Nat → yM → (yM → Bool) → Bool) (i44 : Nat → Nat → Nat → Nat → yM → Bool) (a0 a1 : Nat) (M : yM) (K : Nat → yM → Bool) : Bool := m_216 a1 0 3 M fun v6 M1 => z_if (z_e0 v6) (mr_300_14 T c239 a0 a1 K i44 a0 M1) (mr_300_19 T c239 a0 a1 K i44 0 a0 M1)
theorem mr_300_ok {fg : eG} {rc rs d : Nat} {f : eFr} {F : List eFr} {M : yM} {μ0 : eM} {T : Nat → Bool → Bool → Bool} {c239 : Nat → Nat → Nat → yM → (yM → Bool) → Bool} {i44 : Nat → Nat → Nat → Nat → yM → Bool} {a0 a1 a2 : Nat} {K : Nat → yM → Bool} (hT : zT a2 T) (hn : z_l0 a2 = false) (hc239 : ∀ (d : Nat) (f : eFr) (F : List eFr) (b0 b1 b2 : Nat) (M : yM) (μ : eM) (K : yM → Bool), c239 b0 b1 b2 M K = true → yR M μ → ev_kd μ b0 = some 11 → 0 < b0 → (∀ (M : yM) (μ2 : eM), K M = true → yR M μ2 → y_le μ μ2 → ex_fine fg rc rs (d + 6, (f.1, f.2.1, f.2.2.1, f.2.2.2), F, μ2)) → ex_fine fg rc rs (d + 5, (239, 0, [some (eR b0), some (eI (zI b1)), some (eI (zI b2)), none, none], []), f :: F, μ)) (hG : yG fg y_T) (h : mr_300 T c239 i44 a0 a1 M K = true) (hR : yR M μ0) (hk : ev_kd μ0 a0 = some 11) (p0 : 0 < a0) (h44 : ∀ (a3 a4 a5 a6 : Nat) (M : yM) (μ : eM), i44 a3 a4 a5 a6 M = true → yR M μ → y_le μ0 μ → ex_fine fg rc rs (d + 6, (300, 44, [some (eR a0), some (eI (zI a1)), some (eI (zI a2)), some (eI (zI a3)), some (eI (zI a4)), some (eI (zI a5)), some (eI (zI a6))], []), f :: F, μ)) (hK : ∀ (r : Nat) (M : yM) (μ : eM), K r M = true → yR M μ → y_le μ0 μ → ex_fine fg rc rs (d + 7, (f.1, f.2.1, f.2.2.1, eI (zI r) :: f.2.2.2), F, μ)) : ex_fine fg rc rs (d + 6, (300, 0, [some (eR a0), some (eI (zI a1)), some (eI (zI a2)), none, none, none, none], []), f :: F, μ0) := by
  unfold mr_300 at h
  have hl := y_le_r μ0
  refine w_s (np := 1) (lv' := [some (eR a0), some (eI (zI a1)), some (eI (zI a2)), none, none, none, none]) (st' := [eR a0]) rfl (s_an rfl p0) rfl ?_
  refine w_s (np := 2) (lv' := [some (eR a0), some (eI (zI a1)), some (eI (zI a2)), none, none, none, none]) (st' := [eI (zI a1), eR a0]) rfl rfl rfl ?_
  refine w_s (np := 3) (lv' := [some (eR a0), some (eI (zI a1)), some (eI (zI a2)), none, none, none, none]) (st' := [eI (zI 0), eI (zI a1), eR a0]) rfl rfl rfl ?_
  refine w_s (np := 4) (lv' := [some (eR a0), some (eI (zI a1)), some (eI (zI a2)), none, none, none, none]) (st' := [eI (zI 3), eI (zI 0), eI (zI a1), eR a0]) rfl rfl rfl ?_
  refine w_cs (np := 7) (as := [eI (zI a1), eI (zI 0), eI (zI 3)]) (lv' := [some (eI (zI a1)), some (eI (zI 0)), some (eI (zI 3))]) (rest := [eR a0]) rfl rfl rfl (Nat.ble_eq.mp rfl) rfl rfl rfl rfl ?_
  refine m_216_ok hG h hR ?_
  intro v6 M1 μ2 h hR3 hl5
  have hl4 := y_le.tr hl hl5
  show ex_fine fg rc rs (d + 6, (300, 7, [some (eR a0), some (eI (zI a1)), some (eI (zI a2)), none, none, none, none], [eI (zI v6), eR a0]), f :: F, μ2)
  rcases z_if_t h with ⟨g7, h⟩ | ⟨g7, h⟩
  · refine v_eq0_t (t1 := 14) rfl rfl g7 ?_
    exact mr_300_14_ok hT hn hc239 hG hk p0 hK h44 _ M1 μ2 h hR3 hl4 p0
  · refine v_eq0_f (t1 := 14) rfl rfl g7 ?_
    refine w_s (np := 11) (lv' := [some (eR a0), some (eI (zI a1)), some (eI (zI a2)), none, none, none, none]) (st' := [eI (zI a2), eR a0]) rfl rfl rfl ?_
    refine v_ge0_t (t1 := 18) rfl rfl hn ?_
    refine w_s (np := 19) (lv' := [some (eR a0), some (eI (zI a1)), some (eI (zI a2)), none, none, none, none]) (st' := [eI (zI 0), eR a0]) rfl rfl rfl ?_
    exact mr_300_19_ok hT hn hc239 hG hk p0 hK h44 _ _ M1 μ2 h hR3 hl4 p0
