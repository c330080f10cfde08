/-! THE REFERENCE, EXACT: methods -/
noncomputable def m_234_221b (a0 : Nat) (K : yM → Bool) (i221 : Nat → yM → Bool) (a1 : Nat) (M : yM) : Bool := y_gf M a0 11 18 fun v1 => z_if (z_lt a1 v1) (y_gf M a0 11 12 fun v5 => f_if false (Nat.ble 1 v5) (y_gf M a0 11 13 fun v10 => f_if false (Nat.ble 1 v10) (y_lh 100 M v10 a1 fun v15 => y_sa 100 M v5 a1 v15 fun M17 => y_gf M17 a0 11 16 fun v22 => f_if false (Nat.ble 1 v22) (y_gf M17 a0 11 17 fun v27 => f_if false (Nat.ble 1 v27) (y_lh 100 M17 v27 a1 fun v32 => y_sa 100 M17 v22 a1 v32 fun M34 => z_l (z_add a1 1) fun v39 => z_f v39 fun w40 => i221 w40 M34))))) (K M)
noncomputable def m_234_221 (a0 : Nat) (K : yM → Bool) (n : Nat) : Nat → yM → Bool := @Nat.rec (fun _ => Nat → yM → Bool) (fun _ _ => false) (fun _ ih => m_234_221b a0 K ih) n
theorem m_234_221b_ok {fg : eG} {μz : eM} {rc : eQ} {d : Nat} {f : eFr} {F : List eFr} {μ0 : eM} {a0 : Nat} {K : yM → Bool} {i221 : Nat → yM → Bool} (hG : yG fg y_T) (hk : ev_kd μ0 a0 = some 11) (p0 : 0 < a0) (hK : ∀ (M : yM) (μ : eM), K M = true → xQ μz M μ → y_le μ0 μ → ex_q fg rc (d + 5, (f.1, f.2.1, f.2.2.1, f.2.2.2), F, μ)) (h221 : ∀ (a1 : Nat) (x2 : Option eV) (M : yM) (μ : eM), i221 a1 M = true → xQ μz M μ → y_le μ0 μ → ex_q fg rc (d + 4, (234, 221, [some (eR a0), some (eI (zI a1)), x2], []), f :: F, μ)) : ∀ (a1 : Nat) (x2 : Option eV) (M : yM) (μ : eM), m_234_221b a0 K i221 a1 M = true → xQ μz M μ → y_le μ0 μ → ex_q fg rc (d + 4, (234, 221, [some (eR a0), some (eI (zI a1)), x2], []), f :: F, μ) := by
  intro a1 x2 M μ h hR hl
  unfold m_234_221b at h
  refine w_s (np := 222) (lv' := [some (eR a0), some (eI (zI a1)), x2]) (st' := [eI (zI a1)]) rfl rfl rfl ?_
  refine w_s (np := 223) (lv' := [some (eR a0), some (eI (zI a1)), x2]) (st' := [eR a0, eI (zI a1)]) rfl (s_an rfl p0) rfl ?_
  obtain ⟨v1, h, k2, e3⟩ := x_gf_ok (ty := 0) h hR (by decide) rfl
  refine v_gf0 (np := 226) rfl rfl k2 e3 ?_
  clear k2 e3
  rcases z_if_t h with ⟨g4, h⟩ | ⟨g4, h⟩
  · refine v_ge_f (t1 := 259) rfl rfl g4 ?_
    refine w_s (np := 230) (lv' := [some (eR a0), some (eI (zI a1)), x2]) (st' := [eR a0]) rfl (s_an rfl p0) rfl ?_
    obtain ⟨v5, h, k6, e7⟩ := x_gf_ok (ty := 3) h hR (by decide) rfl
    obtain ⟨g8, h⟩ := f_if_ok h
    have q9 : 0 < v5 := Nat.ble_eq.mp g8
    refine v_gf3 (np := 233) rfl rfl k6 e7 ?_
    clear k6 e7
    refine w_s (np := 234) (lv' := [some (eR a0), some (eI (zI a1)), x2]) (st' := [eI (zI a1), eR v5]) rfl rfl rfl ?_
    refine w_s (np := 235) (lv' := [some (eR a0), some (eI (zI a1)), x2]) (st' := [eR a0, eI (zI a1), eR v5]) rfl (s_an rfl p0) rfl ?_
    obtain ⟨v10, h, k11, e12⟩ := x_gf_ok (ty := 3) h hR (by decide) rfl
    obtain ⟨g13, h⟩ := f_if_ok h
    have q14 : 0 < v10 := Nat.ble_eq.mp g13
    refine v_gf3 (np := 238) rfl rfl k11 e12 ?_
    clear k11 e12
    refine w_s (np := 239) (lv' := [some (eR a0), some (eI (zI a1)), x2]) (st' := [eI (zI a1), eR v10, eI (zI a1), eR v5]) rfl rfl rfl ?_
    obtain ⟨v15, h, k16⟩ := x_lh_ok (ty := 0) h hR hG (by decide) rfl (by decide)
    refine v_la (np := 240) rfl rfl k16 ?_
    clear k16
    obtain ⟨M17, μ18, h, k21, hR19, hl20⟩ := x_sa_ex (ty := 0) h hR hl rfl (by decide)
    refine v_sa (np := 241) rfl rfl k21 ?_
    clear k21
    refine w_s (np := 242) (lv' := [some (eR a0), some (eI (zI a1)), x2]) (st' := [eR a0]) rfl (s_an rfl p0) rfl ?_
    obtain ⟨v22, h, k23, e24⟩ := x_gf_ok (ty := 3) h hR19 (by decide) rfl
    obtain ⟨g25, h⟩ := f_if_ok h
    have q26 : 0 < v22 := Nat.ble_eq.mp g25
    refine v_gf3 (np := 245) rfl rfl k23 e24 ?_
    clear k23 e24
    refine w_s (np := 246) (lv' := [some (eR a0), some (eI (zI a1)), x2]) (st' := [eI (zI a1), eR v22]) rfl rfl rfl ?_
    refine w_s (np := 247) (lv' := [some (eR a0), some (eI (zI a1)), x2]) (st' := [eR a0, eI (zI a1), eR v22]) rfl (s_an rfl p0) rfl ?_
    obtain ⟨v27, h, k28, e29⟩ := x_gf_ok (ty := 3) h hR19 (by decide) rfl
    obtain ⟨g30, h⟩ := f_if_ok h
    have q31 : 0 < v27 := Nat.ble_eq.mp g30
    refine v_gf3 (np := 250) rfl rfl k28 e29 ?_
    clear k28 e29
    refine w_s (np := 251) (lv' := [some (eR a0), some (eI (zI a1)), x2]) (st' := [eI (zI a1), eR v27, eI (zI a1), eR v22]) rfl rfl rfl ?_
    obtain ⟨v32, h, k33⟩ := x_lh_ok (ty := 0) h hR19 hG (by decide) rfl (by decide)
    refine v_la (np := 252) rfl rfl k33 ?_
    clear k33
    obtain ⟨M34, μ35, h, k38, hR36, hl37⟩ := x_sa_ex (ty := 0) h hR19 hl20 rfl (by decide)
    refine v_sa (np := 253) rfl rfl k38 ?_
    clear k38
    obtain ⟨v39, ev39, h⟩ := z_l_ex h
    refine w_s (np := 256) (lv' := [some (eR a0), some (eI (zI v39)), x2]) (st' := []) rfl (s_iinc (b := 1) rfl rfl ev39 rfl) rfl ?_
    clear ev39
    refine w_go (t1 := 221) rfl rfl ?_
    obtain ⟨w40, ew40, h⟩ := z_f_ex h
    subst ew40
    exact h221 _ _ M34 μ35 h hR36 hl37
  · refine v_ge_t (t1 := 259) rfl rfl g4 ?_
    exact v_rv rfl rfl (hK _ _ h hR hl)
theorem m_234_221_ok {fg : eG} {μz : eM} {rc : eQ} {d : Nat} {f : eFr} {F : List eFr} {μ0 : eM} {a0 : Nat} {K : yM → Bool} (hG : yG fg y_T) (hk : ev_kd μ0 a0 = some 11) (p0 : 0 < a0) (hK : ∀ (M : yM) (μ : eM), K M = true → xQ μz M μ → y_le μ0 μ → ex_q fg rc (d + 5, (f.1, f.2.1, f.2.2.1, f.2.2.2), F, μ)) : ∀ n : Nat, ∀ (a1 : Nat) (x2 : Option eV) (M : yM) (μ : eM), m_234_221 a0 K n a1 M = true → xQ μz M μ → y_le μ0 μ → ex_q fg rc (d + 4, (234, 221, [some (eR a0), some (eI (zI a1)), x2], []), f :: F, μ) := by
  intro n
  induction n with
  | zero =>
    intro a1 x2 M μ h hR hl
    exact absurd h Bool.false_ne_true
  | succ n ih =>
    intro a1 x2 M μ h hR hl
    exact m_234_221b_ok hG hk p0 hK ih a1 x2 M μ h hR hl
noncomputable def m_234_190b (a0 : Nat) (K : yM → Bool) (i190 : Nat → yM → Bool) (a1 : Nat) (M : yM) : Bool := y_gf M a0 11 18 fun v1 => z_l (z_mul 12 v1) fun v4 => z_if (z_lt a1 v4) (y_gf M a0 11 10 fun v6 => f_if false (Nat.ble 1 v6) (y_gf M a0 11 11 fun v11 => f_if false (Nat.ble 1 v11) (y_lh 100 M v11 a1 fun v16 => y_sa 100 M v6 a1 v16 fun M18 => z_l (z_add a1 1) fun v23 => z_f v23 fun w24 => i190 w24 M18))) (m_234_221 a0 K 100000 0 M)
noncomputable def m_234_190 (a0 : Nat) (K : yM → Bool) (n : Nat) : Nat → yM → Bool := @Nat.rec (fun _ => Nat → yM → Bool) (fun _ _ => false) (fun _ ih => m_234_190b a0 K ih) n
theorem m_234_190b_ok {fg : eG} {μz : eM} {rc : eQ} {d : Nat} {f : eFr} {F : List eFr} {μ0 : eM} {a0 : Nat} {K : yM → Bool} {i190 : Nat → yM → Bool} (hG : yG fg y_T) (hk : ev_kd μ0 a0 = some 11) (p0 : 0 < a0) (hK : ∀ (M : yM) (μ : eM), K M = true → xQ μz M μ → y_le μ0 μ → ex_q fg rc (d + 5, (f.1, f.2.1, f.2.2.1, f.2.2.2), F, μ)) (h190 : ∀ (a1 : Nat) (x2 : Option eV) (M : yM) (μ : eM), i190 a1 M = true → xQ μz M μ → y_le μ0 μ → ex_q fg rc (d + 4, (234, 190, [some (eR a0), some (eI (zI a1)), x2], []), f :: F, μ)) : ∀ (a1 : Nat) (x2 : Option eV) (M : yM) (μ : eM), m_234_190b a0 K i190 a1 M = true → xQ μz M μ → y_le μ0 μ → ex_q fg rc (d + 4, (234, 190, [some (eR a0), some (eI (zI a1)), x2], []), f :: F, μ) := by
  intro a1 x2 M μ h hR hl
  unfold m_234_190b at h
  refine w_s (np := 191) (lv' := [some (eR a0), some (eI (zI a1)), x2]) (st' := [eI (zI a1)]) rfl rfl rfl ?_
  refine w_s (np := 193) (lv' := [some (eR a0), some (eI (zI a1)), x2]) (st' := [eI (zI 12), eI (zI a1)]) rfl rfl rfl ?_
  refine w_s (np := 194) (lv' := [some (eR a0), some (eI (zI a1)), x2]) (st' := [eR a0, eI (zI 12), eI (zI a1)]) rfl (s_an rfl p0) rfl ?_
  obtain ⟨v1, h, k2, e3⟩ := x_gf_ok (ty := 0) h hR (by decide) rfl
  refine v_gf0 (np := 197) rfl rfl k2 e3 ?_
  clear k2 e3
  obtain ⟨v4, ev4, h⟩ := z_l_ex h
  refine w_s (np := 198) (lv' := [some (eR a0), some (eI (zI a1)), x2]) (st' := [eI (zI v4), eI (zI a1)]) rfl (s_imul ev4) rfl ?_
  clear ev4
  rcases z_if_t h with ⟨g5, h⟩ | ⟨g5, h⟩
  · refine v_ge_f (t1 := 219) rfl rfl g5 ?_
    refine w_s (np := 202) (lv' := [some (eR a0), some (eI (zI a1)), x2]) (st' := [eR a0]) rfl (s_an rfl p0) rfl ?_
    obtain ⟨v6, h, k7, e8⟩ := x_gf_ok (ty := 3) h hR (by decide) rfl
    obtain ⟨g9, h⟩ := f_if_ok h
    have q10 : 0 < v6 := Nat.ble_eq.mp g9
    refine v_gf3 (np := 205) rfl rfl k7 e8 ?_
    clear k7 e8
    refine w_s (np := 206) (lv' := [some (eR a0), some (eI (zI a1)), x2]) (st' := [eI (zI a1), eR v6]) rfl rfl rfl ?_
    refine w_s (np := 207) (lv' := [some (eR a0), some (eI (zI a1)), x2]) (st' := [eR a0, eI (zI a1), eR v6]) rfl (s_an rfl p0) rfl ?_
    obtain ⟨v11, h, k12, e13⟩ := x_gf_ok (ty := 3) h hR (by decide) rfl
    obtain ⟨g14, h⟩ := f_if_ok h
    have q15 : 0 < v11 := Nat.ble_eq.mp g14
    refine v_gf3 (np := 210) rfl rfl k12 e13 ?_
    clear k12 e13
    refine w_s (np := 211) (lv' := [some (eR a0), some (eI (zI a1)), x2]) (st' := [eI (zI a1), eR v11, eI (zI a1), eR v6]) rfl rfl rfl ?_
    obtain ⟨v16, h, k17⟩ := x_lh_ok (ty := 0) h hR hG (by decide) rfl (by decide)
    refine v_la (np := 212) rfl rfl k17 ?_
    clear k17
    obtain ⟨M18, μ19, h, k22, hR20, hl21⟩ := x_sa_ex (ty := 0) h hR hl rfl (by decide)
    refine v_sa (np := 213) rfl rfl k22 ?_
    clear k22
    obtain ⟨v23, ev23, h⟩ := z_l_ex h
    refine w_s (np := 216) (lv' := [some (eR a0), some (eI (zI v23)), x2]) (st' := []) rfl (s_iinc (b := 1) rfl rfl ev23 rfl) rfl ?_
    clear ev23
    refine w_go (t1 := 190) rfl rfl ?_
    obtain ⟨w24, ew24, h⟩ := z_f_ex h
    subst ew24
    exact h190 _ _ M18 μ19 h hR20 hl21
  · refine v_ge_t (t1 := 219) rfl rfl g5 ?_
    refine w_s (np := 220) (lv' := [some (eR a0), some (eI (zI a1)), x2]) (st' := [eI (zI 0)]) rfl rfl rfl ?_
    refine w_s (np := 221) (lv' := [some (eR a0), some (eI (zI 0)), x2]) (st' := []) rfl rfl rfl ?_
    exact m_234_221_ok hG hk p0 hK 100000 _ _ M μ h hR hl
theorem m_234_190_ok {fg : eG} {μz : eM} {rc : eQ} {d : Nat} {f : eFr} {F : List eFr} {μ0 : eM} {a0 : Nat} {K : yM → Bool} (hG : yG fg y_T) (hk : ev_kd μ0 a0 = some 11) (p0 : 0 < a0) (hK : ∀ (M : yM) (μ : eM), K M = true → xQ μz M μ → y_le μ0 μ → ex_q fg rc (d + 5, (f.1, f.2.1, f.2.2.1, f.2.2.2), F, μ)) : ∀ n : Nat, ∀ (a1 : Nat) (x2 : Option eV) (M : yM) (μ : eM), m_234_190 a0 K n a1 M = true → xQ μz M μ → y_le μ0 μ → ex_q fg rc (d + 4, (234, 190, [some (eR a0), some (eI (zI a1)), x2], []), f :: F, μ) := by
  intro n
  induction n with
  | zero =>
    intro a1 x2 M μ h hR hl
    exact absurd h Bool.false_ne_true
  | succ n ih =>
    intro a1 x2 M μ h hR hl
    exact m_234_190b_ok hG hk p0 hK ih a1 x2 M μ h hR hl
noncomputable def m_234_169 (a0 : Nat) (K : yM → Bool) (i17 : Nat → yM → Bool) (a1 a2 : Nat) (M : yM) : Bool := z_l (z_add a1 1) fun v1 => z_f v1 fun w2 => i17 w2 M
theorem m_234_169_ok {fg : eG} {μz : eM} {rc : eQ} {d : Nat} {f : eFr} {F : List eFr} {μ0 : eM} {a0 : Nat} {K : yM → Bool} {i17 : Nat → yM → Bool} (hG : yG fg y_T) (hk : ev_kd μ0 a0 = some 11) (p0 : 0 < a0) (hK : ∀ (M : yM) (μ : eM), K M = true → xQ μz M μ → y_le μ0 μ → ex_q fg rc (d + 5, (f.1, f.2.1, f.2.2.1, f.2.2.2), F, μ)) (h17 : ∀ (a1 : Nat) (x2 : Option eV) (M : yM) (μ : eM), i17 a1 M = true → xQ μz M μ → y_le μ0 μ → ex_q fg rc (d + 4, (234, 17, [some (eR a0), some (eI (zI a1)), x2], []), f :: F, μ)) : ∀ (a1 a2 : Nat) (M : yM) (μ : eM), m_234_169 a0 K i17 a1 a2 M = true → xQ μz M μ → y_le μ0 μ → ex_q fg rc (d + 4, (234, 169, [some (eR a0), some (eI (zI a1)), some (eI (zI a2))], []), f :: F, μ) := by
  intro a1 a2 M μ h hR hl
  unfold m_234_169 at h
  obtain ⟨v1, ev1, h⟩ := z_l_ex h
  refine w_s (np := 172) (lv' := [some (eR a0), some (eI (zI v1)), some (eI (zI a2))]) (st' := []) rfl (s_iinc (b := 1) rfl rfl ev1 rfl) rfl ?_
  clear ev1
  refine w_go (t1 := 17) rfl rfl ?_
  obtain ⟨w2, ew2, h⟩ := z_f_ex h
  subst ew2
  exact h17 _ _ M μ h hR hl
noncomputable def m_234_17b (a0 : Nat) (K : yM → Bool) (i17 : Nat → yM → Bool) (a1 : Nat) (M : yM) : Bool := y_gf M a0 11 9 fun v1 => f_if false (Nat.ble 1 v1) (y_gf M a0 11 20 fun v6 => z_l (z_sub v6 1) fun v9 => y_lh 100 M v1 v9 fun v10 => z_if (z_lt a1 v10) (z_l (z_mul 12 a1) fun v29 => m_231 a0 v29 0 M fun M30 => z_l (z_add v29 4) fun v35 => m_231 a0 v35 4 M30 fun M36 => z_l (z_add v29 8) fun v41 => m_231 a0 v41 8 M36 fun M42 => y_gf M42 a0 11 12 fun v47 => f_if false (Nat.ble 1 v47) (y_lh 100 M42 v47 a1 fun v52 => z_if (z_e0 v52) (z_l (z_add v29 4) fun v83 => m_232 a0 12 0 v29 v83 M42 fun M84 => m_233 a0 a1 0 0 8 12 4 M84 fun M89 => m_233 a0 a1 1 1 12 8 0 M89 fun M94 => m_234_169 a0 K i17 a1 v29 M94) (z_l (z_add v29 4) fun v55 => m_232 a0 12 4 v55 v29 M42 fun M56 => z_l (z_add v29 4) fun v61 => z_l (z_add v29 8) fun v62 => m_232 a0 16 4 v61 v62 M56 fun M63 => m_233 a0 a1 1 0 16 8 0 M63 fun M68 => m_233 a0 a1 1 1 12 16 4 M68 fun M73 => m_233 a0 a1 0 2 16 12 0 M73 fun M78 => m_234_169 a0 K i17 a1 v29 M78))) (y_gf M a0 11 9 fun v13 => f_if false (Nat.ble 1 v13) (y_gf M a0 11 20 fun v18 => y_gf M a0 11 18 fun v21 => y_sa 100 M v13 v18 v21 fun M24 => m_234_190 a0 K 100000 0 M24)))
noncomputable def m_234_17 (a0 : Nat) (K : yM → Bool) (n : Nat) : Nat → yM → Bool := @Nat.rec (fun _ => Nat → yM → Bool) (fun _ _ => false) (fun _ ih => m_234_17b a0 K ih) n
theorem m_234_17b_ok {fg : eG} {μz : eM} {rc : eQ} {d : Nat} {f : eFr} {F : List eFr} {μ0 : eM} {a0 : Nat} {K : yM → Bool} {i17 : Nat → yM → Bool} (hG : yG fg y_T) (hk : ev_kd μ0 a0 = some 11) (p0 : 0 < a0) (hK : ∀ (M : yM) (μ : eM), K M = true → xQ μz M μ → y_le μ0 μ → ex_q fg rc (d + 5, (f.1, f.2.1, f.2.2.1, f.2.2.2), F, μ)) (h17 : ∀ (a1 : Nat) (x2 : Option eV) (M : yM) (μ : eM), i17 a1 M = true → xQ μz M μ → y_le μ0 μ → ex_q fg rc (d + 4, (234, 17, [some (eR a0), some (eI (zI a1)), x2], []), f :: F, μ)) : ∀ (a1 : Nat) (x2 : Option eV) (M : yM) (μ : eM), m_234_17b a0 K i17 a1 M = true → xQ μz M μ → y_le μ0 μ → ex_q fg rc (d + 4, (234, 17, [some (eR a0), some (eI (zI a1)), x2], []), f :: F, μ) := by
  intro a1 x2 M μ h hR hl
  unfold m_234_17b at h
  refine w_s (np := 18) (lv' := [some (eR a0), some (eI (zI a1)), x2]) (st' := [eI (zI a1)]) rfl rfl rfl ?_
  refine w_s (np := 19) (lv' := [some (eR a0), some (eI (zI a1)), x2]) (st' := [eR a0, eI (zI a1)]) rfl (s_an rfl p0) rfl ?_
  obtain ⟨v1, h, k2, e3⟩ := x_gf_ok (ty := 3) h hR (by decide) rfl
  obtain ⟨g4, h⟩ := f_if_ok h
  have q5 : 0 < v1 := Nat.ble_eq.mp g4
  refine v_gf3 (np := 22) rfl rfl k2 e3 ?_
  clear k2 e3
  refine w_s (np := 23) (lv' := [some (eR a0), some (eI (zI a1)), x2]) (st' := [eR a0, eR v1, eI (zI a1)]) rfl (s_an rfl p0) rfl ?_
  obtain ⟨v6, h, k7, e8⟩ := x_gf_ok (ty := 0) h hR (by decide) rfl
  refine v_gf0 (np := 26) rfl rfl k7 e8 ?_
  clear k7 e8
  refine w_s (np := 27) (lv' := [some (eR a0), some (eI (zI a1)), x2]) (st' := [eI (zI 1), eI (zI v6), eR v1, eI (zI a1)]) rfl rfl rfl ?_
  obtain ⟨v9, ev9, h⟩ := z_l_ex h
  refine w_s (np := 28) (lv' := [some (eR a0), some (eI (zI a1)), x2]) (st' := [eI (zI v9), eR v1, eI (zI a1)]) rfl (s_isub ev9) rfl ?_
  clear ev9
  obtain ⟨v10, h, k11⟩ := x_lh_ok (ty := 0) h hR hG (by decide) rfl (by decide)
  refine v_la (np := 29) rfl rfl k11 ?_
  clear k11
  rcases z_if_t h with ⟨g12, h⟩ | ⟨g12, h⟩
  · refine v_ge_f (t1 := 175) rfl rfl g12 ?_
    refine w_s (np := 34) (lv' := [some (eR a0), some (eI (zI a1)), x2]) (st' := [eI (zI 12)]) rfl rfl rfl ?_
    refine w_s (np := 35) (lv' := [some (eR a0), some (eI (zI a1)), x2]) (st' := [eI (zI a1), eI (zI 12)]) rfl rfl rfl ?_
    obtain ⟨v29, ev29, h⟩ := z_l_ex h
    refine w_s (np := 36) (lv' := [some (eR a0), some (eI (zI a1)), x2]) (st' := [eI (zI v29)]) rfl (s_imul ev29) rfl ?_
    clear ev29
    refine w_s (np := 37) (lv' := [some (eR a0), some (eI (zI a1)), some (eI (zI v29))]) (st' := []) rfl rfl rfl ?_
    refine w_s (np := 38) (lv' := [some (eR a0), some (eI (zI a1)), some (eI (zI v29))]) (st' := [eR a0]) rfl (s_an rfl p0) rfl ?_
    refine w_s (np := 39) (lv' := [some (eR a0), some (eI (zI a1)), some (eI (zI v29))]) (st' := [eI (zI v29), eR a0]) rfl rfl rfl ?_
    refine w_s (np := 40) (lv' := [some (eR a0), some (eI (zI a1)), some (eI (zI v29))]) (st' := [eI (zI 0), eI (zI v29), eR a0]) rfl rfl rfl ?_
    refine w_cv (np := 43) (as := [eI (zI v29), eI (zI 0)]) (lv' := [some (eR a0), some (eI (zI v29)), some (eI (zI 0))]) (rest := []) rfl rfl rfl (Nat.ble_eq.mp rfl) rfl rfl rfl (hl _ _ hk) rfl ?_
    refine m_231_ok hG h hR (hl _ _ hk) p0 ?_
    intro M30 μ31 h hR32 hl34
    have hl33 := y_le.tr hl hl34
    show ex_q fg rc (d + 4, (234, 43, [some (eR a0), some (eI (zI a1)), some (eI (zI v29))], []), f :: F, μ31)
    refine w_s (np := 44) (lv' := [some (eR a0), some (eI (zI a1)), some (eI (zI v29))]) (st' := [eR a0]) rfl (s_an rfl p0) rfl ?_
    refine w_s (np := 45) (lv' := [some (eR a0), some (eI (zI a1)), some (eI (zI v29))]) (st' := [eI (zI v29), eR a0]) rfl rfl rfl ?_
    refine w_s (np := 46) (lv' := [some (eR a0), some (eI (zI a1)), some (eI (zI v29))]) (st' := [eI (zI 4), eI (zI v29), eR a0]) rfl rfl rfl ?_
    obtain ⟨v35, ev35, h⟩ := z_l_ex h
    refine w_s (np := 47) (lv' := [some (eR a0), some (eI (zI a1)), some (eI (zI v29))]) (st' := [eI (zI v35), eR a0]) rfl (s_iadd ev35) rfl ?_
    clear ev35
    refine w_s (np := 48) (lv' := [some (eR a0), some (eI (zI a1)), some (eI (zI v29))]) (st' := [eI (zI 4), eI (zI v35), eR a0]) rfl rfl rfl ?_
    refine w_cv (np := 51) (as := [eI (zI v35), eI (zI 4)]) (lv' := [some (eR a0), some (eI (zI v35)), some (eI (zI 4))]) (rest := []) rfl rfl rfl (Nat.ble_eq.mp rfl) rfl rfl rfl (hl33 _ _ hk) rfl ?_
    refine m_231_ok hG h hR32 (hl33 _ _ hk) p0 ?_
    intro M36 μ37 h hR38 hl40
    have hl39 := y_le.tr hl33 hl40
    show ex_q fg rc (d + 4, (234, 51, [some (eR a0), some (eI (zI a1)), some (eI (zI v29))], []), f :: F, μ37)
    refine w_s (np := 52) (lv' := [some (eR a0), some (eI (zI a1)), some (eI (zI v29))]) (st' := [eR a0]) rfl (s_an rfl p0) rfl ?_
    refine w_s (np := 53) (lv' := [some (eR a0), some (eI (zI a1)), some (eI (zI v29))]) (st' := [eI (zI v29), eR a0]) rfl rfl rfl ?_
    refine w_s (np := 55) (lv' := [some (eR a0), some (eI (zI a1)), some (eI (zI v29))]) (st' := [eI (zI 8), eI (zI v29), eR a0]) rfl rfl rfl ?_
    obtain ⟨v41, ev41, h⟩ := z_l_ex h
    refine w_s (np := 56) (lv' := [some (eR a0), some (eI (zI a1)), some (eI (zI v29))]) (st' := [eI (zI v41), eR a0]) rfl (s_iadd ev41) rfl ?_
    clear ev41
    refine w_s (np := 58) (lv' := [some (eR a0), some (eI (zI a1)), some (eI (zI v29))]) (st' := [eI (zI 8), eI (zI v41), eR a0]) rfl rfl rfl ?_
    refine w_cv (np := 61) (as := [eI (zI v41), eI (zI 8)]) (lv' := [some (eR a0), some (eI (zI v41)), some (eI (zI 8))]) (rest := []) rfl rfl rfl (Nat.ble_eq.mp rfl) rfl rfl rfl (hl39 _ _ hk) rfl ?_
    refine m_231_ok hG h hR38 (hl39 _ _ hk) p0 ?_
    intro M42 μ43 h hR44 hl46
    have hl45 := y_le.tr hl39 hl46
    show ex_q fg rc (d + 4, (234, 61, [some (eR a0), some (eI (zI a1)), some (eI (zI v29))], []), f :: F, μ43)
    refine w_s (np := 62) (lv' := [some (eR a0), some (eI (zI a1)), some (eI (zI v29))]) (st' := [eR a0]) rfl (s_an rfl p0) rfl ?_
    obtain ⟨v47, h, k48, e49⟩ := x_gf_ok (ty := 3) h hR44 (by decide) rfl
    obtain ⟨g50, h⟩ := f_if_ok h
    have q51 : 0 < v47 := Nat.ble_eq.mp g50
    refine v_gf3 (np := 65) rfl rfl k48 e49 ?_
    clear k48 e49
    refine w_s (np := 66) (lv' := [some (eR a0), some (eI (zI a1)), some (eI (zI v29))]) (st' := [eI (zI a1), eR v47]) rfl rfl rfl ?_
    obtain ⟨v52, h, k53⟩ := x_lh_ok (ty := 0) h hR44 hG (by decide) rfl (by decide)
    refine v_la (np := 67) rfl rfl k53 ?_
    clear k53
    rcases z_if_t h with ⟨g54, h⟩ | ⟨g54, h⟩
    · refine v_ne0_f (t1 := 108) rfl rfl g54 ?_
      refine w_s (np := 71) (lv' := [some (eR a0), some (eI (zI a1)), some (eI (zI v29))]) (st' := [eR a0]) rfl (s_an rfl p0) rfl ?_
      refine w_s (np := 73) (lv' := [some (eR a0), some (eI (zI a1)), some (eI (zI v29))]) (st' := [eI (zI 12), eR a0]) rfl rfl rfl ?_
      refine w_s (np := 74) (lv' := [some (eR a0), some (eI (zI a1)), some (eI (zI v29))]) (st' := [eI (zI 0), eI (zI 12), eR a0]) rfl rfl rfl ?_
      refine w_s (np := 75) (lv' := [some (eR a0), some (eI (zI a1)), some (eI (zI v29))]) (st' := [eI (zI v29), eI (zI 0), eI (zI 12), eR a0]) rfl rfl rfl ?_
      refine w_s (np := 76) (lv' := [some (eR a0), some (eI (zI a1)), some (eI (zI v29))]) (st' := [eI (zI v29), eI (zI v29), eI (zI 0), eI (zI 12), eR a0]) rfl rfl rfl ?_
      refine w_s (np := 77) (lv' := [some (eR a0), some (eI (zI a1)), some (eI (zI v29))]) (st' := [eI (zI 4), eI (zI v29), eI (zI v29), eI (zI 0), eI (zI 12), eR a0]) rfl rfl rfl ?_
      obtain ⟨v83, ev83, h⟩ := z_l_ex h
      refine w_s (np := 78) (lv' := [some (eR a0), some (eI (zI a1)), some (eI (zI v29))]) (st' := [eI (zI v83), eI (zI v29), eI (zI 0), eI (zI 12), eR a0]) rfl (s_iadd ev83) rfl ?_
      clear ev83
      refine w_cv (np := 81) (as := [eI (zI 12), eI (zI 0), eI (zI v29), eI (zI v83)]) (lv' := [some (eR a0), some (eI (zI 12)), some (eI (zI 0)), some (eI (zI v29)), some (eI (zI v83)), none]) (rest := []) rfl rfl rfl (Nat.ble_eq.mp rfl) rfl rfl rfl (hl45 _ _ hk) rfl ?_
      refine m_232_ok hG h hR44 (hl45 _ _ hk) p0 ?_
      intro M84 μ85 h hR86 hl88
      have hl87 := y_le.tr hl45 hl88
      show ex_q fg rc (d + 4, (234, 81, [some (eR a0), some (eI (zI a1)), some (eI (zI v29))], []), f :: F, μ85)
      refine w_s (np := 82) (lv' := [some (eR a0), some (eI (zI a1)), some (eI (zI v29))]) (st' := [eR a0]) rfl (s_an rfl p0) rfl ?_
      refine w_s (np := 83) (lv' := [some (eR a0), some (eI (zI a1)), some (eI (zI v29))]) (st' := [eI (zI a1), eR a0]) rfl rfl rfl ?_
      refine w_s (np := 84) (lv' := [some (eR a0), some (eI (zI a1)), some (eI (zI v29))]) (st' := [eI (zI 0), eI (zI a1), eR a0]) rfl rfl rfl ?_
      refine w_s (np := 85) (lv' := [some (eR a0), some (eI (zI a1)), some (eI (zI v29))]) (st' := [eI (zI 0), eI (zI 0), eI (zI a1), eR a0]) rfl rfl rfl ?_
      refine w_s (np := 87) (lv' := [some (eR a0), some (eI (zI a1)), some (eI (zI v29))]) (st' := [eI (zI 8), eI (zI 0), eI (zI 0), eI (zI a1), eR a0]) rfl rfl rfl ?_
      refine w_s (np := 89) (lv' := [some (eR a0), some (eI (zI a1)), some (eI (zI v29))]) (st' := [eI (zI 12), eI (zI 8), eI (zI 0), eI (zI 0), eI (zI a1), eR a0]) rfl rfl rfl ?_
      refine w_s (np := 90) (lv' := [some (eR a0), some (eI (zI a1)), some (eI (zI v29))]) (st' := [eI (zI 4), eI (zI 12), eI (zI 8), eI (zI 0), eI (zI 0), eI (zI a1), eR a0]) rfl rfl rfl ?_
      refine w_cv (np := 93) (as := [eI (zI a1), eI (zI 0), eI (zI 0), eI (zI 8), eI (zI 12), eI (zI 4)]) (lv' := [some (eR a0), some (eI (zI a1)), some (eI (zI 0)), some (eI (zI 0)), some (eI (zI 8)), some (eI (zI 12)), some (eI (zI 4)), none]) (rest := []) rfl rfl rfl (Nat.ble_eq.mp rfl) rfl rfl rfl (hl87 _ _ hk) rfl ?_
      refine m_233_ok hG h hR86 (hl87 _ _ hk) p0 ?_
      intro M89 μ90 h hR91 hl93
      have hl92 := y_le.tr hl87 hl93
      show ex_q fg rc (d + 4, (234, 93, [some (eR a0), some (eI (zI a1)), some (eI (zI v29))], []), f :: F, μ90)
      refine w_s (np := 94) (lv' := [some (eR a0), some (eI (zI a1)), some (eI (zI v29))]) (st' := [eR a0]) rfl (s_an rfl p0) rfl ?_
      refine w_s (np := 95) (lv' := [some (eR a0), some (eI (zI a1)), some (eI (zI v29))]) (st' := [eI (zI a1), eR a0]) rfl rfl rfl ?_
      refine w_s (np := 96) (lv' := [some (eR a0), some (eI (zI a1)), some (eI (zI v29))]) (st' := [eI (zI 1), eI (zI a1), eR a0]) rfl rfl rfl ?_
      refine w_s (np := 97) (lv' := [some (eR a0), some (eI (zI a1)), some (eI (zI v29))]) (st' := [eI (zI 1), eI (zI 1), eI (zI a1), eR a0]) rfl rfl rfl ?_
      refine w_s (np := 99) (lv' := [some (eR a0), some (eI (zI a1)), some (eI (zI v29))]) (st' := [eI (zI 12), eI (zI 1), eI (zI 1), eI (zI a1), eR a0]) rfl rfl rfl ?_
      refine w_s (np := 101) (lv' := [some (eR a0), some (eI (zI a1)), some (eI (zI v29))]) (st' := [eI (zI 8), eI (zI 12), eI (zI 1), eI (zI 1), eI (zI a1), eR a0]) rfl rfl rfl ?_
      refine w_s (np := 102) (lv' := [some (eR a0), some (eI (zI a1)), some (eI (zI v29))]) (st' := [eI (zI 0), eI (zI 8), eI (zI 12), eI (zI 1), eI (zI 1), eI (zI a1), eR a0]) rfl rfl rfl ?_
      refine w_cv (np := 105) (as := [eI (zI a1), eI (zI 1), eI (zI 1), eI (zI 12), eI (zI 8), eI (zI 0)]) (lv' := [some (eR a0), some (eI (zI a1)), some (eI (zI 1)), some (eI (zI 1)), some (eI (zI 12)), some (eI (zI 8)), some (eI (zI 0)), none]) (rest := []) rfl rfl rfl (Nat.ble_eq.mp rfl) rfl rfl rfl (hl92 _ _ hk) rfl ?_
      refine m_233_ok hG h hR91 (hl92 _ _ hk) p0 ?_
      intro M94 μ95 h hR96 hl98
      have hl97 := y_le.tr hl92 hl98
      show ex_q fg rc (d + 4, (234, 105, [some (eR a0), some (eI (zI a1)), some (eI (zI v29))], []), f :: F, μ95)
      refine w_go (t1 := 169) rfl rfl ?_
      exact m_234_169_ok hG hk p0 hK h17 _ _ M94 μ95 h hR96 hl97
    · refine v_ne0_t (t1 := 108) rfl rfl g54 ?_
      refine w_s (np := 109) (lv' := [some (eR a0), some (eI (zI a1)), some (eI (zI v29))]) (st' := [eR a0]) rfl (s_an rfl p0) rfl ?_
      refine w_s (np := 111) (lv' := [some (eR a0), some (eI (zI a1)), some (eI (zI v29))]) (st' := [eI (zI 12), eR a0]) rfl rfl rfl ?_
      refine w_s (np := 112) (lv' := [some (eR a0), some (eI (zI a1)), some (eI (zI v29))]) (st' := [eI (zI 4), eI (zI 12), eR a0]) rfl rfl rfl ?_
      refine w_s (np := 113) (lv' := [some (eR a0), some (eI (zI a1)), some (eI (zI v29))]) (st' := [eI (zI v29), eI (zI 4), eI (zI 12), eR a0]) rfl rfl rfl ?_
      refine w_s (np := 114) (lv' := [some (eR a0), some (eI (zI a1)), some (eI (zI v29))]) (st' := [eI (zI 4), eI (zI v29), eI (zI 4), eI (zI 12), eR a0]) rfl rfl rfl ?_
      obtain ⟨v55, ev55, h⟩ := z_l_ex h
      refine w_s (np := 115) (lv' := [some (eR a0), some (eI (zI a1)), some (eI (zI v29))]) (st' := [eI (zI v55), eI (zI 4), eI (zI 12), eR a0]) rfl (s_iadd ev55) rfl ?_
      clear ev55
      refine w_s (np := 116) (lv' := [some (eR a0), some (eI (zI a1)), some (eI (zI v29))]) (st' := [eI (zI v29), eI (zI v55), eI (zI 4), eI (zI 12), eR a0]) rfl rfl rfl ?_
      refine w_cv (np := 119) (as := [eI (zI 12), eI (zI 4), eI (zI v55), eI (zI v29)]) (lv' := [some (eR a0), some (eI (zI 12)), some (eI (zI 4)), some (eI (zI v55)), some (eI (zI v29)), none]) (rest := []) rfl rfl rfl (Nat.ble_eq.mp rfl) rfl rfl rfl (hl45 _ _ hk) rfl ?_
      refine m_232_ok hG h hR44 (hl45 _ _ hk) p0 ?_
      intro M56 μ57 h hR58 hl60
      have hl59 := y_le.tr hl45 hl60
      show ex_q fg rc (d + 4, (234, 119, [some (eR a0), some (eI (zI a1)), some (eI (zI v29))], []), f :: F, μ57)
      refine w_s (np := 120) (lv' := [some (eR a0), some (eI (zI a1)), some (eI (zI v29))]) (st' := [eR a0]) rfl (s_an rfl p0) rfl ?_
      refine w_s (np := 122) (lv' := [some (eR a0), some (eI (zI a1)), some (eI (zI v29))]) (st' := [eI (zI 16), eR a0]) rfl rfl rfl ?_
      refine w_s (np := 123) (lv' := [some (eR a0), some (eI (zI a1)), some (eI (zI v29))]) (st' := [eI (zI 4), eI (zI 16), eR a0]) rfl rfl rfl ?_
      refine w_s (np := 124) (lv' := [some (eR a0), some (eI (zI a1)), some (eI (zI v29))]) (st' := [eI (zI v29), eI (zI 4), eI (zI 16), eR a0]) rfl rfl rfl ?_
      refine w_s (np := 125) (lv' := [some (eR a0), some (eI (zI a1)), some (eI (zI v29))]) (st' := [eI (zI 4), eI (zI v29), eI (zI 4), eI (zI 16), eR a0]) rfl rfl rfl ?_
      obtain ⟨v61, ev61, h⟩ := z_l_ex h
      refine w_s (np := 126) (lv' := [some (eR a0), some (eI (zI a1)), some (eI (zI v29))]) (st' := [eI (zI v61), eI (zI 4), eI (zI 16), eR a0]) rfl (s_iadd ev61) rfl ?_
      clear ev61
      refine w_s (np := 127) (lv' := [some (eR a0), some (eI (zI a1)), some (eI (zI v29))]) (st' := [eI (zI v29), eI (zI v61), eI (zI 4), eI (zI 16), eR a0]) rfl rfl rfl ?_
      refine w_s (np := 129) (lv' := [some (eR a0), some (eI (zI a1)), some (eI (zI v29))]) (st' := [eI (zI 8), eI (zI v29), eI (zI v61), eI (zI 4), eI (zI 16), eR a0]) rfl rfl rfl ?_
      obtain ⟨v62, ev62, h⟩ := z_l_ex h
      refine w_s (np := 130) (lv' := [some (eR a0), some (eI (zI a1)), some (eI (zI v29))]) (st' := [eI (zI v62), eI (zI v61), eI (zI 4), eI (zI 16), eR a0]) rfl (s_iadd ev62) rfl ?_
      clear ev62
      refine w_cv (np := 133) (as := [eI (zI 16), eI (zI 4), eI (zI v61), eI (zI v62)]) (lv' := [some (eR a0), some (eI (zI 16)), some (eI (zI 4)), some (eI (zI v61)), some (eI (zI v62)), none]) (rest := []) rfl rfl rfl (Nat.ble_eq.mp rfl) rfl rfl rfl (hl59 _ _ hk) rfl ?_
      refine m_232_ok hG h hR58 (hl59 _ _ hk) p0 ?_
      intro M63 μ64 h hR65 hl67
      have hl66 := y_le.tr hl59 hl67
      show ex_q fg rc (d + 4, (234, 133, [some (eR a0), some (eI (zI a1)), some (eI (zI v29))], []), f :: F, μ64)
      refine w_s (np := 134) (lv' := [some (eR a0), some (eI (zI a1)), some (eI (zI v29))]) (st' := [eR a0]) rfl (s_an rfl p0) rfl ?_
      refine w_s (np := 135) (lv' := [some (eR a0), some (eI (zI a1)), some (eI (zI v29))]) (st' := [eI (zI a1), eR a0]) rfl rfl rfl ?_
      refine w_s (np := 136) (lv' := [some (eR a0), some (eI (zI a1)), some (eI (zI v29))]) (st' := [eI (zI 1), eI (zI a1), eR a0]) rfl rfl rfl ?_
      refine w_s (np := 137) (lv' := [some (eR a0), some (eI (zI a1)), some (eI (zI v29))]) (st' := [eI (zI 0), eI (zI 1), eI (zI a1), eR a0]) rfl rfl rfl ?_
      refine w_s (np := 139) (lv' := [some (eR a0), some (eI (zI a1)), some (eI (zI v29))]) (st' := [eI (zI 16), eI (zI 0), eI (zI 1), eI (zI a1), eR a0]) rfl rfl rfl ?_
      refine w_s (np := 141) (lv' := [some (eR a0), some (eI (zI a1)), some (eI (zI v29))]) (st' := [eI (zI 8), eI (zI 16), eI (zI 0), eI (zI 1), eI (zI a1), eR a0]) rfl rfl rfl ?_
      refine w_s (np := 142) (lv' := [some (eR a0), some (eI (zI a1)), some (eI (zI v29))]) (st' := [eI (zI 0), eI (zI 8), eI (zI 16), eI (zI 0), eI (zI 1), eI (zI a1), eR a0]) rfl rfl rfl ?_
      refine w_cv (np := 145) (as := [eI (zI a1), eI (zI 1), eI (zI 0), eI (zI 16), eI (zI 8), eI (zI 0)]) (lv' := [some (eR a0), some (eI (zI a1)), some (eI (zI 1)), some (eI (zI 0)), some (eI (zI 16)), some (eI (zI 8)), some (eI (zI 0)), none]) (rest := []) rfl rfl rfl (Nat.ble_eq.mp rfl) rfl rfl rfl (hl66 _ _ hk) rfl ?_
      refine m_233_ok hG h hR65 (hl66 _ _ hk) p0 ?_
      intro M68 μ69 h hR70 hl72
      have hl71 := y_le.tr hl66 hl72
      show ex_q fg rc (d + 4, (234, 145, [some (eR a0), some (eI (zI a1)), some (eI (zI v29))], []), f :: F, μ69)
      refine w_s (np := 146) (lv' := [some (eR a0), some (eI (zI a1)), some (eI (zI v29))]) (st' := [eR a0]) rfl (s_an rfl p0) rfl ?_
      refine w_s (np := 147) (lv' := [some (eR a0), some (eI (zI a1)), some (eI (zI v29))]) (st' := [eI (zI a1), eR a0]) rfl rfl rfl ?_
      refine w_s (np := 148) (lv' := [some (eR a0), some (eI (zI a1)), some (eI (zI v29))]) (st' := [eI (zI 1), eI (zI a1), eR a0]) rfl rfl rfl ?_
      refine w_s (np := 149) (lv' := [some (eR a0), some (eI (zI a1)), some (eI (zI v29))]) (st' := [eI (zI 1), eI (zI 1), eI (zI a1), eR a0]) rfl rfl rfl ?_
      refine w_s (np := 151) (lv' := [some (eR a0), some (eI (zI a1)), some (eI (zI v29))]) (st' := [eI (zI 12), eI (zI 1), eI (zI 1), eI (zI a1), eR a0]) rfl rfl rfl ?_
      refine w_s (np := 153) (lv' := [some (eR a0), some (eI (zI a1)), some (eI (zI v29))]) (st' := [eI (zI 16), eI (zI 12), eI (zI 1), eI (zI 1), eI (zI a1), eR a0]) rfl rfl rfl ?_
      refine w_s (np := 154) (lv' := [some (eR a0), some (eI (zI a1)), some (eI (zI v29))]) (st' := [eI (zI 4), eI (zI 16), eI (zI 12), eI (zI 1), eI (zI 1), eI (zI a1), eR a0]) rfl rfl rfl ?_
      refine w_cv (np := 157) (as := [eI (zI a1), eI (zI 1), eI (zI 1), eI (zI 12), eI (zI 16), eI (zI 4)]) (lv' := [some (eR a0), some (eI (zI a1)), some (eI (zI 1)), some (eI (zI 1)), some (eI (zI 12)), some (eI (zI 16)), some (eI (zI 4)), none]) (rest := []) rfl rfl rfl (Nat.ble_eq.mp rfl) rfl rfl rfl (hl71 _ _ hk) rfl ?_
      refine m_233_ok hG h hR70 (hl71 _ _ hk) p0 ?_
      intro M73 μ74 h hR75 hl77
      have hl76 := y_le.tr hl71 hl77
      show ex_q fg rc (d + 4, (234, 157, [some (eR a0), some (eI (zI a1)), some (eI (zI v29))], []), f :: F, μ74)
      refine w_s (np := 158) (lv' := [some (eR a0), some (eI (zI a1)), some (eI (zI v29))]) (st' := [eR a0]) rfl (s_an rfl p0) rfl ?_
      refine w_s (np := 159) (lv' := [some (eR a0), some (eI (zI a1)), some (eI (zI v29))]) (st' := [eI (zI a1), eR a0]) rfl rfl rfl ?_
      refine w_s (np := 160) (lv' := [some (eR a0), some (eI (zI a1)), some (eI (zI v29))]) (st' := [eI (zI 0), eI (zI a1), eR a0]) rfl rfl rfl ?_
      refine w_s (np := 161) (lv' := [some (eR a0), some (eI (zI a1)), some (eI (zI v29))]) (st' := [eI (zI 2), eI (zI 0), eI (zI a1), eR a0]) rfl rfl rfl ?_
      refine w_s (np := 163) (lv' := [some (eR a0), some (eI (zI a1)), some (eI (zI v29))]) (st' := [eI (zI 16), eI (zI 2), eI (zI 0), eI (zI a1), eR a0]) rfl rfl rfl ?_
      refine w_s (np := 165) (lv' := [some (eR a0), some (eI (zI a1)), some (eI (zI v29))]) (st' := [eI (zI 12), eI (zI 16), eI (zI 2), eI (zI 0), eI (zI a1), eR a0]) rfl rfl rfl ?_
      refine w_s (np := 166) (lv' := [some (eR a0), some (eI (zI a1)), some (eI (zI v29))]) (st' := [eI (zI 0), eI (zI 12), eI (zI 16), eI (zI 2), eI (zI 0), eI (zI a1), eR a0]) rfl rfl rfl ?_
      refine w_cv (np := 169) (as := [eI (zI a1), eI (zI 0), eI (zI 2), eI (zI 16), eI (zI 12), eI (zI 0)]) (lv' := [some (eR a0), some (eI (zI a1)), some (eI (zI 0)), some (eI (zI 2)), some (eI (zI 16)), some (eI (zI 12)), some (eI (zI 0)), none]) (rest := []) rfl rfl rfl (Nat.ble_eq.mp rfl) rfl rfl rfl (hl76 _ _ hk) rfl ?_
      refine m_233_ok hG h hR75 (hl76 _ _ hk) p0 ?_
      intro M78 μ79 h hR80 hl82
      have hl81 := y_le.tr hl76 hl82
      show ex_q fg rc (d + 4, (234, 169, [some (eR a0), some (eI (zI a1)), some (eI (zI v29))], []), f :: F, μ79)
      exact m_234_169_ok hG hk p0 hK h17 _ _ M78 μ79 h hR80 hl81
  · refine v_ge_t (t1 := 175) rfl rfl g12 ?_
    refine w_s (np := 176) (lv' := [some (eR a0), some (eI (zI a1)), x2]) (st' := [eR a0]) rfl (s_an rfl p0) rfl ?_
    obtain ⟨v13, h, k14, e15⟩ := x_gf_ok (ty := 3) h hR (by decide) rfl
    obtain ⟨g16, h⟩ := f_if_ok h
    have q17 : 0 < v13 := Nat.ble_eq.mp g16
    refine v_gf3 (np := 179) rfl rfl k14 e15 ?_
    clear k14 e15
    refine w_s (np := 180) (lv' := [some (eR a0), some (eI (zI a1)), x2]) (st' := [eR a0, eR v13]) rfl (s_an rfl p0) rfl ?_
    obtain ⟨v18, h, k19, e20⟩ := x_gf_ok (ty := 0) h hR (by decide) rfl
    refine v_gf0 (np := 183) rfl rfl k19 e20 ?_
    clear k19 e20
    refine w_s (np := 184) (lv' := [some (eR a0), some (eI (zI a1)), x2]) (st' := [eR a0, eI (zI v18), eR v13]) rfl (s_an rfl p0) rfl ?_
    obtain ⟨v21, h, k22, e23⟩ := x_gf_ok (ty := 0) h hR (by decide) rfl
    refine v_gf0 (np := 187) rfl rfl k22 e23 ?_
    clear k22 e23
    obtain ⟨M24, μ25, h, k28, hR26, hl27⟩ := x_sa_ex (ty := 0) h hR hl rfl (by decide)
    refine v_sa (np := 188) rfl rfl k28 ?_
    clear k28
    refine w_s (np := 189) (lv' := [some (eR a0), some (eI (zI a1)), x2]) (st' := [eI (zI 0)]) rfl rfl rfl ?_
    refine w_s (np := 190) (lv' := [some (eR a0), some (eI (zI 0)), x2]) (st' := []) rfl rfl rfl ?_
    exact m_234_190_ok hG hk p0 hK 100000 _ _ M24 μ25 h hR26 hl27
theorem m_234_17_ok {fg : eG} {μz : eM} {rc : eQ} {d : Nat} {f : eFr} {F : List eFr} {μ0 : eM} {a0 : Nat} {K : yM → Bool} (hG : yG fg y_T) (hk : ev_kd μ0 a0 = some 11) (p0 : 0 < a0) (hK : ∀ (M : yM) (μ : eM), K M = true → xQ μz M μ → y_le μ0 μ → ex_q fg rc (d + 5, (f.1, f.2.1, f.2.2.1, f.2.2.2), F, μ)) : ∀ n : Nat, ∀ (a1 : Nat) (x2 : Option eV) (M : yM) (μ : eM), m_234_17 a0 K n a1 M = true → xQ μz M μ → y_le μ0 μ → ex_q fg rc (d + 4, (234, 17, [some (eR a0), some (eI (zI a1)), x2], []), f :: F, μ) := by
  intro n
  induction n with
  | zero =>
    intro a1 x2 M μ h hR hl
    exact absurd h Bool.false_ne_true
  | succ n ih =>
    intro a1 x2 M μ h hR hl
    exact m_234_17b_ok hG hk p0 hK ih a1 x2 M μ h hR hl
noncomputable def m_234 (a0 : Nat) (M : yM) (K : yM → Bool) : Bool := y_gf M a0 11 20 fun v1 => z_l (z_add v1 1) fun v4 => y_wf M a0 11 20 v4 fun M5 => y_wf M5 a0 11 18 0 fun M11 => m_234_17 a0 K 100000 0 M11
theorem m_234_ok {fg : eG} {μz : eM} {rc : eQ} {d : Nat} {f : eFr} {F : List eFr} {M : yM} {μ0 : eM} {a0 : Nat} {K : yM → Bool} (hG : yG fg y_T) (h : m_234 a0 M K = true) (hR : xQ μz M μ0) (hk : ev_kd μ0 a0 = some 11) (p0 : 0 < a0) (hK : ∀ (M : yM) (μ : eM), K M = true → xQ μz M μ → y_le μ0 μ → ex_q fg rc (d + 5, (f.1, f.2.1, f.2.2.1, f.2.2.2), F, μ)) : ex_q fg rc (d + 4, (234, 0, [some (eR a0), none, none], []), f :: F, μ0) := by
  unfold m_234 at h
  have hl := y_le_r μ0
  refine w_s (np := 1) (lv' := [some (eR a0), none, none]) (st' := [eR a0]) rfl (s_an rfl p0) rfl ?_
  refine w_s (np := 2) (lv' := [some (eR a0), none, none]) (st' := [eR a0, eR a0]) rfl rfl rfl ?_
  obtain ⟨v1, h, k2, e3⟩ := x_gf_ok (ty := 0) h hR (by decide) rfl
  refine v_gf0 (np := 5) rfl rfl k2 e3 ?_
  clear k2 e3
  refine w_s (np := 6) (lv' := [some (eR a0), none, none]) (st' := [eI (zI 1), eI (zI v1), eR a0]) rfl rfl rfl ?_
  obtain ⟨v4, ev4, h⟩ := z_l_ex h
  refine w_s (np := 7) (lv' := [some (eR a0), none, none]) (st' := [eI (zI v4), eR a0]) rfl (s_iadd ev4) rfl ?_
  clear ev4
  obtain ⟨M5, μ6, h, k9, hR7, hl8, e10⟩ := x_wf_ex (ty := 0) h hR hl rfl (by decide)
  refine v_pe0 (np := 10) rfl rfl k9 e10 ?_
  clear k9 e10
  refine w_s (np := 11) (lv' := [some (eR a0), none, none]) (st' := [eR a0]) rfl (s_an rfl p0) rfl ?_
  refine w_s (np := 12) (lv' := [some (eR a0), none, none]) (st' := [eI (zI 0), eR a0]) rfl rfl rfl ?_
  obtain ⟨M11, μ12, h, k15, hR13, hl14, e16⟩ := x_wf_ex (ty := 0) h hR7 hl8 rfl (by decide)
  refine v_pe0 (np := 15) rfl rfl k15 e16 ?_
  clear k15 e16
  refine w_s (np := 16) (lv' := [some (eR a0), none, none]) (st' := [eI (zI 0)]) rfl rfl rfl ?_
  refine w_s (np := 17) (lv' := [some (eR a0), some (eI (zI 0)), none]) (st' := []) rfl rfl rfl ?_
  exact m_234_17_ok hG hk p0 hK 100000 _ _ M11 μ12 h hR13 hl14
noncomputable def m_235_138 (a0 a1 a2 : Nat) (K : Nat → yM → Bool) (i45 : Nat → Nat → yM → Bool) (a3 a4 a5 : Nat) (M : yM) : Bool := z_l (z_add a4 1) fun v1 => z_l (z_and v1 8191) fun v2 => z_f v2 fun w3 => i45 a3 w3 M
theorem m_235_138_ok {fg : eG} {μz : eM} {rc : eQ} {d : Nat} {f : eFr} {F : List eFr} {μ0 : eM} {a0 a1 a2 : Nat} {K : Nat → yM → Bool} {i45 : Nat → Nat → yM → Bool} (hG : yG fg y_T) (hk : ev_kd μ0 a0 = some 11) (p0 : 0 < a0) (p1 : 0 < a1) (hK : ∀ (r : Nat) (M : yM) (μ : eM), K r M = true → xQ μz M μ → y_le μ0 μ → ex_q fg rc (d + 1, (f.1, f.2.1, f.2.2.1, eI (zI r) :: f.2.2.2), F, μ)) (h45 : ∀ (a3 a4 : Nat) (x5 : Option eV) (M : yM) (μ : eM), i45 a3 a4 M = true → xQ μz M μ → y_le μ0 μ → ex_q fg rc (d, (235, 45, [some (eR a0), some (eR a1), some (eI (zI a2)), some (eI (zI a3)), some (eI (zI a4)), x5], []), f :: F, μ)) : ∀ (a3 a4 a5 : Nat) (M : yM) (μ : eM), m_235_138 a0 a1 a2 K i45 a3 a4 a5 M = true → xQ μz M μ → y_le μ0 μ → ex_q fg rc (d, (235, 138, [some (eR a0), some (eR a1), some (eI (zI a2)), some (eI (zI a3)), some (eI (zI a4)), some (eI (zI a5))], []), f :: F, μ) := by
  intro a3 a4 a5 M μ h hR hl
  unfold m_235_138 at h
  refine w_s (np := 140) (lv' := [some (eR a0), some (eR a1), some (eI (zI a2)), some (eI (zI a3)), some (eI (zI a4)), some (eI (zI a5))]) (st' := [eI (zI a4)]) rfl rfl rfl ?_
  refine w_s (np := 141) (lv' := [some (eR a0), some (eR a1), some (eI (zI a2)), some (eI (zI a3)), some (eI (zI a4)), some (eI (zI a5))]) (st' := [eI (zI 1), eI (zI a4)]) rfl rfl rfl ?_
  obtain ⟨v1, ev1, h⟩ := z_l_ex h
  refine w_s (np := 142) (lv' := [some (eR a0), some (eR a1), some (eI (zI a2)), some (eI (zI a3)), some (eI (zI a4)), some (eI (zI a5))]) (st' := [eI (zI v1)]) rfl (s_iadd ev1) rfl ?_
  clear ev1
  refine w_s (np := 145) (lv' := [some (eR a0), some (eR a1), some (eI (zI a2)), some (eI (zI a3)), some (eI (zI a4)), some (eI (zI a5))]) (st' := [eI (zI 8191), eI (zI v1)]) rfl rfl rfl ?_
  obtain ⟨v2, ev2, h⟩ := z_l_ex h
  refine w_s (np := 146) (lv' := [some (eR a0), some (eR a1), some (eI (zI a2)), some (eI (zI a3)), some (eI (zI a4)), some (eI (zI a5))]) (st' := [eI (zI v2)]) rfl (s_iand ev2) rfl ?_
  clear ev2
  refine w_s (np := 148) (lv' := [some (eR a0), some (eR a1), some (eI (zI a2)), some (eI (zI a3)), some (eI (zI v2)), some (eI (zI a5))]) (st' := []) rfl rfl rfl ?_
  refine w_go (t1 := 45) rfl rfl ?_
  obtain ⟨w3, ew3, h⟩ := z_f_ex h
  subst ew3
  exact h45 _ _ _ M μ h hR hl
noncomputable def m_235_45b (a0 a1 a2 : Nat) (K : Nat → yM → Bool) (i45 : Nat → Nat → yM → Bool) (a3 a4 : Nat) (M : yM) : Bool := y_gf M a0 11 21 fun v1 => f_if false (Nat.ble 1 v1) (y_lh 100 M v1 a4 fun v6 => z_if (z_l0 v6) (y_wf M a0 11 29 a4 fun M9 => K 4294967295 M9) (y_gf M a0 11 21 fun v15 => f_if false (Nat.ble 1 v15) (y_lh 100 M v15 a4 fun v20 => z_l (z_mul 4 v20) fun v22 => y_gf M a0 11 23 fun v23 => f_if false (Nat.ble 1 v23) (y_lh 100 M v23 v22 fun v28 => y_lh 100 M a1 a2 fun v30 => z_if (z_eq v28 v30) (y_gf M a0 11 23 fun v33 => f_if false (Nat.ble 1 v33) (z_l (z_add v22 1) fun v38 => y_lh 100 M v33 v38 fun v39 => z_l (z_add a2 1) fun v41 => y_lh 100 M a1 v41 fun v42 => z_if (z_eq v39 v42) (y_gf M a0 11 23 fun v45 => f_if false (Nat.ble 1 v45) (z_l (z_add v22 2) fun v50 => y_lh 100 M v45 v50 fun v51 => z_l (z_add a2 2) fun v53 => y_lh 100 M a1 v53 fun v54 => z_if (z_eq v51 v54) (y_gf M a0 11 23 fun v57 => f_if false (Nat.ble 1 v57) (z_l (z_add v22 3) fun v62 => y_lh 100 M v57 v62 fun v63 => z_l (z_add a2 3) fun v65 => y_lh 100 M a1 v65 fun v66 => z_if (z_eq v63 v66) (y_gf M a0 11 21 fun v69 => f_if false (Nat.ble 1 v69) (y_lh 100 M v69 a4 fun v74 => K v74 M)) (m_235_138 a0 a1 a2 K i45 a3 a4 v22 M))) (m_235_138 a0 a1 a2 K i45 a3 a4 v22 M))) (m_235_138 a0 a1 a2 K i45 a3 a4 v22 M))) (m_235_138 a0 a1 a2 K i45 a3 a4 v22 M)))))
noncomputable def m_235_45 (a0 a1 a2 : Nat) (K : Nat → yM → Bool) (n : Nat) : Nat → Nat → yM → Bool := @Nat.rec (fun _ => Nat → Nat → yM → Bool) (fun _ _ _ => false) (fun _ ih => m_235_45b a0 a1 a2 K ih) n
theorem m_235_45b_ok {fg : eG} {μz : eM} {rc : eQ} {d : Nat} {f : eFr} {F : List eFr} {μ0 : eM} {a0 a1 a2 : Nat} {K : Nat → yM → Bool} {i45 : Nat → Nat → yM → Bool} (hG : yG fg y_T) (hk : ev_kd μ0 a0 = some 11) (p0 : 0 < a0) (p1 : 0 < a1) (hK : ∀ (r : Nat) (M : yM) (μ : eM), K r M = true → xQ μz M μ → y_le μ0 μ → ex_q fg rc (d + 1, (f.1, f.2.1, f.2.2.1, eI (zI r) :: f.2.2.2), F, μ)) (h45 : ∀ (a3 a4 : Nat) (x5 : Option eV) (M : yM) (μ : eM), i45 a3 a4 M = true → xQ μz M μ → y_le μ0 μ → ex_q fg rc (d, (235, 45, [some (eR a0), some (eR a1), some (eI (zI a2)), some (eI (zI a3)), some (eI (zI a4)), x5], []), f :: F, μ)) : ∀ (a3 a4 : Nat) (x5 : Option eV) (M : yM) (μ : eM), m_235_45b a0 a1 a2 K i45 a3 a4 M = true → xQ μz M μ → y_le μ0 μ → ex_q fg rc (d, (235, 45, [some (eR a0), some (eR a1), some (eI (zI a2)), some (eI (zI a3)), some (eI (zI a4)), x5], []), f :: F, μ) := by
  intro a3 a4 x5 M μ h hR hl
  unfold m_235_45b at h
  refine w_s (np := 46) (lv' := [some (eR a0), some (eR a1), some (eI (zI a2)), some (eI (zI a3)), some (eI (zI a4)), x5]) (st' := [eR a0]) rfl (s_an rfl p0) rfl ?_
  obtain ⟨v1, h, k2, e3⟩ := x_gf_ok (ty := 3) h hR (by decide) rfl
  obtain ⟨g4, h⟩ := f_if_ok h
  have q5 : 0 < v1 := Nat.ble_eq.mp g4
  refine v_gf3 (np := 49) rfl rfl k2 e3 ?_
  clear k2 e3
  refine w_s (np := 51) (lv' := [some (eR a0), some (eR a1), some (eI (zI a2)), some (eI (zI a3)), some (eI (zI a4)), x5]) (st' := [eI (zI a4), eR v1]) rfl rfl rfl ?_
  obtain ⟨v6, h, k7⟩ := x_lh_ok (ty := 0) h hR hG (by decide) rfl (by decide)
  refine v_la (np := 52) rfl rfl k7 ?_
  clear k7
  rcases z_if_t h with ⟨g8, h⟩ | ⟨g8, h⟩
  · refine v_lt0_t (t1 := 151) rfl rfl g8 ?_
    refine w_s (np := 152) (lv' := [some (eR a0), some (eR a1), some (eI (zI a2)), some (eI (zI a3)), some (eI (zI a4)), x5]) (st' := [eR a0]) rfl (s_an rfl p0) rfl ?_
    refine w_s (np := 154) (lv' := [some (eR a0), some (eR a1), some (eI (zI a2)), some (eI (zI a3)), some (eI (zI a4)), x5]) (st' := [eI (zI a4), eR a0]) rfl rfl rfl ?_
    obtain ⟨M9, μ10, h, k13, hR11, hl12, e14⟩ := x_wf_ex (ty := 0) h hR hl rfl (by decide)
    refine v_pe0 (np := 157) rfl rfl k13 e14 ?_
    clear k13 e14
    refine w_s (np := 158) (lv' := [some (eR a0), some (eR a1), some (eI (zI a2)), some (eI (zI a3)), some (eI (zI a4)), x5]) (st' := [eI (zI 4294967295)]) rfl rfl rfl ?_
    exact v_ri rfl rfl (hK _ _ _ h hR11 hl12)
  · refine v_lt0_f (t1 := 151) rfl rfl g8 ?_
    refine w_s (np := 56) (lv' := [some (eR a0), some (eR a1), some (eI (zI a2)), some (eI (zI a3)), some (eI (zI a4)), x5]) (st' := [eI (zI 4)]) rfl rfl rfl ?_
    refine w_s (np := 57) (lv' := [some (eR a0), some (eR a1), some (eI (zI a2)), some (eI (zI a3)), some (eI (zI a4)), x5]) (st' := [eR a0, eI (zI 4)]) rfl (s_an rfl p0) rfl ?_
    obtain ⟨v15, h, k16, e17⟩ := x_gf_ok (ty := 3) h hR (by decide) rfl
    obtain ⟨g18, h⟩ := f_if_ok h
    have q19 : 0 < v15 := Nat.ble_eq.mp g18
    refine v_gf3 (np := 60) rfl rfl k16 e17 ?_
    clear k16 e17
    refine w_s (np := 62) (lv' := [some (eR a0), some (eR a1), some (eI (zI a2)), some (eI (zI a3)), some (eI (zI a4)), x5]) (st' := [eI (zI a4), eR v15, eI (zI 4)]) rfl rfl rfl ?_
    obtain ⟨v20, h, k21⟩ := x_lh_ok (ty := 0) h hR hG (by decide) rfl (by decide)
    refine v_la (np := 63) rfl rfl k21 ?_
    clear k21
    obtain ⟨v22, ev22, h⟩ := z_l_ex h
    refine w_s (np := 64) (lv' := [some (eR a0), some (eR a1), some (eI (zI a2)), some (eI (zI a3)), some (eI (zI a4)), x5]) (st' := [eI (zI v22)]) rfl (s_imul ev22) rfl ?_
    clear ev22
    refine w_s (np := 66) (lv' := [some (eR a0), some (eR a1), some (eI (zI a2)), some (eI (zI a3)), some (eI (zI a4)), some (eI (zI v22))]) (st' := []) rfl rfl rfl ?_
    refine w_s (np := 67) (lv' := [some (eR a0), some (eR a1), some (eI (zI a2)), some (eI (zI a3)), some (eI (zI a4)), some (eI (zI v22))]) (st' := [eR a0]) rfl (s_an rfl p0) rfl ?_
    obtain ⟨v23, h, k24, e25⟩ := x_gf_ok (ty := 3) h hR (by decide) rfl
    obtain ⟨g26, h⟩ := f_if_ok h
    have q27 : 0 < v23 := Nat.ble_eq.mp g26
    refine v_gf3 (np := 70) rfl rfl k24 e25 ?_
    clear k24 e25
    refine w_s (np := 72) (lv' := [some (eR a0), some (eR a1), some (eI (zI a2)), some (eI (zI a3)), some (eI (zI a4)), some (eI (zI v22))]) (st' := [eI (zI v22), eR v23]) rfl rfl rfl ?_
    obtain ⟨v28, h, k29⟩ := x_lh_ok (ty := 0) h hR hG (by decide) rfl (by decide)
    refine v_la (np := 73) rfl rfl k29 ?_
    clear k29
    refine w_s (np := 74) (lv' := [some (eR a0), some (eR a1), some (eI (zI a2)), some (eI (zI a3)), some (eI (zI a4)), some (eI (zI v22))]) (st' := [eR a1, eI (zI v28)]) rfl (s_an rfl p1) rfl ?_
    refine w_s (np := 75) (lv' := [some (eR a0), some (eR a1), some (eI (zI a2)), some (eI (zI a3)), some (eI (zI a4)), some (eI (zI v22))]) (st' := [eI (zI a2), eR a1, eI (zI v28)]) rfl rfl rfl ?_
    obtain ⟨v30, h, k31⟩ := x_lh_ok (ty := 0) h hR hG (by decide) rfl (by decide)
    refine v_la (np := 76) rfl rfl k31 ?_
    clear k31
    rcases z_if_t h with ⟨g32, h⟩ | ⟨g32, h⟩
    · refine v_ne_f (t1 := 138) rfl rfl g32 ?_
      refine w_s (np := 80) (lv' := [some (eR a0), some (eR a1), some (eI (zI a2)), some (eI (zI a3)), some (eI (zI a4)), some (eI (zI v22))]) (st' := [eR a0]) rfl (s_an rfl p0) rfl ?_
      obtain ⟨v33, h, k34, e35⟩ := x_gf_ok (ty := 3) h hR (by decide) rfl
      obtain ⟨g36, h⟩ := f_if_ok h
      have q37 : 0 < v33 := Nat.ble_eq.mp g36
      refine v_gf3 (np := 83) rfl rfl k34 e35 ?_
      clear k34 e35
      refine w_s (np := 85) (lv' := [some (eR a0), some (eR a1), some (eI (zI a2)), some (eI (zI a3)), some (eI (zI a4)), some (eI (zI v22))]) (st' := [eI (zI v22), eR v33]) rfl rfl rfl ?_
      refine w_s (np := 86) (lv' := [some (eR a0), some (eR a1), some (eI (zI a2)), some (eI (zI a3)), some (eI (zI a4)), some (eI (zI v22))]) (st' := [eI (zI 1), eI (zI v22), eR v33]) rfl rfl rfl ?_
      obtain ⟨v38, ev38, h⟩ := z_l_ex h
      refine w_s (np := 87) (lv' := [some (eR a0), some (eR a1), some (eI (zI a2)), some (eI (zI a3)), some (eI (zI a4)), some (eI (zI v22))]) (st' := [eI (zI v38), eR v33]) rfl (s_iadd ev38) rfl ?_
      clear ev38
      obtain ⟨v39, h, k40⟩ := x_lh_ok (ty := 0) h hR hG (by decide) rfl (by decide)
      refine v_la (np := 88) rfl rfl k40 ?_
      clear k40
      refine w_s (np := 89) (lv' := [some (eR a0), some (eR a1), some (eI (zI a2)), some (eI (zI a3)), some (eI (zI a4)), some (eI (zI v22))]) (st' := [eR a1, eI (zI v39)]) rfl (s_an rfl p1) rfl ?_
      refine w_s (np := 90) (lv' := [some (eR a0), some (eR a1), some (eI (zI a2)), some (eI (zI a3)), some (eI (zI a4)), some (eI (zI v22))]) (st' := [eI (zI a2), eR a1, eI (zI v39)]) rfl rfl rfl ?_
      refine w_s (np := 91) (lv' := [some (eR a0), some (eR a1), some (eI (zI a2)), some (eI (zI a3)), some (eI (zI a4)), some (eI (zI v22))]) (st' := [eI (zI 1), eI (zI a2), eR a1, eI (zI v39)]) rfl rfl rfl ?_
      obtain ⟨v41, ev41, h⟩ := z_l_ex h
      refine w_s (np := 92) (lv' := [some (eR a0), some (eR a1), some (eI (zI a2)), some (eI (zI a3)), some (eI (zI a4)), some (eI (zI v22))]) (st' := [eI (zI v41), eR a1, eI (zI v39)]) rfl (s_iadd ev41) rfl ?_
      clear ev41
      obtain ⟨v42, h, k43⟩ := x_lh_ok (ty := 0) h hR hG (by decide) rfl (by decide)
      refine v_la (np := 93) rfl rfl k43 ?_
      clear k43
      rcases z_if_t h with ⟨g44, h⟩ | ⟨g44, h⟩
      · refine v_ne_f (t1 := 138) rfl rfl g44 ?_
        refine w_s (np := 97) (lv' := [some (eR a0), some (eR a1), some (eI (zI a2)), some (eI (zI a3)), some (eI (zI a4)), some (eI (zI v22))]) (st' := [eR a0]) rfl (s_an rfl p0) rfl ?_
        obtain ⟨v45, h, k46, e47⟩ := x_gf_ok (ty := 3) h hR (by decide) rfl
        obtain ⟨g48, h⟩ := f_if_ok h
        have q49 : 0 < v45 := Nat.ble_eq.mp g48
        refine v_gf3 (np := 100) rfl rfl k46 e47 ?_
        clear k46 e47
        refine w_s (np := 102) (lv' := [some (eR a0), some (eR a1), some (eI (zI a2)), some (eI (zI a3)), some (eI (zI a4)), some (eI (zI v22))]) (st' := [eI (zI v22), eR v45]) rfl rfl rfl ?_
        refine w_s (np := 103) (lv' := [some (eR a0), some (eR a1), some (eI (zI a2)), some (eI (zI a3)), some (eI (zI a4)), some (eI (zI v22))]) (st' := [eI (zI 2), eI (zI v22), eR v45]) rfl rfl rfl ?_
        obtain ⟨v50, ev50, h⟩ := z_l_ex h
        refine w_s (np := 104) (lv' := [some (eR a0), some (eR a1), some (eI (zI a2)), some (eI (zI a3)), some (eI (zI a4)), some (eI (zI v22))]) (st' := [eI (zI v50), eR v45]) rfl (s_iadd ev50) rfl ?_
        clear ev50
        obtain ⟨v51, h, k52⟩ := x_lh_ok (ty := 0) h hR hG (by decide) rfl (by decide)
        refine v_la (np := 105) rfl rfl k52 ?_
        clear k52
        refine w_s (np := 106) (lv' := [some (eR a0), some (eR a1), some (eI (zI a2)), some (eI (zI a3)), some (eI (zI a4)), some (eI (zI v22))]) (st' := [eR a1, eI (zI v51)]) rfl (s_an rfl p1) rfl ?_
        refine w_s (np := 107) (lv' := [some (eR a0), some (eR a1), some (eI (zI a2)), some (eI (zI a3)), some (eI (zI a4)), some (eI (zI v22))]) (st' := [eI (zI a2), eR a1, eI (zI v51)]) rfl rfl rfl ?_
        refine w_s (np := 108) (lv' := [some (eR a0), some (eR a1), some (eI (zI a2)), some (eI (zI a3)), some (eI (zI a4)), some (eI (zI v22))]) (st' := [eI (zI 2), eI (zI a2), eR a1, eI (zI v51)]) rfl rfl rfl ?_
        obtain ⟨v53, ev53, h⟩ := z_l_ex h
        refine w_s (np := 109) (lv' := [some (eR a0), some (eR a1), some (eI (zI a2)), some (eI (zI a3)), some (eI (zI a4)), some (eI (zI v22))]) (st' := [eI (zI v53), eR a1, eI (zI v51)]) rfl (s_iadd ev53) rfl ?_
        clear ev53
        obtain ⟨v54, h, k55⟩ := x_lh_ok (ty := 0) h hR hG (by decide) rfl (by decide)
        refine v_la (np := 110) rfl rfl k55 ?_
        clear k55
        rcases z_if_t h with ⟨g56, h⟩ | ⟨g56, h⟩
        · refine v_ne_f (t1 := 138) rfl rfl g56 ?_
          refine w_s (np := 114) (lv' := [some (eR a0), some (eR a1), some (eI (zI a2)), some (eI (zI a3)), some (eI (zI a4)), some (eI (zI v22))]) (st' := [eR a0]) rfl (s_an rfl p0) rfl ?_
          obtain ⟨v57, h, k58, e59⟩ := x_gf_ok (ty := 3) h hR (by decide) rfl
          obtain ⟨g60, h⟩ := f_if_ok h
          have q61 : 0 < v57 := Nat.ble_eq.mp g60
          refine v_gf3 (np := 117) rfl rfl k58 e59 ?_
          clear k58 e59
          refine w_s (np := 119) (lv' := [some (eR a0), some (eR a1), some (eI (zI a2)), some (eI (zI a3)), some (eI (zI a4)), some (eI (zI v22))]) (st' := [eI (zI v22), eR v57]) rfl rfl rfl ?_
          refine w_s (np := 120) (lv' := [some (eR a0), some (eR a1), some (eI (zI a2)), some (eI (zI a3)), some (eI (zI a4)), some (eI (zI v22))]) (st' := [eI (zI 3), eI (zI v22), eR v57]) rfl rfl rfl ?_
          obtain ⟨v62, ev62, h⟩ := z_l_ex h
          refine w_s (np := 121) (lv' := [some (eR a0), some (eR a1), some (eI (zI a2)), some (eI (zI a3)), some (eI (zI a4)), some (eI (zI v22))]) (st' := [eI (zI v62), eR v57]) rfl (s_iadd ev62) rfl ?_
          clear ev62
          obtain ⟨v63, h, k64⟩ := x_lh_ok (ty := 0) h hR hG (by decide) rfl (by decide)
          refine v_la (np := 122) rfl rfl k64 ?_
          clear k64
          refine w_s (np := 123) (lv' := [some (eR a0), some (eR a1), some (eI (zI a2)), some (eI (zI a3)), some (eI (zI a4)), some (eI (zI v22))]) (st' := [eR a1, eI (zI v63)]) rfl (s_an rfl p1) rfl ?_
          refine w_s (np := 124) (lv' := [some (eR a0), some (eR a1), some (eI (zI a2)), some (eI (zI a3)), some (eI (zI a4)), some (eI (zI v22))]) (st' := [eI (zI a2), eR a1, eI (zI v63)]) rfl rfl rfl ?_
          refine w_s (np := 125) (lv' := [some (eR a0), some (eR a1), some (eI (zI a2)), some (eI (zI a3)), some (eI (zI a4)), some (eI (zI v22))]) (st' := [eI (zI 3), eI (zI a2), eR a1, eI (zI v63)]) rfl rfl rfl ?_
          obtain ⟨v65, ev65, h⟩ := z_l_ex h
          refine w_s (np := 126) (lv' := [some (eR a0), some (eR a1), some (eI (zI a2)), some (eI (zI a3)), some (eI (zI a4)), some (eI (zI v22))]) (st' := [eI (zI v65), eR a1, eI (zI v63)]) rfl (s_iadd ev65) rfl ?_
          clear ev65
          obtain ⟨v66, h, k67⟩ := x_lh_ok (ty := 0) h hR hG (by decide) rfl (by decide)
          refine v_la (np := 127) rfl rfl k67 ?_
          clear k67
          rcases z_if_t h with ⟨g68, h⟩ | ⟨g68, h⟩
          · refine v_ne_f (t1 := 138) rfl rfl g68 ?_
            refine w_s (np := 131) (lv' := [some (eR a0), some (eR a1), some (eI (zI a2)), some (eI (zI a3)), some (eI (zI a4)), some (eI (zI v22))]) (st' := [eR a0]) rfl (s_an rfl p0) rfl ?_
            obtain ⟨v69, h, k70, e71⟩ := x_gf_ok (ty := 3) h hR (by decide) rfl
            obtain ⟨g72, h⟩ := f_if_ok h
            have q73 : 0 < v69 := Nat.ble_eq.mp g72
            refine v_gf3 (np := 134) rfl rfl k70 e71 ?_
            clear k70 e71
            refine w_s (np := 136) (lv' := [some (eR a0), some (eR a1), some (eI (zI a2)), some (eI (zI a3)), some (eI (zI a4)), some (eI (zI v22))]) (st' := [eI (zI a4), eR v69]) rfl rfl rfl ?_
            obtain ⟨v74, h, k75⟩ := x_lh_ok (ty := 0) h hR hG (by decide) rfl (by decide)
            refine v_la (np := 137) rfl rfl k75 ?_
            clear k75
            exact v_ri rfl rfl (hK _ _ _ h hR hl)
          · refine v_ne_t (t1 := 138) rfl rfl g68 ?_
            exact m_235_138_ok hG hk p0 p1 hK h45 _ _ _ M μ h hR hl
        · refine v_ne_t (t1 := 138) rfl rfl g56 ?_
          exact m_235_138_ok hG hk p0 p1 hK h45 _ _ _ M μ h hR hl
      · refine v_ne_t (t1 := 138) rfl rfl g44 ?_
        exact m_235_138_ok hG hk p0 p1 hK h45 _ _ _ M μ h hR hl
    · refine v_ne_t (t1 := 138) rfl rfl g32 ?_
      exact m_235_138_ok hG hk p0 p1 hK h45 _ _ _ M μ h hR hl
theorem m_235_45_ok {fg : eG} {μz : eM} {rc : eQ} {d : Nat} {f : eFr} {F : List eFr} {μ0 : eM} {a0 a1 a2 : Nat} {K : Nat → yM → Bool} (hG : yG fg y_T) (hk : ev_kd μ0 a0 = some 11) (p0 : 0 < a0) (p1 : 0 < a1) (hK : ∀ (r : Nat) (M : yM) (μ : eM), K r M = true → xQ μz M μ → y_le μ0 μ → ex_q fg rc (d + 1, (f.1, f.2.1, f.2.2.1, eI (zI r) :: f.2.2.2), F, μ)) : ∀ n : Nat, ∀ (a3 a4 : Nat) (x5 : Option eV) (M : yM) (μ : eM), m_235_45 a0 a1 a2 K n a3 a4 M = true → xQ μz M μ → y_le μ0 μ → ex_q fg rc (d, (235, 45, [some (eR a0), some (eR a1), some (eI (zI a2)), some (eI (zI a3)), some (eI (zI a4)), x5], []), f :: F, μ) := by
  intro n
  induction n with
  | zero =>
    intro a3 a4 x5 M μ h hR hl
    exact absurd h Bool.false_ne_true
  | succ n ih =>
    intro a3 a4 x5 M μ h hR hl
    exact m_235_45b_ok hG hk p0 p1 hK ih a3 a4 x5 M μ h hR hl
noncomputable def m_235 (a0 a1 a2 : Nat) (M : yM) (K : Nat → yM → Bool) : Bool := y_lh 100 M a1 a2 fun v1 => z_l (z_mul v1 31) fun v3 => z_l (z_add a2 1) fun v4 => y_lh 100 M a1 v4 fun v5 => z_l (z_add v3 v5) fun v7 => z_l (z_mul v7 31) fun v8 => z_l (z_add a2 2) fun v9 => y_lh 100 M a1 v9 fun v10 => z_l (z_add v8 v10) fun v12 => z_l (z_mul v12 31) fun v13 => z_l (z_add a2 3) fun v14 => y_lh 100 M a1 v14 fun v15 => z_l (z_add v13 v15) fun v17 => z_l (z_ushr v17 13) fun v18 => z_l (z_xor v17 v18) fun v19 => z_l (z_and v19 8191) fun v20 => m_235_45 a0 a1 a2 K 100000 v17 v20 M
theorem m_235_ok {fg : eG} {μz : eM} {rc : eQ} {d : Nat} {f : eFr} {F : List eFr} {M : yM} {μ0 : eM} {a0 a1 a2 : Nat} {K : Nat → yM → Bool} (hG : yG fg y_T) (h : m_235 a0 a1 a2 M K = true) (hR : xQ μz M μ0) (hk : ev_kd μ0 a0 = some 11) (p0 : 0 < a0) (p1 : 0 < a1) (hK : ∀ (r : Nat) (M : yM) (μ : eM), K r M = true → xQ μz M μ → y_le μ0 μ → ex_q fg rc (d + 1, (f.1, f.2.1, f.2.2.1, eI (zI r) :: f.2.2.2), F, μ)) : ex_q fg rc (d, (235, 0, [some (eR a0), some (eR a1), some (eI (zI a2)), none, none, none], []), f :: F, μ0) := by
  unfold m_235 at h
  have hl := y_le_r μ0
  refine w_s (np := 1) (lv' := [some (eR a0), some (eR a1), some (eI (zI a2)), none, none, none]) (st' := [eR a1]) rfl (s_an rfl p1) rfl ?_
  refine w_s (np := 2) (lv' := [some (eR a0), some (eR a1), some (eI (zI a2)), none, none, none]) (st' := [eI (zI a2), eR a1]) rfl rfl rfl ?_
  obtain ⟨v1, h, k2⟩ := x_lh_ok (ty := 0) h hR hG (by decide) rfl (by decide)
  refine v_la (np := 3) rfl rfl k2 ?_
  clear k2
  refine w_s (np := 5) (lv' := [some (eR a0), some (eR a1), some (eI (zI a2)), none, none, none]) (st' := [eI (zI 31), eI (zI v1)]) rfl rfl rfl ?_
  obtain ⟨v3, ev3, h⟩ := z_l_ex h
  refine w_s (np := 6) (lv' := [some (eR a0), some (eR a1), some (eI (zI a2)), none, none, none]) (st' := [eI (zI v3)]) rfl (s_imul ev3) rfl ?_
  clear ev3
  refine w_s (np := 7) (lv' := [some (eR a0), some (eR a1), some (eI (zI a2)), none, none, none]) (st' := [eR a1, eI (zI v3)]) rfl (s_an rfl p1) rfl ?_
  refine w_s (np := 8) (lv' := [some (eR a0), some (eR a1), some (eI (zI a2)), none, none, none]) (st' := [eI (zI a2), eR a1, eI (zI v3)]) rfl rfl rfl ?_
  refine w_s (np := 9) (lv' := [some (eR a0), some (eR a1), some (eI (zI a2)), none, none, none]) (st' := [eI (zI 1), eI (zI a2), eR a1, eI (zI v3)]) rfl rfl rfl ?_
  obtain ⟨v4, ev4, h⟩ := z_l_ex h
  refine w_s (np := 10) (lv' := [some (eR a0), some (eR a1), some (eI (zI a2)), none, none, none]) (st' := [eI (zI v4), eR a1, eI (zI v3)]) rfl (s_iadd ev4) rfl ?_
  clear ev4
  obtain ⟨v5, h, k6⟩ := x_lh_ok (ty := 0) h hR hG (by decide) rfl (by decide)
  refine v_la (np := 11) rfl rfl k6 ?_
  clear k6
  obtain ⟨v7, ev7, h⟩ := z_l_ex h
  refine w_s (np := 12) (lv' := [some (eR a0), some (eR a1), some (eI (zI a2)), none, none, none]) (st' := [eI (zI v7)]) rfl (s_iadd ev7) rfl ?_
  clear ev7
  refine w_s (np := 13) (lv' := [some (eR a0), some (eR a1), some (eI (zI a2)), some (eI (zI v7)), none, none]) (st' := []) rfl rfl rfl ?_
  refine w_s (np := 14) (lv' := [some (eR a0), some (eR a1), some (eI (zI a2)), some (eI (zI v7)), none, none]) (st' := [eI (zI v7)]) rfl rfl rfl ?_
  refine w_s (np := 16) (lv' := [some (eR a0), some (eR a1), some (eI (zI a2)), some (eI (zI v7)), none, none]) (st' := [eI (zI 31), eI (zI v7)]) rfl rfl rfl ?_
  obtain ⟨v8, ev8, h⟩ := z_l_ex h
  refine w_s (np := 17) (lv' := [some (eR a0), some (eR a1), some (eI (zI a2)), some (eI (zI v7)), none, none]) (st' := [eI (zI v8)]) rfl (s_imul ev8) rfl ?_
  clear ev8
  refine w_s (np := 18) (lv' := [some (eR a0), some (eR a1), some (eI (zI a2)), some (eI (zI v7)), none, none]) (st' := [eR a1, eI (zI v8)]) rfl (s_an rfl p1) rfl ?_
  refine w_s (np := 19) (lv' := [some (eR a0), some (eR a1), some (eI (zI a2)), some (eI (zI v7)), none, none]) (st' := [eI (zI a2), eR a1, eI (zI v8)]) rfl rfl rfl ?_
  refine w_s (np := 20) (lv' := [some (eR a0), some (eR a1), some (eI (zI a2)), some (eI (zI v7)), none, none]) (st' := [eI (zI 2), eI (zI a2), eR a1, eI (zI v8)]) rfl rfl rfl ?_
  obtain ⟨v9, ev9, h⟩ := z_l_ex h
  refine w_s (np := 21) (lv' := [some (eR a0), some (eR a1), some (eI (zI a2)), some (eI (zI v7)), none, none]) (st' := [eI (zI v9), eR a1, eI (zI v8)]) rfl (s_iadd ev9) rfl ?_
  clear ev9
  obtain ⟨v10, h, k11⟩ := x_lh_ok (ty := 0) h hR hG (by decide) rfl (by decide)
  refine v_la (np := 22) rfl rfl k11 ?_
  clear k11
  obtain ⟨v12, ev12, h⟩ := z_l_ex h
  refine w_s (np := 23) (lv' := [some (eR a0), some (eR a1), some (eI (zI a2)), some (eI (zI v7)), none, none]) (st' := [eI (zI v12)]) rfl (s_iadd ev12) rfl ?_
  clear ev12
  refine w_s (np := 25) (lv' := [some (eR a0), some (eR a1), some (eI (zI a2)), some (eI (zI v7)), none, none]) (st' := [eI (zI 31), eI (zI v12)]) rfl rfl rfl ?_
  obtain ⟨v13, ev13, h⟩ := z_l_ex h
  refine w_s (np := 26) (lv' := [some (eR a0), some (eR a1), some (eI (zI a2)), some (eI (zI v7)), none, none]) (st' := [eI (zI v13)]) rfl (s_imul ev13) rfl ?_
  clear ev13
  refine w_s (np := 27) (lv' := [some (eR a0), some (eR a1), some (eI (zI a2)), some (eI (zI v7)), none, none]) (st' := [eR a1, eI (zI v13)]) rfl (s_an rfl p1) rfl ?_
  refine w_s (np := 28) (lv' := [some (eR a0), some (eR a1), some (eI (zI a2)), some (eI (zI v7)), none, none]) (st' := [eI (zI a2), eR a1, eI (zI v13)]) rfl rfl rfl ?_
  refine w_s (np := 29) (lv' := [some (eR a0), some (eR a1), some (eI (zI a2)), some (eI (zI v7)), none, none]) (st' := [eI (zI 3), eI (zI a2), eR a1, eI (zI v13)]) rfl rfl rfl ?_
  obtain ⟨v14, ev14, h⟩ := z_l_ex h
  refine w_s (np := 30) (lv' := [some (eR a0), some (eR a1), some (eI (zI a2)), some (eI (zI v7)), none, none]) (st' := [eI (zI v14), eR a1, eI (zI v13)]) rfl (s_iadd ev14) rfl ?_
  clear ev14
  obtain ⟨v15, h, k16⟩ := x_lh_ok (ty := 0) h hR hG (by decide) rfl (by decide)
  refine v_la (np := 31) rfl rfl k16 ?_
  clear k16
  obtain ⟨v17, ev17, h⟩ := z_l_ex h
  refine w_s (np := 32) (lv' := [some (eR a0), some (eR a1), some (eI (zI a2)), some (eI (zI v7)), none, none]) (st' := [eI (zI v17)]) rfl (s_iadd ev17) rfl ?_
  clear ev17
  refine w_s (np := 33) (lv' := [some (eR a0), some (eR a1), some (eI (zI a2)), some (eI (zI v17)), none, none]) (st' := []) rfl rfl rfl ?_
  refine w_s (np := 34) (lv' := [some (eR a0), some (eR a1), some (eI (zI a2)), some (eI (zI v17)), none, none]) (st' := [eI (zI v17)]) rfl rfl rfl ?_
  refine w_s (np := 35) (lv' := [some (eR a0), some (eR a1), some (eI (zI a2)), some (eI (zI v17)), none, none]) (st' := [eI (zI v17), eI (zI v17)]) rfl rfl rfl ?_
  refine w_s (np := 37) (lv' := [some (eR a0), some (eR a1), some (eI (zI a2)), some (eI (zI v17)), none, none]) (st' := [eI (zI 13), eI (zI v17), eI (zI v17)]) rfl rfl rfl ?_
  obtain ⟨v18, ev18, h⟩ := z_l_ex h
  refine w_s (np := 38) (lv' := [some (eR a0), some (eR a1), some (eI (zI a2)), some (eI (zI v17)), none, none]) (st' := [eI (zI v18), eI (zI v17)]) rfl (s_iushr (by decide) ev18) rfl ?_
  clear ev18
  obtain ⟨v19, ev19, h⟩ := z_l_ex h
  refine w_s (np := 39) (lv' := [some (eR a0), some (eR a1), some (eI (zI a2)), some (eI (zI v17)), none, none]) (st' := [eI (zI v19)]) rfl (s_ixor ev19) rfl ?_
  clear ev19
  refine w_s (np := 42) (lv' := [some (eR a0), some (eR a1), some (eI (zI a2)), some (eI (zI v17)), none, none]) (st' := [eI (zI 8191), eI (zI v19)]) rfl rfl rfl ?_
  obtain ⟨v20, ev20, h⟩ := z_l_ex h
  refine w_s (np := 43) (lv' := [some (eR a0), some (eR a1), some (eI (zI a2)), some (eI (zI v17)), none, none]) (st' := [eI (zI v20)]) rfl (s_iand ev20) rfl ?_
  clear ev20
  refine w_s (np := 45) (lv' := [some (eR a0), some (eR a1), some (eI (zI a2)), some (eI (zI v17)), some (eI (zI v20)), none]) (st' := []) rfl rfl rfl ?_
  exact m_235_45_ok hG hk p0 p1 hK 100000 _ _ _ M μ0 h hR hl
noncomputable def m_236 (a0 a1 a2 : Nat) (M : yM) (K : Nat → yM → Bool) : Bool := m_235 a0 a1 a2 M fun v6 M1 => z_if (z_l0 v6) (y_gf M1 a0 11 21 fun v8 => f_if false (Nat.ble 1 v8) (y_gf M1 a0 11 29 fun v13 => y_gf M1 a0 11 28 fun v16 => y_sa 100 M1 v8 v13 v16 fun M19 => y_gf M19 a0 11 23 fun v24 => f_if false (Nat.ble 1 v24) (y_gf M19 a0 11 28 fun v29 => z_l (z_mul 4 v29) fun v32 => y_lh 100 M19 a1 a2 fun v33 => z_l (z_add a2 1) fun v35 => y_lh 100 M19 a1 v35 fun v36 => z_l (z_add a2 2) fun v38 => y_lh 100 M19 a1 v38 fun v39 => z_l (z_add a2 3) fun v41 => y_lh 100 M19 a1 v41 fun v42 => m_226 a0 v24 v32 v33 v36 v39 v42 M19 fun M44 => y_gf M44 a0 11 28 fun v49 => z_l (z_add v49 1) fun v52 => y_wf M44 a0 11 28 v52 fun M53 => y_gf M53 a0 11 28 fun v59 => z_l (z_sub v59 1) fun v62 => K v62 M53))) (K v6 M1)
theorem m_236_ok {fg : eG} {μz : eM} {rc : eQ} {d : Nat} {f : eFr} {F : List eFr} {M : yM} {μ0 : eM} {a0 a1 a2 : Nat} {K : Nat → yM → Bool} (hG : yG fg y_T) (h : m_236 a0 a1 a2 M K = true) (hR : xQ μz M μ0) (hk : ev_kd μ0 a0 = some 11) (p0 : 0 < a0) (p1 : 0 < a1) (hK : ∀ (r : Nat) (M : yM) (μ : eM), K r M = true → xQ μz M μ → y_le μ0 μ → ex_q fg rc (d + 2, (f.1, f.2.1, f.2.2.1, eI (zI r) :: f.2.2.2), F, μ)) : ex_q fg rc (d + 1, (236, 0, [some (eR a0), some (eR a1), some (eI (zI a2)), none], []), f :: F, μ0) := by
  unfold m_236 at h
  have hl := y_le_r μ0
  refine w_s (np := 1) (lv' := [some (eR a0), some (eR a1), some (eI (zI a2)), none]) (st' := [eR a0]) rfl (s_an rfl p0) rfl ?_
  refine w_s (np := 2) (lv' := [some (eR a0), some (eR a1), some (eI (zI a2)), none]) (st' := [eR a1, eR a0]) rfl (s_an rfl p1) rfl ?_
  refine w_s (np := 3) (lv' := [some (eR a0), some (eR a1), some (eI (zI a2)), none]) (st' := [eI (zI a2), eR a1, eR a0]) rfl rfl rfl ?_
  refine w_cv (np := 6) (as := [eR a1, eI (zI a2)]) (lv' := [some (eR a0), some (eR a1), some (eI (zI a2)), none, none, none]) (rest := []) rfl rfl rfl (Nat.ble_eq.mp rfl) rfl rfl rfl (hl _ _ hk) rfl ?_
  refine m_235_ok hG h hR (hl _ _ hk) p0 p1 ?_
  intro v6 M1 μ2 h hR3 hl5
  have hl4 := y_le.tr hl hl5
  show ex_q fg rc (d + 1, (236, 6, [some (eR a0), some (eR a1), some (eI (zI a2)), none], [eI (zI v6)]), f :: F, μ2)
  refine w_s (np := 7) (lv' := [some (eR a0), some (eR a1), some (eI (zI a2)), some (eI (zI v6))]) (st' := []) rfl rfl rfl ?_
  refine w_s (np := 8) (lv' := [some (eR a0), some (eR a1), some (eI (zI a2)), some (eI (zI v6))]) (st' := [eI (zI v6)]) rfl rfl rfl ?_
  rcases z_if_t h with ⟨g7, h⟩ | ⟨g7, h⟩
  · refine v_lt0_t (t1 := 13) rfl rfl g7 ?_
    refine w_s (np := 14) (lv' := [some (eR a0), some (eR a1), some (eI (zI a2)), some (eI (zI v6))]) (st' := [eR a0]) rfl (s_an rfl p0) rfl ?_
    obtain ⟨v8, h, k9, e10⟩ := x_gf_ok (ty := 3) h hR3 (by decide) rfl
    obtain ⟨g11, h⟩ := f_if_ok h
    have q12 : 0 < v8 := Nat.ble_eq.mp g11
    refine v_gf3 (np := 17) rfl rfl k9 e10 ?_
    clear k9 e10
    refine w_s (np := 18) (lv' := [some (eR a0), some (eR a1), some (eI (zI a2)), some (eI (zI v6))]) (st' := [eR a0, eR v8]) rfl (s_an rfl p0) rfl ?_
    obtain ⟨v13, h, k14, e15⟩ := x_gf_ok (ty := 0) h hR3 (by decide) rfl
    refine v_gf0 (np := 21) rfl rfl k14 e15 ?_
    clear k14 e15
    refine w_s (np := 22) (lv' := [some (eR a0), some (eR a1), some (eI (zI a2)), some (eI (zI v6))]) (st' := [eR a0, eI (zI v13), eR v8]) rfl (s_an rfl p0) rfl ?_
    obtain ⟨v16, h, k17, e18⟩ := x_gf_ok (ty := 0) h hR3 (by decide) rfl
    refine v_gf0 (np := 25) rfl rfl k17 e18 ?_
    clear k17 e18
    obtain ⟨M19, μ20, h, k23, hR21, hl22⟩ := x_sa_ex (ty := 0) h hR3 hl4 rfl (by decide)
    refine v_sa (np := 26) rfl rfl k23 ?_
    clear k23
    refine w_s (np := 27) (lv' := [some (eR a0), some (eR a1), some (eI (zI a2)), some (eI (zI v6))]) (st' := [eR a0]) rfl (s_an rfl p0) rfl ?_
    refine w_s (np := 28) (lv' := [some (eR a0), some (eR a1), some (eI (zI a2)), some (eI (zI v6))]) (st' := [eR a0, eR a0]) rfl (s_an rfl p0) rfl ?_
    obtain ⟨v24, h, k25, e26⟩ := x_gf_ok (ty := 3) h hR21 (by decide) rfl
    obtain ⟨g27, h⟩ := f_if_ok h
    have q28 : 0 < v24 := Nat.ble_eq.mp g27
    refine v_gf3 (np := 31) rfl rfl k25 e26 ?_
    clear k25 e26
    refine w_s (np := 32) (lv' := [some (eR a0), some (eR a1), some (eI (zI a2)), some (eI (zI v6))]) (st' := [eI (zI 4), eR v24, eR a0]) rfl rfl rfl ?_
    refine w_s (np := 33) (lv' := [some (eR a0), some (eR a1), some (eI (zI a2)), some (eI (zI v6))]) (st' := [eR a0, eI (zI 4), eR v24, eR a0]) rfl (s_an rfl p0) rfl ?_
    obtain ⟨v29, h, k30, e31⟩ := x_gf_ok (ty := 0) h hR21 (by decide) rfl
    refine v_gf0 (np := 36) rfl rfl k30 e31 ?_
    clear k30 e31
    obtain ⟨v32, ev32, h⟩ := z_l_ex h
    refine w_s (np := 37) (lv' := [some (eR a0), some (eR a1), some (eI (zI a2)), some (eI (zI v6))]) (st' := [eI (zI v32), eR v24, eR a0]) rfl (s_imul ev32) rfl ?_
    clear ev32
    refine w_s (np := 38) (lv' := [some (eR a0), some (eR a1), some (eI (zI a2)), some (eI (zI v6))]) (st' := [eR a1, eI (zI v32), eR v24, eR a0]) rfl (s_an rfl p1) rfl ?_
    refine w_s (np := 39) (lv' := [some (eR a0), some (eR a1), some (eI (zI a2)), some (eI (zI v6))]) (st' := [eI (zI a2), eR a1, eI (zI v32), eR v24, eR a0]) rfl rfl rfl ?_
    obtain ⟨v33, h, k34⟩ := x_lh_ok (ty := 0) h hR21 hG (by decide) rfl (by decide)
    refine v_la (np := 40) rfl rfl k34 ?_
    clear k34
    refine w_s (np := 41) (lv' := [some (eR a0), some (eR a1), some (eI (zI a2)), some (eI (zI v6))]) (st' := [eR a1, eI (zI v33), eI (zI v32), eR v24, eR a0]) rfl (s_an rfl p1) rfl ?_
    refine w_s (np := 42) (lv' := [some (eR a0), some (eR a1), some (eI (zI a2)), some (eI (zI v6))]) (st' := [eI (zI a2), eR a1, eI (zI v33), eI (zI v32), eR v24, eR a0]) rfl rfl rfl ?_
    refine w_s (np := 43) (lv' := [some (eR a0), some (eR a1), some (eI (zI a2)), some (eI (zI v6))]) (st' := [eI (zI 1), eI (zI a2), eR a1, eI (zI v33), eI (zI v32), eR v24, eR a0]) rfl rfl rfl ?_
    obtain ⟨v35, ev35, h⟩ := z_l_ex h
    refine w_s (np := 44) (lv' := [some (eR a0), some (eR a1), some (eI (zI a2)), some (eI (zI v6))]) (st' := [eI (zI v35), eR a1, eI (zI v33), eI (zI v32), eR v24, eR a0]) rfl (s_iadd ev35) rfl ?_
    clear ev35
    obtain ⟨v36, h, k37⟩ := x_lh_ok (ty := 0) h hR21 hG (by decide) rfl (by decide)
    refine v_la (np := 45) rfl rfl k37 ?_
    clear k37
    refine w_s (np := 46) (lv' := [some (eR a0), some (eR a1), some (eI (zI a2)), some (eI (zI v6))]) (st' := [eR a1, eI (zI v36), eI (zI v33), eI (zI v32), eR v24, eR a0]) rfl (s_an rfl p1) rfl ?_
    refine w_s (np := 47) (lv' := [some (eR a0), some (eR a1), some (eI (zI a2)), some (eI (zI v6))]) (st' := [eI (zI a2), eR a1, eI (zI v36), eI (zI v33), eI (zI v32), eR v24, eR a0]) rfl rfl rfl ?_
    refine w_s (np := 48) (lv' := [some (eR a0), some (eR a1), some (eI (zI a2)), some (eI (zI v6))]) (st' := [eI (zI 2), eI (zI a2), eR a1, eI (zI v36), eI (zI v33), eI (zI v32), eR v24, eR a0]) rfl rfl rfl ?_
    obtain ⟨v38, ev38, h⟩ := z_l_ex h
    refine w_s (np := 49) (lv' := [some (eR a0), some (eR a1), some (eI (zI a2)), some (eI (zI v6))]) (st' := [eI (zI v38), eR a1, eI (zI v36), eI (zI v33), eI (zI v32), eR v24, eR a0]) rfl (s_iadd ev38) rfl ?_
    clear ev38
    obtain ⟨v39, h, k40⟩ := x_lh_ok (ty := 0) h hR21 hG (by decide) rfl (by decide)
    refine v_la (np := 50) rfl rfl k40 ?_
    clear k40
    refine w_s (np := 51) (lv' := [some (eR a0), some (eR a1), some (eI (zI a2)), some (eI (zI v6))]) (st' := [eR a1, eI (zI v39), eI (zI v36), eI (zI v33), eI (zI v32), eR v24, eR a0]) rfl (s_an rfl p1) rfl ?_
    refine w_s (np := 52) (lv' := [some (eR a0), some (eR a1), some (eI (zI a2)), some (eI (zI v6))]) (st' := [eI (zI a2), eR a1, eI (zI v39), eI (zI v36), eI (zI v33), eI (zI v32), eR v24, eR a0]) rfl rfl rfl ?_
    refine w_s (np := 53) (lv' := [some (eR a0), some (eR a1), some (eI (zI a2)), some (eI (zI v6))]) (st' := [eI (zI 3), eI (zI a2), eR a1, eI (zI v39), eI (zI v36), eI (zI v33), eI (zI v32), eR v24, eR a0]) rfl rfl rfl ?_
    obtain ⟨v41, ev41, h⟩ := z_l_ex h
    refine w_s (np := 54) (lv' := [some (eR a0), some (eR a1), some (eI (zI a2)), some (eI (zI v6))]) (st' := [eI (zI v41), eR a1, eI (zI v39), eI (zI v36), eI (zI v33), eI (zI v32), eR v24, eR a0]) rfl (s_iadd ev41) rfl ?_
    clear ev41
    obtain ⟨v42, h, k43⟩ := x_lh_ok (ty := 0) h hR21 hG (by decide) rfl (by decide)
    refine v_la (np := 55) rfl rfl k43 ?_
    clear k43
    refine w_cv (np := 58) (as := [eR v24, eI (zI v32), eI (zI v33), eI (zI v36), eI (zI v39), eI (zI v42)]) (lv' := [some (eR a0), some (eR v24), some (eI (zI v32)), some (eI (zI v33)), some (eI (zI v36)), some (eI (zI v39)), some (eI (zI v42))]) (rest := []) rfl rfl rfl (Nat.ble_eq.mp rfl) rfl rfl rfl (hl22 _ _ hk) rfl ?_
    refine m_226_ok hG h hR21 (hl22 _ _ hk) p0 q28 ?_
    intro M44 μ45 h hR46 hl48
    have hl47 := y_le.tr hl22 hl48
    show ex_q fg rc (d + 1, (236, 58, [some (eR a0), some (eR a1), some (eI (zI a2)), some (eI (zI v6))], []), f :: F, μ45)
    refine w_s (np := 59) (lv' := [some (eR a0), some (eR a1), some (eI (zI a2)), some (eI (zI v6))]) (st' := [eR a0]) rfl (s_an rfl p0) rfl ?_
    refine w_s (np := 60) (lv' := [some (eR a0), some (eR a1), some (eI (zI a2)), some (eI (zI v6))]) (st' := [eR a0, eR a0]) rfl rfl rfl ?_
    obtain ⟨v49, h, k50, e51⟩ := x_gf_ok (ty := 0) h hR46 (by decide) rfl
    refine v_gf0 (np := 63) rfl rfl k50 e51 ?_
    clear k50 e51
    refine w_s (np := 64) (lv' := [some (eR a0), some (eR a1), some (eI (zI a2)), some (eI (zI v6))]) (st' := [eI (zI 1), eI (zI v49), eR a0]) rfl rfl rfl ?_
    obtain ⟨v52, ev52, h⟩ := z_l_ex h
    refine w_s (np := 65) (lv' := [some (eR a0), some (eR a1), some (eI (zI a2)), some (eI (zI v6))]) (st' := [eI (zI v52), eR a0]) rfl (s_iadd ev52) rfl ?_
    clear ev52
    obtain ⟨M53, μ54, h, k57, hR55, hl56, e58⟩ := x_wf_ex (ty := 0) h hR46 hl47 rfl (by decide)
    refine v_pe0 (np := 68) rfl rfl k57 e58 ?_
    clear k57 e58
    refine w_s (np := 69) (lv' := [some (eR a0), some (eR a1), some (eI (zI a2)), some (eI (zI v6))]) (st' := [eR a0]) rfl (s_an rfl p0) rfl ?_
    obtain ⟨v59, h, k60, e61⟩ := x_gf_ok (ty := 0) h hR55 (by decide) rfl
    refine v_gf0 (np := 72) rfl rfl k60 e61 ?_
    clear k60 e61
    refine w_s (np := 73) (lv' := [some (eR a0), some (eR a1), some (eI (zI a2)), some (eI (zI v6))]) (st' := [eI (zI 1), eI (zI v59)]) rfl rfl rfl ?_
    obtain ⟨v62, ev62, h⟩ := z_l_ex h
    refine w_s (np := 74) (lv' := [some (eR a0), some (eR a1), some (eI (zI a2)), some (eI (zI v6))]) (st' := [eI (zI v62)]) rfl (s_isub ev62) rfl ?_
    clear ev62
    exact v_ri rfl rfl (hK _ _ _ h hR55 hl56)
  · refine v_lt0_f (t1 := 13) rfl rfl g7 ?_
    refine w_s (np := 12) (lv' := [some (eR a0), some (eR a1), some (eI (zI a2)), some (eI (zI v6))]) (st' := [eI (zI v6)]) rfl rfl rfl ?_
    exact v_ri rfl rfl (hK _ _ _ h hR3 hl4)
noncomputable def m_237_25 (a0 a1 : Nat) (K : Nat → yM → Bool) (s0 : Nat) (M : yM) : Bool := K s0 M
theorem m_237_25_ok {fg : eG} {μz : eM} {rc : eQ} {d : Nat} {f : eFr} {F : List eFr} {μ0 : eM} {a0 a1 : Nat} {K : Nat → yM → Bool} (hG : yG fg y_T) (hK : ∀ (r : Nat) (M : yM) (μ : eM), K r M = true → xQ μz M μ → y_le μ0 μ → ex_q fg rc (d + 1, (f.1, f.2.1, f.2.2.1, eI (zI r) :: f.2.2.2), F, μ)) : ∀ (s0 : Nat) (M : yM) (μ : eM), m_237_25 a0 a1 K s0 M = true → xQ μz M μ → y_le μ0 μ → ex_q fg rc (d, (237, 25, [some (eI (zI a0)), some (eI (zI a1))], [eI (zI s0)]), f :: F, μ) := by
  intro s0 M μ h hR hl
  unfold m_237_25 at h
  exact v_ri rfl rfl (hK _ _ _ h hR hl)
noncomputable def m_237 (a0 a1 : Nat) (M : yM) (K : Nat → yM → Bool) : Bool := z_if (z_e0 a0) (z_if (z_e0 a1) (m_237_25 a0 a1 K 1 M) (m_237_25 a0 a1 K 2 M)) (z_if (z_e0 a1) (m_237_25 a0 a1 K 3 M) (m_237_25 a0 a1 K 1 M))
theorem m_237_ok {fg : eG} {μz : eM} {rc : eQ} {d : Nat} {f : eFr} {F : List eFr} {M : yM} {μ0 : eM} {a0 a1 : Nat} {K : Nat → yM → Bool} (hG : yG fg y_T) (h : m_237 a0 a1 M K = true) (hR : xQ μz M μ0) (hK : ∀ (r : Nat) (M : yM) (μ : eM), K r M = true → xQ μz M μ → y_le μ0 μ → ex_q fg rc (d + 1, (f.1, f.2.1, f.2.2.1, eI (zI r) :: f.2.2.2), F, μ)) : ex_q fg rc (d, (237, 0, [some (eI (zI a0)), some (eI (zI a1))], []), f :: F, μ0) := by
  unfold m_237 at h
  have hl := y_le_r μ0
  refine w_s (np := 1) (lv' := [some (eI (zI a0)), some (eI (zI a1))]) (st' := [eI (zI a0)]) rfl rfl rfl ?_
  rcases z_if_t h with ⟨g1, h⟩ | ⟨g1, h⟩
  · refine v_ne0_f (t1 := 16) rfl rfl g1 ?_
    refine w_s (np := 5) (lv' := [some (eI (zI a0)), some (eI (zI a1))]) (st' := [eI (zI a1)]) rfl rfl rfl ?_
    rcases z_if_t h with ⟨g3, h⟩ | ⟨g3, h⟩
    · refine v_ne0_f (t1 := 12) rfl rfl g3 ?_
      refine w_s (np := 9) (lv' := [some (eI (zI a0)), some (eI (zI a1))]) (st' := [eI (zI 1)]) rfl rfl rfl ?_
      refine w_go (t1 := 25) rfl rfl ?_
      exact m_237_25_ok hG hK _ M μ0 h hR hl
    · refine v_ne0_t (t1 := 12) rfl rfl g3 ?_
      refine w_s (np := 13) (lv' := [some (eI (zI a0)), some (eI (zI a1))]) (st' := [eI (zI 2)]) rfl rfl rfl ?_
      refine w_go (t1 := 25) rfl rfl ?_
      exact m_237_25_ok hG hK _ M μ0 h hR hl
  · refine v_ne0_t (t1 := 16) rfl rfl g1 ?_
    refine w_s (np := 17) (lv' := [some (eI (zI a0)), some (eI (zI a1))]) (st' := [eI (zI a1)]) rfl rfl rfl ?_
    rcases z_if_t h with ⟨g2, h⟩ | ⟨g2, h⟩
    · refine v_ne0_f (t1 := 24) rfl rfl g2 ?_
      refine w_s (np := 21) (lv' := [some (eI (zI a0)), some (eI (zI a1))]) (st' := [eI (zI 3)]) rfl rfl rfl ?_
      refine w_go (t1 := 25) rfl rfl ?_
      exact m_237_25_ok hG hK _ M μ0 h hR hl
    · refine v_ne0_t (t1 := 24) rfl rfl g2 ?_
      refine w_s (np := 25) (lv' := [some (eI (zI a0)), some (eI (zI a1))]) (st' := [eI (zI 1)]) rfl rfl rfl ?_
      exact m_237_25_ok hG hK _ M μ0 h hR hl
noncomputable def m_238 (a0 a1 a2 : Nat) (M : yM) (K : Nat → yM → Bool) : Bool := y_gf M a0 11 22 fun v1 => f_if false (Nat.ble 1 v1) (z_l (z_mul 3 a1) fun v6 => z_l (z_add v6 a2) fun v7 => y_lh 100 M v1 v7 fun v8 => K v8 M)
theorem m_238_ok {fg : eG} {μz : eM} {rc : eQ} {d : Nat} {f : eFr} {F : List eFr} {M : yM} {μ0 : eM} {a0 a1 a2 : Nat} {K : Nat → yM → Bool} (hG : yG fg y_T) (h : m_238 a0 a1 a2 M K = true) (hR : xQ μz M μ0) (hk : ev_kd μ0 a0 = some 11) (p0 : 0 < a0) (hK : ∀ (r : Nat) (M : yM) (μ : eM), K r M = true → xQ μz M μ → y_le μ0 μ → ex_q fg rc (d + 1, (f.1, f.2.1, f.2.2.1, eI (zI r) :: f.2.2.2), F, μ)) : ex_q fg rc (d, (238, 0, [some (eR a0), some (eI (zI a1)), some (eI (zI a2))], []), f :: F, μ0) := by
  unfold m_238 at h
  have hl := y_le_r μ0
  refine w_s (np := 1) (lv' := [some (eR a0), some (eI (zI a1)), some (eI (zI a2))]) (st' := [eR a0]) rfl (s_an rfl p0) rfl ?_
  obtain ⟨v1, h, k2, e3⟩ := x_gf_ok (ty := 3) h hR (by decide) rfl
  obtain ⟨g4, h⟩ := f_if_ok h
  have q5 : 0 < v1 := Nat.ble_eq.mp g4
  refine v_gf3 (np := 4) rfl rfl k2 e3 ?_
  clear k2 e3
  refine w_s (np := 5) (lv' := [some (eR a0), some (eI (zI a1)), some (eI (zI a2))]) (st' := [eI (zI 3), eR v1]) rfl rfl rfl ?_
  refine w_s (np := 6) (lv' := [some (eR a0), some (eI (zI a1)), some (eI (zI a2))]) (st' := [eI (zI a1), eI (zI 3), eR v1]) rfl rfl rfl ?_
  obtain ⟨v6, ev6, h⟩ := z_l_ex h
  refine w_s (np := 7) (lv' := [some (eR a0), some (eI (zI a1)), some (eI (zI a2))]) (st' := [eI (zI v6), eR v1]) rfl (s_imul ev6) rfl ?_
  clear ev6
  refine w_s (np := 8) (lv' := [some (eR a0), some (eI (zI a1)), some (eI (zI a2))]) (st' := [eI (zI a2), eI (zI v6), eR v1]) rfl rfl rfl ?_
  obtain ⟨v7, ev7, h⟩ := z_l_ex h
  refine w_s (np := 9) (lv' := [some (eR a0), some (eI (zI a1)), some (eI (zI a2))]) (st' := [eI (zI v7), eR v1]) rfl (s_iadd ev7) rfl ?_
  clear ev7
  obtain ⟨v8, h, k9⟩ := x_lh_ok (ty := 0) h hR hG (by decide) rfl (by decide)
  refine v_la (np := 10) rfl rfl k9 ?_
  clear k9
  exact v_ri rfl rfl (hK _ _ _ h hR hl)
noncomputable def m_248_25 (a0 a1 : Nat) (K : Nat → yM → Bool) (s0 : Nat) (M : yM) : Bool := K s0 M
theorem m_248_25_ok {fg : eG} {μz : eM} {rc : eQ} {d : Nat} {f : eFr} {F : List eFr} {μ0 : eM} {a0 a1 : Nat} {K : Nat → yM → Bool} (hG : yG fg y_T) (hK : ∀ (r : Nat) (M : yM) (μ : eM), K r M = true → xQ μz M μ → y_le μ0 μ → ex_q fg rc (d + 1, (f.1, f.2.1, f.2.2.1, eI (zI r) :: f.2.2.2), F, μ)) : ∀ (s0 : Nat) (M : yM) (μ : eM), m_248_25 a0 a1 K s0 M = true → xQ μz M μ → y_le μ0 μ → ex_q fg rc (d, (248, 25, [some (eI (zI a0)), some (eI (zI a1))], [eI (zI s0)]), f :: F, μ) := by
  intro s0 M μ h hR hl
  unfold m_248_25 at h
  exact v_ri rfl rfl (hK _ _ _ h hR hl)
noncomputable def m_248 (a0 a1 : Nat) (M : yM) (K : Nat → yM → Bool) : Bool := z_if (z_e0 a0) (z_if (z_e0 a1) (m_248_25 a0 a1 K 1 M) (m_248_25 a0 a1 K 4 M)) (z_if (z_e0 a1) (m_248_25 a0 a1 K 3 M) (m_248_25 a0 a1 K 2 M))
theorem m_248_ok {fg : eG} {μz : eM} {rc : eQ} {d : Nat} {f : eFr} {F : List eFr} {M : yM} {μ0 : eM} {a0 a1 : Nat} {K : Nat → yM → Bool} (hG : yG fg y_T) (h : m_248 a0 a1 M K = true) (hR : xQ μz M μ0) (hK : ∀ (r : Nat) (M : yM) (μ : eM), K r M = true → xQ μz M μ → y_le μ0 μ → ex_q fg rc (d + 1, (f.1, f.2.1, f.2.2.1, eI (zI r) :: f.2.2.2), F, μ)) : ex_q fg rc (d, (248, 0, [some (eI (zI a0)), some (eI (zI a1))], []), f :: F, μ0) := by
  unfold m_248 at h
  have hl := y_le_r μ0
  refine w_s (np := 1) (lv' := [some (eI (zI a0)), some (eI (zI a1))]) (st' := [eI (zI a0)]) rfl rfl rfl ?_
  rcases z_if_t h with ⟨g1, h⟩ | ⟨g1, h⟩
  · refine v_ne0_f (t1 := 16) rfl rfl g1 ?_
    refine w_s (np := 5) (lv' := [some (eI (zI a0)), some (eI (zI a1))]) (st' := [eI (zI a1)]) rfl rfl rfl ?_
    rcases z_if_t h with ⟨g3, h⟩ | ⟨g3, h⟩
    · refine v_ne0_f (t1 := 12) rfl rfl g3 ?_
      refine w_s (np := 9) (lv' := [some (eI (zI a0)), some (eI (zI a1))]) (st' := [eI (zI 1)]) rfl rfl rfl ?_
      refine w_go (t1 := 25) rfl rfl ?_
      exact m_248_25_ok hG hK _ M μ0 h hR hl
    · refine v_ne0_t (t1 := 12) rfl rfl g3 ?_
      refine w_s (np := 13) (lv' := [some (eI (zI a0)), some (eI (zI a1))]) (st' := [eI (zI 4)]) rfl rfl rfl ?_
      refine w_go (t1 := 25) rfl rfl ?_
      exact m_248_25_ok hG hK _ M μ0 h hR hl
  · refine v_ne0_t (t1 := 16) rfl rfl g1 ?_
    refine w_s (np := 17) (lv' := [some (eI (zI a0)), some (eI (zI a1))]) (st' := [eI (zI a1)]) rfl rfl rfl ?_
    rcases z_if_t h with ⟨g2, h⟩ | ⟨g2, h⟩
    · refine v_ne0_f (t1 := 24) rfl rfl g2 ?_
      refine w_s (np := 21) (lv' := [some (eI (zI a0)), some (eI (zI a1))]) (st' := [eI (zI 3)]) rfl rfl rfl ?_
      refine w_go (t1 := 25) rfl rfl ?_
      exact m_248_25_ok hG hK _ M μ0 h hR hl
    · refine v_ne0_t (t1 := 24) rfl rfl g2 ?_
      refine w_s (np := 25) (lv' := [some (eI (zI a0)), some (eI (zI a1))]) (st' := [eI (zI 2)]) rfl rfl rfl ?_
      exact m_248_25_ok hG hK _ M μ0 h hR hl
noncomputable def m_249_114 (a0 a1 a2 : Nat) (K : Nat → yM → Bool) (i2 : Nat → yM → Bool) (a3 : Nat) (M : yM) : Bool := z_l (z_add a3 1) fun v1 => z_f v1 fun w2 => i2 w2 M
theorem m_249_114_ok {fg : eG} {μz : eM} {rc : eQ} {d : Nat} {f : eFr} {F : List eFr} {μ0 : eM} {a0 a1 a2 : Nat} {K : Nat → yM → Bool} {i2 : Nat → yM → Bool} (hG : yG fg y_T) (hk : ev_kd μ0 a0 = some 11) (p0 : 0 < a0) (hK : ∀ (r : Nat) (M : yM) (μ : eM), K r M = true → xQ μz M μ → y_le μ0 μ → ex_q fg rc (d + 3, (f.1, f.2.1, f.2.2.1, eI (zI r) :: f.2.2.2), F, μ)) (h2 : ∀ (a3 : Nat) (M : yM) (μ : eM), i2 a3 M = true → xQ μz M μ → y_le μ0 μ → ex_q fg rc (d + 2, (249, 2, [some (eR a0), some (eI (zI a1)), some (eI (zI a2)), some (eI (zI a3))], []), f :: F, μ)) : ∀ (a3 : Nat) (M : yM) (μ : eM), m_249_114 a0 a1 a2 K i2 a3 M = true → xQ μz M μ → y_le μ0 μ → ex_q fg rc (d + 2, (249, 114, [some (eR a0), some (eI (zI a1)), some (eI (zI a2)), some (eI (zI a3))], []), f :: F, μ) := by
  intro a3 M μ h hR hl
  unfold m_249_114 at h
  obtain ⟨v1, ev1, h⟩ := z_l_ex h
  refine w_s (np := 117) (lv' := [some (eR a0), some (eI (zI a1)), some (eI (zI a2)), some (eI (zI v1))]) (st' := []) rfl (s_iinc (b := 1) rfl rfl ev1 rfl) rfl ?_
  clear ev1
  refine w_go (t1 := 2) rfl rfl ?_
  obtain ⟨w2, ew2, h⟩ := z_f_ex h
  subst ew2
  exact h2 _ M μ h hR hl
noncomputable def m_249_2b (a0 a1 a2 : Nat) (K : Nat → yM → Bool) (i2 : Nat → yM → Bool) (a3 : Nat) (M : yM) : Bool := y_gf M a0 11 23 fun v1 => f_if false (Nat.ble 1 v1) (z_l (z_mul 4 a2) fun v6 => y_lh 100 M v1 v6 fun v7 => y_gf M a0 11 23 fun v9 => f_if false (Nat.ble 1 v9) (z_l (z_mul 4 a1) fun v14 => y_lh 100 M v9 v14 fun v15 => z_l (z_sub v7 v15) fun v17 => m_218 a3 0 M fun v23 M18 => z_if (z_eq v17 v23) (y_gf M18 a0 11 23 fun v25 => f_if false (Nat.ble 1 v25) (z_l (z_mul 4 a2) fun v30 => z_l (z_add v30 1) fun v31 => y_lh 100 M18 v25 v31 fun v32 => y_gf M18 a0 11 23 fun v34 => f_if false (Nat.ble 1 v34) (z_l (z_mul 4 a1) fun v39 => z_l (z_add v39 1) fun v40 => y_lh 100 M18 v34 v40 fun v41 => z_l (z_sub v32 v41) fun v43 => m_218 a3 1 M18 fun v49 M44 => z_if (z_eq v43 v49) (y_gf M44 a0 11 23 fun v51 => f_if false (Nat.ble 1 v51) (z_l (z_mul 4 a2) fun v56 => z_l (z_add v56 2) fun v57 => y_lh 100 M44 v51 v57 fun v58 => y_gf M44 a0 11 23 fun v60 => f_if false (Nat.ble 1 v60) (z_l (z_mul 4 a1) fun v65 => z_l (z_add v65 2) fun v66 => y_lh 100 M44 v60 v66 fun v67 => z_l (z_sub v58 v67) fun v69 => m_218 a3 2 M44 fun v75 M70 => z_if (z_eq v69 v75) (y_gf M70 a0 11 23 fun v77 => f_if false (Nat.ble 1 v77) (z_l (z_mul 4 a2) fun v82 => z_l (z_add v82 3) fun v83 => y_lh 100 M70 v77 v83 fun v84 => y_gf M70 a0 11 23 fun v86 => f_if false (Nat.ble 1 v86) (z_l (z_mul 4 a1) fun v91 => z_l (z_add v91 3) fun v92 => y_lh 100 M70 v86 v92 fun v93 => z_l (z_sub v84 v93) fun v95 => m_218 a3 3 M70 fun v101 M96 => z_if (z_eq v95 v101) (K a3 M96) (m_249_114 a0 a1 a2 K i2 a3 M96)))) (m_249_114 a0 a1 a2 K i2 a3 M70)))) (m_249_114 a0 a1 a2 K i2 a3 M44)))) (m_249_114 a0 a1 a2 K i2 a3 M18)))
noncomputable def m_249_2 (a0 a1 a2 : Nat) (K : Nat → yM → Bool) (n : Nat) : Nat → yM → Bool := @Nat.rec (fun _ => Nat → yM → Bool) (fun _ _ => false) (fun _ ih => m_249_2b a0 a1 a2 K ih) n
theorem m_249_2b_ok {fg : eG} {μz : eM} {rc : eQ} {d : Nat} {f : eFr} {F : List eFr} {μ0 : eM} {a0 a1 a2 : Nat} {K : Nat → yM → Bool} {i2 : Nat → yM → Bool} (hG : yG fg y_T) (hk : ev_kd μ0 a0 = some 11) (p0 : 0 < a0) (hK : ∀ (r : Nat) (M : yM) (μ : eM), K r M = true → xQ μz M μ → y_le μ0 μ → ex_q fg rc (d + 3, (f.1, f.2.1, f.2.2.1, eI (zI r) :: f.2.2.2), F, μ)) (h2 : ∀ (a3 : Nat) (M : yM) (μ : eM), i2 a3 M = true → xQ μz M μ → y_le μ0 μ → ex_q fg rc (d + 2, (249, 2, [some (eR a0), some (eI (zI a1)), some (eI (zI a2)), some (eI (zI a3))], []), f :: F, μ)) : ∀ (a3 : Nat) (M : yM) (μ : eM), m_249_2b a0 a1 a2 K i2 a3 M = true → xQ μz M μ → y_le μ0 μ → ex_q fg rc (d + 2, (249, 2, [some (eR a0), some (eI (zI a1)), some (eI (zI a2)), some (eI (zI a3))], []), f :: F, μ) := by
  intro a3 M μ h hR hl
  unfold m_249_2b at h
  refine w_s (np := 3) (lv' := [some (eR a0), some (eI (zI a1)), some (eI (zI a2)), some (eI (zI a3))]) (st' := [eR a0]) rfl (s_an rfl p0) rfl ?_
  obtain ⟨v1, h, k2, e3⟩ := x_gf_ok (ty := 3) h hR (by decide) rfl
  obtain ⟨g4, h⟩ := f_if_ok h
  have q5 : 0 < v1 := Nat.ble_eq.mp g4
  refine v_gf3 (np := 6) rfl rfl k2 e3 ?_
  clear k2 e3
  refine w_s (np := 7) (lv' := [some (eR a0), some (eI (zI a1)), some (eI (zI a2)), some (eI (zI a3))]) (st' := [eI (zI 4), eR v1]) rfl rfl rfl ?_
  refine w_s (np := 8) (lv' := [some (eR a0), some (eI (zI a1)), some (eI (zI a2)), some (eI (zI a3))]) (st' := [eI (zI a2), eI (zI 4), eR v1]) rfl rfl rfl ?_
  obtain ⟨v6, ev6, h⟩ := z_l_ex h
  refine w_s (np := 9) (lv' := [some (eR a0), some (eI (zI a1)), some (eI (zI a2)), some (eI (zI a3))]) (st' := [eI (zI v6), eR v1]) rfl (s_imul ev6) rfl ?_
  clear ev6
  obtain ⟨v7, h, k8⟩ := x_lh_ok (ty := 0) h hR hG (by decide) rfl (by decide)
  refine v_la (np := 10) rfl rfl k8 ?_
  clear k8
  refine w_s (np := 11) (lv' := [some (eR a0), some (eI (zI a1)), some (eI (zI a2)), some (eI (zI a3))]) (st' := [eR a0, eI (zI v7)]) rfl (s_an rfl p0) rfl ?_
  obtain ⟨v9, h, k10, e11⟩ := x_gf_ok (ty := 3) h hR (by decide) rfl
  obtain ⟨g12, h⟩ := f_if_ok h
  have q13 : 0 < v9 := Nat.ble_eq.mp g12
  refine v_gf3 (np := 14) rfl rfl k10 e11 ?_
  clear k10 e11
  refine w_s (np := 15) (lv' := [some (eR a0), some (eI (zI a1)), some (eI (zI a2)), some (eI (zI a3))]) (st' := [eI (zI 4), eR v9, eI (zI v7)]) rfl rfl rfl ?_
  refine w_s (np := 16) (lv' := [some (eR a0), some (eI (zI a1)), some (eI (zI a2)), some (eI (zI a3))]) (st' := [eI (zI a1), eI (zI 4), eR v9, eI (zI v7)]) rfl rfl rfl ?_
  obtain ⟨v14, ev14, h⟩ := z_l_ex h
  refine w_s (np := 17) (lv' := [some (eR a0), some (eI (zI a1)), some (eI (zI a2)), some (eI (zI a3))]) (st' := [eI (zI v14), eR v9, eI (zI v7)]) rfl (s_imul ev14) rfl ?_
  clear ev14
  obtain ⟨v15, h, k16⟩ := x_lh_ok (ty := 0) h hR hG (by decide) rfl (by decide)
  refine v_la (np := 18) rfl rfl k16 ?_
  clear k16
  obtain ⟨v17, ev17, h⟩ := z_l_ex h
  refine w_s (np := 19) (lv' := [some (eR a0), some (eI (zI a1)), some (eI (zI a2)), some (eI (zI a3))]) (st' := [eI (zI v17)]) rfl (s_isub ev17) rfl ?_
  clear ev17
  refine w_s (np := 20) (lv' := [some (eR a0), some (eI (zI a1)), some (eI (zI a2)), some (eI (zI a3))]) (st' := [eI (zI a3), eI (zI v17)]) rfl rfl rfl ?_
  refine w_s (np := 21) (lv' := [some (eR a0), some (eI (zI a1)), some (eI (zI a2)), some (eI (zI a3))]) (st' := [eI (zI 0), eI (zI a3), eI (zI v17)]) rfl rfl rfl ?_
  refine w_cs (np := 24) (as := [eI (zI a3), eI (zI 0)]) (lv' := [some (eI (zI a3)), some (eI (zI 0))]) (rest := [eI (zI v17)]) rfl rfl rfl (Nat.ble_eq.mp rfl) rfl rfl rfl rfl ?_
  refine m_218_ok hG h hR ?_
  intro v23 M18 μ19 h hR20 hl22
  have hl21 := y_le.tr hl hl22
  show ex_q fg rc (d + 2, (249, 24, [some (eR a0), some (eI (zI a1)), some (eI (zI a2)), some (eI (zI a3))], [eI (zI v23), eI (zI v17)]), f :: F, μ19)
  rcases z_if_t h with ⟨g24, h⟩ | ⟨g24, h⟩
  · refine v_ne_f (t1 := 114) rfl rfl g24 ?_
    refine w_s (np := 28) (lv' := [some (eR a0), some (eI (zI a1)), some (eI (zI a2)), some (eI (zI a3))]) (st' := [eR a0]) rfl (s_an rfl p0) rfl ?_
    obtain ⟨v25, h, k26, e27⟩ := x_gf_ok (ty := 3) h hR20 (by decide) rfl
    obtain ⟨g28, h⟩ := f_if_ok h
    have q29 : 0 < v25 := Nat.ble_eq.mp g28
    refine v_gf3 (np := 31) rfl rfl k26 e27 ?_
    clear k26 e27
    refine w_s (np := 32) (lv' := [some (eR a0), some (eI (zI a1)), some (eI (zI a2)), some (eI (zI a3))]) (st' := [eI (zI 4), eR v25]) rfl rfl rfl ?_
    refine w_s (np := 33) (lv' := [some (eR a0), some (eI (zI a1)), some (eI (zI a2)), some (eI (zI a3))]) (st' := [eI (zI a2), eI (zI 4), eR v25]) rfl rfl rfl ?_
    obtain ⟨v30, ev30, h⟩ := z_l_ex h
    refine w_s (np := 34) (lv' := [some (eR a0), some (eI (zI a1)), some (eI (zI a2)), some (eI (zI a3))]) (st' := [eI (zI v30), eR v25]) rfl (s_imul ev30) rfl ?_
    clear ev30
    refine w_s (np := 35) (lv' := [some (eR a0), some (eI (zI a1)), some (eI (zI a2)), some (eI (zI a3))]) (st' := [eI (zI 1), eI (zI v30), eR v25]) rfl rfl rfl ?_
    obtain ⟨v31, ev31, h⟩ := z_l_ex h
    refine w_s (np := 36) (lv' := [some (eR a0), some (eI (zI a1)), some (eI (zI a2)), some (eI (zI a3))]) (st' := [eI (zI v31), eR v25]) rfl (s_iadd ev31) rfl ?_
    clear ev31
    obtain ⟨v32, h, k33⟩ := x_lh_ok (ty := 0) h hR20 hG (by decide) rfl (by decide)
    refine v_la (np := 37) rfl rfl k33 ?_
    clear k33
    refine w_s (np := 38) (lv' := [some (eR a0), some (eI (zI a1)), some (eI (zI a2)), some (eI (zI a3))]) (st' := [eR a0, eI (zI v32)]) rfl (s_an rfl p0) rfl ?_
    obtain ⟨v34, h, k35, e36⟩ := x_gf_ok (ty := 3) h hR20 (by decide) rfl
    obtain ⟨g37, h⟩ := f_if_ok h
    have q38 : 0 < v34 := Nat.ble_eq.mp g37
    refine v_gf3 (np := 41) rfl rfl k35 e36 ?_
    clear k35 e36
    refine w_s (np := 42) (lv' := [some (eR a0), some (eI (zI a1)), some (eI (zI a2)), some (eI (zI a3))]) (st' := [eI (zI 4), eR v34, eI (zI v32)]) rfl rfl rfl ?_
    refine w_s (np := 43) (lv' := [some (eR a0), some (eI (zI a1)), some (eI (zI a2)), some (eI (zI a3))]) (st' := [eI (zI a1), eI (zI 4), eR v34, eI (zI v32)]) rfl rfl rfl ?_
    obtain ⟨v39, ev39, h⟩ := z_l_ex h
    refine w_s (np := 44) (lv' := [some (eR a0), some (eI (zI a1)), some (eI (zI a2)), some (eI (zI a3))]) (st' := [eI (zI v39), eR v34, eI (zI v32)]) rfl (s_imul ev39) rfl ?_
    clear ev39
    refine w_s (np := 45) (lv' := [some (eR a0), some (eI (zI a1)), some (eI (zI a2)), some (eI (zI a3))]) (st' := [eI (zI 1), eI (zI v39), eR v34, eI (zI v32)]) rfl rfl rfl ?_
    obtain ⟨v40, ev40, h⟩ := z_l_ex h
    refine w_s (np := 46) (lv' := [some (eR a0), some (eI (zI a1)), some (eI (zI a2)), some (eI (zI a3))]) (st' := [eI (zI v40), eR v34, eI (zI v32)]) rfl (s_iadd ev40) rfl ?_
    clear ev40
    obtain ⟨v41, h, k42⟩ := x_lh_ok (ty := 0) h hR20 hG (by decide) rfl (by decide)
    refine v_la (np := 47) rfl rfl k42 ?_
    clear k42
    obtain ⟨v43, ev43, h⟩ := z_l_ex h
    refine w_s (np := 48) (lv' := [some (eR a0), some (eI (zI a1)), some (eI (zI a2)), some (eI (zI a3))]) (st' := [eI (zI v43)]) rfl (s_isub ev43) rfl ?_
    clear ev43
    refine w_s (np := 49) (lv' := [some (eR a0), some (eI (zI a1)), some (eI (zI a2)), some (eI (zI a3))]) (st' := [eI (zI a3), eI (zI v43)]) rfl rfl rfl ?_
    refine w_s (np := 50) (lv' := [some (eR a0), some (eI (zI a1)), some (eI (zI a2)), some (eI (zI a3))]) (st' := [eI (zI 1), eI (zI a3), eI (zI v43)]) rfl rfl rfl ?_
    refine w_cs (np := 53) (as := [eI (zI a3), eI (zI 1)]) (lv' := [some (eI (zI a3)), some (eI (zI 1))]) (rest := [eI (zI v43)]) rfl rfl rfl (Nat.ble_eq.mp rfl) rfl rfl rfl rfl ?_
    refine m_218_ok hG h hR20 ?_
    intro v49 M44 μ45 h hR46 hl48
    have hl47 := y_le.tr hl21 hl48
    show ex_q fg rc (d + 2, (249, 53, [some (eR a0), some (eI (zI a1)), some (eI (zI a2)), some (eI (zI a3))], [eI (zI v49), eI (zI v43)]), f :: F, μ45)
    rcases z_if_t h with ⟨g50, h⟩ | ⟨g50, h⟩
    · refine v_ne_f (t1 := 114) rfl rfl g50 ?_
      refine w_s (np := 57) (lv' := [some (eR a0), some (eI (zI a1)), some (eI (zI a2)), some (eI (zI a3))]) (st' := [eR a0]) rfl (s_an rfl p0) rfl ?_
      obtain ⟨v51, h, k52, e53⟩ := x_gf_ok (ty := 3) h hR46 (by decide) rfl
      obtain ⟨g54, h⟩ := f_if_ok h
      have q55 : 0 < v51 := Nat.ble_eq.mp g54
      refine v_gf3 (np := 60) rfl rfl k52 e53 ?_
      clear k52 e53
      refine w_s (np := 61) (lv' := [some (eR a0), some (eI (zI a1)), some (eI (zI a2)), some (eI (zI a3))]) (st' := [eI (zI 4), eR v51]) rfl rfl rfl ?_
      refine w_s (np := 62) (lv' := [some (eR a0), some (eI (zI a1)), some (eI (zI a2)), some (eI (zI a3))]) (st' := [eI (zI a2), eI (zI 4), eR v51]) rfl rfl rfl ?_
      obtain ⟨v56, ev56, h⟩ := z_l_ex h
      refine w_s (np := 63) (lv' := [some (eR a0), some (eI (zI a1)), some (eI (zI a2)), some (eI (zI a3))]) (st' := [eI (zI v56), eR v51]) rfl (s_imul ev56) rfl ?_
      clear ev56
      refine w_s (np := 64) (lv' := [some (eR a0), some (eI (zI a1)), some (eI (zI a2)), some (eI (zI a3))]) (st' := [eI (zI 2), eI (zI v56), eR v51]) rfl rfl rfl ?_
      obtain ⟨v57, ev57, h⟩ := z_l_ex h
      refine w_s (np := 65) (lv' := [some (eR a0), some (eI (zI a1)), some (eI (zI a2)), some (eI (zI a3))]) (st' := [eI (zI v57), eR v51]) rfl (s_iadd ev57) rfl ?_
      clear ev57
      obtain ⟨v58, h, k59⟩ := x_lh_ok (ty := 0) h hR46 hG (by decide) rfl (by decide)
      refine v_la (np := 66) rfl rfl k59 ?_
      clear k59
      refine w_s (np := 67) (lv' := [some (eR a0), some (eI (zI a1)), some (eI (zI a2)), some (eI (zI a3))]) (st' := [eR a0, eI (zI v58)]) rfl (s_an rfl p0) rfl ?_
      obtain ⟨v60, h, k61, e62⟩ := x_gf_ok (ty := 3) h hR46 (by decide) rfl
      obtain ⟨g63, h⟩ := f_if_ok h
      have q64 : 0 < v60 := Nat.ble_eq.mp g63
      refine v_gf3 (np := 70) rfl rfl k61 e62 ?_
      clear k61 e62
      refine w_s (np := 71) (lv' := [some (eR a0), some (eI (zI a1)), some (eI (zI a2)), some (eI (zI a3))]) (st' := [eI (zI 4), eR v60, eI (zI v58)]) rfl rfl rfl ?_
      refine w_s (np := 72) (lv' := [some (eR a0), some (eI (zI a1)), some (eI (zI a2)), some (eI (zI a3))]) (st' := [eI (zI a1), eI (zI 4), eR v60, eI (zI v58)]) rfl rfl rfl ?_
      obtain ⟨v65, ev65, h⟩ := z_l_ex h
      refine w_s (np := 73) (lv' := [some (eR a0), some (eI (zI a1)), some (eI (zI a2)), some (eI (zI a3))]) (st' := [eI (zI v65), eR v60, eI (zI v58)]) rfl (s_imul ev65) rfl ?_
      clear ev65
      refine w_s (np := 74) (lv' := [some (eR a0), some (eI (zI a1)), some (eI (zI a2)), some (eI (zI a3))]) (st' := [eI (zI 2), eI (zI v65), eR v60, eI (zI v58)]) rfl rfl rfl ?_
      obtain ⟨v66, ev66, h⟩ := z_l_ex h
      refine w_s (np := 75) (lv' := [some (eR a0), some (eI (zI a1)), some (eI (zI a2)), some (eI (zI a3))]) (st' := [eI (zI v66), eR v60, eI (zI v58)]) rfl (s_iadd ev66) rfl ?_
      clear ev66
      obtain ⟨v67, h, k68⟩ := x_lh_ok (ty := 0) h hR46 hG (by decide) rfl (by decide)
      refine v_la (np := 76) rfl rfl k68 ?_
      clear k68
      obtain ⟨v69, ev69, h⟩ := z_l_ex h
      refine w_s (np := 77) (lv' := [some (eR a0), some (eI (zI a1)), some (eI (zI a2)), some (eI (zI a3))]) (st' := [eI (zI v69)]) rfl (s_isub ev69) rfl ?_
      clear ev69
      refine w_s (np := 78) (lv' := [some (eR a0), some (eI (zI a1)), some (eI (zI a2)), some (eI (zI a3))]) (st' := [eI (zI a3), eI (zI v69)]) rfl rfl rfl ?_
      refine w_s (np := 79) (lv' := [some (eR a0), some (eI (zI a1)), some (eI (zI a2)), some (eI (zI a3))]) (st' := [eI (zI 2), eI (zI a3), eI (zI v69)]) rfl rfl rfl ?_
      refine w_cs (np := 82) (as := [eI (zI a3), eI (zI 2)]) (lv' := [some (eI (zI a3)), some (eI (zI 2))]) (rest := [eI (zI v69)]) rfl rfl rfl (Nat.ble_eq.mp rfl) rfl rfl rfl rfl ?_
      refine m_218_ok hG h hR46 ?_
      intro v75 M70 μ71 h hR72 hl74
      have hl73 := y_le.tr hl47 hl74
      show ex_q fg rc (d + 2, (249, 82, [some (eR a0), some (eI (zI a1)), some (eI (zI a2)), some (eI (zI a3))], [eI (zI v75), eI (zI v69)]), f :: F, μ71)
      rcases z_if_t h with ⟨g76, h⟩ | ⟨g76, h⟩
      · refine v_ne_f (t1 := 114) rfl rfl g76 ?_
        refine w_s (np := 86) (lv' := [some (eR a0), some (eI (zI a1)), some (eI (zI a2)), some (eI (zI a3))]) (st' := [eR a0]) rfl (s_an rfl p0) rfl ?_
        obtain ⟨v77, h, k78, e79⟩ := x_gf_ok (ty := 3) h hR72 (by decide) rfl
        obtain ⟨g80, h⟩ := f_if_ok h
        have q81 : 0 < v77 := Nat.ble_eq.mp g80
        refine v_gf3 (np := 89) rfl rfl k78 e79 ?_
        clear k78 e79
        refine w_s (np := 90) (lv' := [some (eR a0), some (eI (zI a1)), some (eI (zI a2)), some (eI (zI a3))]) (st' := [eI (zI 4), eR v77]) rfl rfl rfl ?_
        refine w_s (np := 91) (lv' := [some (eR a0), some (eI (zI a1)), some (eI (zI a2)), some (eI (zI a3))]) (st' := [eI (zI a2), eI (zI 4), eR v77]) rfl rfl rfl ?_
        obtain ⟨v82, ev82, h⟩ := z_l_ex h
        refine w_s (np := 92) (lv' := [some (eR a0), some (eI (zI a1)), some (eI (zI a2)), some (eI (zI a3))]) (st' := [eI (zI v82), eR v77]) rfl (s_imul ev82) rfl ?_
        clear ev82
        refine w_s (np := 93) (lv' := [some (eR a0), some (eI (zI a1)), some (eI (zI a2)), some (eI (zI a3))]) (st' := [eI (zI 3), eI (zI v82), eR v77]) rfl rfl rfl ?_
        obtain ⟨v83, ev83, h⟩ := z_l_ex h
        refine w_s (np := 94) (lv' := [some (eR a0), some (eI (zI a1)), some (eI (zI a2)), some (eI (zI a3))]) (st' := [eI (zI v83), eR v77]) rfl (s_iadd ev83) rfl ?_
        clear ev83
        obtain ⟨v84, h, k85⟩ := x_lh_ok (ty := 0) h hR72 hG (by decide) rfl (by decide)
        refine v_la (np := 95) rfl rfl k85 ?_
        clear k85
        refine w_s (np := 96) (lv' := [some (eR a0), some (eI (zI a1)), some (eI (zI a2)), some (eI (zI a3))]) (st' := [eR a0, eI (zI v84)]) rfl (s_an rfl p0) rfl ?_
        obtain ⟨v86, h, k87, e88⟩ := x_gf_ok (ty := 3) h hR72 (by decide) rfl
        obtain ⟨g89, h⟩ := f_if_ok h
        have q90 : 0 < v86 := Nat.ble_eq.mp g89
        refine v_gf3 (np := 99) rfl rfl k87 e88 ?_
        clear k87 e88
        refine w_s (np := 100) (lv' := [some (eR a0), some (eI (zI a1)), some (eI (zI a2)), some (eI (zI a3))]) (st' := [eI (zI 4), eR v86, eI (zI v84)]) rfl rfl rfl ?_
        refine w_s (np := 101) (lv' := [some (eR a0), some (eI (zI a1)), some (eI (zI a2)), some (eI (zI a3))]) (st' := [eI (zI a1), eI (zI 4), eR v86, eI (zI v84)]) rfl rfl rfl ?_
        obtain ⟨v91, ev91, h⟩ := z_l_ex h
        refine w_s (np := 102) (lv' := [some (eR a0), some (eI (zI a1)), some (eI (zI a2)), some (eI (zI a3))]) (st' := [eI (zI v91), eR v86, eI (zI v84)]) rfl (s_imul ev91) rfl ?_
        clear ev91
        refine w_s (np := 103) (lv' := [some (eR a0), some (eI (zI a1)), some (eI (zI a2)), some (eI (zI a3))]) (st' := [eI (zI 3), eI (zI v91), eR v86, eI (zI v84)]) rfl rfl rfl ?_
        obtain ⟨v92, ev92, h⟩ := z_l_ex h
        refine w_s (np := 104) (lv' := [some (eR a0), some (eI (zI a1)), some (eI (zI a2)), some (eI (zI a3))]) (st' := [eI (zI v92), eR v86, eI (zI v84)]) rfl (s_iadd ev92) rfl ?_
        clear ev92
        obtain ⟨v93, h, k94⟩ := x_lh_ok (ty := 0) h hR72 hG (by decide) rfl (by decide)
        refine v_la (np := 105) rfl rfl k94 ?_
        clear k94
        obtain ⟨v95, ev95, h⟩ := z_l_ex h
        refine w_s (np := 106) (lv' := [some (eR a0), some (eI (zI a1)), some (eI (zI a2)), some (eI (zI a3))]) (st' := [eI (zI v95)]) rfl (s_isub ev95) rfl ?_
        clear ev95
        refine w_s (np := 107) (lv' := [some (eR a0), some (eI (zI a1)), some (eI (zI a2)), some (eI (zI a3))]) (st' := [eI (zI a3), eI (zI v95)]) rfl rfl rfl ?_
        refine w_s (np := 108) (lv' := [some (eR a0), some (eI (zI a1)), some (eI (zI a2)), some (eI (zI a3))]) (st' := [eI (zI 3), eI (zI a3), eI (zI v95)]) rfl rfl rfl ?_
        refine w_cs (np := 111) (as := [eI (zI a3), eI (zI 3)]) (lv' := [some (eI (zI a3)), some (eI (zI 3))]) (rest := [eI (zI v95)]) rfl rfl rfl (Nat.ble_eq.mp rfl) rfl rfl rfl rfl ?_
        refine m_218_ok hG h hR72 ?_
        intro v101 M96 μ97 h hR98 hl100
        have hl99 := y_le.tr hl73 hl100
        show ex_q fg rc (d + 2, (249, 111, [some (eR a0), some (eI (zI a1)), some (eI (zI a2)), some (eI (zI a3))], [eI (zI v101), eI (zI v95)]), f :: F, μ97)
        rcases z_if_t h with ⟨g102, h⟩ | ⟨g102, h⟩
        · refine v_eq_t (t1 := 120) rfl rfl g102 ?_
          refine w_s (np := 121) (lv' := [some (eR a0), some (eI (zI a1)), some (eI (zI a2)), some (eI (zI a3))]) (st' := [eI (zI a3)]) rfl rfl rfl ?_
          exact v_ri rfl rfl (hK _ _ _ h hR98 hl99)
        · refine v_eq_f (t1 := 120) rfl rfl g102 ?_
          exact m_249_114_ok hG hk p0 hK h2 _ M96 μ97 h hR98 hl99
      · refine v_ne_t (t1 := 114) rfl rfl g76 ?_
        exact m_249_114_ok hG hk p0 hK h2 _ M70 μ71 h hR72 hl73
    · refine v_ne_t (t1 := 114) rfl rfl g50 ?_
      exact m_249_114_ok hG hk p0 hK h2 _ M44 μ45 h hR46 hl47
  · refine v_ne_t (t1 := 114) rfl rfl g24 ?_
    exact m_249_114_ok hG hk p0 hK h2 _ M18 μ19 h hR20 hl21
theorem m_249_2_ok {fg : eG} {μz : eM} {rc : eQ} {d : Nat} {f : eFr} {F : List eFr} {μ0 : eM} {a0 a1 a2 : Nat} {K : Nat → yM → Bool} (hG : yG fg y_T) (hk : ev_kd μ0 a0 = some 11) (p0 : 0 < a0) (hK : ∀ (r : Nat) (M : yM) (μ : eM), K r M = true → xQ μz M μ → y_le μ0 μ → ex_q fg rc (d + 3, (f.1, f.2.1, f.2.2.1, eI (zI r) :: f.2.2.2), F, μ)) : ∀ n : Nat, ∀ (a3 : Nat) (M : yM) (μ : eM), m_249_2 a0 a1 a2 K n a3 M = true → xQ μz M μ → y_le μ0 μ → ex_q fg rc (d + 2, (249, 2, [some (eR a0), some (eI (zI a1)), some (eI (zI a2)), some (eI (zI a3))], []), f :: F, μ) := by
  intro n
  induction n with
  | zero =>
    intro a3 M μ h hR hl
    exact absurd h Bool.false_ne_true
  | succ n ih =>
    intro a3 M μ h hR hl
    exact m_249_2b_ok hG hk p0 hK ih a3 M μ h hR hl
noncomputable def m_249 (a0 a1 a2 : Nat) (M : yM) (K : Nat → yM → Bool) : Bool := m_249_2 a0 a1 a2 K 100000 0 M
theorem m_249_ok {fg : eG} {μz : eM} {rc : eQ} {d : Nat} {f : eFr} {F : List eFr} {M : yM} {μ0 : eM} {a0 a1 a2 : Nat} {K : Nat → yM → Bool} (hG : yG fg y_T) (h : m_249 a0 a1 a2 M K = true) (hR : xQ μz M μ0) (hk : ev_kd μ0 a0 = some 11) (p0 : 0 < a0) (hK : ∀ (r : Nat) (M : yM) (μ : eM), K r M = true → xQ μz M μ → y_le μ0 μ → ex_q fg rc (d + 3, (f.1, f.2.1, f.2.2.1, eI (zI r) :: f.2.2.2), F, μ)) : ex_q fg rc (d + 2, (249, 0, [some (eR a0), some (eI (zI a1)), some (eI (zI a2)), none], []), f :: F, μ0) := by
  unfold m_249 at h
  have hl := y_le_r μ0
  refine w_s (np := 1) (lv' := [some (eR a0), some (eI (zI a1)), some (eI (zI a2)), none]) (st' := [eI (zI 0)]) rfl rfl rfl ?_
  refine w_s (np := 2) (lv' := [some (eR a0), some (eI (zI a1)), some (eI (zI a2)), some (eI (zI 0))]) (st' := []) rfl rfl rfl ?_
  exact m_249_2_ok hG hk p0 hK 100000 _ M μ0 h hR hl
noncomputable def m_250_17 (a0 a1 a2 a3 a4 : Nat) (K : yM → Bool) (s0 : Nat) (M : yM) : Bool := y_gf M a0 11 30 fun v1 => f_if false (Nat.ble 1 v1) (y_sa 100 M v1 s0 a1 fun M6 => y_gf M6 a0 11 31 fun v11 => f_if false (Nat.ble 1 v11) (y_sa 100 M6 v11 s0 a2 fun M16 => K M16))
theorem m_250_17_ok {fg : eG} {μz : eM} {rc : eQ} {d : Nat} {f : eFr} {F : List eFr} {μ0 : eM} {a0 a1 a2 a3 a4 : Nat} {K : yM → Bool} (hG : yG fg y_T) (hk : ev_kd μ0 a0 = some 11) (p0 : 0 < a0) (hK : ∀ (M : yM) (μ : eM), K M = true → xQ μz M μ → y_le μ0 μ → ex_q fg rc (d + 2, (f.1, f.2.1, f.2.2.1, f.2.2.2), F, μ)) : ∀ (s0 : Nat) (M : yM) (μ : eM), m_250_17 a0 a1 a2 a3 a4 K s0 M = true → xQ μz M μ → y_le μ0 μ → ex_q fg rc (d + 1, (250, 17, [some (eR a0), some (eI (zI a1)), some (eI (zI a2)), some (eI (zI a3)), some (eI (zI a4)), none], [eI (zI s0)]), f :: F, μ) := by
  intro s0 M μ h hR hl
  unfold m_250_17 at h
  refine w_s (np := 19) (lv' := [some (eR a0), some (eI (zI a1)), some (eI (zI a2)), some (eI (zI a3)), some (eI (zI a4)), some (eI (zI s0))]) (st' := []) rfl rfl rfl ?_
  refine w_s (np := 20) (lv' := [some (eR a0), some (eI (zI a1)), some (eI (zI a2)), some (eI (zI a3)), some (eI (zI a4)), some (eI (zI s0))]) (st' := [eR a0]) rfl (s_an rfl p0) rfl ?_
  obtain ⟨v1, h, k2, e3⟩ := x_gf_ok (ty := 3) h hR (by decide) rfl
  obtain ⟨g4, h⟩ := f_if_ok h
  have q5 : 0 < v1 := Nat.ble_eq.mp g4
  refine v_gf3 (np := 23) rfl rfl k2 e3 ?_
  clear k2 e3
  refine w_s (np := 25) (lv' := [some (eR a0), some (eI (zI a1)), some (eI (zI a2)), some (eI (zI a3)), some (eI (zI a4)), some (eI (zI s0))]) (st' := [eI (zI s0), eR v1]) rfl rfl rfl ?_
  refine w_s (np := 26) (lv' := [some (eR a0), some (eI (zI a1)), some (eI (zI a2)), some (eI (zI a3)), some (eI (zI a4)), some (eI (zI s0))]) (st' := [eI (zI a1), eI (zI s0), eR v1]) rfl rfl rfl ?_
  obtain ⟨M6, μ7, h, k10, hR8, hl9⟩ := x_sa_ex (ty := 0) h hR hl rfl (by decide)
  refine v_sa (np := 27) rfl rfl k10 ?_
  clear k10
  refine w_s (np := 28) (lv' := [some (eR a0), some (eI (zI a1)), some (eI (zI a2)), some (eI (zI a3)), some (eI (zI a4)), some (eI (zI s0))]) (st' := [eR a0]) rfl (s_an rfl p0) rfl ?_
  obtain ⟨v11, h, k12, e13⟩ := x_gf_ok (ty := 3) h hR8 (by decide) rfl
  obtain ⟨g14, h⟩ := f_if_ok h
  have q15 : 0 < v11 := Nat.ble_eq.mp g14
  refine v_gf3 (np := 31) rfl rfl k12 e13 ?_
  clear k12 e13
  refine w_s (np := 33) (lv' := [some (eR a0), some (eI (zI a1)), some (eI (zI a2)), some (eI (zI a3)), some (eI (zI a4)), some (eI (zI s0))]) (st' := [eI (zI s0), eR v11]) rfl rfl rfl ?_
  refine w_s (np := 34) (lv' := [some (eR a0), some (eI (zI a1)), some (eI (zI a2)), some (eI (zI a3)), some (eI (zI a4)), some (eI (zI s0))]) (st' := [eI (zI a2), eI (zI s0), eR v11]) rfl rfl rfl ?_
  obtain ⟨M16, μ17, h, k20, hR18, hl19⟩ := x_sa_ex (ty := 0) h hR8 hl9 rfl (by decide)
  refine v_sa (np := 35) rfl rfl k20 ?_
  clear k20
  exact v_rv rfl rfl (hK _ _ h hR18 hl19)
noncomputable def m_250 (a0 a1 a2 a3 a4 : Nat) (M : yM) (K : yM → Bool) : Bool := z_l (z_sub a4 a3) fun v1 => m_217 v1 M fun v7 M2 => z_if (z_eq v7 a2) (m_250_17 a0 a1 a2 a3 a4 K a3 M2) (m_250_17 a0 a1 a2 a3 a4 K a4 M2)
theorem m_250_ok {fg : eG} {μz : eM} {rc : eQ} {d : Nat} {f : eFr} {F : List eFr} {M : yM} {μ0 : eM} {a0 a1 a2 a3 a4 : Nat} {K : yM → Bool} (hG : yG fg y_T) (h : m_250 a0 a1 a2 a3 a4 M K = true) (hR : xQ μz M μ0) (hk : ev_kd μ0 a0 = some 11) (p0 : 0 < a0) (hK : ∀ (M : yM) (μ : eM), K M = true → xQ μz M μ → y_le μ0 μ → ex_q fg rc (d + 2, (f.1, f.2.1, f.2.2.1, f.2.2.2), F, μ)) : ex_q fg rc (d + 1, (250, 0, [some (eR a0), some (eI (zI a1)), some (eI (zI a2)), some (eI (zI a3)), some (eI (zI a4)), none], []), f :: F, μ0) := by
  unfold m_250 at h
  have hl := y_le_r μ0
  refine w_s (np := 2) (lv' := [some (eR a0), some (eI (zI a1)), some (eI (zI a2)), some (eI (zI a3)), some (eI (zI a4)), none]) (st' := [eI (zI a4)]) rfl rfl rfl ?_
  refine w_s (np := 3) (lv' := [some (eR a0), some (eI (zI a1)), some (eI (zI a2)), some (eI (zI a3)), some (eI (zI a4)), none]) (st' := [eI (zI a3), eI (zI a4)]) rfl rfl rfl ?_
  obtain ⟨v1, ev1, h⟩ := z_l_ex h
  refine w_s (np := 4) (lv' := [some (eR a0), some (eI (zI a1)), some (eI (zI a2)), some (eI (zI a3)), some (eI (zI a4)), none]) (st' := [eI (zI v1)]) rfl (s_isub ev1) rfl ?_
  clear ev1
  refine w_cs (np := 7) (as := [eI (zI v1)]) (lv' := [some (eI (zI v1))]) (rest := []) rfl rfl rfl (Nat.ble_eq.mp rfl) rfl rfl rfl rfl ?_
  refine m_217_ok hG h hR ?_
  intro v7 M2 μ3 h hR4 hl6
  have hl5 := y_le.tr hl hl6
  show ex_q fg rc (d + 1, (250, 7, [some (eR a0), some (eI (zI a1)), some (eI (zI a2)), some (eI (zI a3)), some (eI (zI a4)), none], [eI (zI v7)]), f :: F, μ3)
  refine w_s (np := 8) (lv' := [some (eR a0), some (eI (zI a1)), some (eI (zI a2)), some (eI (zI a3)), some (eI (zI a4)), none]) (st' := [eI (zI a2), eI (zI v7)]) rfl rfl rfl ?_
  rcases z_if_t h with ⟨g8, h⟩ | ⟨g8, h⟩
  · refine v_ne_f (t1 := 15) rfl rfl g8 ?_
    refine w_s (np := 12) (lv' := [some (eR a0), some (eI (zI a1)), some (eI (zI a2)), some (eI (zI a3)), some (eI (zI a4)), none]) (st' := [eI (zI a3)]) rfl rfl rfl ?_
    refine w_go (t1 := 17) rfl rfl ?_
    exact m_250_17_ok hG hk p0 hK _ M2 μ3 h hR4 hl5
  · refine v_ne_t (t1 := 15) rfl rfl g8 ?_
    refine w_s (np := 17) (lv' := [some (eR a0), some (eI (zI a1)), some (eI (zI a2)), some (eI (zI a3)), some (eI (zI a4)), none]) (st' := [eI (zI a4)]) rfl rfl rfl ?_
    exact m_250_17_ok hG hk p0 hK _ M2 μ3 h hR4 hl5
noncomputable def m_251_184 (a0 a1 : Nat) (K : Nat → yM → Bool) (i23 : Nat → yM → Bool) (a2 : Nat) (M : yM) : Bool := z_l (z_add a2 1) fun v1 => z_f v1 fun w2 => i23 w2 M
theorem m_251_184_ok {fg : eG} {μz : eM} {rc : eQ} {d : Nat} {f : eFr} {F : List eFr} {μ0 : eM} {a0 a1 : Nat} {K : Nat → yM → Bool} {i23 : Nat → yM → Bool} (hG : yG fg y_T) (hk : ev_kd μ0 a0 = some 11) (p0 : 0 < a0) (hK : ∀ (r : Nat) (M : yM) (μ : eM), K r M = true → xQ μz M μ → y_le μ0 μ → ex_q fg rc (d + 4, (f.1, f.2.1, f.2.2.1, eI (zI r) :: f.2.2.2), F, μ)) (h23 : ∀ (a2 : Nat) (x3 : Option eV) (M : yM) (μ : eM), i23 a2 M = true → xQ μz M μ → y_le μ0 μ → ex_q fg rc (d + 3, (251, 23, [some (eR a0), some (eI (zI a1)), some (eI (zI a2)), x3], []), f :: F, μ)) : ∀ (a2 : Nat) (x3 : Option eV) (M : yM) (μ : eM), m_251_184 a0 a1 K i23 a2 M = true → xQ μz M μ → y_le μ0 μ → ex_q fg rc (d + 3, (251, 184, [some (eR a0), some (eI (zI a1)), some (eI (zI a2)), x3], []), f :: F, μ) := by
  intro a2 x3 M μ h hR hl
  unfold m_251_184 at h
  obtain ⟨v1, ev1, h⟩ := z_l_ex h
  refine w_s (np := 187) (lv' := [some (eR a0), some (eI (zI a1)), some (eI (zI v1)), x3]) (st' := []) rfl (s_iinc (b := 1) rfl rfl ev1 rfl) rfl ?_
  clear ev1
  refine w_go (t1 := 23) rfl rfl ?_
  obtain ⟨w2, ew2, h⟩ := z_f_ex h
  subst ew2
  exact h23 _ _ M μ h hR hl
noncomputable def m_251_148 (a0 a1 : Nat) (K : Nat → yM → Bool) (i23 : Nat → yM → Bool) (a2 a3 s0 s1 s2 : Nat) (M : yM) : Bool := z_l (z_add s1 s0) fun v1 => m_248 a3 1 M fun v7 M2 => m_238 a0 a2 0 M2 fun v13 M8 => m_249 a0 a1 v13 M8 fun v19 M14 => y_gf M14 a0 11 25 fun v20 => f_if false (Nat.ble 1 v20) (y_lh 100 M14 v20 a2 fun v25 => m_238 a0 v25 0 M14 fun v32 M27 => m_249 a0 a1 v32 M27 fun v38 M33 => y_is M33 s2 11 (m_250 s2 v1 v7 v19 v38 M33 fun M39 => m_251_184 a0 a1 K i23 a2 M39))
theorem m_251_148_ok {fg : eG} {μz : eM} {rc : eQ} {d : Nat} {f : eFr} {F : List eFr} {μ0 : eM} {a0 a1 : Nat} {K : Nat → yM → Bool} {i23 : Nat → yM → Bool} (hG : yG fg y_T) (hk : ev_kd μ0 a0 = some 11) (p0 : 0 < a0) (hK : ∀ (r : Nat) (M : yM) (μ : eM), K r M = true → xQ μz M μ → y_le μ0 μ → ex_q fg rc (d + 4, (f.1, f.2.1, f.2.2.1, eI (zI r) :: f.2.2.2), F, μ)) (h23 : ∀ (a2 : Nat) (x3 : Option eV) (M : yM) (μ : eM), i23 a2 M = true → xQ μz M μ → y_le μ0 μ → ex_q fg rc (d + 3, (251, 23, [some (eR a0), some (eI (zI a1)), some (eI (zI a2)), x3], []), f :: F, μ)) : ∀ (a2 a3 s0 s1 s2 : Nat) (M : yM) (μ : eM), m_251_148 a0 a1 K i23 a2 a3 s0 s1 s2 M = true → xQ μz M μ → y_le μ0 μ → 0 < s2 → ex_q fg rc (d + 3, (251, 148, [some (eR a0), some (eI (zI a1)), some (eI (zI a2)), some (eI (zI a3))], [eI (zI s0), eI (zI s1), eR s2]), f :: F, μ) := by
  intro a2 a3 s0 s1 s2 M μ h hR hl q2
  unfold m_251_148 at h
  obtain ⟨v1, ev1, h⟩ := z_l_ex h
  refine w_s (np := 149) (lv' := [some (eR a0), some (eI (zI a1)), some (eI (zI a2)), some (eI (zI a3))]) (st' := [eI (zI v1), eR s2]) rfl (s_iadd ev1) rfl ?_
  clear ev1
  refine w_s (np := 150) (lv' := [some (eR a0), some (eI (zI a1)), some (eI (zI a2)), some (eI (zI a3))]) (st' := [eI (zI a3), eI (zI v1), eR s2]) rfl rfl rfl ?_
  refine w_s (np := 151) (lv' := [some (eR a0), some (eI (zI a1)), some (eI (zI a2)), some (eI (zI a3))]) (st' := [eI (zI 1), eI (zI a3), eI (zI v1), eR s2]) rfl rfl rfl ?_
  refine w_cs (np := 154) (as := [eI (zI a3), eI (zI 1)]) (lv' := [some (eI (zI a3)), some (eI (zI 1))]) (rest := [eI (zI v1), eR s2]) rfl rfl rfl (Nat.ble_eq.mp rfl) rfl rfl rfl rfl ?_
  refine m_248_ok hG h hR ?_
  intro v7 M2 μ3 h hR4 hl6
  have hl5 := y_le.tr hl hl6
  show ex_q fg rc (d + 3, (251, 154, [some (eR a0), some (eI (zI a1)), some (eI (zI a2)), some (eI (zI a3))], [eI (zI v7), eI (zI v1), eR s2]), f :: F, μ3)
  refine w_s (np := 155) (lv' := [some (eR a0), some (eI (zI a1)), some (eI (zI a2)), some (eI (zI a3))]) (st' := [eR a0, eI (zI v7), eI (zI v1), eR s2]) rfl (s_an rfl p0) rfl ?_
  refine w_s (np := 156) (lv' := [some (eR a0), some (eI (zI a1)), some (eI (zI a2)), some (eI (zI a3))]) (st' := [eI (zI a1), eR a0, eI (zI v7), eI (zI v1), eR s2]) rfl rfl rfl ?_
  refine w_s (np := 157) (lv' := [some (eR a0), some (eI (zI a1)), some (eI (zI a2)), some (eI (zI a3))]) (st' := [eR a0, eI (zI a1), eR a0, eI (zI v7), eI (zI v1), eR s2]) rfl (s_an rfl p0) rfl ?_
  refine w_s (np := 158) (lv' := [some (eR a0), some (eI (zI a1)), some (eI (zI a2)), some (eI (zI a3))]) (st' := [eI (zI a2), eR a0, eI (zI a1), eR a0, eI (zI v7), eI (zI v1), eR s2]) rfl rfl rfl ?_
  refine w_s (np := 159) (lv' := [some (eR a0), some (eI (zI a1)), some (eI (zI a2)), some (eI (zI a3))]) (st' := [eI (zI 0), eI (zI a2), eR a0, eI (zI a1), eR a0, eI (zI v7), eI (zI v1), eR s2]) rfl rfl rfl ?_
  refine w_cv (np := 162) (as := [eI (zI a2), eI (zI 0)]) (lv' := [some (eR a0), some (eI (zI a2)), some (eI (zI 0))]) (rest := [eI (zI a1), eR a0, eI (zI v7), eI (zI v1), eR s2]) rfl rfl rfl (Nat.ble_eq.mp rfl) rfl rfl rfl (hl5 _ _ hk) rfl ?_
  refine m_238_ok hG h hR4 (hl5 _ _ hk) p0 ?_
  intro v13 M8 μ9 h hR10 hl12
  have hl11 := y_le.tr hl5 hl12
  show ex_q fg rc (d + 3, (251, 162, [some (eR a0), some (eI (zI a1)), some (eI (zI a2)), some (eI (zI a3))], [eI (zI v13), eI (zI a1), eR a0, eI (zI v7), eI (zI v1), eR s2]), f :: F, μ9)
  refine w_cv (np := 165) (as := [eI (zI a1), eI (zI v13)]) (lv' := [some (eR a0), some (eI (zI a1)), some (eI (zI v13)), none]) (rest := [eI (zI v7), eI (zI v1), eR s2]) rfl rfl rfl (Nat.ble_eq.mp rfl) rfl rfl rfl (hl11 _ _ hk) rfl ?_
  refine m_249_ok hG h hR10 (hl11 _ _ hk) p0 ?_
  intro v19 M14 μ15 h hR16 hl18
  have hl17 := y_le.tr hl11 hl18
  show ex_q fg rc (d + 3, (251, 165, [some (eR a0), some (eI (zI a1)), some (eI (zI a2)), some (eI (zI a3))], [eI (zI v19), eI (zI v7), eI (zI v1), eR s2]), f :: F, μ15)
  refine w_s (np := 166) (lv' := [some (eR a0), some (eI (zI a1)), some (eI (zI a2)), some (eI (zI a3))]) (st' := [eR a0, eI (zI v19), eI (zI v7), eI (zI v1), eR s2]) rfl (s_an rfl p0) rfl ?_
  refine w_s (np := 167) (lv' := [some (eR a0), some (eI (zI a1)), some (eI (zI a2)), some (eI (zI a3))]) (st' := [eI (zI a1), eR a0, eI (zI v19), eI (zI v7), eI (zI v1), eR s2]) rfl rfl rfl ?_
  refine w_s (np := 168) (lv' := [some (eR a0), some (eI (zI a1)), some (eI (zI a2)), some (eI (zI a3))]) (st' := [eR a0, eI (zI a1), eR a0, eI (zI v19), eI (zI v7), eI (zI v1), eR s2]) rfl (s_an rfl p0) rfl ?_
  refine w_s (np := 169) (lv' := [some (eR a0), some (eI (zI a1)), some (eI (zI a2)), some (eI (zI a3))]) (st' := [eR a0, eR a0, eI (zI a1), eR a0, eI (zI v19), eI (zI v7), eI (zI v1), eR s2]) rfl (s_an rfl p0) rfl ?_
  obtain ⟨v20, h, k21, e22⟩ := x_gf_ok (ty := 3) h hR16 (by decide) rfl
  obtain ⟨g23, h⟩ := f_if_ok h
  have q24 : 0 < v20 := Nat.ble_eq.mp g23
  refine v_gf3 (np := 172) rfl rfl k21 e22 ?_
  clear k21 e22
  refine w_s (np := 173) (lv' := [some (eR a0), some (eI (zI a1)), some (eI (zI a2)), some (eI (zI a3))]) (st' := [eI (zI a2), eR v20, eR a0, eI (zI a1), eR a0, eI (zI v19), eI (zI v7), eI (zI v1), eR s2]) rfl rfl rfl ?_
  obtain ⟨v25, h, k26⟩ := x_lh_ok (ty := 0) h hR16 hG (by decide) rfl (by decide)
  refine v_la (np := 174) rfl rfl k26 ?_
  clear k26
  refine w_s (np := 175) (lv' := [some (eR a0), some (eI (zI a1)), some (eI (zI a2)), some (eI (zI a3))]) (st' := [eI (zI 0), eI (zI v25), eR a0, eI (zI a1), eR a0, eI (zI v19), eI (zI v7), eI (zI v1), eR s2]) rfl rfl rfl ?_
  refine w_cv (np := 178) (as := [eI (zI v25), eI (zI 0)]) (lv' := [some (eR a0), some (eI (zI v25)), some (eI (zI 0))]) (rest := [eI (zI a1), eR a0, eI (zI v19), eI (zI v7), eI (zI v1), eR s2]) rfl rfl rfl (Nat.ble_eq.mp rfl) rfl rfl rfl (hl17 _ _ hk) rfl ?_
  refine m_238_ok hG h hR16 (hl17 _ _ hk) p0 ?_
  intro v32 M27 μ28 h hR29 hl31
  have hl30 := y_le.tr hl17 hl31
  show ex_q fg rc (d + 3, (251, 178, [some (eR a0), some (eI (zI a1)), some (eI (zI a2)), some (eI (zI a3))], [eI (zI v32), eI (zI a1), eR a0, eI (zI v19), eI (zI v7), eI (zI v1), eR s2]), f :: F, μ28)
  refine w_cv (np := 181) (as := [eI (zI a1), eI (zI v32)]) (lv' := [some (eR a0), some (eI (zI a1)), some (eI (zI v32)), none]) (rest := [eI (zI v19), eI (zI v7), eI (zI v1), eR s2]) rfl rfl rfl (Nat.ble_eq.mp rfl) rfl rfl rfl (hl30 _ _ hk) rfl ?_
  refine m_249_ok hG h hR29 (hl30 _ _ hk) p0 ?_
  intro v38 M33 μ34 h hR35 hl37
  have hl36 := y_le.tr hl30 hl37
  show ex_q fg rc (d + 3, (251, 181, [some (eR a0), some (eI (zI a1)), some (eI (zI a2)), some (eI (zI a3))], [eI (zI v38), eI (zI v19), eI (zI v7), eI (zI v1), eR s2]), f :: F, μ34)
  obtain ⟨k44, h⟩ := x_is_ok h hR35
  refine w_cv (np := 184) (as := [eI (zI v1), eI (zI v7), eI (zI v19), eI (zI v38)]) (lv' := [some (eR s2), some (eI (zI v1)), some (eI (zI v7)), some (eI (zI v19)), some (eI (zI v38)), none]) (rest := []) rfl rfl rfl (Nat.ble_eq.mp rfl) rfl rfl rfl k44 rfl ?_
  refine m_250_ok hG h hR35 k44 q2 ?_
  intro M39 μ40 h hR41 hl43
  have hl42 := y_le.tr hl36 hl43
  show ex_q fg rc (d + 3, (251, 184, [some (eR a0), some (eI (zI a1)), some (eI (zI a2)), some (eI (zI a3))], []), f :: F, μ40)
  exact m_251_184_ok hG hk p0 hK h23 _ _ M39 μ40 h hR41 hl42
noncomputable def m_251_64 (a0 a1 : Nat) (K : Nat → yM → Bool) (i23 : Nat → yM → Bool) (a2 : Nat) (M : yM) : Bool := y_gf M a0 11 25 fun v1 => f_if false (Nat.ble 1 v1) (y_lh 100 M v1 a2 fun v6 => z_if (z_l0 v6) (f_if false (Nat.ble 0 1) (K 0 M)) (y_gf M a0 11 12 fun v9 => f_if false (Nat.ble 1 v9) (y_lh 100 M v9 a2 fun v14 => m_238 a0 a2 0 M fun v21 M16 => z_if (z_eq v21 a1) (z_l (z_mul 3 v14) fun v31 => m_248 v14 0 M16 fun v37 M32 => m_238 a0 a2 1 M32 fun v43 M38 => m_249 a0 a1 v43 M38 fun v49 M44 => m_238 a0 a2 2 M44 fun v55 M50 => m_249 a0 a1 v55 M50 fun v61 M56 => m_250 a0 v31 v37 v49 v61 M56 fun M62 => m_251_184 a0 a1 K i23 a2 M62) (z_l (z_mul 3 v14) fun v23 => m_238 a0 a2 1 M16 fun v29 M24 => z_if (z_eq v29 a1) (m_251_148 a0 a1 K i23 a2 v14 1 v23 a0 M24) (m_251_148 a0 a1 K i23 a2 v14 2 v23 a0 M24)))))
theorem m_251_64_ok {fg : eG} {μz : eM} {rc : eQ} {d : Nat} {f : eFr} {F : List eFr} {μ0 : eM} {a0 a1 : Nat} {K : Nat → yM → Bool} {i23 : Nat → yM → Bool} (hG : yG fg y_T) (hk : ev_kd μ0 a0 = some 11) (p0 : 0 < a0) (hK : ∀ (r : Nat) (M : yM) (μ : eM), K r M = true → xQ μz M μ → y_le μ0 μ → ex_q fg rc (d + 4, (f.1, f.2.1, f.2.2.1, eI (zI r) :: f.2.2.2), F, μ)) (h23 : ∀ (a2 : Nat) (x3 : Option eV) (M : yM) (μ : eM), i23 a2 M = true → xQ μz M μ → y_le μ0 μ → ex_q fg rc (d + 3, (251, 23, [some (eR a0), some (eI (zI a1)), some (eI (zI a2)), x3], []), f :: F, μ)) : ∀ (a2 : Nat) (x3 : Option eV) (M : yM) (μ : eM), m_251_64 a0 a1 K i23 a2 M = true → xQ μz M μ → y_le μ0 μ → ex_q fg rc (d + 3, (251, 64, [some (eR a0), some (eI (zI a1)), some (eI (zI a2)), x3], []), f :: F, μ) := by
  intro a2 x3 M μ h hR hl
  unfold m_251_64 at h
  refine w_s (np := 65) (lv' := [some (eR a0), some (eI (zI a1)), some (eI (zI a2)), x3]) (st' := [eR a0]) rfl (s_an rfl p0) rfl ?_
  obtain ⟨v1, h, k2, e3⟩ := x_gf_ok (ty := 3) h hR (by decide) rfl
  obtain ⟨g4, h⟩ := f_if_ok h
  have q5 : 0 < v1 := Nat.ble_eq.mp g4
  refine v_gf3 (np := 68) rfl rfl k2 e3 ?_
  clear k2 e3
  refine w_s (np := 69) (lv' := [some (eR a0), some (eI (zI a1)), some (eI (zI a2)), x3]) (st' := [eI (zI a2), eR v1]) rfl rfl rfl ?_
  obtain ⟨v6, h, k7⟩ := x_lh_ok (ty := 0) h hR hG (by decide) rfl (by decide)
  refine v_la (np := 70) rfl rfl k7 ?_
  clear k7
  rcases z_if_t h with ⟨g8, h⟩ | ⟨g8, h⟩
  · refine v_ge0_f (t1 := 75) rfl rfl g8 ?_
    refine w_s (np := 74) (lv' := [some (eR a0), some (eI (zI a1)), some (eI (zI a2)), x3]) (st' := [eI (zI 0)]) rfl rfl rfl ?_
    obtain ⟨g67, h⟩ := f_if_ok h
    exact v_rz rfl rfl g67 (hK _ _ _ h hR hl)
  · refine v_ge0_t (t1 := 75) rfl rfl g8 ?_
    refine w_s (np := 76) (lv' := [some (eR a0), some (eI (zI a1)), some (eI (zI a2)), x3]) (st' := [eR a0]) rfl (s_an rfl p0) rfl ?_
    obtain ⟨v9, h, k10, e11⟩ := x_gf_ok (ty := 3) h hR (by decide) rfl
    obtain ⟨g12, h⟩ := f_if_ok h
    have q13 : 0 < v9 := Nat.ble_eq.mp g12
    refine v_gf3 (np := 79) rfl rfl k10 e11 ?_
    clear k10 e11
    refine w_s (np := 80) (lv' := [some (eR a0), some (eI (zI a1)), some (eI (zI a2)), x3]) (st' := [eI (zI a2), eR v9]) rfl rfl rfl ?_
    obtain ⟨v14, h, k15⟩ := x_lh_ok (ty := 0) h hR hG (by decide) rfl (by decide)
    refine v_la (np := 81) rfl rfl k15 ?_
    clear k15
    refine w_s (np := 82) (lv' := [some (eR a0), some (eI (zI a1)), some (eI (zI a2)), some (eI (zI v14))]) (st' := []) rfl rfl rfl ?_
    refine w_s (np := 83) (lv' := [some (eR a0), some (eI (zI a1)), some (eI (zI a2)), some (eI (zI v14))]) (st' := [eR a0]) rfl (s_an rfl p0) rfl ?_
    refine w_s (np := 84) (lv' := [some (eR a0), some (eI (zI a1)), some (eI (zI a2)), some (eI (zI v14))]) (st' := [eI (zI a2), eR a0]) rfl rfl rfl ?_
    refine w_s (np := 85) (lv' := [some (eR a0), some (eI (zI a1)), some (eI (zI a2)), some (eI (zI v14))]) (st' := [eI (zI 0), eI (zI a2), eR a0]) rfl rfl rfl ?_
    refine w_cv (np := 88) (as := [eI (zI a2), eI (zI 0)]) (lv' := [some (eR a0), some (eI (zI a2)), some (eI (zI 0))]) (rest := []) rfl rfl rfl (Nat.ble_eq.mp rfl) rfl rfl rfl (hl _ _ hk) rfl ?_
    refine m_238_ok hG h hR (hl _ _ hk) p0 ?_
    intro v21 M16 μ17 h hR18 hl20
    have hl19 := y_le.tr hl hl20
    show ex_q fg rc (d + 3, (251, 88, [some (eR a0), some (eI (zI a1)), some (eI (zI a2)), some (eI (zI v14))], [eI (zI v21)]), f :: F, μ17)
    refine w_s (np := 89) (lv' := [some (eR a0), some (eI (zI a1)), some (eI (zI a2)), some (eI (zI v14))]) (st' := [eI (zI a1), eI (zI v21)]) rfl rfl rfl ?_
    rcases z_if_t h with ⟨g22, h⟩ | ⟨g22, h⟩
    · refine v_ne_f (t1 := 129) rfl rfl g22 ?_
      refine w_s (np := 93) (lv' := [some (eR a0), some (eI (zI a1)), some (eI (zI a2)), some (eI (zI v14))]) (st' := [eR a0]) rfl (s_an rfl p0) rfl ?_
      refine w_s (np := 94) (lv' := [some (eR a0), some (eI (zI a1)), some (eI (zI a2)), some (eI (zI v14))]) (st' := [eI (zI 3), eR a0]) rfl rfl rfl ?_
      refine w_s (np := 95) (lv' := [some (eR a0), some (eI (zI a1)), some (eI (zI a2)), some (eI (zI v14))]) (st' := [eI (zI v14), eI (zI 3), eR a0]) rfl rfl rfl ?_
      obtain ⟨v31, ev31, h⟩ := z_l_ex h
      refine w_s (np := 96) (lv' := [some (eR a0), some (eI (zI a1)), some (eI (zI a2)), some (eI (zI v14))]) (st' := [eI (zI v31), eR a0]) rfl (s_imul ev31) rfl ?_
      clear ev31
      refine w_s (np := 97) (lv' := [some (eR a0), some (eI (zI a1)), some (eI (zI a2)), some (eI (zI v14))]) (st' := [eI (zI v14), eI (zI v31), eR a0]) rfl rfl rfl ?_
      refine w_s (np := 98) (lv' := [some (eR a0), some (eI (zI a1)), some (eI (zI a2)), some (eI (zI v14))]) (st' := [eI (zI 0), eI (zI v14), eI (zI v31), eR a0]) rfl rfl rfl ?_
      refine w_cs (np := 101) (as := [eI (zI v14), eI (zI 0)]) (lv' := [some (eI (zI v14)), some (eI (zI 0))]) (rest := [eI (zI v31), eR a0]) rfl rfl rfl (Nat.ble_eq.mp rfl) rfl rfl rfl rfl ?_
      refine m_248_ok hG h hR18 ?_
      intro v37 M32 μ33 h hR34 hl36
      have hl35 := y_le.tr hl19 hl36
      show ex_q fg rc (d + 3, (251, 101, [some (eR a0), some (eI (zI a1)), some (eI (zI a2)), some (eI (zI v14))], [eI (zI v37), eI (zI v31), eR a0]), f :: F, μ33)
      refine w_s (np := 102) (lv' := [some (eR a0), some (eI (zI a1)), some (eI (zI a2)), some (eI (zI v14))]) (st' := [eR a0, eI (zI v37), eI (zI v31), eR a0]) rfl (s_an rfl p0) rfl ?_
      refine w_s (np := 103) (lv' := [some (eR a0), some (eI (zI a1)), some (eI (zI a2)), some (eI (zI v14))]) (st' := [eI (zI a1), eR a0, eI (zI v37), eI (zI v31), eR a0]) rfl rfl rfl ?_
      refine w_s (np := 104) (lv' := [some (eR a0), some (eI (zI a1)), some (eI (zI a2)), some (eI (zI v14))]) (st' := [eR a0, eI (zI a1), eR a0, eI (zI v37), eI (zI v31), eR a0]) rfl (s_an rfl p0) rfl ?_
      refine w_s (np := 105) (lv' := [some (eR a0), some (eI (zI a1)), some (eI (zI a2)), some (eI (zI v14))]) (st' := [eI (zI a2), eR a0, eI (zI a1), eR a0, eI (zI v37), eI (zI v31), eR a0]) rfl rfl rfl ?_
      refine w_s (np := 106) (lv' := [some (eR a0), some (eI (zI a1)), some (eI (zI a2)), some (eI (zI v14))]) (st' := [eI (zI 1), eI (zI a2), eR a0, eI (zI a1), eR a0, eI (zI v37), eI (zI v31), eR a0]) rfl rfl rfl ?_
      refine w_cv (np := 109) (as := [eI (zI a2), eI (zI 1)]) (lv' := [some (eR a0), some (eI (zI a2)), some (eI (zI 1))]) (rest := [eI (zI a1), eR a0, eI (zI v37), eI (zI v31), eR a0]) rfl rfl rfl (Nat.ble_eq.mp rfl) rfl rfl rfl (hl35 _ _ hk) rfl ?_
      refine m_238_ok hG h hR34 (hl35 _ _ hk) p0 ?_
      intro v43 M38 μ39 h hR40 hl42
      have hl41 := y_le.tr hl35 hl42
      show ex_q fg rc (d + 3, (251, 109, [some (eR a0), some (eI (zI a1)), some (eI (zI a2)), some (eI (zI v14))], [eI (zI v43), eI (zI a1), eR a0, eI (zI v37), eI (zI v31), eR a0]), f :: F, μ39)
      refine w_cv (np := 112) (as := [eI (zI a1), eI (zI v43)]) (lv' := [some (eR a0), some (eI (zI a1)), some (eI (zI v43)), none]) (rest := [eI (zI v37), eI (zI v31), eR a0]) rfl rfl rfl (Nat.ble_eq.mp rfl) rfl rfl rfl (hl41 _ _ hk) rfl ?_
      refine m_249_ok hG h hR40 (hl41 _ _ hk) p0 ?_
      intro v49 M44 μ45 h hR46 hl48
      have hl47 := y_le.tr hl41 hl48
      show ex_q fg rc (d + 3, (251, 112, [some (eR a0), some (eI (zI a1)), some (eI (zI a2)), some (eI (zI v14))], [eI (zI v49), eI (zI v37), eI (zI v31), eR a0]), f :: F, μ45)
      refine w_s (np := 113) (lv' := [some (eR a0), some (eI (zI a1)), some (eI (zI a2)), some (eI (zI v14))]) (st' := [eR a0, eI (zI v49), eI (zI v37), eI (zI v31), eR a0]) rfl (s_an rfl p0) rfl ?_
      refine w_s (np := 114) (lv' := [some (eR a0), some (eI (zI a1)), some (eI (zI a2)), some (eI (zI v14))]) (st' := [eI (zI a1), eR a0, eI (zI v49), eI (zI v37), eI (zI v31), eR a0]) rfl rfl rfl ?_
      refine w_s (np := 115) (lv' := [some (eR a0), some (eI (zI a1)), some (eI (zI a2)), some (eI (zI v14))]) (st' := [eR a0, eI (zI a1), eR a0, eI (zI v49), eI (zI v37), eI (zI v31), eR a0]) rfl (s_an rfl p0) rfl ?_
      refine w_s (np := 116) (lv' := [some (eR a0), some (eI (zI a1)), some (eI (zI a2)), some (eI (zI v14))]) (st' := [eI (zI a2), eR a0, eI (zI a1), eR a0, eI (zI v49), eI (zI v37), eI (zI v31), eR a0]) rfl rfl rfl ?_
      refine w_s (np := 117) (lv' := [some (eR a0), some (eI (zI a1)), some (eI (zI a2)), some (eI (zI v14))]) (st' := [eI (zI 2), eI (zI a2), eR a0, eI (zI a1), eR a0, eI (zI v49), eI (zI v37), eI (zI v31), eR a0]) rfl rfl rfl ?_
      refine w_cv (np := 120) (as := [eI (zI a2), eI (zI 2)]) (lv' := [some (eR a0), some (eI (zI a2)), some (eI (zI 2))]) (rest := [eI (zI a1), eR a0, eI (zI v49), eI (zI v37), eI (zI v31), eR a0]) rfl rfl rfl (Nat.ble_eq.mp rfl) rfl rfl rfl (hl47 _ _ hk) rfl ?_
      refine m_238_ok hG h hR46 (hl47 _ _ hk) p0 ?_
      intro v55 M50 μ51 h hR52 hl54
      have hl53 := y_le.tr hl47 hl54
      show ex_q fg rc (d + 3, (251, 120, [some (eR a0), some (eI (zI a1)), some (eI (zI a2)), some (eI (zI v14))], [eI (zI v55), eI (zI a1), eR a0, eI (zI v49), eI (zI v37), eI (zI v31), eR a0]), f :: F, μ51)
      refine w_cv (np := 123) (as := [eI (zI a1), eI (zI v55)]) (lv' := [some (eR a0), some (eI (zI a1)), some (eI (zI v55)), none]) (rest := [eI (zI v49), eI (zI v37), eI (zI v31), eR a0]) rfl rfl rfl (Nat.ble_eq.mp rfl) rfl rfl rfl (hl53 _ _ hk) rfl ?_
      refine m_249_ok hG h hR52 (hl53 _ _ hk) p0 ?_
      intro v61 M56 μ57 h hR58 hl60
      have hl59 := y_le.tr hl53 hl60
      show ex_q fg rc (d + 3, (251, 123, [some (eR a0), some (eI (zI a1)), some (eI (zI a2)), some (eI (zI v14))], [eI (zI v61), eI (zI v49), eI (zI v37), eI (zI v31), eR a0]), f :: F, μ57)
      refine w_cv (np := 126) (as := [eI (zI v31), eI (zI v37), eI (zI v49), eI (zI v61)]) (lv' := [some (eR a0), some (eI (zI v31)), some (eI (zI v37)), some (eI (zI v49)), some (eI (zI v61)), none]) (rest := []) rfl rfl rfl (Nat.ble_eq.mp rfl) rfl rfl rfl (hl59 _ _ hk) rfl ?_
      refine m_250_ok hG h hR58 (hl59 _ _ hk) p0 ?_
      intro M62 μ63 h hR64 hl66
      have hl65 := y_le.tr hl59 hl66
      show ex_q fg rc (d + 3, (251, 126, [some (eR a0), some (eI (zI a1)), some (eI (zI a2)), some (eI (zI v14))], []), f :: F, μ63)
      refine w_go (t1 := 184) rfl rfl ?_
      exact m_251_184_ok hG hk p0 hK h23 _ _ M62 μ63 h hR64 hl65
    · refine v_ne_t (t1 := 129) rfl rfl g22 ?_
      refine w_s (np := 130) (lv' := [some (eR a0), some (eI (zI a1)), some (eI (zI a2)), some (eI (zI v14))]) (st' := [eR a0]) rfl (s_an rfl p0) rfl ?_
      refine w_s (np := 131) (lv' := [some (eR a0), some (eI (zI a1)), some (eI (zI a2)), some (eI (zI v14))]) (st' := [eI (zI 3), eR a0]) rfl rfl rfl ?_
      refine w_s (np := 132) (lv' := [some (eR a0), some (eI (zI a1)), some (eI (zI a2)), some (eI (zI v14))]) (st' := [eI (zI v14), eI (zI 3), eR a0]) rfl rfl rfl ?_
      obtain ⟨v23, ev23, h⟩ := z_l_ex h
      refine w_s (np := 133) (lv' := [some (eR a0), some (eI (zI a1)), some (eI (zI a2)), some (eI (zI v14))]) (st' := [eI (zI v23), eR a0]) rfl (s_imul ev23) rfl ?_
      clear ev23
      refine w_s (np := 134) (lv' := [some (eR a0), some (eI (zI a1)), some (eI (zI a2)), some (eI (zI v14))]) (st' := [eR a0, eI (zI v23), eR a0]) rfl (s_an rfl p0) rfl ?_
      refine w_s (np := 135) (lv' := [some (eR a0), some (eI (zI a1)), some (eI (zI a2)), some (eI (zI v14))]) (st' := [eI (zI a2), eR a0, eI (zI v23), eR a0]) rfl rfl rfl ?_
      refine w_s (np := 136) (lv' := [some (eR a0), some (eI (zI a1)), some (eI (zI a2)), some (eI (zI v14))]) (st' := [eI (zI 1), eI (zI a2), eR a0, eI (zI v23), eR a0]) rfl rfl rfl ?_
      refine w_cv (np := 139) (as := [eI (zI a2), eI (zI 1)]) (lv' := [some (eR a0), some (eI (zI a2)), some (eI (zI 1))]) (rest := [eI (zI v23), eR a0]) rfl rfl rfl (Nat.ble_eq.mp rfl) rfl rfl rfl (hl19 _ _ hk) rfl ?_
      refine m_238_ok hG h hR18 (hl19 _ _ hk) p0 ?_
      intro v29 M24 μ25 h hR26 hl28
      have hl27 := y_le.tr hl19 hl28
      show ex_q fg rc (d + 3, (251, 139, [some (eR a0), some (eI (zI a1)), some (eI (zI a2)), some (eI (zI v14))], [eI (zI v29), eI (zI v23), eR a0]), f :: F, μ25)
      refine w_s (np := 140) (lv' := [some (eR a0), some (eI (zI a1)), some (eI (zI a2)), some (eI (zI v14))]) (st' := [eI (zI a1), eI (zI v29), eI (zI v23), eR a0]) rfl rfl rfl ?_
      rcases z_if_t h with ⟨g30, h⟩ | ⟨g30, h⟩
      · refine v_ne_f (t1 := 147) rfl rfl g30 ?_
        refine w_s (np := 144) (lv' := [some (eR a0), some (eI (zI a1)), some (eI (zI a2)), some (eI (zI v14))]) (st' := [eI (zI 1), eI (zI v23), eR a0]) rfl rfl rfl ?_
        refine w_go (t1 := 148) rfl rfl ?_
        exact m_251_148_ok hG hk p0 hK h23 _ _ _ _ _ M24 μ25 h hR26 hl27 p0
      · refine v_ne_t (t1 := 147) rfl rfl g30 ?_
        refine w_s (np := 148) (lv' := [some (eR a0), some (eI (zI a1)), some (eI (zI a2)), some (eI (zI v14))]) (st' := [eI (zI 2), eI (zI v23), eR a0]) rfl rfl rfl ?_
        exact m_251_148_ok hG hk p0 hK h23 _ _ _ _ _ M24 μ25 h hR26 hl27 p0
noncomputable def m_251_23b (a0 a1 : Nat) (K : Nat → yM → Bool) (i23 : Nat → yM → Bool) (a2 : Nat) (M : yM) : Bool := y_gf M a0 11 8 fun v1 => z_if (z_lt a2 v1) (m_238 a0 a2 0 M fun v11 M6 => z_if (z_eq v11 a1) (m_251_64 a0 a1 K i23 a2 M6) (m_238 a0 a2 1 M6 fun v18 M13 => z_if (z_eq v18 a1) (m_251_64 a0 a1 K i23 a2 M13) (m_238 a0 a2 2 M13 fun v25 M20 => z_if (z_eq v25 a1) (m_251_64 a0 a1 K i23 a2 M20) (m_251_184 a0 a1 K i23 a2 M20)))) (f_if false (Nat.ble 1 1) (K 1 M))
noncomputable def m_251_23 (a0 a1 : Nat) (K : Nat → yM → Bool) (n : Nat) : Nat → yM → Bool := @Nat.rec (fun _ => Nat → yM → Bool) (fun _ _ => false) (fun _ ih a2 M => f_if false (Nat.beq a0 98) (q_kk M a1 a2 fun b2 => m_251_23b a0 a1 K ih b2 M)) n
theorem m_251_23b_ok {fg : eG} {μz : eM} {rc : eQ} {d : Nat} {f : eFr} {F : List eFr} {μ0 : eM} {a0 a1 : Nat} {K : Nat → yM → Bool} {i23 : Nat → yM → Bool} (hG : yG fg y_T) (hk : ev_kd μ0 a0 = some 11) (p0 : 0 < a0) (hK : ∀ (r : Nat) (M : yM) (μ : eM), K r M = true → xQ μz M μ → y_le μ0 μ → ex_q fg rc (d + 4, (f.1, f.2.1, f.2.2.1, eI (zI r) :: f.2.2.2), F, μ)) (h23 : ∀ (a2 : Nat) (x3 : Option eV) (M : yM) (μ : eM), i23 a2 M = true → xQ μz M μ → y_le μ0 μ → ex_q fg rc (d + 3, (251, 23, [some (eR a0), some (eI (zI a1)), some (eI (zI a2)), x3], []), f :: F, μ)) : ∀ (a2 : Nat) (x3 : Option eV) (M : yM) (μ : eM), m_251_23b a0 a1 K i23 a2 M = true → xQ μz M μ → y_le μ0 μ → ex_q fg rc (d + 3, (251, 23, [some (eR a0), some (eI (zI a1)), some (eI (zI a2)), x3], []), f :: F, μ) := by
  intro a2 x3 M μ h hR hl
  unfold m_251_23b at h
  refine w_s (np := 24) (lv' := [some (eR a0), some (eI (zI a1)), some (eI (zI a2)), x3]) (st' := [eI (zI a2)]) rfl rfl rfl ?_
  refine w_s (np := 25) (lv' := [some (eR a0), some (eI (zI a1)), some (eI (zI a2)), x3]) (st' := [eR a0, eI (zI a2)]) rfl (s_an rfl p0) rfl ?_
  obtain ⟨v1, h, k2, e3⟩ := x_gf_ok (ty := 0) h hR (by decide) rfl
  refine v_gf0 (np := 28) rfl rfl k2 e3 ?_
  clear k2 e3
  rcases z_if_t h with ⟨g4, h⟩ | ⟨g4, h⟩
  · refine v_ge_f (t1 := 190) rfl rfl g4 ?_
    refine w_s (np := 32) (lv' := [some (eR a0), some (eI (zI a1)), some (eI (zI a2)), x3]) (st' := [eR a0]) rfl (s_an rfl p0) rfl ?_
    refine w_s (np := 33) (lv' := [some (eR a0), some (eI (zI a1)), some (eI (zI a2)), x3]) (st' := [eI (zI a2), eR a0]) rfl rfl rfl ?_
    refine w_s (np := 34) (lv' := [some (eR a0), some (eI (zI a1)), some (eI (zI a2)), x3]) (st' := [eI (zI 0), eI (zI a2), eR a0]) rfl rfl rfl ?_
    refine w_cv (np := 37) (as := [eI (zI a2), eI (zI 0)]) (lv' := [some (eR a0), some (eI (zI a2)), some (eI (zI 0))]) (rest := []) rfl rfl rfl (Nat.ble_eq.mp rfl) rfl rfl rfl (hl _ _ hk) rfl ?_
    refine m_238_ok hG h hR (hl _ _ hk) p0 ?_
    intro v11 M6 μ7 h hR8 hl10
    have hl9 := y_le.tr hl hl10
    show ex_q fg rc (d + 3, (251, 37, [some (eR a0), some (eI (zI a1)), some (eI (zI a2)), x3], [eI (zI v11)]), f :: F, μ7)
    refine w_s (np := 38) (lv' := [some (eR a0), some (eI (zI a1)), some (eI (zI a2)), x3]) (st' := [eI (zI a1), eI (zI v11)]) rfl rfl rfl ?_
    rcases z_if_t h with ⟨g12, h⟩ | ⟨g12, h⟩
    · refine v_eq_t (t1 := 64) rfl rfl g12 ?_
      exact m_251_64_ok hG hk p0 hK h23 _ _ M6 μ7 h hR8 hl9
    · refine v_eq_f (t1 := 64) rfl rfl g12 ?_
      refine w_s (np := 42) (lv' := [some (eR a0), some (eI (zI a1)), some (eI (zI a2)), x3]) (st' := [eR a0]) rfl (s_an rfl p0) rfl ?_
      refine w_s (np := 43) (lv' := [some (eR a0), some (eI (zI a1)), some (eI (zI a2)), x3]) (st' := [eI (zI a2), eR a0]) rfl rfl rfl ?_
      refine w_s (np := 44) (lv' := [some (eR a0), some (eI (zI a1)), some (eI (zI a2)), x3]) (st' := [eI (zI 1), eI (zI a2), eR a0]) rfl rfl rfl ?_
      refine w_cv (np := 47) (as := [eI (zI a2), eI (zI 1)]) (lv' := [some (eR a0), some (eI (zI a2)), some (eI (zI 1))]) (rest := []) rfl rfl rfl (Nat.ble_eq.mp rfl) rfl rfl rfl (hl9 _ _ hk) rfl ?_
      refine m_238_ok hG h hR8 (hl9 _ _ hk) p0 ?_
      intro v18 M13 μ14 h hR15 hl17
      have hl16 := y_le.tr hl9 hl17
      show ex_q fg rc (d + 3, (251, 47, [some (eR a0), some (eI (zI a1)), some (eI (zI a2)), x3], [eI (zI v18)]), f :: F, μ14)
      refine w_s (np := 48) (lv' := [some (eR a0), some (eI (zI a1)), some (eI (zI a2)), x3]) (st' := [eI (zI a1), eI (zI v18)]) rfl rfl rfl ?_
      rcases z_if_t h with ⟨g19, h⟩ | ⟨g19, h⟩
      · refine v_eq_t (t1 := 64) rfl rfl g19 ?_
        exact m_251_64_ok hG hk p0 hK h23 _ _ M13 μ14 h hR15 hl16
      · refine v_eq_f (t1 := 64) rfl rfl g19 ?_
        refine w_s (np := 52) (lv' := [some (eR a0), some (eI (zI a1)), some (eI (zI a2)), x3]) (st' := [eR a0]) rfl (s_an rfl p0) rfl ?_
        refine w_s (np := 53) (lv' := [some (eR a0), some (eI (zI a1)), some (eI (zI a2)), x3]) (st' := [eI (zI a2), eR a0]) rfl rfl rfl ?_
        refine w_s (np := 54) (lv' := [some (eR a0), some (eI (zI a1)), some (eI (zI a2)), x3]) (st' := [eI (zI 2), eI (zI a2), eR a0]) rfl rfl rfl ?_
        refine w_cv (np := 57) (as := [eI (zI a2), eI (zI 2)]) (lv' := [some (eR a0), some (eI (zI a2)), some (eI (zI 2))]) (rest := []) rfl rfl rfl (Nat.ble_eq.mp rfl) rfl rfl rfl (hl16 _ _ hk) rfl ?_
        refine m_238_ok hG h hR15 (hl16 _ _ hk) p0 ?_
        intro v25 M20 μ21 h hR22 hl24
        have hl23 := y_le.tr hl16 hl24
        show ex_q fg rc (d + 3, (251, 57, [some (eR a0), some (eI (zI a1)), some (eI (zI a2)), x3], [eI (zI v25)]), f :: F, μ21)
        refine w_s (np := 58) (lv' := [some (eR a0), some (eI (zI a1)), some (eI (zI a2)), x3]) (st' := [eI (zI a1), eI (zI v25)]) rfl rfl rfl ?_
        rcases z_if_t h with ⟨g26, h⟩ | ⟨g26, h⟩
        · refine v_eq_t (t1 := 64) rfl rfl g26 ?_
          exact m_251_64_ok hG hk p0 hK h23 _ _ M20 μ21 h hR22 hl23
        · refine v_eq_f (t1 := 64) rfl rfl g26 ?_
          refine w_go (t1 := 184) rfl rfl ?_
          exact m_251_184_ok hG hk p0 hK h23 _ _ M20 μ21 h hR22 hl23
  · refine v_ge_t (t1 := 190) rfl rfl g4 ?_
    refine w_s (np := 191) (lv' := [some (eR a0), some (eI (zI a1)), some (eI (zI a2)), x3]) (st' := [eI (zI 1)]) rfl rfl rfl ?_
    obtain ⟨g5, h⟩ := f_if_ok h
    exact v_rz rfl rfl g5 (hK _ _ _ h hR hl)
theorem m_251_23_ok {fg : eG} {μz : eM} {rc : eQ} {d : Nat} {f : eFr} {F : List eFr} {μ0 : eM} {a0 a1 : Nat} {K : Nat → yM → Bool} (hG : yG fg y_T) (hk : ev_kd μ0 a0 = some 11) (p0 : 0 < a0) (hK : ∀ (r : Nat) (M : yM) (μ : eM), K r M = true → xQ μz M μ → y_le μ0 μ → ex_q fg rc (d + 4, (f.1, f.2.1, f.2.2.1, eI (zI r) :: f.2.2.2), F, μ)) : ∀ n : Nat, ∀ (a2 : Nat) (x3 : Option eV) (M : yM) (μ : eM), m_251_23 a0 a1 K n a2 M = true → xQ μz M μ → y_le μ0 μ → ex_q fg rc (d + 3, (251, 23, [some (eR a0), some (eI (zI a1)), some (eI (zI a2)), x3], []), f :: F, μ) := by
  intro n
  induction n with
  | zero =>
    intro a2 x3 M μ h hR hl
    exact absurd h Bool.false_ne_true
  | succ n ih =>
    intro a2 x3 M μ h hR hl
    obtain ⟨g1, h1⟩ := f_if_ok (show f_if false (Nat.beq a0 98) (q_kk M a1 a2 fun b2 => m_251_23b a0 a1 K (m_251_23 a0 a1 K n) b2 M) = true from h)
    have g2 := Nat.eq_of_beq_eq_true g1
    subst g2
    exact x_kk_ok h1 hR (fun b2 h2 => m_251_23b_ok hG hk p0 hK ih b2 x3 M μ h2 hR hl)
noncomputable def m_251_2b (a0 a1 : Nat) (K : Nat → yM → Bool) (i2 : Nat → yM → Bool) (a2 : Nat) (M : yM) : Bool := z_if (z_lt a2 10) (y_gf M a0 11 30 fun v2 => f_if false (Nat.ble 1 v2) (y_sa 100 M v2 a2 4294967295 fun M7 => z_l (z_add a2 1) fun v12 => z_f v12 fun w13 => i2 w13 M7)) (m_251_23 a0 a1 K 100000 0 M)
noncomputable def m_251_2 (a0 a1 : Nat) (K : Nat → yM → Bool) (n : Nat) : Nat → yM → Bool := @Nat.rec (fun _ => Nat → yM → Bool) (fun _ _ => false) (fun _ ih => m_251_2b a0 a1 K ih) n
theorem m_251_2b_ok {fg : eG} {μz : eM} {rc : eQ} {d : Nat} {f : eFr} {F : List eFr} {μ0 : eM} {a0 a1 : Nat} {K : Nat → yM → Bool} {i2 : Nat → yM → Bool} (hG : yG fg y_T) (hk : ev_kd μ0 a0 = some 11) (p0 : 0 < a0) (hK : ∀ (r : Nat) (M : yM) (μ : eM), K r M = true → xQ μz M μ → y_le μ0 μ → ex_q fg rc (d + 4, (f.1, f.2.1, f.2.2.1, eI (zI r) :: f.2.2.2), F, μ)) (h2 : ∀ (a2 : Nat) (M : yM) (μ : eM), i2 a2 M = true → xQ μz M μ → y_le μ0 μ → ex_q fg rc (d + 3, (251, 2, [some (eR a0), some (eI (zI a1)), some (eI (zI a2)), none], []), f :: F, μ)) : ∀ (a2 : Nat) (M : yM) (μ : eM), m_251_2b a0 a1 K i2 a2 M = true → xQ μz M μ → y_le μ0 μ → ex_q fg rc (d + 3, (251, 2, [some (eR a0), some (eI (zI a1)), some (eI (zI a2)), none], []), f :: F, μ) := by
  intro a2 M μ h hR hl
  unfold m_251_2b at h
  refine w_s (np := 3) (lv' := [some (eR a0), some (eI (zI a1)), some (eI (zI a2)), none]) (st' := [eI (zI a2)]) rfl rfl rfl ?_
  refine w_s (np := 5) (lv' := [some (eR a0), some (eI (zI a1)), some (eI (zI a2)), none]) (st' := [eI (zI 10), eI (zI a2)]) rfl rfl rfl ?_
  rcases z_if_t h with ⟨g1, h⟩ | ⟨g1, h⟩
  · refine v_ge_f (t1 := 21) rfl rfl g1 ?_
    refine w_s (np := 9) (lv' := [some (eR a0), some (eI (zI a1)), some (eI (zI a2)), none]) (st' := [eR a0]) rfl (s_an rfl p0) rfl ?_
    obtain ⟨v2, h, k3, e4⟩ := x_gf_ok (ty := 3) h hR (by decide) rfl
    obtain ⟨g5, h⟩ := f_if_ok h
    have q6 : 0 < v2 := Nat.ble_eq.mp g5
    refine v_gf3 (np := 12) rfl rfl k3 e4 ?_
    clear k3 e4
    refine w_s (np := 13) (lv' := [some (eR a0), some (eI (zI a1)), some (eI (zI a2)), none]) (st' := [eI (zI a2), eR v2]) rfl rfl rfl ?_
    refine w_s (np := 14) (lv' := [some (eR a0), some (eI (zI a1)), some (eI (zI a2)), none]) (st' := [eI (zI 4294967295), eI (zI a2), eR v2]) rfl rfl rfl ?_
    obtain ⟨M7, μ8, h, k11, hR9, hl10⟩ := x_sa_ex (ty := 0) h hR hl rfl (by decide)
    refine v_sa (np := 15) rfl rfl k11 ?_
    clear k11
    obtain ⟨v12, ev12, h⟩ := z_l_ex h
    refine w_s (np := 18) (lv' := [some (eR a0), some (eI (zI a1)), some (eI (zI v12)), none]) (st' := []) rfl (s_iinc (b := 1) rfl rfl ev12 rfl) rfl ?_
    clear ev12
    refine w_go (t1 := 2) rfl rfl ?_
    obtain ⟨w13, ew13, h⟩ := z_f_ex h
    subst ew13
    exact h2 _ M7 μ8 h hR9 hl10
  · refine v_ge_t (t1 := 21) rfl rfl g1 ?_
    refine w_s (np := 22) (lv' := [some (eR a0), some (eI (zI a1)), some (eI (zI a2)), none]) (st' := [eI (zI 0)]) rfl rfl rfl ?_
    refine w_s (np := 23) (lv' := [some (eR a0), some (eI (zI a1)), some (eI (zI 0)), none]) (st' := []) rfl rfl rfl ?_
    exact m_251_23_ok hG hk p0 hK 100000 _ _ M μ h hR hl
theorem m_251_2_ok {fg : eG} {μz : eM} {rc : eQ} {d : Nat} {f : eFr} {F : List eFr} {μ0 : eM} {a0 a1 : Nat} {K : Nat → yM → Bool} (hG : yG fg y_T) (hk : ev_kd μ0 a0 = some 11) (p0 : 0 < a0) (hK : ∀ (r : Nat) (M : yM) (μ : eM), K r M = true → xQ μz M μ → y_le μ0 μ → ex_q fg rc (d + 4, (f.1, f.2.1, f.2.2.1, eI (zI r) :: f.2.2.2), F, μ)) : ∀ n : Nat, ∀ (a2 : Nat) (M : yM) (μ : eM), m_251_2 a0 a1 K n a2 M = true → xQ μz M μ → y_le μ0 μ → ex_q fg rc (d + 3, (251, 2, [some (eR a0), some (eI (zI a1)), some (eI (zI a2)), none], []), f :: F, μ) := by
  intro n
  induction n with
  | zero =>
    intro a2 M μ h hR hl
    exact absurd h Bool.false_ne_true
  | succ n ih =>
    intro a2 M μ h hR hl
    exact m_251_2b_ok hG hk p0 hK ih a2 M μ h hR hl
noncomputable def m_251 (a0 a1 : Nat) (M : yM) (K : Nat → yM → Bool) : Bool := m_251_2 a0 a1 K 100000 0 M
theorem m_251_ok {fg : eG} {μz : eM} {rc : eQ} {d : Nat} {f : eFr} {F : List eFr} {M : yM} {μ0 : eM} {a0 a1 : Nat} {K : Nat → yM → Bool} (hG : yG fg y_T) (h : m_251 a0 a1 M K = true) (hR : xQ μz M μ0) (hk : ev_kd μ0 a0 = some 11) (p0 : 0 < a0) (hK : ∀ (r : Nat) (M : yM) (μ : eM), K r M = true → xQ μz M μ → y_le μ0 μ → ex_q fg rc (d + 4, (f.1, f.2.1, f.2.2.1, eI (zI r) :: f.2.2.2), F, μ)) : ex_q fg rc (d + 3, (251, 0, [some (eR a0), some (eI (zI a1)), none, none], []), f :: F, μ0) := by
  unfold m_251 at h
  have hl := y_le_r μ0
  refine w_s (np := 1) (lv' := [some (eR a0), some (eI (zI a1)), none, none]) (st' := [eI (zI 0)]) rfl rfl rfl ?_
  refine w_s (np := 2) (lv' := [some (eR a0), some (eI (zI a1)), some (eI (zI 0)), none]) (st' := []) rfl rfl rfl ?_
  exact m_251_2_ok hG hk p0 hK 100000 _ M μ0 h hR hl
noncomputable def m_252_7b (a0 a1 : Nat) (K : Nat → yM → Bool) (i7 : Nat → Nat → Nat → yM → Bool) (a2 a3 a4 : Nat) (M : yM) : Bool := z_if (z_lt a4 10) (z_l (z_mul 7 a2) fun v2 => y_gf M a0 11 30 fun v3 => f_if false (Nat.ble 1 v3) (y_lh 100 M v3 a3 fun v8 => z_l (z_add v2 v8) fun v10 => z_l (z_add v10 1) fun v11 => y_gf M a0 11 31 fun v12 => f_if false (Nat.ble 1 v12) (y_lh 100 M v12 a3 fun v17 => z_l (z_add a4 v17) fun v19 => y_gf M a0 11 31 fun v20 => f_if false (Nat.ble 1 v20) (y_lh 100 M v20 a3 fun v25 => z_l (z_add a3 v25) fun v27 => m_217 v27 M fun v33 M28 => z_f v11 fun w34 => z_f v33 fun w35 => z_f v19 fun w36 => i7 w34 w35 w36 M28)))) (K a2 M)
noncomputable def m_252_7 (a0 a1 : Nat) (K : Nat → yM → Bool) (n : Nat) : Nat → Nat → Nat → yM → Bool := @Nat.rec (fun _ => Nat → Nat → Nat → yM → Bool) (fun _ _ _ _ => false) (fun _ ih => m_252_7b a0 a1 K ih) n
theorem m_252_7b_ok {fg : eG} {μz : eM} {rc : eQ} {d : Nat} {f : eFr} {F : List eFr} {μ0 : eM} {a0 a1 : Nat} {K : Nat → yM → Bool} {i7 : Nat → Nat → Nat → yM → Bool} (hG : yG fg y_T) (hk : ev_kd μ0 a0 = some 11) (p0 : 0 < a0) (hK : ∀ (r : Nat) (M : yM) (μ : eM), K r M = true → xQ μz M μ → y_le μ0 μ → ex_q fg rc (d + 2, (f.1, f.2.1, f.2.2.1, eI (zI r) :: f.2.2.2), F, μ)) (h7 : ∀ (a2 a3 a4 : Nat) (M : yM) (μ : eM), i7 a2 a3 a4 M = true → xQ μz M μ → y_le μ0 μ → ex_q fg rc (d + 1, (252, 7, [some (eR a0), some (eI (zI a1)), some (eI (zI a2)), some (eI (zI a3)), some (eI (zI a4))], []), f :: F, μ)) : ∀ (a2 a3 a4 : Nat) (M : yM) (μ : eM), m_252_7b a0 a1 K i7 a2 a3 a4 M = true → xQ μz M μ → y_le μ0 μ → ex_q fg rc (d + 1, (252, 7, [some (eR a0), some (eI (zI a1)), some (eI (zI a2)), some (eI (zI a3)), some (eI (zI a4))], []), f :: F, μ) := by
  intro a2 a3 a4 M μ h hR hl
  unfold m_252_7b at h
  refine w_s (np := 9) (lv' := [some (eR a0), some (eI (zI a1)), some (eI (zI a2)), some (eI (zI a3)), some (eI (zI a4))]) (st' := [eI (zI a4)]) rfl rfl rfl ?_
  refine w_s (np := 11) (lv' := [some (eR a0), some (eI (zI a1)), some (eI (zI a2)), some (eI (zI a3)), some (eI (zI a4))]) (st' := [eI (zI 10), eI (zI a4)]) rfl rfl rfl ?_
  rcases z_if_t h with ⟨g1, h⟩ | ⟨g1, h⟩
  · refine v_ge_f (t1 := 54) rfl rfl g1 ?_
    refine w_s (np := 16) (lv' := [some (eR a0), some (eI (zI a1)), some (eI (zI a2)), some (eI (zI a3)), some (eI (zI a4))]) (st' := [eI (zI 7)]) rfl rfl rfl ?_
    refine w_s (np := 17) (lv' := [some (eR a0), some (eI (zI a1)), some (eI (zI a2)), some (eI (zI a3)), some (eI (zI a4))]) (st' := [eI (zI a2), eI (zI 7)]) rfl rfl rfl ?_
    obtain ⟨v2, ev2, h⟩ := z_l_ex h
    refine w_s (np := 18) (lv' := [some (eR a0), some (eI (zI a1)), some (eI (zI a2)), some (eI (zI a3)), some (eI (zI a4))]) (st' := [eI (zI v2)]) rfl (s_imul ev2) rfl ?_
    clear ev2
    refine w_s (np := 19) (lv' := [some (eR a0), some (eI (zI a1)), some (eI (zI a2)), some (eI (zI a3)), some (eI (zI a4))]) (st' := [eR a0, eI (zI v2)]) rfl (s_an rfl p0) rfl ?_
    obtain ⟨v3, h, k4, e5⟩ := x_gf_ok (ty := 3) h hR (by decide) rfl
    obtain ⟨g6, h⟩ := f_if_ok h
    have q7 : 0 < v3 := Nat.ble_eq.mp g6
    refine v_gf3 (np := 22) rfl rfl k4 e5 ?_
    clear k4 e5
    refine w_s (np := 23) (lv' := [some (eR a0), some (eI (zI a1)), some (eI (zI a2)), some (eI (zI a3)), some (eI (zI a4))]) (st' := [eI (zI a3), eR v3, eI (zI v2)]) rfl rfl rfl ?_
    obtain ⟨v8, h, k9⟩ := x_lh_ok (ty := 0) h hR hG (by decide) rfl (by decide)
    refine v_la (np := 24) rfl rfl k9 ?_
    clear k9
    obtain ⟨v10, ev10, h⟩ := z_l_ex h
    refine w_s (np := 25) (lv' := [some (eR a0), some (eI (zI a1)), some (eI (zI a2)), some (eI (zI a3)), some (eI (zI a4))]) (st' := [eI (zI v10)]) rfl (s_iadd ev10) rfl ?_
    clear ev10
    refine w_s (np := 26) (lv' := [some (eR a0), some (eI (zI a1)), some (eI (zI a2)), some (eI (zI a3)), some (eI (zI a4))]) (st' := [eI (zI 1), eI (zI v10)]) rfl rfl rfl ?_
    obtain ⟨v11, ev11, h⟩ := z_l_ex h
    refine w_s (np := 27) (lv' := [some (eR a0), some (eI (zI a1)), some (eI (zI a2)), some (eI (zI a3)), some (eI (zI a4))]) (st' := [eI (zI v11)]) rfl (s_iadd ev11) rfl ?_
    clear ev11
    refine w_s (np := 28) (lv' := [some (eR a0), some (eI (zI a1)), some (eI (zI v11)), some (eI (zI a3)), some (eI (zI a4))]) (st' := []) rfl rfl rfl ?_
    refine w_s (np := 30) (lv' := [some (eR a0), some (eI (zI a1)), some (eI (zI v11)), some (eI (zI a3)), some (eI (zI a4))]) (st' := [eI (zI a4)]) rfl rfl rfl ?_
    refine w_s (np := 31) (lv' := [some (eR a0), some (eI (zI a1)), some (eI (zI v11)), some (eI (zI a3)), some (eI (zI a4))]) (st' := [eR a0, eI (zI a4)]) rfl (s_an rfl p0) rfl ?_
    obtain ⟨v12, h, k13, e14⟩ := x_gf_ok (ty := 3) h hR (by decide) rfl
    obtain ⟨g15, h⟩ := f_if_ok h
    have q16 : 0 < v12 := Nat.ble_eq.mp g15
    refine v_gf3 (np := 34) rfl rfl k13 e14 ?_
    clear k13 e14
    refine w_s (np := 35) (lv' := [some (eR a0), some (eI (zI a1)), some (eI (zI v11)), some (eI (zI a3)), some (eI (zI a4))]) (st' := [eI (zI a3), eR v12, eI (zI a4)]) rfl rfl rfl ?_
    obtain ⟨v17, h, k18⟩ := x_lh_ok (ty := 0) h hR hG (by decide) rfl (by decide)
    refine v_la (np := 36) rfl rfl k18 ?_
    clear k18
    obtain ⟨v19, ev19, h⟩ := z_l_ex h
    refine w_s (np := 37) (lv' := [some (eR a0), some (eI (zI a1)), some (eI (zI v11)), some (eI (zI a3)), some (eI (zI a4))]) (st' := [eI (zI v19)]) rfl (s_iadd ev19) rfl ?_
    clear ev19
    refine w_s (np := 39) (lv' := [some (eR a0), some (eI (zI a1)), some (eI (zI v11)), some (eI (zI a3)), some (eI (zI v19))]) (st' := []) rfl rfl rfl ?_
    refine w_s (np := 40) (lv' := [some (eR a0), some (eI (zI a1)), some (eI (zI v11)), some (eI (zI a3)), some (eI (zI v19))]) (st' := [eI (zI a3)]) rfl rfl rfl ?_
    refine w_s (np := 41) (lv' := [some (eR a0), some (eI (zI a1)), some (eI (zI v11)), some (eI (zI a3)), some (eI (zI v19))]) (st' := [eR a0, eI (zI a3)]) rfl (s_an rfl p0) rfl ?_
    obtain ⟨v20, h, k21, e22⟩ := x_gf_ok (ty := 3) h hR (by decide) rfl
    obtain ⟨g23, h⟩ := f_if_ok h
    have q24 : 0 < v20 := Nat.ble_eq.mp g23
    refine v_gf3 (np := 44) rfl rfl k21 e22 ?_
    clear k21 e22
    refine w_s (np := 45) (lv' := [some (eR a0), some (eI (zI a1)), some (eI (zI v11)), some (eI (zI a3)), some (eI (zI v19))]) (st' := [eI (zI a3), eR v20, eI (zI a3)]) rfl rfl rfl ?_
    obtain ⟨v25, h, k26⟩ := x_lh_ok (ty := 0) h hR hG (by decide) rfl (by decide)
    refine v_la (np := 46) rfl rfl k26 ?_
    clear k26
    obtain ⟨v27, ev27, h⟩ := z_l_ex h
    refine w_s (np := 47) (lv' := [some (eR a0), some (eI (zI a1)), some (eI (zI v11)), some (eI (zI a3)), some (eI (zI v19))]) (st' := [eI (zI v27)]) rfl (s_iadd ev27) rfl ?_
    clear ev27
    refine w_cs (np := 50) (as := [eI (zI v27)]) (lv' := [some (eI (zI v27))]) (rest := []) rfl rfl rfl (Nat.ble_eq.mp rfl) rfl rfl rfl rfl ?_
    refine m_217_ok hG h hR ?_
    intro v33 M28 μ29 h hR30 hl32
    have hl31 := y_le.tr hl hl32
    show ex_q fg rc (d + 1, (252, 50, [some (eR a0), some (eI (zI a1)), some (eI (zI v11)), some (eI (zI a3)), some (eI (zI v19))], [eI (zI v33)]), f :: F, μ29)
    refine w_s (np := 51) (lv' := [some (eR a0), some (eI (zI a1)), some (eI (zI v11)), some (eI (zI v33)), some (eI (zI v19))]) (st' := []) rfl rfl rfl ?_
    refine w_go (t1 := 7) rfl rfl ?_
    obtain ⟨w34, ew34, h⟩ := z_f_ex h
    subst ew34
    obtain ⟨w35, ew35, h⟩ := z_f_ex h
    subst ew35
    obtain ⟨w36, ew36, h⟩ := z_f_ex h
    subst ew36
    exact h7 _ _ _ M28 μ29 h hR30 hl31
  · refine v_ge_t (t1 := 54) rfl rfl g1 ?_
    refine w_s (np := 55) (lv' := [some (eR a0), some (eI (zI a1)), some (eI (zI a2)), some (eI (zI a3)), some (eI (zI a4))]) (st' := [eI (zI a2)]) rfl rfl rfl ?_
    exact v_ri rfl rfl (hK _ _ _ h hR hl)
theorem m_252_7_ok {fg : eG} {μz : eM} {rc : eQ} {d : Nat} {f : eFr} {F : List eFr} {μ0 : eM} {a0 a1 : Nat} {K : Nat → yM → Bool} (hG : yG fg y_T) (hk : ev_kd μ0 a0 = some 11) (p0 : 0 < a0) (hK : ∀ (r : Nat) (M : yM) (μ : eM), K r M = true → xQ μz M μ → y_le μ0 μ → ex_q fg rc (d + 2, (f.1, f.2.1, f.2.2.1, eI (zI r) :: f.2.2.2), F, μ)) : ∀ n : Nat, ∀ (a2 a3 a4 : Nat) (M : yM) (μ : eM), m_252_7 a0 a1 K n a2 a3 a4 M = true → xQ μz M μ → y_le μ0 μ → ex_q fg rc (d + 1, (252, 7, [some (eR a0), some (eI (zI a1)), some (eI (zI a2)), some (eI (zI a3)), some (eI (zI a4))], []), f :: F, μ) := by
  intro n
  induction n with
  | zero =>
    intro a2 a3 a4 M μ h hR hl
    exact absurd h Bool.false_ne_true
  | succ n ih =>
    intro a2 a3 a4 M μ h hR hl
    exact m_252_7b_ok hG hk p0 hK ih a2 a3 a4 M μ h hR hl
noncomputable def m_252 (a0 a1 : Nat) (M : yM) (K : Nat → yM → Bool) : Bool := m_252_7 a0 a1 K 100000 0 a1 0 M
theorem m_252_ok {fg : eG} {μz : eM} {rc : eQ} {d : Nat} {f : eFr} {F : List eFr} {M : yM} {μ0 : eM} {a0 a1 : Nat} {K : Nat → yM → Bool} (hG : yG fg y_T) (h : m_252 a0 a1 M K = true) (hR : xQ μz M μ0) (hk : ev_kd μ0 a0 = some 11) (p0 : 0 < a0) (hK : ∀ (r : Nat) (M : yM) (μ : eM), K r M = true → xQ μz M μ → y_le μ0 μ → ex_q fg rc (d + 2, (f.1, f.2.1, f.2.2.1, eI (zI r) :: f.2.2.2), F, μ)) : ex_q fg rc (d + 1, (252, 0, [some (eR a0), some (eI (zI a1)), none, none, none], []), f :: F, μ0) := by
  unfold m_252 at h
  have hl := y_le_r μ0
  refine w_s (np := 1) (lv' := [some (eR a0), some (eI (zI a1)), none, none, none]) (st' := [eI (zI 0)]) rfl rfl rfl ?_
  refine w_s (np := 2) (lv' := [some (eR a0), some (eI (zI a1)), some (eI (zI 0)), none, none]) (st' := []) rfl rfl rfl ?_
  refine w_s (np := 3) (lv' := [some (eR a0), some (eI (zI a1)), some (eI (zI 0)), none, none]) (st' := [eI (zI a1)]) rfl rfl rfl ?_
  refine w_s (np := 4) (lv' := [some (eR a0), some (eI (zI a1)), some (eI (zI 0)), some (eI (zI a1)), none]) (st' := []) rfl rfl rfl ?_
  refine w_s (np := 5) (lv' := [some (eR a0), some (eI (zI a1)), some (eI (zI 0)), some (eI (zI a1)), none]) (st' := [eI (zI 0)]) rfl rfl rfl ?_
  refine w_s (np := 7) (lv' := [some (eR a0), some (eI (zI a1)), some (eI (zI 0)), some (eI (zI a1)), some (eI (zI 0))]) (st' := []) rfl rfl rfl ?_
  exact m_252_7_ok hG hk p0 hK 100000 _ _ _ M μ0 h hR hl
noncomputable def m_253_19 (a0 a1 : Nat) (K : Nat → yM → Bool) (M : yM) : Bool := K 4294967295 M
theorem m_253_19_ok {fg : eG} {μz : eM} {rc : eQ} {d : Nat} {f : eFr} {F : List eFr} {μ0 : eM} {a0 a1 : Nat} {K : Nat → yM → Bool} (hG : yG fg y_T) (hk : ev_kd μ0 a0 = some 11) (p0 : 0 < a0) (hK : ∀ (r : Nat) (M : yM) (μ : eM), K r M = true → xQ μz M μ → y_le μ0 μ → ex_q fg rc (d + 5, (f.1, f.2.1, f.2.2.1, eI (zI r) :: f.2.2.2), F, μ)) : ∀ (M : yM) (μ : eM), m_253_19 a0 a1 K M = true → xQ μz M μ → y_le μ0 μ → ex_q fg rc (d + 4, (253, 19, [some (eR a0), some (eI (zI a1)), none, none, none], []), f :: F, μ) := by
  intro M μ h hR hl
  unfold m_253_19 at h
  refine w_s (np := 20) (lv' := [some (eR a0), some (eI (zI a1)), none, none, none]) (st' := [eI (zI 4294967295)]) rfl rfl rfl ?_
  exact v_ri rfl rfl (hK _ _ _ h hR hl)
noncomputable def m_253_67 (a0 a1 : Nat) (K : Nat → yM → Bool) (i25 : Nat → Nat → yM → Bool) (a2 a3 : Nat) (M : yM) : Bool := z_l (z_add a3 1) fun v1 => z_f v1 fun w2 => i25 a2 w2 M
theorem m_253_67_ok {fg : eG} {μz : eM} {rc : eQ} {d : Nat} {f : eFr} {F : List eFr} {μ0 : eM} {a0 a1 : Nat} {K : Nat → yM → Bool} {i25 : Nat → Nat → yM → Bool} (hG : yG fg y_T) (hk : ev_kd μ0 a0 = some 11) (p0 : 0 < a0) (hK : ∀ (r : Nat) (M : yM) (μ : eM), K r M = true → xQ μz M μ → y_le μ0 μ → ex_q fg rc (d + 5, (f.1, f.2.1, f.2.2.1, eI (zI r) :: f.2.2.2), F, μ)) (h25 : ∀ (a2 a3 : Nat) (x4 : Option eV) (M : yM) (μ : eM), i25 a2 a3 M = true → xQ μz M μ → y_le μ0 μ → ex_q fg rc (d + 4, (253, 25, [some (eR a0), some (eI (zI a1)), some (eI (zI a2)), some (eI (zI a3)), x4], []), f :: F, μ)) : ∀ (a2 a3 : Nat) (x4 : Option eV) (M : yM) (μ : eM), m_253_67 a0 a1 K i25 a2 a3 M = true → xQ μz M μ → y_le μ0 μ → ex_q fg rc (d + 4, (253, 67, [some (eR a0), some (eI (zI a1)), some (eI (zI a2)), some (eI (zI a3)), x4], []), f :: F, μ) := by
  intro a2 a3 x4 M μ h hR hl
  unfold m_253_67 at h
  obtain ⟨v1, ev1, h⟩ := z_l_ex h
  refine w_s (np := 70) (lv' := [some (eR a0), some (eI (zI a1)), some (eI (zI a2)), some (eI (zI v1)), x4]) (st' := []) rfl (s_iinc (b := 1) rfl rfl ev1 rfl) rfl ?_
  clear ev1
  refine w_go (t1 := 25) rfl rfl ?_
  obtain ⟨w2, ew2, h⟩ := z_f_ex h
  subst ew2
  exact h25 _ _ _ M μ h hR hl
noncomputable def m_253_66 (a0 a1 : Nat) (K : Nat → yM → Bool) (i25 : Nat → Nat → yM → Bool) (a2 a3 a4 s0 : Nat) (M : yM) : Bool := m_253_67 a0 a1 K i25 s0 a3 M
theorem m_253_66_ok {fg : eG} {μz : eM} {rc : eQ} {d : Nat} {f : eFr} {F : List eFr} {μ0 : eM} {a0 a1 : Nat} {K : Nat → yM → Bool} {i25 : Nat → Nat → yM → Bool} (hG : yG fg y_T) (hk : ev_kd μ0 a0 = some 11) (p0 : 0 < a0) (hK : ∀ (r : Nat) (M : yM) (μ : eM), K r M = true → xQ μz M μ → y_le μ0 μ → ex_q fg rc (d + 5, (f.1, f.2.1, f.2.2.1, eI (zI r) :: f.2.2.2), F, μ)) (h25 : ∀ (a2 a3 : Nat) (x4 : Option eV) (M : yM) (μ : eM), i25 a2 a3 M = true → xQ μz M μ → y_le μ0 μ → ex_q fg rc (d + 4, (253, 25, [some (eR a0), some (eI (zI a1)), some (eI (zI a2)), some (eI (zI a3)), x4], []), f :: F, μ)) : ∀ (a2 a3 a4 s0 : Nat) (M : yM) (μ : eM), m_253_66 a0 a1 K i25 a2 a3 a4 s0 M = true → xQ μz M μ → y_le μ0 μ → ex_q fg rc (d + 4, (253, 66, [some (eR a0), some (eI (zI a1)), some (eI (zI a2)), some (eI (zI a3)), some (eI (zI a4))], [eI (zI s0)]), f :: F, μ) := by
  intro a2 a3 a4 s0 M μ h hR hl
  unfold m_253_66 at h
  refine w_s (np := 67) (lv' := [some (eR a0), some (eI (zI a1)), some (eI (zI s0)), some (eI (zI a3)), some (eI (zI a4))]) (st' := []) rfl rfl rfl ?_
  exact m_253_67_ok hG hk p0 hK h25 _ _ _ M μ h hR hl
noncomputable def m_253_60 (a0 a1 : Nat) (K : Nat → yM → Bool) (i25 : Nat → Nat → yM → Bool) (a2 a3 a4 : Nat) (M : yM) : Bool := m_253_66 a0 a1 K i25 a2 a3 a4 a4 M
theorem m_253_60_ok {fg : eG} {μz : eM} {rc : eQ} {d : Nat} {f : eFr} {F : List eFr} {μ0 : eM} {a0 a1 : Nat} {K : Nat → yM → Bool} {i25 : Nat → Nat → yM → Bool} (hG : yG fg y_T) (hk : ev_kd μ0 a0 = some 11) (p0 : 0 < a0) (hK : ∀ (r : Nat) (M : yM) (μ : eM), K r M = true → xQ μz M μ → y_le μ0 μ → ex_q fg rc (d + 5, (f.1, f.2.1, f.2.2.1, eI (zI r) :: f.2.2.2), F, μ)) (h25 : ∀ (a2 a3 : Nat) (x4 : Option eV) (M : yM) (μ : eM), i25 a2 a3 M = true → xQ μz M μ → y_le μ0 μ → ex_q fg rc (d + 4, (253, 25, [some (eR a0), some (eI (zI a1)), some (eI (zI a2)), some (eI (zI a3)), x4], []), f :: F, μ)) : ∀ (a2 a3 a4 : Nat) (M : yM) (μ : eM), m_253_60 a0 a1 K i25 a2 a3 a4 M = true → xQ μz M μ → y_le μ0 μ → ex_q fg rc (d + 4, (253, 60, [some (eR a0), some (eI (zI a1)), some (eI (zI a2)), some (eI (zI a3)), some (eI (zI a4))], []), f :: F, μ) := by
  intro a2 a3 a4 M μ h hR hl
  unfold m_253_60 at h
  refine w_s (np := 62) (lv' := [some (eR a0), some (eI (zI a1)), some (eI (zI a2)), some (eI (zI a3)), some (eI (zI a4))]) (st' := [eI (zI a4)]) rfl rfl rfl ?_
  refine w_go (t1 := 66) rfl rfl ?_
  exact m_253_66_ok hG hk p0 hK h25 _ _ _ _ M μ h hR hl
noncomputable def m_253_25b (a0 a1 : Nat) (K : Nat → yM → Bool) (i25 : Nat → Nat → yM → Bool) (a2 a3 : Nat) (M : yM) : Bool := z_if (z_lt a3 10) (y_gf M a0 11 30 fun v2 => f_if false (Nat.ble 1 v2) (y_lh 100 M v2 a3 fun v7 => z_if (z_l0 v7) (m_253_67 a0 a1 K i25 a2 a3 M) (m_252 a0 a3 M fun v15 M10 => z_if (z_l0 a2) (m_253_60 a0 a1 K i25 a2 a3 v15 M10) (z_if (z_lt v15 a2) (m_253_60 a0 a1 K i25 a2 a3 v15 M10) (m_253_66 a0 a1 K i25 a2 a3 v15 a2 M10))))) (K a2 M)
noncomputable def m_253_25 (a0 a1 : Nat) (K : Nat → yM → Bool) (n : Nat) : Nat → Nat → yM → Bool := @Nat.rec (fun _ => Nat → Nat → yM → Bool) (fun _ _ _ => false) (fun _ ih => m_253_25b a0 a1 K ih) n
theorem m_253_25b_ok {fg : eG} {μz : eM} {rc : eQ} {d : Nat} {f : eFr} {F : List eFr} {μ0 : eM} {a0 a1 : Nat} {K : Nat → yM → Bool} {i25 : Nat → Nat → yM → Bool} (hG : yG fg y_T) (hk : ev_kd μ0 a0 = some 11) (p0 : 0 < a0) (hK : ∀ (r : Nat) (M : yM) (μ : eM), K r M = true → xQ μz M μ → y_le μ0 μ → ex_q fg rc (d + 5, (f.1, f.2.1, f.2.2.1, eI (zI r) :: f.2.2.2), F, μ)) (h25 : ∀ (a2 a3 : Nat) (x4 : Option eV) (M : yM) (μ : eM), i25 a2 a3 M = true → xQ μz M μ → y_le μ0 μ → ex_q fg rc (d + 4, (253, 25, [some (eR a0), some (eI (zI a1)), some (eI (zI a2)), some (eI (zI a3)), x4], []), f :: F, μ)) : ∀ (a2 a3 : Nat) (x4 : Option eV) (M : yM) (μ : eM), m_253_25b a0 a1 K i25 a2 a3 M = true → xQ μz M μ → y_le μ0 μ → ex_q fg rc (d + 4, (253, 25, [some (eR a0), some (eI (zI a1)), some (eI (zI a2)), some (eI (zI a3)), x4], []), f :: F, μ) := by
  intro a2 a3 x4 M μ h hR hl
  unfold m_253_25b at h
  refine w_s (np := 26) (lv' := [some (eR a0), some (eI (zI a1)), some (eI (zI a2)), some (eI (zI a3)), x4]) (st' := [eI (zI a3)]) rfl rfl rfl ?_
  refine w_s (np := 28) (lv' := [some (eR a0), some (eI (zI a1)), some (eI (zI a2)), some (eI (zI a3)), x4]) (st' := [eI (zI 10), eI (zI a3)]) rfl rfl rfl ?_
  rcases z_if_t h with ⟨g1, h⟩ | ⟨g1, h⟩
  · refine v_ge_f (t1 := 73) rfl rfl g1 ?_
    refine w_s (np := 32) (lv' := [some (eR a0), some (eI (zI a1)), some (eI (zI a2)), some (eI (zI a3)), x4]) (st' := [eR a0]) rfl (s_an rfl p0) rfl ?_
    obtain ⟨v2, h, k3, e4⟩ := x_gf_ok (ty := 3) h hR (by decide) rfl
    obtain ⟨g5, h⟩ := f_if_ok h
    have q6 : 0 < v2 := Nat.ble_eq.mp g5
    refine v_gf3 (np := 35) rfl rfl k3 e4 ?_
    clear k3 e4
    refine w_s (np := 36) (lv' := [some (eR a0), some (eI (zI a1)), some (eI (zI a2)), some (eI (zI a3)), x4]) (st' := [eI (zI a3), eR v2]) rfl rfl rfl ?_
    obtain ⟨v7, h, k8⟩ := x_lh_ok (ty := 0) h hR hG (by decide) rfl (by decide)
    refine v_la (np := 37) rfl rfl k8 ?_
    clear k8
    rcases z_if_t h with ⟨g9, h⟩ | ⟨g9, h⟩
    · refine v_ge0_f (t1 := 43) rfl rfl g9 ?_
      refine w_go (t1 := 67) rfl rfl ?_
      exact m_253_67_ok hG hk p0 hK h25 _ _ _ M μ h hR hl
    · refine v_ge0_t (t1 := 43) rfl rfl g9 ?_
      refine w_s (np := 44) (lv' := [some (eR a0), some (eI (zI a1)), some (eI (zI a2)), some (eI (zI a3)), x4]) (st' := [eR a0]) rfl (s_an rfl p0) rfl ?_
      refine w_s (np := 45) (lv' := [some (eR a0), some (eI (zI a1)), some (eI (zI a2)), some (eI (zI a3)), x4]) (st' := [eI (zI a3), eR a0]) rfl rfl rfl ?_
      refine w_cv (np := 48) (as := [eI (zI a3)]) (lv' := [some (eR a0), some (eI (zI a3)), none, none, none]) (rest := []) rfl rfl rfl (Nat.ble_eq.mp rfl) rfl rfl rfl (hl _ _ hk) rfl ?_
      refine m_252_ok hG h hR (hl _ _ hk) p0 ?_
      intro v15 M10 μ11 h hR12 hl14
      have hl13 := y_le.tr hl hl14
      show ex_q fg rc (d + 4, (253, 48, [some (eR a0), some (eI (zI a1)), some (eI (zI a2)), some (eI (zI a3)), x4], [eI (zI v15)]), f :: F, μ11)
      refine w_s (np := 50) (lv' := [some (eR a0), some (eI (zI a1)), some (eI (zI a2)), some (eI (zI a3)), some (eI (zI v15))]) (st' := []) rfl rfl rfl ?_
      refine w_s (np := 51) (lv' := [some (eR a0), some (eI (zI a1)), some (eI (zI a2)), some (eI (zI a3)), some (eI (zI v15))]) (st' := [eI (zI a2)]) rfl rfl rfl ?_
      rcases z_if_t h with ⟨g16, h⟩ | ⟨g16, h⟩
      · refine v_lt0_t (t1 := 60) rfl rfl g16 ?_
        exact m_253_60_ok hG hk p0 hK h25 _ _ _ M10 μ11 h hR12 hl13
      · refine v_lt0_f (t1 := 60) rfl rfl g16 ?_
        refine w_s (np := 56) (lv' := [some (eR a0), some (eI (zI a1)), some (eI (zI a2)), some (eI (zI a3)), some (eI (zI v15))]) (st' := [eI (zI v15)]) rfl rfl rfl ?_
        refine w_s (np := 57) (lv' := [some (eR a0), some (eI (zI a1)), some (eI (zI a2)), some (eI (zI a3)), some (eI (zI v15))]) (st' := [eI (zI a2), eI (zI v15)]) rfl rfl rfl ?_
        rcases z_if_t h with ⟨g17, h⟩ | ⟨g17, h⟩
        · refine v_ge_f (t1 := 65) rfl rfl g17 ?_
          exact m_253_60_ok hG hk p0 hK h25 _ _ _ M10 μ11 h hR12 hl13
        · refine v_ge_t (t1 := 65) rfl rfl g17 ?_
          refine w_s (np := 66) (lv' := [some (eR a0), some (eI (zI a1)), some (eI (zI a2)), some (eI (zI a3)), some (eI (zI v15))]) (st' := [eI (zI a2)]) rfl rfl rfl ?_
          exact m_253_66_ok hG hk p0 hK h25 _ _ _ _ M10 μ11 h hR12 hl13
  · refine v_ge_t (t1 := 73) rfl rfl g1 ?_
    refine w_s (np := 74) (lv' := [some (eR a0), some (eI (zI a1)), some (eI (zI a2)), some (eI (zI a3)), x4]) (st' := [eI (zI a2)]) rfl rfl rfl ?_
    exact v_ri rfl rfl (hK _ _ _ h hR hl)
theorem m_253_25_ok {fg : eG} {μz : eM} {rc : eQ} {d : Nat} {f : eFr} {F : List eFr} {μ0 : eM} {a0 a1 : Nat} {K : Nat → yM → Bool} (hG : yG fg y_T) (hk : ev_kd μ0 a0 = some 11) (p0 : 0 < a0) (hK : ∀ (r : Nat) (M : yM) (μ : eM), K r M = true → xQ μz M μ → y_le μ0 μ → ex_q fg rc (d + 5, (f.1, f.2.1, f.2.2.1, eI (zI r) :: f.2.2.2), F, μ)) : ∀ n : Nat, ∀ (a2 a3 : Nat) (x4 : Option eV) (M : yM) (μ : eM), m_253_25 a0 a1 K n a2 a3 M = true → xQ μz M μ → y_le μ0 μ → ex_q fg rc (d + 4, (253, 25, [some (eR a0), some (eI (zI a1)), some (eI (zI a2)), some (eI (zI a3)), x4], []), f :: F, μ) := by
  intro n
  induction n with
  | zero =>
    intro a2 a3 x4 M μ h hR hl
    exact absurd h Bool.false_ne_true
  | succ n ih =>
    intro a2 a3 x4 M μ h hR hl
    exact m_253_25b_ok hG hk p0 hK ih a2 a3 x4 M μ h hR hl
noncomputable def m_253 (a0 a1 : Nat) (M : yM) (K : Nat → yM → Bool) : Bool := y_gf M a0 11 24 fun v1 => f_if false (Nat.ble 1 v1) (y_lh 100 M v1 a1 fun v6 => z_if (z_eq v6 10) (m_251 a0 a1 M fun v14 M9 => z_if (z_e0 v14) (m_253_19 a0 a1 K M9) (m_253_25 a0 a1 K 100000 4294967295 0 M9)) (m_253_19 a0 a1 K M))
theorem m_253_ok {fg : eG} {μz : eM} {rc : eQ} {d : Nat} {f : eFr} {F : List eFr} {M : yM} {μ0 : eM} {a0 a1 : Nat} {K : Nat → yM → Bool} (hG : yG fg y_T) (h : m_253 a0 a1 M K = true) (hR : xQ μz M μ0) (hk : ev_kd μ0 a0 = some 11) (p0 : 0 < a0) (hK : ∀ (r : Nat) (M : yM) (μ : eM), K r M = true → xQ μz M μ → y_le μ0 μ → ex_q fg rc (d + 5, (f.1, f.2.1, f.2.2.1, eI (zI r) :: f.2.2.2), F, μ)) : ex_q fg rc (d + 4, (253, 0, [some (eR a0), some (eI (zI a1)), none, none, none], []), f :: F, μ0) := by
  unfold m_253 at h
  have hl := y_le_r μ0
  refine w_s (np := 1) (lv' := [some (eR a0), some (eI (zI a1)), none, none, none]) (st' := [eR a0]) rfl (s_an rfl p0) rfl ?_
  obtain ⟨v1, h, k2, e3⟩ := x_gf_ok (ty := 3) h hR (by decide) rfl
  obtain ⟨g4, h⟩ := f_if_ok h
  have q5 : 0 < v1 := Nat.ble_eq.mp g4
  refine v_gf3 (np := 4) rfl rfl k2 e3 ?_
  clear k2 e3
  refine w_s (np := 5) (lv' := [some (eR a0), some (eI (zI a1)), none, none, none]) (st' := [eI (zI a1), eR v1]) rfl rfl rfl ?_
  obtain ⟨v6, h, k7⟩ := x_lh_ok (ty := 0) h hR hG (by decide) rfl (by decide)
  refine v_la (np := 6) rfl rfl k7 ?_
  clear k7
  refine w_s (np := 8) (lv' := [some (eR a0), some (eI (zI a1)), none, none, none]) (st' := [eI (zI 10), eI (zI v6)]) rfl rfl rfl ?_
  rcases z_if_t h with ⟨g8, h⟩ | ⟨g8, h⟩
  · refine v_ne_f (t1 := 19) rfl rfl g8 ?_
    refine w_s (np := 12) (lv' := [some (eR a0), some (eI (zI a1)), none, none, none]) (st' := [eR a0]) rfl (s_an rfl p0) rfl ?_
    refine w_s (np := 13) (lv' := [some (eR a0), some (eI (zI a1)), none, none, none]) (st' := [eI (zI a1), eR a0]) rfl rfl rfl ?_
    refine w_cv (np := 16) (as := [eI (zI a1)]) (lv' := [some (eR a0), some (eI (zI a1)), none, none]) (rest := []) rfl rfl rfl (Nat.ble_eq.mp rfl) rfl rfl rfl (hl _ _ hk) rfl ?_
    refine m_251_ok hG h hR (hl _ _ hk) p0 ?_
    intro v14 M9 μ10 h hR11 hl13
    have hl12 := y_le.tr hl hl13
    show ex_q fg rc (d + 4, (253, 16, [some (eR a0), some (eI (zI a1)), none, none, none], [eI (zI v14)]), f :: F, μ10)
    rcases z_if_t h with ⟨g15, h⟩ | ⟨g15, h⟩
    · refine v_ne0_f (t1 := 21) rfl rfl g15 ?_
      exact m_253_19_ok hG hk p0 hK M9 μ10 h hR11 hl12
    · refine v_ne0_t (t1 := 21) rfl rfl g15 ?_
      refine w_s (np := 22) (lv' := [some (eR a0), some (eI (zI a1)), none, none, none]) (st' := [eI (zI 4294967295)]) rfl rfl rfl ?_
      refine w_s (np := 23) (lv' := [some (eR a0), some (eI (zI a1)), some (eI (zI 4294967295)), none, none]) (st' := []) rfl rfl rfl ?_
      refine w_s (np := 24) (lv' := [some (eR a0), some (eI (zI a1)), some (eI (zI 4294967295)), none, none]) (st' := [eI (zI 0)]) rfl rfl rfl ?_
      refine w_s (np := 25) (lv' := [some (eR a0), some (eI (zI a1)), some (eI (zI 4294967295)), some (eI (zI 0)), none]) (st' := []) rfl rfl rfl ?_
      exact m_253_25_ok hG hk p0 hK 100000 _ _ _ M9 μ10 h hR11 hl12
  · refine v_ne_t (t1 := 19) rfl rfl g8 ?_
    exact m_253_19_ok hG hk p0 hK M μ0 h hR hl
