/-! THE REFERENCE, EXACT: lays up to holds -/
noncomputable def mi_239_181b (a0 a1 a2 : Nat) (K : yM → Bool) (i218 : Nat → yM → Bool) (i181 : Nat → yM → Bool) (a3 : Nat) (M : yM) : Bool := y_gf M a0 11 8 fun v1 => z_if (z_lt a3 v1) (y_gf M a0 11 25 fun v6 => f_if false (Nat.ble 1 v6) (y_sa 100 M v6 a3 4294967295 fun M11 => y_gf M11 a0 11 26 fun v16 => f_if false (Nat.ble 1 v16) (y_sa 100 M11 v16 a3 4294967295 fun M21 => y_gf M21 a0 11 27 fun v26 => f_if false (Nat.ble 1 v26) (y_sa 100 M21 v26 a3 4294967295 fun M31 => z_l (z_add a3 1) fun v36 => z_f v36 fun w37 => i181 w37 M31)))) (z_f 0 fun w5 => i218 w5 M)
noncomputable def mi_239_181 (a0 a1 a2 : Nat) (K : yM → Bool) (i218 : Nat → yM → Bool) (n : Nat) : Nat → yM → Bool := @Nat.rec (fun _ => Nat → yM → Bool) (fun _ _ => false) (fun _ ih => mi_239_181b a0 a1 a2 K i218 ih) n
theorem mi_239_181b_ok {fg : eG} {μz : eM} {rc : eQ} {d : Nat} {f : eFr} {F : List eFr} {μ0 : eM} {a0 a1 a2 : Nat} {K : yM → Bool} {i218 : Nat → yM → Bool} {i181 : Nat → yM → Bool} (hG : yG fg y_T) (hk : ev_kd μ0 a0 = some 11) (p0 : 0 < a0) (hK : ∀ (M : yM) (μ : eM), K M = true → xQ μz M μ → y_le μ0 μ → ex_q fg rc (d + 6, (f.1, f.2.1, f.2.2.1, f.2.2.2), F, μ)) (h218 : ∀ (a3 : Nat) (x4 : Option eV) (M : yM) (μ : eM), i218 a3 M = true → xQ μz M μ → y_le μ0 μ → ex_q fg rc (d + 5, (239, 218, [some (eR a0), some (eI (zI a1)), some (eI (zI a2)), some (eI (zI a3)), x4], []), f :: F, μ)) (h181 : ∀ (a3 : Nat) (M : yM) (μ : eM), i181 a3 M = true → xQ μz M μ → y_le μ0 μ → ex_q fg rc (d + 5, (239, 181, [some (eR a0), some (eI (zI a1)), some (eI (zI a2)), some (eI (zI a3)), none], []), f :: F, μ)) : ∀ (a3 : Nat) (M : yM) (μ : eM), mi_239_181b a0 a1 a2 K i218 i181 a3 M = true → xQ μz M μ → y_le μ0 μ → ex_q fg rc (d + 5, (239, 181, [some (eR a0), some (eI (zI a1)), some (eI (zI a2)), some (eI (zI a3)), none], []), f :: F, μ) := by
  intro a3 M μ h hR hl
  unfold mi_239_181b at h
  refine w_s (np := 182) (lv' := [some (eR a0), some (eI (zI a1)), some (eI (zI a2)), some (eI (zI a3)), none]) (st' := [eI (zI a3)]) rfl rfl rfl ?_
  refine w_s (np := 183) (lv' := [some (eR a0), some (eI (zI a1)), some (eI (zI a2)), some (eI (zI a3)), none]) (st' := [eR a0, eI (zI a3)]) rfl (s_an rfl p0) rfl ?_
  obtain ⟨v1, h, k2, e3⟩ := x_gf_ok (ty := 0) h hR (by decide) rfl
  refine v_gf0 (np := 186) rfl rfl k2 e3 ?_
  clear k2 e3
  rcases z_if_t h with ⟨g4, h⟩ | ⟨g4, h⟩
  · refine v_ge_f (t1 := 216) rfl rfl g4 ?_
    refine w_s (np := 190) (lv' := [some (eR a0), some (eI (zI a1)), some (eI (zI a2)), some (eI (zI a3)), none]) (st' := [eR a0]) rfl (s_an rfl p0) rfl ?_
    obtain ⟨v6, h, k7, e8⟩ := x_gf_ok (ty := 3) h hR (by decide) rfl
    obtain ⟨g9, h⟩ := f_if_ok h
    have q10 : 0 < v6 := Nat.ble_eq.mp g9
    refine v_gf3 (np := 193) rfl rfl k7 e8 ?_
    clear k7 e8
    refine w_s (np := 194) (lv' := [some (eR a0), some (eI (zI a1)), some (eI (zI a2)), some (eI (zI a3)), none]) (st' := [eI (zI a3), eR v6]) rfl rfl rfl ?_
    refine w_s (np := 195) (lv' := [some (eR a0), some (eI (zI a1)), some (eI (zI a2)), some (eI (zI a3)), none]) (st' := [eI (zI 4294967295), eI (zI a3), eR v6]) rfl rfl rfl ?_
    obtain ⟨M11, μ12, h, k15, hR13, hl14⟩ := x_sa_ex (ty := 0) h hR hl rfl (by decide)
    refine v_sa (np := 196) rfl rfl k15 ?_
    clear k15
    refine w_s (np := 197) (lv' := [some (eR a0), some (eI (zI a1)), some (eI (zI a2)), some (eI (zI a3)), none]) (st' := [eR a0]) rfl (s_an rfl p0) rfl ?_
    obtain ⟨v16, h, k17, e18⟩ := x_gf_ok (ty := 3) h hR13 (by decide) rfl
    obtain ⟨g19, h⟩ := f_if_ok h
    have q20 : 0 < v16 := Nat.ble_eq.mp g19
    refine v_gf3 (np := 200) rfl rfl k17 e18 ?_
    clear k17 e18
    refine w_s (np := 201) (lv' := [some (eR a0), some (eI (zI a1)), some (eI (zI a2)), some (eI (zI a3)), none]) (st' := [eI (zI a3), eR v16]) rfl rfl rfl ?_
    refine w_s (np := 202) (lv' := [some (eR a0), some (eI (zI a1)), some (eI (zI a2)), some (eI (zI a3)), none]) (st' := [eI (zI 4294967295), eI (zI a3), eR v16]) rfl rfl rfl ?_
    obtain ⟨M21, μ22, h, k25, hR23, hl24⟩ := x_sa_ex (ty := 0) h hR13 hl14 rfl (by decide)
    refine v_sa (np := 203) rfl rfl k25 ?_
    clear k25
    refine w_s (np := 204) (lv' := [some (eR a0), some (eI (zI a1)), some (eI (zI a2)), some (eI (zI a3)), none]) (st' := [eR a0]) rfl (s_an rfl p0) rfl ?_
    obtain ⟨v26, h, k27, e28⟩ := x_gf_ok (ty := 3) h hR23 (by decide) rfl
    obtain ⟨g29, h⟩ := f_if_ok h
    have q30 : 0 < v26 := Nat.ble_eq.mp g29
    refine v_gf3 (np := 207) rfl rfl k27 e28 ?_
    clear k27 e28
    refine w_s (np := 208) (lv' := [some (eR a0), some (eI (zI a1)), some (eI (zI a2)), some (eI (zI a3)), none]) (st' := [eI (zI a3), eR v26]) rfl rfl rfl ?_
    refine w_s (np := 209) (lv' := [some (eR a0), some (eI (zI a1)), some (eI (zI a2)), some (eI (zI a3)), none]) (st' := [eI (zI 4294967295), eI (zI a3), eR v26]) rfl rfl rfl ?_
    obtain ⟨M31, μ32, h, k35, hR33, hl34⟩ := x_sa_ex (ty := 0) h hR23 hl24 rfl (by decide)
    refine v_sa (np := 210) rfl rfl k35 ?_
    clear k35
    obtain ⟨v36, ev36, h⟩ := z_l_ex h
    refine w_s (np := 213) (lv' := [some (eR a0), some (eI (zI a1)), some (eI (zI a2)), some (eI (zI v36)), none]) (st' := []) rfl (s_iinc (b := 1) rfl rfl ev36 rfl) rfl ?_
    clear ev36
    refine w_go (t1 := 181) rfl rfl ?_
    obtain ⟨w37, ew37, h⟩ := z_f_ex h
    subst ew37
    exact h181 _ M31 μ32 h hR33 hl34
  · refine v_ge_t (t1 := 216) rfl rfl g4 ?_
    refine w_s (np := 217) (lv' := [some (eR a0), some (eI (zI a1)), some (eI (zI a2)), some (eI (zI a3)), none]) (st' := [eI (zI 0)]) rfl rfl rfl ?_
    refine w_s (np := 218) (lv' := [some (eR a0), some (eI (zI a1)), some (eI (zI a2)), some (eI (zI 0)), none]) (st' := []) rfl rfl rfl ?_
    obtain ⟨w5, ew5, h⟩ := z_f_ex h
    subst ew5
    exact h218 _ _ M μ h hR hl
theorem mi_239_181_ok {fg : eG} {μz : eM} {rc : eQ} {d : Nat} {f : eFr} {F : List eFr} {μ0 : eM} {a0 a1 a2 : Nat} {K : yM → Bool} {i218 : Nat → yM → Bool} (hG : yG fg y_T) (hk : ev_kd μ0 a0 = some 11) (p0 : 0 < a0) (hK : ∀ (M : yM) (μ : eM), K M = true → xQ μz M μ → y_le μ0 μ → ex_q fg rc (d + 6, (f.1, f.2.1, f.2.2.1, f.2.2.2), F, μ)) (h218 : ∀ (a3 : Nat) (x4 : Option eV) (M : yM) (μ : eM), i218 a3 M = true → xQ μz M μ → y_le μ0 μ → ex_q fg rc (d + 5, (239, 218, [some (eR a0), some (eI (zI a1)), some (eI (zI a2)), some (eI (zI a3)), x4], []), f :: F, μ)) : ∀ n : Nat, ∀ (a3 : Nat) (M : yM) (μ : eM), mi_239_181 a0 a1 a2 K i218 n a3 M = true → xQ μz M μ → y_le μ0 μ → ex_q fg rc (d + 5, (239, 181, [some (eR a0), some (eI (zI a1)), some (eI (zI a2)), some (eI (zI a3)), none], []), f :: F, μ) := by
  intro n
  induction n with
  | zero =>
    intro a3 M μ h hR hl
    exact absurd h Bool.false_ne_true
  | succ n ih =>
    intro a3 M μ h hR hl
    exact mi_239_181b_ok hG hk p0 hK h218 ih a3 M μ h hR hl
noncomputable def mi_239_135b (a0 a1 a2 : Nat) (K : yM → Bool) (i218 : Nat → yM → Bool) (i135 : Nat → yM → Bool) (a3 : Nat) (M : yM) : Bool := y_gf M a0 11 8 fun v1 => z_l (z_mul 3 v1) fun v4 => z_if (z_lt a3 v4) (y_gf M a0 11 24 fun v6 => f_if false (Nat.ble 1 v6) (y_gf M a0 11 22 fun v11 => f_if false (Nat.ble 1 v11) (y_lh 100 M v11 a3 fun v16 => y_lh 100 M v6 v16 fun v18 => y_gf M a0 11 12 fun v20 => f_if false (Nat.ble 1 v20) (z_l (z_div a3 3) fun v25 => y_lh 100 M v20 v25 fun v26 => z_l (z_rem a3 3) fun v28 => m_237 v26 v28 M fun v34 M29 => z_l (z_add v18 v34) fun v35 => y_sa 100 M29 v6 v16 v35 fun M36 => z_l (z_add a3 1) fun v41 => z_f v41 fun w42 => i135 w42 M36)))) (mi_239_181 a0 a1 a2 K i218 100000 0 M)
noncomputable def mi_239_135 (a0 a1 a2 : Nat) (K : yM → Bool) (i218 : Nat → yM → Bool) (n : Nat) : Nat → yM → Bool := @Nat.rec (fun _ => Nat → yM → Bool) (fun _ _ => false) (fun _ ih => mi_239_135b a0 a1 a2 K i218 ih) n
theorem mi_239_135b_ok {fg : eG} {μz : eM} {rc : eQ} {d : Nat} {f : eFr} {F : List eFr} {μ0 : eM} {a0 a1 a2 : Nat} {K : yM → Bool} {i218 : Nat → yM → Bool} {i135 : Nat → yM → Bool} (hG : yG fg y_T) (hk : ev_kd μ0 a0 = some 11) (p0 : 0 < a0) (hK : ∀ (M : yM) (μ : eM), K M = true → xQ μz M μ → y_le μ0 μ → ex_q fg rc (d + 6, (f.1, f.2.1, f.2.2.1, f.2.2.2), F, μ)) (h218 : ∀ (a3 : Nat) (x4 : Option eV) (M : yM) (μ : eM), i218 a3 M = true → xQ μz M μ → y_le μ0 μ → ex_q fg rc (d + 5, (239, 218, [some (eR a0), some (eI (zI a1)), some (eI (zI a2)), some (eI (zI a3)), x4], []), f :: F, μ)) (h135 : ∀ (a3 : Nat) (M : yM) (μ : eM), i135 a3 M = true → xQ μz M μ → y_le μ0 μ → ex_q fg rc (d + 5, (239, 135, [some (eR a0), some (eI (zI a1)), some (eI (zI a2)), some (eI (zI a3)), none], []), f :: F, μ)) : ∀ (a3 : Nat) (M : yM) (μ : eM), mi_239_135b a0 a1 a2 K i218 i135 a3 M = true → xQ μz M μ → y_le μ0 μ → ex_q fg rc (d + 5, (239, 135, [some (eR a0), some (eI (zI a1)), some (eI (zI a2)), some (eI (zI a3)), none], []), f :: F, μ) := by
  intro a3 M μ h hR hl
  unfold mi_239_135b at h
  refine w_s (np := 136) (lv' := [some (eR a0), some (eI (zI a1)), some (eI (zI a2)), some (eI (zI a3)), none]) (st' := [eI (zI a3)]) rfl rfl rfl ?_
  refine w_s (np := 137) (lv' := [some (eR a0), some (eI (zI a1)), some (eI (zI a2)), some (eI (zI a3)), none]) (st' := [eI (zI 3), eI (zI a3)]) rfl rfl rfl ?_
  refine w_s (np := 138) (lv' := [some (eR a0), some (eI (zI a1)), some (eI (zI a2)), some (eI (zI a3)), none]) (st' := [eR a0, eI (zI 3), eI (zI a3)]) rfl (s_an rfl p0) rfl ?_
  obtain ⟨v1, h, k2, e3⟩ := x_gf_ok (ty := 0) h hR (by decide) rfl
  refine v_gf0 (np := 141) rfl rfl k2 e3 ?_
  clear k2 e3
  obtain ⟨v4, ev4, h⟩ := z_l_ex h
  refine w_s (np := 142) (lv' := [some (eR a0), some (eI (zI a1)), some (eI (zI a2)), some (eI (zI a3)), none]) (st' := [eI (zI v4), eI (zI a3)]) rfl (s_imul ev4) rfl ?_
  clear ev4
  rcases z_if_t h with ⟨g5, h⟩ | ⟨g5, h⟩
  · refine v_ge_f (t1 := 179) rfl rfl g5 ?_
    refine w_s (np := 146) (lv' := [some (eR a0), some (eI (zI a1)), some (eI (zI a2)), some (eI (zI a3)), none]) (st' := [eR a0]) rfl (s_an rfl p0) rfl ?_
    obtain ⟨v6, h, k7, e8⟩ := x_gf_ok (ty := 3) h hR (by decide) rfl
    obtain ⟨g9, h⟩ := f_if_ok h
    have q10 : 0 < v6 := Nat.ble_eq.mp g9
    refine v_gf3 (np := 149) rfl rfl k7 e8 ?_
    clear k7 e8
    refine w_s (np := 150) (lv' := [some (eR a0), some (eI (zI a1)), some (eI (zI a2)), some (eI (zI a3)), none]) (st' := [eR a0, eR v6]) rfl (s_an rfl p0) rfl ?_
    obtain ⟨v11, h, k12, e13⟩ := x_gf_ok (ty := 3) h hR (by decide) rfl
    obtain ⟨g14, h⟩ := f_if_ok h
    have q15 : 0 < v11 := Nat.ble_eq.mp g14
    refine v_gf3 (np := 153) rfl rfl k12 e13 ?_
    clear k12 e13
    refine w_s (np := 154) (lv' := [some (eR a0), some (eI (zI a1)), some (eI (zI a2)), some (eI (zI a3)), none]) (st' := [eI (zI a3), eR v11, eR v6]) rfl rfl rfl ?_
    obtain ⟨v16, h, k17⟩ := x_lh_ok (ty := 0) h hR hG (by decide) rfl (by decide)
    refine v_la (np := 155) rfl rfl k17 ?_
    clear k17
    refine w_s (np := 156) (lv' := [some (eR a0), some (eI (zI a1)), some (eI (zI a2)), some (eI (zI a3)), none]) (st' := [eI (zI v16), eR v6, eI (zI v16), eR v6]) rfl rfl rfl ?_
    obtain ⟨v18, h, k19⟩ := x_lh_ok (ty := 0) h hR hG (by decide) rfl (by decide)
    refine v_la (np := 157) rfl rfl k19 ?_
    clear k19
    refine w_s (np := 158) (lv' := [some (eR a0), some (eI (zI a1)), some (eI (zI a2)), some (eI (zI a3)), none]) (st' := [eR a0, eI (zI v18), eI (zI v16), eR v6]) rfl (s_an rfl p0) rfl ?_
    obtain ⟨v20, h, k21, e22⟩ := x_gf_ok (ty := 3) h hR (by decide) rfl
    obtain ⟨g23, h⟩ := f_if_ok h
    have q24 : 0 < v20 := Nat.ble_eq.mp g23
    refine v_gf3 (np := 161) rfl rfl k21 e22 ?_
    clear k21 e22
    refine w_s (np := 162) (lv' := [some (eR a0), some (eI (zI a1)), some (eI (zI a2)), some (eI (zI a3)), none]) (st' := [eI (zI a3), eR v20, eI (zI v18), eI (zI v16), eR v6]) rfl rfl rfl ?_
    refine w_s (np := 163) (lv' := [some (eR a0), some (eI (zI a1)), some (eI (zI a2)), some (eI (zI a3)), none]) (st' := [eI (zI 3), eI (zI a3), eR v20, eI (zI v18), eI (zI v16), eR v6]) rfl rfl rfl ?_
    obtain ⟨v25, ev25, h⟩ := z_l_ex h
    refine w_s (np := 164) (lv' := [some (eR a0), some (eI (zI a1)), some (eI (zI a2)), some (eI (zI a3)), none]) (st' := [eI (zI v25), eR v20, eI (zI v18), eI (zI v16), eR v6]) rfl (s_idiv ⟨by decide, by decide⟩ ev25) rfl ?_
    clear ev25
    obtain ⟨v26, h, k27⟩ := x_lh_ok (ty := 0) h hR hG (by decide) rfl (by decide)
    refine v_la (np := 165) rfl rfl k27 ?_
    clear k27
    refine w_s (np := 166) (lv' := [some (eR a0), some (eI (zI a1)), some (eI (zI a2)), some (eI (zI a3)), none]) (st' := [eI (zI a3), eI (zI v26), eI (zI v18), eI (zI v16), eR v6]) rfl rfl rfl ?_
    refine w_s (np := 167) (lv' := [some (eR a0), some (eI (zI a1)), some (eI (zI a2)), some (eI (zI a3)), none]) (st' := [eI (zI 3), eI (zI a3), eI (zI v26), eI (zI v18), eI (zI v16), eR v6]) rfl rfl rfl ?_
    obtain ⟨v28, ev28, h⟩ := z_l_ex h
    refine w_s (np := 168) (lv' := [some (eR a0), some (eI (zI a1)), some (eI (zI a2)), some (eI (zI a3)), none]) (st' := [eI (zI v28), eI (zI v26), eI (zI v18), eI (zI v16), eR v6]) rfl (s_irem ⟨by decide, by decide⟩ ev28) rfl ?_
    clear ev28
    refine w_cs (np := 171) (as := [eI (zI v26), eI (zI v28)]) (lv' := [some (eI (zI v26)), some (eI (zI v28))]) (rest := [eI (zI v18), eI (zI v16), eR v6]) rfl rfl rfl (Nat.ble_eq.mp rfl) rfl rfl rfl rfl ?_
    refine m_237_ok hG h hR ?_
    intro v34 M29 μ30 h hR31 hl33
    have hl32 := y_le.tr hl hl33
    show ex_q fg rc (d + 5, (239, 171, [some (eR a0), some (eI (zI a1)), some (eI (zI a2)), some (eI (zI a3)), none], [eI (zI v34), eI (zI v18), eI (zI v16), eR v6]), f :: F, μ30)
    obtain ⟨v35, ev35, h⟩ := z_l_ex h
    refine w_s (np := 172) (lv' := [some (eR a0), some (eI (zI a1)), some (eI (zI a2)), some (eI (zI a3)), none]) (st' := [eI (zI v35), eI (zI v16), eR v6]) rfl (s_iadd ev35) rfl ?_
    clear ev35
    obtain ⟨M36, μ37, h, k40, hR38, hl39⟩ := x_sa_ex (ty := 0) h hR31 hl32 rfl (by decide)
    refine v_sa (np := 173) rfl rfl k40 ?_
    clear k40
    obtain ⟨v41, ev41, h⟩ := z_l_ex h
    refine w_s (np := 176) (lv' := [some (eR a0), some (eI (zI a1)), some (eI (zI a2)), some (eI (zI v41)), none]) (st' := []) rfl (s_iinc (b := 1) rfl rfl ev41 rfl) rfl ?_
    clear ev41
    refine w_go (t1 := 135) rfl rfl ?_
    obtain ⟨w42, ew42, h⟩ := z_f_ex h
    subst ew42
    exact h135 _ M36 μ37 h hR38 hl39
  · refine v_ge_t (t1 := 179) rfl rfl g5 ?_
    refine w_s (np := 180) (lv' := [some (eR a0), some (eI (zI a1)), some (eI (zI a2)), some (eI (zI a3)), none]) (st' := [eI (zI 0)]) rfl rfl rfl ?_
    refine w_s (np := 181) (lv' := [some (eR a0), some (eI (zI a1)), some (eI (zI a2)), some (eI (zI 0)), none]) (st' := []) rfl rfl rfl ?_
    exact mi_239_181_ok hG hk p0 hK h218 100000 _ M μ h hR hl
theorem mi_239_135_ok {fg : eG} {μz : eM} {rc : eQ} {d : Nat} {f : eFr} {F : List eFr} {μ0 : eM} {a0 a1 a2 : Nat} {K : yM → Bool} {i218 : Nat → yM → Bool} (hG : yG fg y_T) (hk : ev_kd μ0 a0 = some 11) (p0 : 0 < a0) (hK : ∀ (M : yM) (μ : eM), K M = true → xQ μz M μ → y_le μ0 μ → ex_q fg rc (d + 6, (f.1, f.2.1, f.2.2.1, f.2.2.2), F, μ)) (h218 : ∀ (a3 : Nat) (x4 : Option eV) (M : yM) (μ : eM), i218 a3 M = true → xQ μz M μ → y_le μ0 μ → ex_q fg rc (d + 5, (239, 218, [some (eR a0), some (eI (zI a1)), some (eI (zI a2)), some (eI (zI a3)), x4], []), f :: F, μ)) : ∀ n : Nat, ∀ (a3 : Nat) (M : yM) (μ : eM), mi_239_135 a0 a1 a2 K i218 n a3 M = true → xQ μz M μ → y_le μ0 μ → ex_q fg rc (d + 5, (239, 135, [some (eR a0), some (eI (zI a1)), some (eI (zI a2)), some (eI (zI a3)), none], []), f :: F, μ) := by
  intro n
  induction n with
  | zero =>
    intro a3 M μ h hR hl
    exact absurd h Bool.false_ne_true
  | succ n ih =>
    intro a3 M μ h hR hl
    exact mi_239_135b_ok hG hk p0 hK h218 ih a3 M μ h hR hl
noncomputable def mi_239_112b (a0 a1 a2 : Nat) (K : yM → Bool) (i218 : Nat → yM → Bool) (i112 : Nat → yM → Bool) (a3 : Nat) (M : yM) : Bool := y_gf M a0 11 28 fun v1 => z_if (z_lt a3 v1) (y_gf M a0 11 24 fun v5 => f_if false (Nat.ble 1 v5) (y_sa 100 M v5 a3 0 fun M10 => z_l (z_add a3 1) fun v15 => z_f v15 fun w16 => i112 w16 M10)) (mi_239_135 a0 a1 a2 K i218 100000 0 M)
noncomputable def mi_239_112 (a0 a1 a2 : Nat) (K : yM → Bool) (i218 : Nat → yM → Bool) (n : Nat) : Nat → yM → Bool := @Nat.rec (fun _ => Nat → yM → Bool) (fun _ _ => false) (fun _ ih => mi_239_112b a0 a1 a2 K i218 ih) n
theorem mi_239_112b_ok {fg : eG} {μz : eM} {rc : eQ} {d : Nat} {f : eFr} {F : List eFr} {μ0 : eM} {a0 a1 a2 : Nat} {K : yM → Bool} {i218 : Nat → yM → Bool} {i112 : Nat → yM → Bool} (hG : yG fg y_T) (hk : ev_kd μ0 a0 = some 11) (p0 : 0 < a0) (hK : ∀ (M : yM) (μ : eM), K M = true → xQ μz M μ → y_le μ0 μ → ex_q fg rc (d + 6, (f.1, f.2.1, f.2.2.1, f.2.2.2), F, μ)) (h218 : ∀ (a3 : Nat) (x4 : Option eV) (M : yM) (μ : eM), i218 a3 M = true → xQ μz M μ → y_le μ0 μ → ex_q fg rc (d + 5, (239, 218, [some (eR a0), some (eI (zI a1)), some (eI (zI a2)), some (eI (zI a3)), x4], []), f :: F, μ)) (h112 : ∀ (a3 : Nat) (M : yM) (μ : eM), i112 a3 M = true → xQ μz M μ → y_le μ0 μ → ex_q fg rc (d + 5, (239, 112, [some (eR a0), some (eI (zI a1)), some (eI (zI a2)), some (eI (zI a3)), none], []), f :: F, μ)) : ∀ (a3 : Nat) (M : yM) (μ : eM), mi_239_112b a0 a1 a2 K i218 i112 a3 M = true → xQ μz M μ → y_le μ0 μ → ex_q fg rc (d + 5, (239, 112, [some (eR a0), some (eI (zI a1)), some (eI (zI a2)), some (eI (zI a3)), none], []), f :: F, μ) := by
  intro a3 M μ h hR hl
  unfold mi_239_112b at h
  refine w_s (np := 113) (lv' := [some (eR a0), some (eI (zI a1)), some (eI (zI a2)), some (eI (zI a3)), none]) (st' := [eI (zI a3)]) rfl rfl rfl ?_
  refine w_s (np := 114) (lv' := [some (eR a0), some (eI (zI a1)), some (eI (zI a2)), some (eI (zI a3)), none]) (st' := [eR a0, eI (zI a3)]) rfl (s_an rfl p0) rfl ?_
  obtain ⟨v1, h, k2, e3⟩ := x_gf_ok (ty := 0) h hR (by decide) rfl
  refine v_gf0 (np := 117) rfl rfl k2 e3 ?_
  clear k2 e3
  rcases z_if_t h with ⟨g4, h⟩ | ⟨g4, h⟩
  · refine v_ge_f (t1 := 133) rfl rfl g4 ?_
    refine w_s (np := 121) (lv' := [some (eR a0), some (eI (zI a1)), some (eI (zI a2)), some (eI (zI a3)), none]) (st' := [eR a0]) rfl (s_an rfl p0) rfl ?_
    obtain ⟨v5, h, k6, e7⟩ := x_gf_ok (ty := 3) h hR (by decide) rfl
    obtain ⟨g8, h⟩ := f_if_ok h
    have q9 : 0 < v5 := Nat.ble_eq.mp g8
    refine v_gf3 (np := 124) rfl rfl k6 e7 ?_
    clear k6 e7
    refine w_s (np := 125) (lv' := [some (eR a0), some (eI (zI a1)), some (eI (zI a2)), some (eI (zI a3)), none]) (st' := [eI (zI a3), eR v5]) rfl rfl rfl ?_
    refine w_s (np := 126) (lv' := [some (eR a0), some (eI (zI a1)), some (eI (zI a2)), some (eI (zI a3)), none]) (st' := [eI (zI 0), eI (zI a3), eR v5]) rfl rfl rfl ?_
    obtain ⟨M10, μ11, h, k14, hR12, hl13⟩ := x_sa_ex (ty := 0) h hR hl rfl (by decide)
    refine v_sa (np := 127) rfl rfl k14 ?_
    clear k14
    obtain ⟨v15, ev15, h⟩ := z_l_ex h
    refine w_s (np := 130) (lv' := [some (eR a0), some (eI (zI a1)), some (eI (zI a2)), some (eI (zI v15)), none]) (st' := []) rfl (s_iinc (b := 1) rfl rfl ev15 rfl) rfl ?_
    clear ev15
    refine w_go (t1 := 112) rfl rfl ?_
    obtain ⟨w16, ew16, h⟩ := z_f_ex h
    subst ew16
    exact h112 _ M10 μ11 h hR12 hl13
  · refine v_ge_t (t1 := 133) rfl rfl g4 ?_
    refine w_s (np := 134) (lv' := [some (eR a0), some (eI (zI a1)), some (eI (zI a2)), some (eI (zI a3)), none]) (st' := [eI (zI 0)]) rfl rfl rfl ?_
    refine w_s (np := 135) (lv' := [some (eR a0), some (eI (zI a1)), some (eI (zI a2)), some (eI (zI 0)), none]) (st' := []) rfl rfl rfl ?_
    exact mi_239_135_ok hG hk p0 hK h218 100000 _ M μ h hR hl
theorem mi_239_112_ok {fg : eG} {μz : eM} {rc : eQ} {d : Nat} {f : eFr} {F : List eFr} {μ0 : eM} {a0 a1 a2 : Nat} {K : yM → Bool} {i218 : Nat → yM → Bool} (hG : yG fg y_T) (hk : ev_kd μ0 a0 = some 11) (p0 : 0 < a0) (hK : ∀ (M : yM) (μ : eM), K M = true → xQ μz M μ → y_le μ0 μ → ex_q fg rc (d + 6, (f.1, f.2.1, f.2.2.1, f.2.2.2), F, μ)) (h218 : ∀ (a3 : Nat) (x4 : Option eV) (M : yM) (μ : eM), i218 a3 M = true → xQ μz M μ → y_le μ0 μ → ex_q fg rc (d + 5, (239, 218, [some (eR a0), some (eI (zI a1)), some (eI (zI a2)), some (eI (zI a3)), x4], []), f :: F, μ)) : ∀ n : Nat, ∀ (a3 : Nat) (M : yM) (μ : eM), mi_239_112 a0 a1 a2 K i218 n a3 M = true → xQ μz M μ → y_le μ0 μ → ex_q fg rc (d + 5, (239, 112, [some (eR a0), some (eI (zI a1)), some (eI (zI a2)), some (eI (zI a3)), none], []), f :: F, μ) := by
  intro n
  induction n with
  | zero =>
    intro a3 M μ h hR hl
    exact absurd h Bool.false_ne_true
  | succ n ih =>
    intro a3 M μ h hR hl
    exact mi_239_112b_ok hG hk p0 hK h218 ih a3 M μ h hR hl
noncomputable def mi_239_77b (a0 a1 a2 : Nat) (K : yM → Bool) (i218 : Nat → yM → Bool) (i77 : Nat → yM → Bool) (a3 : Nat) (M : yM) : Bool := y_gf M a0 11 8 fun v1 => z_l (z_mul 3 v1) fun v4 => z_if (z_lt a3 v4) (y_gf M a0 11 22 fun v6 => f_if false (Nat.ble 1 v6) (y_gf M a0 11 10 fun v11 => f_if false (Nat.ble 1 v11) (z_l (z_mul 4 a3) fun v16 => m_236 a0 v11 v16 M fun v22 M17 => y_sa 100 M17 v6 a3 v22 fun M23 => z_l (z_add a3 1) fun v28 => z_f v28 fun w29 => i77 w29 M23))) (mi_239_112 a0 a1 a2 K i218 100000 0 M)
noncomputable def mi_239_77 (a0 a1 a2 : Nat) (K : yM → Bool) (i218 : Nat → yM → Bool) (n : Nat) : Nat → yM → Bool := @Nat.rec (fun _ => Nat → yM → Bool) (fun _ _ => false) (fun _ ih => mi_239_77b a0 a1 a2 K i218 ih) n
theorem mi_239_77b_ok {fg : eG} {μz : eM} {rc : eQ} {d : Nat} {f : eFr} {F : List eFr} {μ0 : eM} {a0 a1 a2 : Nat} {K : yM → Bool} {i218 : Nat → yM → Bool} {i77 : Nat → yM → Bool} (hG : yG fg y_T) (hk : ev_kd μ0 a0 = some 11) (p0 : 0 < a0) (hK : ∀ (M : yM) (μ : eM), K M = true → xQ μz M μ → y_le μ0 μ → ex_q fg rc (d + 6, (f.1, f.2.1, f.2.2.1, f.2.2.2), F, μ)) (h218 : ∀ (a3 : Nat) (x4 : Option eV) (M : yM) (μ : eM), i218 a3 M = true → xQ μz M μ → y_le μ0 μ → ex_q fg rc (d + 5, (239, 218, [some (eR a0), some (eI (zI a1)), some (eI (zI a2)), some (eI (zI a3)), x4], []), f :: F, μ)) (h77 : ∀ (a3 : Nat) (M : yM) (μ : eM), i77 a3 M = true → xQ μz M μ → y_le μ0 μ → ex_q fg rc (d + 5, (239, 77, [some (eR a0), some (eI (zI a1)), some (eI (zI a2)), some (eI (zI a3)), none], []), f :: F, μ)) : ∀ (a3 : Nat) (M : yM) (μ : eM), mi_239_77b a0 a1 a2 K i218 i77 a3 M = true → xQ μz M μ → y_le μ0 μ → ex_q fg rc (d + 5, (239, 77, [some (eR a0), some (eI (zI a1)), some (eI (zI a2)), some (eI (zI a3)), none], []), f :: F, μ) := by
  intro a3 M μ h hR hl
  unfold mi_239_77b at h
  refine w_s (np := 78) (lv' := [some (eR a0), some (eI (zI a1)), some (eI (zI a2)), some (eI (zI a3)), none]) (st' := [eI (zI a3)]) rfl rfl rfl ?_
  refine w_s (np := 79) (lv' := [some (eR a0), some (eI (zI a1)), some (eI (zI a2)), some (eI (zI a3)), none]) (st' := [eI (zI 3), eI (zI a3)]) rfl rfl rfl ?_
  refine w_s (np := 80) (lv' := [some (eR a0), some (eI (zI a1)), some (eI (zI a2)), some (eI (zI a3)), none]) (st' := [eR a0, eI (zI 3), eI (zI a3)]) rfl (s_an rfl p0) rfl ?_
  obtain ⟨v1, h, k2, e3⟩ := x_gf_ok (ty := 0) h hR (by decide) rfl
  refine v_gf0 (np := 83) rfl rfl k2 e3 ?_
  clear k2 e3
  obtain ⟨v4, ev4, h⟩ := z_l_ex h
  refine w_s (np := 84) (lv' := [some (eR a0), some (eI (zI a1)), some (eI (zI a2)), some (eI (zI a3)), none]) (st' := [eI (zI v4), eI (zI a3)]) rfl (s_imul ev4) rfl ?_
  clear ev4
  rcases z_if_t h with ⟨g5, h⟩ | ⟨g5, h⟩
  · refine v_ge_f (t1 := 110) rfl rfl g5 ?_
    refine w_s (np := 88) (lv' := [some (eR a0), some (eI (zI a1)), some (eI (zI a2)), some (eI (zI a3)), none]) (st' := [eR a0]) rfl (s_an rfl p0) rfl ?_
    obtain ⟨v6, h, k7, e8⟩ := x_gf_ok (ty := 3) h hR (by decide) rfl
    obtain ⟨g9, h⟩ := f_if_ok h
    have q10 : 0 < v6 := Nat.ble_eq.mp g9
    refine v_gf3 (np := 91) rfl rfl k7 e8 ?_
    clear k7 e8
    refine w_s (np := 92) (lv' := [some (eR a0), some (eI (zI a1)), some (eI (zI a2)), some (eI (zI a3)), none]) (st' := [eI (zI a3), eR v6]) rfl rfl rfl ?_
    refine w_s (np := 93) (lv' := [some (eR a0), some (eI (zI a1)), some (eI (zI a2)), some (eI (zI a3)), none]) (st' := [eR a0, eI (zI a3), eR v6]) rfl (s_an rfl p0) rfl ?_
    refine w_s (np := 94) (lv' := [some (eR a0), some (eI (zI a1)), some (eI (zI a2)), some (eI (zI a3)), none]) (st' := [eR a0, eR a0, eI (zI a3), eR v6]) rfl (s_an rfl p0) rfl ?_
    obtain ⟨v11, h, k12, e13⟩ := x_gf_ok (ty := 3) h hR (by decide) rfl
    obtain ⟨g14, h⟩ := f_if_ok h
    have q15 : 0 < v11 := Nat.ble_eq.mp g14
    refine v_gf3 (np := 97) rfl rfl k12 e13 ?_
    clear k12 e13
    refine w_s (np := 98) (lv' := [some (eR a0), some (eI (zI a1)), some (eI (zI a2)), some (eI (zI a3)), none]) (st' := [eI (zI 4), eR v11, eR a0, eI (zI a3), eR v6]) rfl rfl rfl ?_
    refine w_s (np := 99) (lv' := [some (eR a0), some (eI (zI a1)), some (eI (zI a2)), some (eI (zI a3)), none]) (st' := [eI (zI a3), eI (zI 4), eR v11, eR a0, eI (zI a3), eR v6]) rfl rfl rfl ?_
    obtain ⟨v16, ev16, h⟩ := z_l_ex h
    refine w_s (np := 100) (lv' := [some (eR a0), some (eI (zI a1)), some (eI (zI a2)), some (eI (zI a3)), none]) (st' := [eI (zI v16), eR v11, eR a0, eI (zI a3), eR v6]) rfl (s_imul ev16) rfl ?_
    clear ev16
    refine w_cv (np := 103) (as := [eR v11, eI (zI v16)]) (lv' := [some (eR a0), some (eR v11), some (eI (zI v16)), none]) (rest := [eI (zI a3), eR v6]) rfl rfl rfl (Nat.ble_eq.mp rfl) rfl rfl rfl (hl _ _ hk) rfl ?_
    refine m_236_ok hG h hR (hl _ _ hk) p0 q15 ?_
    intro v22 M17 μ18 h hR19 hl21
    have hl20 := y_le.tr hl hl21
    show ex_q fg rc (d + 5, (239, 103, [some (eR a0), some (eI (zI a1)), some (eI (zI a2)), some (eI (zI a3)), none], [eI (zI v22), eI (zI a3), eR v6]), f :: F, μ18)
    obtain ⟨M23, μ24, h, k27, hR25, hl26⟩ := x_sa_ex (ty := 0) h hR19 hl20 rfl (by decide)
    refine v_sa (np := 104) rfl rfl k27 ?_
    clear k27
    obtain ⟨v28, ev28, h⟩ := z_l_ex h
    refine w_s (np := 107) (lv' := [some (eR a0), some (eI (zI a1)), some (eI (zI a2)), some (eI (zI v28)), none]) (st' := []) rfl (s_iinc (b := 1) rfl rfl ev28 rfl) rfl ?_
    clear ev28
    refine w_go (t1 := 77) rfl rfl ?_
    obtain ⟨w29, ew29, h⟩ := z_f_ex h
    subst ew29
    exact h77 _ M23 μ24 h hR25 hl26
  · refine v_ge_t (t1 := 110) rfl rfl g5 ?_
    refine w_s (np := 111) (lv' := [some (eR a0), some (eI (zI a1)), some (eI (zI a2)), some (eI (zI a3)), none]) (st' := [eI (zI 0)]) rfl rfl rfl ?_
    refine w_s (np := 112) (lv' := [some (eR a0), some (eI (zI a1)), some (eI (zI a2)), some (eI (zI 0)), none]) (st' := []) rfl rfl rfl ?_
    exact mi_239_112_ok hG hk p0 hK h218 100000 _ M μ h hR hl
theorem mi_239_77_ok {fg : eG} {μz : eM} {rc : eQ} {d : Nat} {f : eFr} {F : List eFr} {μ0 : eM} {a0 a1 a2 : Nat} {K : yM → Bool} {i218 : Nat → yM → Bool} (hG : yG fg y_T) (hk : ev_kd μ0 a0 = some 11) (p0 : 0 < a0) (hK : ∀ (M : yM) (μ : eM), K M = true → xQ μz M μ → y_le μ0 μ → ex_q fg rc (d + 6, (f.1, f.2.1, f.2.2.1, f.2.2.2), F, μ)) (h218 : ∀ (a3 : Nat) (x4 : Option eV) (M : yM) (μ : eM), i218 a3 M = true → xQ μz M μ → y_le μ0 μ → ex_q fg rc (d + 5, (239, 218, [some (eR a0), some (eI (zI a1)), some (eI (zI a2)), some (eI (zI a3)), x4], []), f :: F, μ)) : ∀ n : Nat, ∀ (a3 : Nat) (M : yM) (μ : eM), mi_239_77 a0 a1 a2 K i218 n a3 M = true → xQ μz M μ → y_le μ0 μ → ex_q fg rc (d + 5, (239, 77, [some (eR a0), some (eI (zI a1)), some (eI (zI a2)), some (eI (zI a3)), none], []), f :: F, μ) := by
  intro n
  induction n with
  | zero =>
    intro a3 M μ h hR hl
    exact absurd h Bool.false_ne_true
  | succ n ih =>
    intro a3 M μ h hR hl
    exact mi_239_77b_ok hG hk p0 hK h218 ih a3 M μ h hR hl
noncomputable def mi_239_55 (a0 a1 a2 : Nat) (K : yM → Bool) (i218 : Nat → yM → Bool) (n a3 : Nat) (M : yM) : Bool := f_if false (Nat.beq a0 98) (f_if false (Nat.beq a3 0) (q_sl M fun M1 => mi_239_77 98 a1 a2 K i218 100000 0 M1))
theorem mi_239_55_ok {fg : eG} {μz : eM} {rc : eQ} {d : Nat} {f : eFr} {F : List eFr} {μ0 : eM} {a0 a1 a2 : Nat} {K : yM → Bool} {i218 : Nat → yM → Bool} (hG : yG fg y_T) (hk : ev_kd μ0 a0 = some 11) (p0 : 0 < a0) (hK : ∀ (M : yM) (μ : eM), K M = true → xQ μz M μ → y_le μ0 μ → ex_q fg rc (d + 6, (f.1, f.2.1, f.2.2.1, f.2.2.2), F, μ)) (h218 : ∀ (a3 : Nat) (x4 : Option eV) (M : yM) (μ : eM), i218 a3 M = true → xQ μz M μ → y_le μ0 μ → ex_q fg rc (d + 5, (239, 218, [some (eR a0), some (eI (zI a1)), some (eI (zI a2)), some (eI (zI a3)), x4], []), f :: F, μ)) : ∀ n : Nat, ∀ (a3 : Nat) (M : yM) (μ : eM), mi_239_55 a0 a1 a2 K i218 n a3 M = true → xQ μz M μ → y_le μ0 μ → ex_q fg rc (d + 5, (239, 55, [some (eR a0), some (eI (zI a1)), some (eI (zI a2)), some (eI (zI a3)), none], []), f :: F, μ) := by
  intro n a3 M μ h hR hl
  obtain ⟨g1, h1⟩ := f_if_ok h
  obtain ⟨g2, h2⟩ := f_if_ok h1
  have g3 := Nat.eq_of_beq_eq_true g1
  have g4 := Nat.eq_of_beq_eq_true g2
  subst g3
  subst g4
  rw [show zI 0 = ((0 : Nat) : Int) from z_c0]
  obtain ⟨q1, q2, q3, q4⟩ := x_sl_ok h2 hR
  refine h_sl 8192 0 μ (by decide) q1 q2 q3 ?_
  intro μ1 m1 m2 m3 m4 m5
  obtain ⟨M1, h, hR1⟩ := q4 μ1 m1 m2 (fun j hj => m4 j (Nat.zero_le j) hj) m5
  have hl1 := y_le.tr hl (y_le_2 m1)
  show ex_q fg rc (d + 5, (239, 75, [some (eR 98), some (eI (zI a1)), some (eI (zI a2)), some (eI (zI 8192)), none], []), f :: F, μ1)
  refine w_s (np := 76) (lv' := [some (eR 98), some (eI (zI a1)), some (eI (zI a2)), some (eI (zI 8192)), none]) (st' := [eI (zI 0)]) rfl rfl rfl ?_
  refine w_s (np := 77) (lv' := [some (eR 98), some (eI (zI a1)), some (eI (zI a2)), some (eI (zI 0)), none]) (st' := []) rfl rfl rfl ?_
  exact mi_239_77_ok hG hk p0 hK h218 100000 _ M1 μ1 h hR1 hl1
noncomputable def mi_239_10b (a0 a1 a2 : Nat) (K : yM → Bool) (i218 : Nat → yM → Bool) (i10 : yM → Bool) (M : yM) : Bool := y_gf M a0 11 20 fun v1 => z_if (z_lt v1 a2) (m_234 a0 M fun M39 => i10 M39) (y_wf M a0 11 6 a1 fun M5 => y_wf M5 a0 11 7 a2 fun M11 => y_gf M11 a0 11 9 fun v17 => f_if false (Nat.ble 1 v17) (y_gf M11 a0 11 7 fun v22 => y_lh 100 M11 v17 v22 fun v25 => y_wf M11 a0 11 8 v25 fun M27 => y_wf M27 a0 11 28 0 fun M33 => mi_239_55 a0 a1 a2 K i218 100000 0 M33))
noncomputable def mi_239_10 (a0 a1 a2 : Nat) (K : yM → Bool) (i218 : Nat → yM → Bool) (n : Nat) : yM → Bool := @Nat.rec (fun _ => yM → Bool) (fun _ => false) (fun _ ih => mi_239_10b a0 a1 a2 K i218 ih) n
theorem mi_239_10b_ok {fg : eG} {μz : eM} {rc : eQ} {d : Nat} {f : eFr} {F : List eFr} {μ0 : eM} {a0 a1 a2 : Nat} {K : yM → Bool} {i218 : Nat → yM → Bool} {i10 : yM → Bool} (hG : yG fg y_T) (hk : ev_kd μ0 a0 = some 11) (p0 : 0 < a0) (hK : ∀ (M : yM) (μ : eM), K M = true → xQ μz M μ → y_le μ0 μ → ex_q fg rc (d + 6, (f.1, f.2.1, f.2.2.1, f.2.2.2), F, μ)) (h218 : ∀ (a3 : Nat) (x4 : Option eV) (M : yM) (μ : eM), i218 a3 M = true → xQ μz M μ → y_le μ0 μ → ex_q fg rc (d + 5, (239, 218, [some (eR a0), some (eI (zI a1)), some (eI (zI a2)), some (eI (zI a3)), x4], []), f :: F, μ)) (h10 : ∀ (M : yM) (μ : eM), i10 M = true → xQ μz M μ → y_le μ0 μ → ex_q fg rc (d + 5, (239, 10, [some (eR a0), some (eI (zI a1)), some (eI (zI a2)), none, none], []), f :: F, μ)) : ∀ (M : yM) (μ : eM), mi_239_10b a0 a1 a2 K i218 i10 M = true → xQ μz M μ → y_le μ0 μ → ex_q fg rc (d + 5, (239, 10, [some (eR a0), some (eI (zI a1)), some (eI (zI a2)), none, none], []), f :: F, μ) := by
  intro M μ h hR hl
  unfold mi_239_10b at h
  refine w_s (np := 11) (lv' := [some (eR a0), some (eI (zI a1)), some (eI (zI a2)), none, none]) (st' := [eR a0]) rfl (s_an rfl p0) rfl ?_
  obtain ⟨v1, h, k2, e3⟩ := x_gf_ok (ty := 0) h hR (by decide) rfl
  refine v_gf0 (np := 14) rfl rfl k2 e3 ?_
  clear k2 e3
  refine w_s (np := 15) (lv' := [some (eR a0), some (eI (zI a1)), some (eI (zI a2)), none, none]) (st' := [eI (zI a2), eI (zI v1)]) rfl rfl rfl ?_
  rcases z_if_t h with ⟨g4, h⟩ | ⟨g4, h⟩
  · refine v_ge_f (t1 := 25) rfl rfl g4 ?_
    refine w_s (np := 19) (lv' := [some (eR a0), some (eI (zI a1)), some (eI (zI a2)), none, none]) (st' := [eR a0]) rfl (s_an rfl p0) rfl ?_
    refine w_cv (np := 22) (as := []) (lv' := [some (eR a0), none, none]) (rest := []) rfl rfl rfl (Nat.ble_eq.mp rfl) rfl rfl rfl (hl _ _ hk) rfl ?_
    refine m_234_ok hG h hR (hl _ _ hk) p0 ?_
    intro M39 μ40 h hR41 hl43
    have hl42 := y_le.tr hl hl43
    show ex_q fg rc (d + 5, (239, 22, [some (eR a0), some (eI (zI a1)), some (eI (zI a2)), none, none], []), f :: F, μ40)
    refine w_go (t1 := 10) rfl rfl ?_
    exact h10 M39 μ40 h hR41 hl42
  · refine v_ge_t (t1 := 25) rfl rfl g4 ?_
    refine w_s (np := 26) (lv' := [some (eR a0), some (eI (zI a1)), some (eI (zI a2)), none, none]) (st' := [eR a0]) rfl (s_an rfl p0) rfl ?_
    refine w_s (np := 27) (lv' := [some (eR a0), some (eI (zI a1)), some (eI (zI a2)), none, none]) (st' := [eI (zI a1), eR a0]) rfl rfl rfl ?_
    obtain ⟨M5, μ6, h, k9, hR7, hl8, e10⟩ := x_wf_ex (ty := 0) h hR hl rfl (by decide)
    refine v_pe0 (np := 30) rfl rfl k9 e10 ?_
    clear k9 e10
    refine w_s (np := 31) (lv' := [some (eR a0), some (eI (zI a1)), some (eI (zI a2)), none, none]) (st' := [eR a0]) rfl (s_an rfl p0) rfl ?_
    refine w_s (np := 32) (lv' := [some (eR a0), some (eI (zI a1)), some (eI (zI a2)), none, none]) (st' := [eI (zI a2), eR a0]) rfl rfl rfl ?_
    obtain ⟨M11, μ12, h, k15, hR13, hl14, e16⟩ := x_wf_ex (ty := 0) h hR7 hl8 rfl (by decide)
    refine v_pe0 (np := 35) rfl rfl k15 e16 ?_
    clear k15 e16
    refine w_s (np := 36) (lv' := [some (eR a0), some (eI (zI a1)), some (eI (zI a2)), none, none]) (st' := [eR a0]) rfl (s_an rfl p0) rfl ?_
    refine w_s (np := 37) (lv' := [some (eR a0), some (eI (zI a1)), some (eI (zI a2)), none, none]) (st' := [eR a0, eR a0]) rfl (s_an rfl p0) rfl ?_
    obtain ⟨v17, h, k18, e19⟩ := x_gf_ok (ty := 3) h hR13 (by decide) rfl
    obtain ⟨g20, h⟩ := f_if_ok h
    have q21 : 0 < v17 := Nat.ble_eq.mp g20
    refine v_gf3 (np := 40) rfl rfl k18 e19 ?_
    clear k18 e19
    refine w_s (np := 41) (lv' := [some (eR a0), some (eI (zI a1)), some (eI (zI a2)), none, none]) (st' := [eR a0, eR v17, eR a0]) rfl (s_an rfl p0) rfl ?_
    obtain ⟨v22, h, k23, e24⟩ := x_gf_ok (ty := 0) h hR13 (by decide) rfl
    refine v_gf0 (np := 44) rfl rfl k23 e24 ?_
    clear k23 e24
    obtain ⟨v25, h, k26⟩ := x_lh_ok (ty := 0) h hR13 hG (by decide) rfl (by decide)
    refine v_la (np := 45) rfl rfl k26 ?_
    clear k26
    obtain ⟨M27, μ28, h, k31, hR29, hl30, e32⟩ := x_wf_ex (ty := 0) h hR13 hl14 rfl (by decide)
    refine v_pe0 (np := 48) rfl rfl k31 e32 ?_
    clear k31 e32
    refine w_s (np := 49) (lv' := [some (eR a0), some (eI (zI a1)), some (eI (zI a2)), none, none]) (st' := [eR a0]) rfl (s_an rfl p0) rfl ?_
    refine w_s (np := 50) (lv' := [some (eR a0), some (eI (zI a1)), some (eI (zI a2)), none, none]) (st' := [eI (zI 0), eR a0]) rfl rfl rfl ?_
    obtain ⟨M33, μ34, h, k37, hR35, hl36, e38⟩ := x_wf_ex (ty := 0) h hR29 hl30 rfl (by decide)
    refine v_pe0 (np := 53) rfl rfl k37 e38 ?_
    clear k37 e38
    refine w_s (np := 54) (lv' := [some (eR a0), some (eI (zI a1)), some (eI (zI a2)), none, none]) (st' := [eI (zI 0)]) rfl rfl rfl ?_
    refine w_s (np := 55) (lv' := [some (eR a0), some (eI (zI a1)), some (eI (zI a2)), some (eI (zI 0)), none]) (st' := []) rfl rfl rfl ?_
    exact mi_239_55_ok hG hk p0 hK h218 100000 _ M33 μ34 h hR35 hl36
theorem mi_239_10_ok {fg : eG} {μz : eM} {rc : eQ} {d : Nat} {f : eFr} {F : List eFr} {μ0 : eM} {a0 a1 a2 : Nat} {K : yM → Bool} {i218 : Nat → yM → Bool} (hG : yG fg y_T) (hk : ev_kd μ0 a0 = some 11) (p0 : 0 < a0) (hK : ∀ (M : yM) (μ : eM), K M = true → xQ μz M μ → y_le μ0 μ → ex_q fg rc (d + 6, (f.1, f.2.1, f.2.2.1, f.2.2.2), F, μ)) (h218 : ∀ (a3 : Nat) (x4 : Option eV) (M : yM) (μ : eM), i218 a3 M = true → xQ μz M μ → y_le μ0 μ → ex_q fg rc (d + 5, (239, 218, [some (eR a0), some (eI (zI a1)), some (eI (zI a2)), some (eI (zI a3)), x4], []), f :: F, μ)) : ∀ n : Nat, ∀ (M : yM) (μ : eM), mi_239_10 a0 a1 a2 K i218 n M = true → xQ μz M μ → y_le μ0 μ → ex_q fg rc (d + 5, (239, 10, [some (eR a0), some (eI (zI a1)), some (eI (zI a2)), none, none], []), f :: F, μ) := by
  intro n
  induction n with
  | zero =>
    intro M μ h hR hl
    exact absurd h Bool.false_ne_true
  | succ n ih =>
    intro M μ h hR hl
    exact mi_239_10b_ok hG hk p0 hK h218 ih  M μ h hR hl
/-! RhombInflatorModel.lays -/
noncomputable def mi_239 (i218 : Nat → yM → Bool) (a0 a1 a2 : Nat) (M : yM) (K : yM → Bool) : Bool := m_229 a0 a1 M fun M1 => y_wf M1 a0 11 20 0 fun M6 => mi_239_10 a0 a1 a2 K i218 100000 M6
theorem mi_239_ok {fg : eG} {μz : eM} {rc : eQ} {d : Nat} {f : eFr} {F : List eFr} {M : yM} {μ0 : eM} {i218 : Nat → yM → Bool} {a0 a1 a2 : Nat} {K : yM → Bool} (hG : yG fg y_T) (h : mi_239 i218 a0 a1 a2 M K = true) (hR : xQ μz M μ0) (hk : ev_kd μ0 a0 = some 11) (p0 : 0 < a0) (h218 : ∀ (a3 : Nat) (x4 : Option eV) (M : yM) (μ : eM), i218 a3 M = true → xQ μz M μ → y_le μ0 μ → ex_q fg rc (d + 5, (239, 218, [some (eR a0), some (eI (zI a1)), some (eI (zI a2)), some (eI (zI a3)), x4], []), f :: F, μ)) (hK : ∀ (M : yM) (μ : eM), K M = true → xQ μz M μ → y_le μ0 μ → ex_q fg rc (d + 6, (f.1, f.2.1, f.2.2.1, f.2.2.2), F, μ)) : ex_q fg rc (d + 5, (239, 0, [some (eR a0), some (eI (zI a1)), some (eI (zI a2)), none, none], []), f :: F, μ0) := by
  unfold mi_239 at h
  have hl := y_le_r μ0
  refine w_s (np := 1) (lv' := [some (eR a0), some (eI (zI a1)), some (eI (zI a2)), none, none]) (st' := [eR a0]) rfl (s_an rfl p0) rfl ?_
  refine w_s (np := 2) (lv' := [some (eR a0), some (eI (zI a1)), some (eI (zI a2)), none, none]) (st' := [eI (zI a1), eR a0]) rfl rfl rfl ?_
  refine w_cv (np := 5) (as := [eI (zI a1)]) (lv' := [some (eR a0), some (eI (zI a1)), none]) (rest := []) rfl rfl rfl (Nat.ble_eq.mp rfl) rfl rfl rfl (hl _ _ hk) rfl ?_
  refine m_229_ok hG h hR (hl _ _ hk) p0 ?_
  intro M1 μ2 h hR3 hl5
  have hl4 := y_le.tr hl hl5
  show ex_q fg rc (d + 5, (239, 5, [some (eR a0), some (eI (zI a1)), some (eI (zI a2)), none, none], []), f :: F, μ2)
  refine w_s (np := 6) (lv' := [some (eR a0), some (eI (zI a1)), some (eI (zI a2)), none, none]) (st' := [eR a0]) rfl (s_an rfl p0) rfl ?_
  refine w_s (np := 7) (lv' := [some (eR a0), some (eI (zI a1)), some (eI (zI a2)), none, none]) (st' := [eI (zI 0), eR a0]) rfl rfl rfl ?_
  obtain ⟨M6, μ7, h, k10, hR8, hl9, e11⟩ := x_wf_ex (ty := 0) h hR3 hl4 rfl (by decide)
  refine v_pe0 (np := 10) rfl rfl k10 e11 ?_
  clear k10 e11
  exact mi_239_10_ok hG hk p0 hK h218 100000 M6 μ7 h hR8 hl9
noncomputable def mg_234_221b (a0 : Nat) (K : yM → Bool) (i17 : Nat → yM → Bool) (i190 : Nat → yM → Bool) (i221 : Nat → yM → Bool) (a1 : Nat) (M : yM) : Bool := y_gf M a0 11 18 fun v1 => z_if (z_lt a1 v1) (y_gf M a0 11 12 fun v5 => f_if false (Nat.ble 1 v5) (y_gf M a0 11 13 fun v10 => f_if false (Nat.ble 1 v10) (y_lh 100 M v10 a1 fun v15 => y_sa 100 M v5 a1 v15 fun M17 => y_gf M17 a0 11 16 fun v22 => f_if false (Nat.ble 1 v22) (y_gf M17 a0 11 17 fun v27 => f_if false (Nat.ble 1 v27) (y_lh 100 M17 v27 a1 fun v32 => y_sa 100 M17 v22 a1 v32 fun M34 => z_l (z_add a1 1) fun v39 => z_f v39 fun w40 => i221 w40 M34))))) (K M)
noncomputable def mg_234_221 (a0 : Nat) (K : yM → Bool) (i17 : Nat → yM → Bool) (i190 : Nat → yM → Bool) (n : Nat) : Nat → yM → Bool := @Nat.rec (fun _ => Nat → yM → Bool) (fun _ _ => false) (fun _ ih => mg_234_221b a0 K i17 i190 ih) n
theorem mg_234_221b_ok {fg : eG} {μz : eM} {rc : eQ} {d : Nat} {f : eFr} {F : List eFr} {μ0 : eM} {a0 : Nat} {K : yM → Bool} {i17 : Nat → yM → Bool} {i190 : Nat → yM → Bool} {i221 : Nat → yM → Bool} (hG : yG fg y_T) (hk : ev_kd μ0 a0 = some 11) (p0 : 0 < a0) (hK : ∀ (M : yM) (μ : eM), K M = true → xQ μz M μ → y_le μ0 μ → ex_q fg rc (d + 5, (f.1, f.2.1, f.2.2.1, f.2.2.2), F, μ)) (h17 : ∀ (a1 : Nat) (x2 : Option eV) (M : yM) (μ : eM), i17 a1 M = true → xQ μz M μ → y_le μ0 μ → ex_q fg rc (d + 4, (234, 17, [some (eR a0), some (eI (zI a1)), x2], []), f :: F, μ)) (h190 : ∀ (a1 : Nat) (x2 : Option eV) (M : yM) (μ : eM), i190 a1 M = true → xQ μz M μ → y_le μ0 μ → ex_q fg rc (d + 4, (234, 190, [some (eR a0), some (eI (zI a1)), x2], []), f :: F, μ)) (h221 : ∀ (a1 : Nat) (x2 : Option eV) (M : yM) (μ : eM), i221 a1 M = true → xQ μz M μ → y_le μ0 μ → ex_q fg rc (d + 4, (234, 221, [some (eR a0), some (eI (zI a1)), x2], []), f :: F, μ)) : ∀ (a1 : Nat) (x2 : Option eV) (M : yM) (μ : eM), mg_234_221b a0 K i17 i190 i221 a1 M = true → xQ μz M μ → y_le μ0 μ → ex_q fg rc (d + 4, (234, 221, [some (eR a0), some (eI (zI a1)), x2], []), f :: F, μ) := by
  intro a1 x2 M μ h hR hl
  unfold mg_234_221b at h
  refine w_s (np := 222) (lv' := [some (eR a0), some (eI (zI a1)), x2]) (st' := [eI (zI a1)]) rfl rfl rfl ?_
  refine w_s (np := 223) (lv' := [some (eR a0), some (eI (zI a1)), x2]) (st' := [eR a0, eI (zI a1)]) rfl (s_an rfl p0) rfl ?_
  obtain ⟨v1, h, k2, e3⟩ := x_gf_ok (ty := 0) h hR (by decide) rfl
  refine v_gf0 (np := 226) rfl rfl k2 e3 ?_
  clear k2 e3
  rcases z_if_t h with ⟨g4, h⟩ | ⟨g4, h⟩
  · refine v_ge_f (t1 := 259) rfl rfl g4 ?_
    refine w_s (np := 230) (lv' := [some (eR a0), some (eI (zI a1)), x2]) (st' := [eR a0]) rfl (s_an rfl p0) rfl ?_
    obtain ⟨v5, h, k6, e7⟩ := x_gf_ok (ty := 3) h hR (by decide) rfl
    obtain ⟨g8, h⟩ := f_if_ok h
    have q9 : 0 < v5 := Nat.ble_eq.mp g8
    refine v_gf3 (np := 233) rfl rfl k6 e7 ?_
    clear k6 e7
    refine w_s (np := 234) (lv' := [some (eR a0), some (eI (zI a1)), x2]) (st' := [eI (zI a1), eR v5]) rfl rfl rfl ?_
    refine w_s (np := 235) (lv' := [some (eR a0), some (eI (zI a1)), x2]) (st' := [eR a0, eI (zI a1), eR v5]) rfl (s_an rfl p0) rfl ?_
    obtain ⟨v10, h, k11, e12⟩ := x_gf_ok (ty := 3) h hR (by decide) rfl
    obtain ⟨g13, h⟩ := f_if_ok h
    have q14 : 0 < v10 := Nat.ble_eq.mp g13
    refine v_gf3 (np := 238) rfl rfl k11 e12 ?_
    clear k11 e12
    refine w_s (np := 239) (lv' := [some (eR a0), some (eI (zI a1)), x2]) (st' := [eI (zI a1), eR v10, eI (zI a1), eR v5]) rfl rfl rfl ?_
    obtain ⟨v15, h, k16⟩ := x_lh_ok (ty := 0) h hR hG (by decide) rfl (by decide)
    refine v_la (np := 240) rfl rfl k16 ?_
    clear k16
    obtain ⟨M17, μ18, h, k21, hR19, hl20⟩ := x_sa_ex (ty := 0) h hR hl rfl (by decide)
    refine v_sa (np := 241) rfl rfl k21 ?_
    clear k21
    refine w_s (np := 242) (lv' := [some (eR a0), some (eI (zI a1)), x2]) (st' := [eR a0]) rfl (s_an rfl p0) rfl ?_
    obtain ⟨v22, h, k23, e24⟩ := x_gf_ok (ty := 3) h hR19 (by decide) rfl
    obtain ⟨g25, h⟩ := f_if_ok h
    have q26 : 0 < v22 := Nat.ble_eq.mp g25
    refine v_gf3 (np := 245) rfl rfl k23 e24 ?_
    clear k23 e24
    refine w_s (np := 246) (lv' := [some (eR a0), some (eI (zI a1)), x2]) (st' := [eI (zI a1), eR v22]) rfl rfl rfl ?_
    refine w_s (np := 247) (lv' := [some (eR a0), some (eI (zI a1)), x2]) (st' := [eR a0, eI (zI a1), eR v22]) rfl (s_an rfl p0) rfl ?_
    obtain ⟨v27, h, k28, e29⟩ := x_gf_ok (ty := 3) h hR19 (by decide) rfl
    obtain ⟨g30, h⟩ := f_if_ok h
    have q31 : 0 < v27 := Nat.ble_eq.mp g30
    refine v_gf3 (np := 250) rfl rfl k28 e29 ?_
    clear k28 e29
    refine w_s (np := 251) (lv' := [some (eR a0), some (eI (zI a1)), x2]) (st' := [eI (zI a1), eR v27, eI (zI a1), eR v22]) rfl rfl rfl ?_
    obtain ⟨v32, h, k33⟩ := x_lh_ok (ty := 0) h hR19 hG (by decide) rfl (by decide)
    refine v_la (np := 252) rfl rfl k33 ?_
    clear k33
    obtain ⟨M34, μ35, h, k38, hR36, hl37⟩ := x_sa_ex (ty := 0) h hR19 hl20 rfl (by decide)
    refine v_sa (np := 253) rfl rfl k38 ?_
    clear k38
    obtain ⟨v39, ev39, h⟩ := z_l_ex h
    refine w_s (np := 256) (lv' := [some (eR a0), some (eI (zI v39)), x2]) (st' := []) rfl (s_iinc (b := 1) rfl rfl ev39 rfl) rfl ?_
    clear ev39
    refine w_go (t1 := 221) rfl rfl ?_
    obtain ⟨w40, ew40, h⟩ := z_f_ex h
    subst ew40
    exact h221 _ _ M34 μ35 h hR36 hl37
  · refine v_ge_t (t1 := 259) rfl rfl g4 ?_
    exact v_rv rfl rfl (hK _ _ h hR hl)
theorem mg_234_221_ok {fg : eG} {μz : eM} {rc : eQ} {d : Nat} {f : eFr} {F : List eFr} {μ0 : eM} {a0 : Nat} {K : yM → Bool} {i17 : Nat → yM → Bool} {i190 : Nat → yM → Bool} (hG : yG fg y_T) (hk : ev_kd μ0 a0 = some 11) (p0 : 0 < a0) (hK : ∀ (M : yM) (μ : eM), K M = true → xQ μz M μ → y_le μ0 μ → ex_q fg rc (d + 5, (f.1, f.2.1, f.2.2.1, f.2.2.2), F, μ)) (h17 : ∀ (a1 : Nat) (x2 : Option eV) (M : yM) (μ : eM), i17 a1 M = true → xQ μz M μ → y_le μ0 μ → ex_q fg rc (d + 4, (234, 17, [some (eR a0), some (eI (zI a1)), x2], []), f :: F, μ)) (h190 : ∀ (a1 : Nat) (x2 : Option eV) (M : yM) (μ : eM), i190 a1 M = true → xQ μz M μ → y_le μ0 μ → ex_q fg rc (d + 4, (234, 190, [some (eR a0), some (eI (zI a1)), x2], []), f :: F, μ)) : ∀ n : Nat, ∀ (a1 : Nat) (x2 : Option eV) (M : yM) (μ : eM), mg_234_221 a0 K i17 i190 n a1 M = true → xQ μz M μ → y_le μ0 μ → ex_q fg rc (d + 4, (234, 221, [some (eR a0), some (eI (zI a1)), x2], []), f :: F, μ) := by
  intro n
  induction n with
  | zero =>
    intro a1 x2 M μ h hR hl
    exact absurd h Bool.false_ne_true
  | succ n ih =>
    intro a1 x2 M μ h hR hl
    exact mg_234_221b_ok hG hk p0 hK h17 h190 ih a1 x2 M μ h hR hl
noncomputable def mg_234_190b (a0 : Nat) (K : yM → Bool) (i17 : Nat → yM → Bool) (i190 : Nat → yM → Bool) (a1 : Nat) (M : yM) : Bool := y_gf M a0 11 18 fun v1 => z_l (z_mul 12 v1) fun v4 => z_if (z_lt a1 v4) (y_gf M a0 11 10 fun v6 => f_if false (Nat.ble 1 v6) (y_gf M a0 11 11 fun v11 => f_if false (Nat.ble 1 v11) (y_lh 100 M v11 a1 fun v16 => y_sa 100 M v6 a1 v16 fun M18 => z_l (z_add a1 1) fun v23 => z_f v23 fun w24 => i190 w24 M18))) (mg_234_221 a0 K i17 i190 100000 0 M)
noncomputable def mg_234_190 (a0 : Nat) (K : yM → Bool) (i17 : Nat → yM → Bool) (n : Nat) : Nat → yM → Bool := @Nat.rec (fun _ => Nat → yM → Bool) (fun _ _ => false) (fun _ ih => mg_234_190b a0 K i17 ih) n
theorem mg_234_190b_ok {fg : eG} {μz : eM} {rc : eQ} {d : Nat} {f : eFr} {F : List eFr} {μ0 : eM} {a0 : Nat} {K : yM → Bool} {i17 : Nat → yM → Bool} {i190 : Nat → yM → Bool} (hG : yG fg y_T) (hk : ev_kd μ0 a0 = some 11) (p0 : 0 < a0) (hK : ∀ (M : yM) (μ : eM), K M = true → xQ μz M μ → y_le μ0 μ → ex_q fg rc (d + 5, (f.1, f.2.1, f.2.2.1, f.2.2.2), F, μ)) (h17 : ∀ (a1 : Nat) (x2 : Option eV) (M : yM) (μ : eM), i17 a1 M = true → xQ μz M μ → y_le μ0 μ → ex_q fg rc (d + 4, (234, 17, [some (eR a0), some (eI (zI a1)), x2], []), f :: F, μ)) (h190 : ∀ (a1 : Nat) (x2 : Option eV) (M : yM) (μ : eM), i190 a1 M = true → xQ μz M μ → y_le μ0 μ → ex_q fg rc (d + 4, (234, 190, [some (eR a0), some (eI (zI a1)), x2], []), f :: F, μ)) : ∀ (a1 : Nat) (x2 : Option eV) (M : yM) (μ : eM), mg_234_190b a0 K i17 i190 a1 M = true → xQ μz M μ → y_le μ0 μ → ex_q fg rc (d + 4, (234, 190, [some (eR a0), some (eI (zI a1)), x2], []), f :: F, μ) := by
  intro a1 x2 M μ h hR hl
  unfold mg_234_190b at h
  refine w_s (np := 191) (lv' := [some (eR a0), some (eI (zI a1)), x2]) (st' := [eI (zI a1)]) rfl rfl rfl ?_
  refine w_s (np := 193) (lv' := [some (eR a0), some (eI (zI a1)), x2]) (st' := [eI (zI 12), eI (zI a1)]) rfl rfl rfl ?_
  refine w_s (np := 194) (lv' := [some (eR a0), some (eI (zI a1)), x2]) (st' := [eR a0, eI (zI 12), eI (zI a1)]) rfl (s_an rfl p0) rfl ?_
  obtain ⟨v1, h, k2, e3⟩ := x_gf_ok (ty := 0) h hR (by decide) rfl
  refine v_gf0 (np := 197) rfl rfl k2 e3 ?_
  clear k2 e3
  obtain ⟨v4, ev4, h⟩ := z_l_ex h
  refine w_s (np := 198) (lv' := [some (eR a0), some (eI (zI a1)), x2]) (st' := [eI (zI v4), eI (zI a1)]) rfl (s_imul ev4) rfl ?_
  clear ev4
  rcases z_if_t h with ⟨g5, h⟩ | ⟨g5, h⟩
  · refine v_ge_f (t1 := 219) rfl rfl g5 ?_
    refine w_s (np := 202) (lv' := [some (eR a0), some (eI (zI a1)), x2]) (st' := [eR a0]) rfl (s_an rfl p0) rfl ?_
    obtain ⟨v6, h, k7, e8⟩ := x_gf_ok (ty := 3) h hR (by decide) rfl
    obtain ⟨g9, h⟩ := f_if_ok h
    have q10 : 0 < v6 := Nat.ble_eq.mp g9
    refine v_gf3 (np := 205) rfl rfl k7 e8 ?_
    clear k7 e8
    refine w_s (np := 206) (lv' := [some (eR a0), some (eI (zI a1)), x2]) (st' := [eI (zI a1), eR v6]) rfl rfl rfl ?_
    refine w_s (np := 207) (lv' := [some (eR a0), some (eI (zI a1)), x2]) (st' := [eR a0, eI (zI a1), eR v6]) rfl (s_an rfl p0) rfl ?_
    obtain ⟨v11, h, k12, e13⟩ := x_gf_ok (ty := 3) h hR (by decide) rfl
    obtain ⟨g14, h⟩ := f_if_ok h
    have q15 : 0 < v11 := Nat.ble_eq.mp g14
    refine v_gf3 (np := 210) rfl rfl k12 e13 ?_
    clear k12 e13
    refine w_s (np := 211) (lv' := [some (eR a0), some (eI (zI a1)), x2]) (st' := [eI (zI a1), eR v11, eI (zI a1), eR v6]) rfl rfl rfl ?_
    obtain ⟨v16, h, k17⟩ := x_lh_ok (ty := 0) h hR hG (by decide) rfl (by decide)
    refine v_la (np := 212) rfl rfl k17 ?_
    clear k17
    obtain ⟨M18, μ19, h, k22, hR20, hl21⟩ := x_sa_ex (ty := 0) h hR hl rfl (by decide)
    refine v_sa (np := 213) rfl rfl k22 ?_
    clear k22
    obtain ⟨v23, ev23, h⟩ := z_l_ex h
    refine w_s (np := 216) (lv' := [some (eR a0), some (eI (zI v23)), x2]) (st' := []) rfl (s_iinc (b := 1) rfl rfl ev23 rfl) rfl ?_
    clear ev23
    refine w_go (t1 := 190) rfl rfl ?_
    obtain ⟨w24, ew24, h⟩ := z_f_ex h
    subst ew24
    exact h190 _ _ M18 μ19 h hR20 hl21
  · refine v_ge_t (t1 := 219) rfl rfl g5 ?_
    refine w_s (np := 220) (lv' := [some (eR a0), some (eI (zI a1)), x2]) (st' := [eI (zI 0)]) rfl rfl rfl ?_
    refine w_s (np := 221) (lv' := [some (eR a0), some (eI (zI 0)), x2]) (st' := []) rfl rfl rfl ?_
    exact mg_234_221_ok hG hk p0 hK h17 h190 100000 _ _ M μ h hR hl
theorem mg_234_190_ok {fg : eG} {μz : eM} {rc : eQ} {d : Nat} {f : eFr} {F : List eFr} {μ0 : eM} {a0 : Nat} {K : yM → Bool} {i17 : Nat → yM → Bool} (hG : yG fg y_T) (hk : ev_kd μ0 a0 = some 11) (p0 : 0 < a0) (hK : ∀ (M : yM) (μ : eM), K M = true → xQ μz M μ → y_le μ0 μ → ex_q fg rc (d + 5, (f.1, f.2.1, f.2.2.1, f.2.2.2), F, μ)) (h17 : ∀ (a1 : Nat) (x2 : Option eV) (M : yM) (μ : eM), i17 a1 M = true → xQ μz M μ → y_le μ0 μ → ex_q fg rc (d + 4, (234, 17, [some (eR a0), some (eI (zI a1)), x2], []), f :: F, μ)) : ∀ n : Nat, ∀ (a1 : Nat) (x2 : Option eV) (M : yM) (μ : eM), mg_234_190 a0 K i17 n a1 M = true → xQ μz M μ → y_le μ0 μ → ex_q fg rc (d + 4, (234, 190, [some (eR a0), some (eI (zI a1)), x2], []), f :: F, μ) := by
  intro n
  induction n with
  | zero =>
    intro a1 x2 M μ h hR hl
    exact absurd h Bool.false_ne_true
  | succ n ih =>
    intro a1 x2 M μ h hR hl
    exact mg_234_190b_ok hG hk p0 hK h17 ih a1 x2 M μ h hR hl
noncomputable def mg_234_190r (a0 : Nat) (K : yM → Bool) (i17 : Nat → yM → Bool) (base : Nat → yM → Bool) (n : Nat) : Nat → yM → Bool := @Nat.rec (fun _ => Nat → yM → Bool) base (fun _ ih => mg_234_190b a0 K i17 ih) n
theorem mg_234_190r_ok {fg : eG} {μz : eM} {rc : eQ} {d : Nat} {f : eFr} {F : List eFr} {μ0 : eM} {a0 : Nat} {K : yM → Bool} {i17 : Nat → yM → Bool} {base : Nat → yM → Bool} (hG : yG fg y_T) (hk : ev_kd μ0 a0 = some 11) (p0 : 0 < a0) (hK : ∀ (M : yM) (μ : eM), K M = true → xQ μz M μ → y_le μ0 μ → ex_q fg rc (d + 5, (f.1, f.2.1, f.2.2.1, f.2.2.2), F, μ)) (h17 : ∀ (a1 : Nat) (x2 : Option eV) (M : yM) (μ : eM), i17 a1 M = true → xQ μz M μ → y_le μ0 μ → ex_q fg rc (d + 4, (234, 17, [some (eR a0), some (eI (zI a1)), x2], []), f :: F, μ)) (hb : ∀ (a1 : Nat) (x2 : Option eV) (M : yM) (μ : eM), base a1 M = true → xQ μz M μ → y_le μ0 μ → ex_q fg rc (d + 4, (234, 190, [some (eR a0), some (eI (zI a1)), x2], []), f :: F, μ)) : ∀ n : Nat, ∀ (a1 : Nat) (x2 : Option eV) (M : yM) (μ : eM), mg_234_190r a0 K i17 base n a1 M = true → xQ μz M μ → y_le μ0 μ → ex_q fg rc (d + 4, (234, 190, [some (eR a0), some (eI (zI a1)), x2], []), f :: F, μ) := by
  intro n
  induction n with
  | zero =>
    intro a1 x2 M μ h hR hl
    exact hb a1 x2 M μ h hR hl
  | succ n ih =>
    intro a1 x2 M μ h hR hl
    exact mg_234_190b_ok hG hk p0 hK h17 ih a1 x2 M μ h hR hl
noncomputable def mg_234_169 (a0 : Nat) (K : yM → Bool) (i17 : Nat → yM → Bool) (i190 : Nat → yM → Bool) (a1 a2 : Nat) (M : yM) : Bool := z_l (z_add a1 1) fun v1 => z_f v1 fun w2 => i17 w2 M
theorem mg_234_169_ok {fg : eG} {μz : eM} {rc : eQ} {d : Nat} {f : eFr} {F : List eFr} {μ0 : eM} {a0 : Nat} {K : yM → Bool} {i17 : Nat → yM → Bool} {i190 : Nat → yM → Bool} (hG : yG fg y_T) (hk : ev_kd μ0 a0 = some 11) (p0 : 0 < a0) (hK : ∀ (M : yM) (μ : eM), K M = true → xQ μz M μ → y_le μ0 μ → ex_q fg rc (d + 5, (f.1, f.2.1, f.2.2.1, f.2.2.2), F, μ)) (h17 : ∀ (a1 : Nat) (x2 : Option eV) (M : yM) (μ : eM), i17 a1 M = true → xQ μz M μ → y_le μ0 μ → ex_q fg rc (d + 4, (234, 17, [some (eR a0), some (eI (zI a1)), x2], []), f :: F, μ)) (h190 : ∀ (a1 : Nat) (x2 : Option eV) (M : yM) (μ : eM), i190 a1 M = true → xQ μz M μ → y_le μ0 μ → ex_q fg rc (d + 4, (234, 190, [some (eR a0), some (eI (zI a1)), x2], []), f :: F, μ)) : ∀ (a1 a2 : Nat) (M : yM) (μ : eM), mg_234_169 a0 K i17 i190 a1 a2 M = true → xQ μz M μ → y_le μ0 μ → ex_q fg rc (d + 4, (234, 169, [some (eR a0), some (eI (zI a1)), some (eI (zI a2))], []), f :: F, μ) := by
  intro a1 a2 M μ h hR hl
  unfold mg_234_169 at h
  obtain ⟨v1, ev1, h⟩ := z_l_ex h
  refine w_s (np := 172) (lv' := [some (eR a0), some (eI (zI v1)), some (eI (zI a2))]) (st' := []) rfl (s_iinc (b := 1) rfl rfl ev1 rfl) rfl ?_
  clear ev1
  refine w_go (t1 := 17) rfl rfl ?_
  obtain ⟨w2, ew2, h⟩ := z_f_ex h
  subst ew2
  exact h17 _ _ M μ h hR hl
noncomputable def mg_234_17b (a0 : Nat) (K : yM → Bool) (i190 : Nat → yM → Bool) (i17 : Nat → yM → Bool) (a1 : Nat) (M : yM) : Bool := y_gf M a0 11 9 fun v1 => f_if false (Nat.ble 1 v1) (y_gf M a0 11 20 fun v6 => z_l (z_sub v6 1) fun v9 => y_lh 100 M v1 v9 fun v10 => z_if (z_lt a1 v10) (z_l (z_mul 12 a1) fun v30 => m_231 a0 v30 0 M fun M31 => z_l (z_add v30 4) fun v36 => m_231 a0 v36 4 M31 fun M37 => z_l (z_add v30 8) fun v42 => m_231 a0 v42 8 M37 fun M43 => y_gf M43 a0 11 12 fun v48 => f_if false (Nat.ble 1 v48) (y_lh 100 M43 v48 a1 fun v53 => z_if (z_e0 v53) (z_l (z_add v30 4) fun v84 => m_232 a0 12 0 v30 v84 M43 fun M85 => m_233 a0 a1 0 0 8 12 4 M85 fun M90 => m_233 a0 a1 1 1 12 8 0 M90 fun M95 => mg_234_169 a0 K i17 i190 a1 v30 M95) (z_l (z_add v30 4) fun v56 => m_232 a0 12 4 v56 v30 M43 fun M57 => z_l (z_add v30 4) fun v62 => z_l (z_add v30 8) fun v63 => m_232 a0 16 4 v62 v63 M57 fun M64 => m_233 a0 a1 1 0 16 8 0 M64 fun M69 => m_233 a0 a1 1 1 12 16 4 M69 fun M74 => m_233 a0 a1 0 2 16 12 0 M74 fun M79 => mg_234_169 a0 K i17 i190 a1 v30 M79))) (y_gf M a0 11 9 fun v13 => f_if false (Nat.ble 1 v13) (y_gf M a0 11 20 fun v18 => y_gf M a0 11 18 fun v21 => y_sa 100 M v13 v18 v21 fun M24 => z_f 0 fun w29 => i190 w29 M24)))
noncomputable def mg_234_17 (a0 : Nat) (K : yM → Bool) (i190 : Nat → yM → Bool) (n : Nat) : Nat → yM → Bool := @Nat.rec (fun _ => Nat → yM → Bool) (fun _ _ => false) (fun _ ih => mg_234_17b a0 K i190 ih) n
theorem mg_234_17b_ok {fg : eG} {μz : eM} {rc : eQ} {d : Nat} {f : eFr} {F : List eFr} {μ0 : eM} {a0 : Nat} {K : yM → Bool} {i190 : Nat → yM → Bool} {i17 : Nat → yM → Bool} (hG : yG fg y_T) (hk : ev_kd μ0 a0 = some 11) (p0 : 0 < a0) (hK : ∀ (M : yM) (μ : eM), K M = true → xQ μz M μ → y_le μ0 μ → ex_q fg rc (d + 5, (f.1, f.2.1, f.2.2.1, f.2.2.2), F, μ)) (h190 : ∀ (a1 : Nat) (x2 : Option eV) (M : yM) (μ : eM), i190 a1 M = true → xQ μz M μ → y_le μ0 μ → ex_q fg rc (d + 4, (234, 190, [some (eR a0), some (eI (zI a1)), x2], []), f :: F, μ)) (h17 : ∀ (a1 : Nat) (x2 : Option eV) (M : yM) (μ : eM), i17 a1 M = true → xQ μz M μ → y_le μ0 μ → ex_q fg rc (d + 4, (234, 17, [some (eR a0), some (eI (zI a1)), x2], []), f :: F, μ)) : ∀ (a1 : Nat) (x2 : Option eV) (M : yM) (μ : eM), mg_234_17b a0 K i190 i17 a1 M = true → xQ μz M μ → y_le μ0 μ → ex_q fg rc (d + 4, (234, 17, [some (eR a0), some (eI (zI a1)), x2], []), f :: F, μ) := by
  intro a1 x2 M μ h hR hl
  unfold mg_234_17b at h
  refine w_s (np := 18) (lv' := [some (eR a0), some (eI (zI a1)), x2]) (st' := [eI (zI a1)]) rfl rfl rfl ?_
  refine w_s (np := 19) (lv' := [some (eR a0), some (eI (zI a1)), x2]) (st' := [eR a0, eI (zI a1)]) rfl (s_an rfl p0) rfl ?_
  obtain ⟨v1, h, k2, e3⟩ := x_gf_ok (ty := 3) h hR (by decide) rfl
  obtain ⟨g4, h⟩ := f_if_ok h
  have q5 : 0 < v1 := Nat.ble_eq.mp g4
  refine v_gf3 (np := 22) rfl rfl k2 e3 ?_
  clear k2 e3
  refine w_s (np := 23) (lv' := [some (eR a0), some (eI (zI a1)), x2]) (st' := [eR a0, eR v1, eI (zI a1)]) rfl (s_an rfl p0) rfl ?_
  obtain ⟨v6, h, k7, e8⟩ := x_gf_ok (ty := 0) h hR (by decide) rfl
  refine v_gf0 (np := 26) rfl rfl k7 e8 ?_
  clear k7 e8
  refine w_s (np := 27) (lv' := [some (eR a0), some (eI (zI a1)), x2]) (st' := [eI (zI 1), eI (zI v6), eR v1, eI (zI a1)]) rfl rfl rfl ?_
  obtain ⟨v9, ev9, h⟩ := z_l_ex h
  refine w_s (np := 28) (lv' := [some (eR a0), some (eI (zI a1)), x2]) (st' := [eI (zI v9), eR v1, eI (zI a1)]) rfl (s_isub ev9) rfl ?_
  clear ev9
  obtain ⟨v10, h, k11⟩ := x_lh_ok (ty := 0) h hR hG (by decide) rfl (by decide)
  refine v_la (np := 29) rfl rfl k11 ?_
  clear k11
  rcases z_if_t h with ⟨g12, h⟩ | ⟨g12, h⟩
  · refine v_ge_f (t1 := 175) rfl rfl g12 ?_
    refine w_s (np := 34) (lv' := [some (eR a0), some (eI (zI a1)), x2]) (st' := [eI (zI 12)]) rfl rfl rfl ?_
    refine w_s (np := 35) (lv' := [some (eR a0), some (eI (zI a1)), x2]) (st' := [eI (zI a1), eI (zI 12)]) rfl rfl rfl ?_
    obtain ⟨v30, ev30, h⟩ := z_l_ex h
    refine w_s (np := 36) (lv' := [some (eR a0), some (eI (zI a1)), x2]) (st' := [eI (zI v30)]) rfl (s_imul ev30) rfl ?_
    clear ev30
    refine w_s (np := 37) (lv' := [some (eR a0), some (eI (zI a1)), some (eI (zI v30))]) (st' := []) rfl rfl rfl ?_
    refine w_s (np := 38) (lv' := [some (eR a0), some (eI (zI a1)), some (eI (zI v30))]) (st' := [eR a0]) rfl (s_an rfl p0) rfl ?_
    refine w_s (np := 39) (lv' := [some (eR a0), some (eI (zI a1)), some (eI (zI v30))]) (st' := [eI (zI v30), eR a0]) rfl rfl rfl ?_
    refine w_s (np := 40) (lv' := [some (eR a0), some (eI (zI a1)), some (eI (zI v30))]) (st' := [eI (zI 0), eI (zI v30), eR a0]) rfl rfl rfl ?_
    refine w_cv (np := 43) (as := [eI (zI v30), eI (zI 0)]) (lv' := [some (eR a0), some (eI (zI v30)), some (eI (zI 0))]) (rest := []) rfl rfl rfl (Nat.ble_eq.mp rfl) rfl rfl rfl (hl _ _ hk) rfl ?_
    refine m_231_ok hG h hR (hl _ _ hk) p0 ?_
    intro M31 μ32 h hR33 hl35
    have hl34 := y_le.tr hl hl35
    show ex_q fg rc (d + 4, (234, 43, [some (eR a0), some (eI (zI a1)), some (eI (zI v30))], []), f :: F, μ32)
    refine w_s (np := 44) (lv' := [some (eR a0), some (eI (zI a1)), some (eI (zI v30))]) (st' := [eR a0]) rfl (s_an rfl p0) rfl ?_
    refine w_s (np := 45) (lv' := [some (eR a0), some (eI (zI a1)), some (eI (zI v30))]) (st' := [eI (zI v30), eR a0]) rfl rfl rfl ?_
    refine w_s (np := 46) (lv' := [some (eR a0), some (eI (zI a1)), some (eI (zI v30))]) (st' := [eI (zI 4), eI (zI v30), eR a0]) rfl rfl rfl ?_
    obtain ⟨v36, ev36, h⟩ := z_l_ex h
    refine w_s (np := 47) (lv' := [some (eR a0), some (eI (zI a1)), some (eI (zI v30))]) (st' := [eI (zI v36), eR a0]) rfl (s_iadd ev36) rfl ?_
    clear ev36
    refine w_s (np := 48) (lv' := [some (eR a0), some (eI (zI a1)), some (eI (zI v30))]) (st' := [eI (zI 4), eI (zI v36), eR a0]) rfl rfl rfl ?_
    refine w_cv (np := 51) (as := [eI (zI v36), eI (zI 4)]) (lv' := [some (eR a0), some (eI (zI v36)), some (eI (zI 4))]) (rest := []) rfl rfl rfl (Nat.ble_eq.mp rfl) rfl rfl rfl (hl34 _ _ hk) rfl ?_
    refine m_231_ok hG h hR33 (hl34 _ _ hk) p0 ?_
    intro M37 μ38 h hR39 hl41
    have hl40 := y_le.tr hl34 hl41
    show ex_q fg rc (d + 4, (234, 51, [some (eR a0), some (eI (zI a1)), some (eI (zI v30))], []), f :: F, μ38)
    refine w_s (np := 52) (lv' := [some (eR a0), some (eI (zI a1)), some (eI (zI v30))]) (st' := [eR a0]) rfl (s_an rfl p0) rfl ?_
    refine w_s (np := 53) (lv' := [some (eR a0), some (eI (zI a1)), some (eI (zI v30))]) (st' := [eI (zI v30), eR a0]) rfl rfl rfl ?_
    refine w_s (np := 55) (lv' := [some (eR a0), some (eI (zI a1)), some (eI (zI v30))]) (st' := [eI (zI 8), eI (zI v30), eR a0]) rfl rfl rfl ?_
    obtain ⟨v42, ev42, h⟩ := z_l_ex h
    refine w_s (np := 56) (lv' := [some (eR a0), some (eI (zI a1)), some (eI (zI v30))]) (st' := [eI (zI v42), eR a0]) rfl (s_iadd ev42) rfl ?_
    clear ev42
    refine w_s (np := 58) (lv' := [some (eR a0), some (eI (zI a1)), some (eI (zI v30))]) (st' := [eI (zI 8), eI (zI v42), eR a0]) rfl rfl rfl ?_
    refine w_cv (np := 61) (as := [eI (zI v42), eI (zI 8)]) (lv' := [some (eR a0), some (eI (zI v42)), some (eI (zI 8))]) (rest := []) rfl rfl rfl (Nat.ble_eq.mp rfl) rfl rfl rfl (hl40 _ _ hk) rfl ?_
    refine m_231_ok hG h hR39 (hl40 _ _ hk) p0 ?_
    intro M43 μ44 h hR45 hl47
    have hl46 := y_le.tr hl40 hl47
    show ex_q fg rc (d + 4, (234, 61, [some (eR a0), some (eI (zI a1)), some (eI (zI v30))], []), f :: F, μ44)
    refine w_s (np := 62) (lv' := [some (eR a0), some (eI (zI a1)), some (eI (zI v30))]) (st' := [eR a0]) rfl (s_an rfl p0) rfl ?_
    obtain ⟨v48, h, k49, e50⟩ := x_gf_ok (ty := 3) h hR45 (by decide) rfl
    obtain ⟨g51, h⟩ := f_if_ok h
    have q52 : 0 < v48 := Nat.ble_eq.mp g51
    refine v_gf3 (np := 65) rfl rfl k49 e50 ?_
    clear k49 e50
    refine w_s (np := 66) (lv' := [some (eR a0), some (eI (zI a1)), some (eI (zI v30))]) (st' := [eI (zI a1), eR v48]) rfl rfl rfl ?_
    obtain ⟨v53, h, k54⟩ := x_lh_ok (ty := 0) h hR45 hG (by decide) rfl (by decide)
    refine v_la (np := 67) rfl rfl k54 ?_
    clear k54
    rcases z_if_t h with ⟨g55, h⟩ | ⟨g55, h⟩
    · refine v_ne0_f (t1 := 108) rfl rfl g55 ?_
      refine w_s (np := 71) (lv' := [some (eR a0), some (eI (zI a1)), some (eI (zI v30))]) (st' := [eR a0]) rfl (s_an rfl p0) rfl ?_
      refine w_s (np := 73) (lv' := [some (eR a0), some (eI (zI a1)), some (eI (zI v30))]) (st' := [eI (zI 12), eR a0]) rfl rfl rfl ?_
      refine w_s (np := 74) (lv' := [some (eR a0), some (eI (zI a1)), some (eI (zI v30))]) (st' := [eI (zI 0), eI (zI 12), eR a0]) rfl rfl rfl ?_
      refine w_s (np := 75) (lv' := [some (eR a0), some (eI (zI a1)), some (eI (zI v30))]) (st' := [eI (zI v30), eI (zI 0), eI (zI 12), eR a0]) rfl rfl rfl ?_
      refine w_s (np := 76) (lv' := [some (eR a0), some (eI (zI a1)), some (eI (zI v30))]) (st' := [eI (zI v30), eI (zI v30), eI (zI 0), eI (zI 12), eR a0]) rfl rfl rfl ?_
      refine w_s (np := 77) (lv' := [some (eR a0), some (eI (zI a1)), some (eI (zI v30))]) (st' := [eI (zI 4), eI (zI v30), eI (zI v30), eI (zI 0), eI (zI 12), eR a0]) rfl rfl rfl ?_
      obtain ⟨v84, ev84, h⟩ := z_l_ex h
      refine w_s (np := 78) (lv' := [some (eR a0), some (eI (zI a1)), some (eI (zI v30))]) (st' := [eI (zI v84), eI (zI v30), eI (zI 0), eI (zI 12), eR a0]) rfl (s_iadd ev84) rfl ?_
      clear ev84
      refine w_cv (np := 81) (as := [eI (zI 12), eI (zI 0), eI (zI v30), eI (zI v84)]) (lv' := [some (eR a0), some (eI (zI 12)), some (eI (zI 0)), some (eI (zI v30)), some (eI (zI v84)), none]) (rest := []) rfl rfl rfl (Nat.ble_eq.mp rfl) rfl rfl rfl (hl46 _ _ hk) rfl ?_
      refine m_232_ok hG h hR45 (hl46 _ _ hk) p0 ?_
      intro M85 μ86 h hR87 hl89
      have hl88 := y_le.tr hl46 hl89
      show ex_q fg rc (d + 4, (234, 81, [some (eR a0), some (eI (zI a1)), some (eI (zI v30))], []), f :: F, μ86)
      refine w_s (np := 82) (lv' := [some (eR a0), some (eI (zI a1)), some (eI (zI v30))]) (st' := [eR a0]) rfl (s_an rfl p0) rfl ?_
      refine w_s (np := 83) (lv' := [some (eR a0), some (eI (zI a1)), some (eI (zI v30))]) (st' := [eI (zI a1), eR a0]) rfl rfl rfl ?_
      refine w_s (np := 84) (lv' := [some (eR a0), some (eI (zI a1)), some (eI (zI v30))]) (st' := [eI (zI 0), eI (zI a1), eR a0]) rfl rfl rfl ?_
      refine w_s (np := 85) (lv' := [some (eR a0), some (eI (zI a1)), some (eI (zI v30))]) (st' := [eI (zI 0), eI (zI 0), eI (zI a1), eR a0]) rfl rfl rfl ?_
      refine w_s (np := 87) (lv' := [some (eR a0), some (eI (zI a1)), some (eI (zI v30))]) (st' := [eI (zI 8), eI (zI 0), eI (zI 0), eI (zI a1), eR a0]) rfl rfl rfl ?_
      refine w_s (np := 89) (lv' := [some (eR a0), some (eI (zI a1)), some (eI (zI v30))]) (st' := [eI (zI 12), eI (zI 8), eI (zI 0), eI (zI 0), eI (zI a1), eR a0]) rfl rfl rfl ?_
      refine w_s (np := 90) (lv' := [some (eR a0), some (eI (zI a1)), some (eI (zI v30))]) (st' := [eI (zI 4), eI (zI 12), eI (zI 8), eI (zI 0), eI (zI 0), eI (zI a1), eR a0]) rfl rfl rfl ?_
      refine w_cv (np := 93) (as := [eI (zI a1), eI (zI 0), eI (zI 0), eI (zI 8), eI (zI 12), eI (zI 4)]) (lv' := [some (eR a0), some (eI (zI a1)), some (eI (zI 0)), some (eI (zI 0)), some (eI (zI 8)), some (eI (zI 12)), some (eI (zI 4)), none]) (rest := []) rfl rfl rfl (Nat.ble_eq.mp rfl) rfl rfl rfl (hl88 _ _ hk) rfl ?_
      refine m_233_ok hG h hR87 (hl88 _ _ hk) p0 ?_
      intro M90 μ91 h hR92 hl94
      have hl93 := y_le.tr hl88 hl94
      show ex_q fg rc (d + 4, (234, 93, [some (eR a0), some (eI (zI a1)), some (eI (zI v30))], []), f :: F, μ91)
      refine w_s (np := 94) (lv' := [some (eR a0), some (eI (zI a1)), some (eI (zI v30))]) (st' := [eR a0]) rfl (s_an rfl p0) rfl ?_
      refine w_s (np := 95) (lv' := [some (eR a0), some (eI (zI a1)), some (eI (zI v30))]) (st' := [eI (zI a1), eR a0]) rfl rfl rfl ?_
      refine w_s (np := 96) (lv' := [some (eR a0), some (eI (zI a1)), some (eI (zI v30))]) (st' := [eI (zI 1), eI (zI a1), eR a0]) rfl rfl rfl ?_
      refine w_s (np := 97) (lv' := [some (eR a0), some (eI (zI a1)), some (eI (zI v30))]) (st' := [eI (zI 1), eI (zI 1), eI (zI a1), eR a0]) rfl rfl rfl ?_
      refine w_s (np := 99) (lv' := [some (eR a0), some (eI (zI a1)), some (eI (zI v30))]) (st' := [eI (zI 12), eI (zI 1), eI (zI 1), eI (zI a1), eR a0]) rfl rfl rfl ?_
      refine w_s (np := 101) (lv' := [some (eR a0), some (eI (zI a1)), some (eI (zI v30))]) (st' := [eI (zI 8), eI (zI 12), eI (zI 1), eI (zI 1), eI (zI a1), eR a0]) rfl rfl rfl ?_
      refine w_s (np := 102) (lv' := [some (eR a0), some (eI (zI a1)), some (eI (zI v30))]) (st' := [eI (zI 0), eI (zI 8), eI (zI 12), eI (zI 1), eI (zI 1), eI (zI a1), eR a0]) rfl rfl rfl ?_
      refine w_cv (np := 105) (as := [eI (zI a1), eI (zI 1), eI (zI 1), eI (zI 12), eI (zI 8), eI (zI 0)]) (lv' := [some (eR a0), some (eI (zI a1)), some (eI (zI 1)), some (eI (zI 1)), some (eI (zI 12)), some (eI (zI 8)), some (eI (zI 0)), none]) (rest := []) rfl rfl rfl (Nat.ble_eq.mp rfl) rfl rfl rfl (hl93 _ _ hk) rfl ?_
      refine m_233_ok hG h hR92 (hl93 _ _ hk) p0 ?_
      intro M95 μ96 h hR97 hl99
      have hl98 := y_le.tr hl93 hl99
      show ex_q fg rc (d + 4, (234, 105, [some (eR a0), some (eI (zI a1)), some (eI (zI v30))], []), f :: F, μ96)
      refine w_go (t1 := 169) rfl rfl ?_
      exact mg_234_169_ok hG hk p0 hK h17 h190 _ _ M95 μ96 h hR97 hl98
    · refine v_ne0_t (t1 := 108) rfl rfl g55 ?_
      refine w_s (np := 109) (lv' := [some (eR a0), some (eI (zI a1)), some (eI (zI v30))]) (st' := [eR a0]) rfl (s_an rfl p0) rfl ?_
      refine w_s (np := 111) (lv' := [some (eR a0), some (eI (zI a1)), some (eI (zI v30))]) (st' := [eI (zI 12), eR a0]) rfl rfl rfl ?_
      refine w_s (np := 112) (lv' := [some (eR a0), some (eI (zI a1)), some (eI (zI v30))]) (st' := [eI (zI 4), eI (zI 12), eR a0]) rfl rfl rfl ?_
      refine w_s (np := 113) (lv' := [some (eR a0), some (eI (zI a1)), some (eI (zI v30))]) (st' := [eI (zI v30), eI (zI 4), eI (zI 12), eR a0]) rfl rfl rfl ?_
      refine w_s (np := 114) (lv' := [some (eR a0), some (eI (zI a1)), some (eI (zI v30))]) (st' := [eI (zI 4), eI (zI v30), eI (zI 4), eI (zI 12), eR a0]) rfl rfl rfl ?_
      obtain ⟨v56, ev56, h⟩ := z_l_ex h
      refine w_s (np := 115) (lv' := [some (eR a0), some (eI (zI a1)), some (eI (zI v30))]) (st' := [eI (zI v56), eI (zI 4), eI (zI 12), eR a0]) rfl (s_iadd ev56) rfl ?_
      clear ev56
      refine w_s (np := 116) (lv' := [some (eR a0), some (eI (zI a1)), some (eI (zI v30))]) (st' := [eI (zI v30), eI (zI v56), eI (zI 4), eI (zI 12), eR a0]) rfl rfl rfl ?_
      refine w_cv (np := 119) (as := [eI (zI 12), eI (zI 4), eI (zI v56), eI (zI v30)]) (lv' := [some (eR a0), some (eI (zI 12)), some (eI (zI 4)), some (eI (zI v56)), some (eI (zI v30)), none]) (rest := []) rfl rfl rfl (Nat.ble_eq.mp rfl) rfl rfl rfl (hl46 _ _ hk) rfl ?_
      refine m_232_ok hG h hR45 (hl46 _ _ hk) p0 ?_
      intro M57 μ58 h hR59 hl61
      have hl60 := y_le.tr hl46 hl61
      show ex_q fg rc (d + 4, (234, 119, [some (eR a0), some (eI (zI a1)), some (eI (zI v30))], []), f :: F, μ58)
      refine w_s (np := 120) (lv' := [some (eR a0), some (eI (zI a1)), some (eI (zI v30))]) (st' := [eR a0]) rfl (s_an rfl p0) rfl ?_
      refine w_s (np := 122) (lv' := [some (eR a0), some (eI (zI a1)), some (eI (zI v30))]) (st' := [eI (zI 16), eR a0]) rfl rfl rfl ?_
      refine w_s (np := 123) (lv' := [some (eR a0), some (eI (zI a1)), some (eI (zI v30))]) (st' := [eI (zI 4), eI (zI 16), eR a0]) rfl rfl rfl ?_
      refine w_s (np := 124) (lv' := [some (eR a0), some (eI (zI a1)), some (eI (zI v30))]) (st' := [eI (zI v30), eI (zI 4), eI (zI 16), eR a0]) rfl rfl rfl ?_
      refine w_s (np := 125) (lv' := [some (eR a0), some (eI (zI a1)), some (eI (zI v30))]) (st' := [eI (zI 4), eI (zI v30), eI (zI 4), eI (zI 16), eR a0]) rfl rfl rfl ?_
      obtain ⟨v62, ev62, h⟩ := z_l_ex h
      refine w_s (np := 126) (lv' := [some (eR a0), some (eI (zI a1)), some (eI (zI v30))]) (st' := [eI (zI v62), eI (zI 4), eI (zI 16), eR a0]) rfl (s_iadd ev62) rfl ?_
      clear ev62
      refine w_s (np := 127) (lv' := [some (eR a0), some (eI (zI a1)), some (eI (zI v30))]) (st' := [eI (zI v30), eI (zI v62), eI (zI 4), eI (zI 16), eR a0]) rfl rfl rfl ?_
      refine w_s (np := 129) (lv' := [some (eR a0), some (eI (zI a1)), some (eI (zI v30))]) (st' := [eI (zI 8), eI (zI v30), eI (zI v62), eI (zI 4), eI (zI 16), eR a0]) rfl rfl rfl ?_
      obtain ⟨v63, ev63, h⟩ := z_l_ex h
      refine w_s (np := 130) (lv' := [some (eR a0), some (eI (zI a1)), some (eI (zI v30))]) (st' := [eI (zI v63), eI (zI v62), eI (zI 4), eI (zI 16), eR a0]) rfl (s_iadd ev63) rfl ?_
      clear ev63
      refine w_cv (np := 133) (as := [eI (zI 16), eI (zI 4), eI (zI v62), eI (zI v63)]) (lv' := [some (eR a0), some (eI (zI 16)), some (eI (zI 4)), some (eI (zI v62)), some (eI (zI v63)), none]) (rest := []) rfl rfl rfl (Nat.ble_eq.mp rfl) rfl rfl rfl (hl60 _ _ hk) rfl ?_
      refine m_232_ok hG h hR59 (hl60 _ _ hk) p0 ?_
      intro M64 μ65 h hR66 hl68
      have hl67 := y_le.tr hl60 hl68
      show ex_q fg rc (d + 4, (234, 133, [some (eR a0), some (eI (zI a1)), some (eI (zI v30))], []), f :: F, μ65)
      refine w_s (np := 134) (lv' := [some (eR a0), some (eI (zI a1)), some (eI (zI v30))]) (st' := [eR a0]) rfl (s_an rfl p0) rfl ?_
      refine w_s (np := 135) (lv' := [some (eR a0), some (eI (zI a1)), some (eI (zI v30))]) (st' := [eI (zI a1), eR a0]) rfl rfl rfl ?_
      refine w_s (np := 136) (lv' := [some (eR a0), some (eI (zI a1)), some (eI (zI v30))]) (st' := [eI (zI 1), eI (zI a1), eR a0]) rfl rfl rfl ?_
      refine w_s (np := 137) (lv' := [some (eR a0), some (eI (zI a1)), some (eI (zI v30))]) (st' := [eI (zI 0), eI (zI 1), eI (zI a1), eR a0]) rfl rfl rfl ?_
      refine w_s (np := 139) (lv' := [some (eR a0), some (eI (zI a1)), some (eI (zI v30))]) (st' := [eI (zI 16), eI (zI 0), eI (zI 1), eI (zI a1), eR a0]) rfl rfl rfl ?_
      refine w_s (np := 141) (lv' := [some (eR a0), some (eI (zI a1)), some (eI (zI v30))]) (st' := [eI (zI 8), eI (zI 16), eI (zI 0), eI (zI 1), eI (zI a1), eR a0]) rfl rfl rfl ?_
      refine w_s (np := 142) (lv' := [some (eR a0), some (eI (zI a1)), some (eI (zI v30))]) (st' := [eI (zI 0), eI (zI 8), eI (zI 16), eI (zI 0), eI (zI 1), eI (zI a1), eR a0]) rfl rfl rfl ?_
      refine w_cv (np := 145) (as := [eI (zI a1), eI (zI 1), eI (zI 0), eI (zI 16), eI (zI 8), eI (zI 0)]) (lv' := [some (eR a0), some (eI (zI a1)), some (eI (zI 1)), some (eI (zI 0)), some (eI (zI 16)), some (eI (zI 8)), some (eI (zI 0)), none]) (rest := []) rfl rfl rfl (Nat.ble_eq.mp rfl) rfl rfl rfl (hl67 _ _ hk) rfl ?_
      refine m_233_ok hG h hR66 (hl67 _ _ hk) p0 ?_
      intro M69 μ70 h hR71 hl73
      have hl72 := y_le.tr hl67 hl73
      show ex_q fg rc (d + 4, (234, 145, [some (eR a0), some (eI (zI a1)), some (eI (zI v30))], []), f :: F, μ70)
      refine w_s (np := 146) (lv' := [some (eR a0), some (eI (zI a1)), some (eI (zI v30))]) (st' := [eR a0]) rfl (s_an rfl p0) rfl ?_
      refine w_s (np := 147) (lv' := [some (eR a0), some (eI (zI a1)), some (eI (zI v30))]) (st' := [eI (zI a1), eR a0]) rfl rfl rfl ?_
      refine w_s (np := 148) (lv' := [some (eR a0), some (eI (zI a1)), some (eI (zI v30))]) (st' := [eI (zI 1), eI (zI a1), eR a0]) rfl rfl rfl ?_
      refine w_s (np := 149) (lv' := [some (eR a0), some (eI (zI a1)), some (eI (zI v30))]) (st' := [eI (zI 1), eI (zI 1), eI (zI a1), eR a0]) rfl rfl rfl ?_
      refine w_s (np := 151) (lv' := [some (eR a0), some (eI (zI a1)), some (eI (zI v30))]) (st' := [eI (zI 12), eI (zI 1), eI (zI 1), eI (zI a1), eR a0]) rfl rfl rfl ?_
      refine w_s (np := 153) (lv' := [some (eR a0), some (eI (zI a1)), some (eI (zI v30))]) (st' := [eI (zI 16), eI (zI 12), eI (zI 1), eI (zI 1), eI (zI a1), eR a0]) rfl rfl rfl ?_
      refine w_s (np := 154) (lv' := [some (eR a0), some (eI (zI a1)), some (eI (zI v30))]) (st' := [eI (zI 4), eI (zI 16), eI (zI 12), eI (zI 1), eI (zI 1), eI (zI a1), eR a0]) rfl rfl rfl ?_
      refine w_cv (np := 157) (as := [eI (zI a1), eI (zI 1), eI (zI 1), eI (zI 12), eI (zI 16), eI (zI 4)]) (lv' := [some (eR a0), some (eI (zI a1)), some (eI (zI 1)), some (eI (zI 1)), some (eI (zI 12)), some (eI (zI 16)), some (eI (zI 4)), none]) (rest := []) rfl rfl rfl (Nat.ble_eq.mp rfl) rfl rfl rfl (hl72 _ _ hk) rfl ?_
      refine m_233_ok hG h hR71 (hl72 _ _ hk) p0 ?_
      intro M74 μ75 h hR76 hl78
      have hl77 := y_le.tr hl72 hl78
      show ex_q fg rc (d + 4, (234, 157, [some (eR a0), some (eI (zI a1)), some (eI (zI v30))], []), f :: F, μ75)
      refine w_s (np := 158) (lv' := [some (eR a0), some (eI (zI a1)), some (eI (zI v30))]) (st' := [eR a0]) rfl (s_an rfl p0) rfl ?_
      refine w_s (np := 159) (lv' := [some (eR a0), some (eI (zI a1)), some (eI (zI v30))]) (st' := [eI (zI a1), eR a0]) rfl rfl rfl ?_
      refine w_s (np := 160) (lv' := [some (eR a0), some (eI (zI a1)), some (eI (zI v30))]) (st' := [eI (zI 0), eI (zI a1), eR a0]) rfl rfl rfl ?_
      refine w_s (np := 161) (lv' := [some (eR a0), some (eI (zI a1)), some (eI (zI v30))]) (st' := [eI (zI 2), eI (zI 0), eI (zI a1), eR a0]) rfl rfl rfl ?_
      refine w_s (np := 163) (lv' := [some (eR a0), some (eI (zI a1)), some (eI (zI v30))]) (st' := [eI (zI 16), eI (zI 2), eI (zI 0), eI (zI a1), eR a0]) rfl rfl rfl ?_
      refine w_s (np := 165) (lv' := [some (eR a0), some (eI (zI a1)), some (eI (zI v30))]) (st' := [eI (zI 12), eI (zI 16), eI (zI 2), eI (zI 0), eI (zI a1), eR a0]) rfl rfl rfl ?_
      refine w_s (np := 166) (lv' := [some (eR a0), some (eI (zI a1)), some (eI (zI v30))]) (st' := [eI (zI 0), eI (zI 12), eI (zI 16), eI (zI 2), eI (zI 0), eI (zI a1), eR a0]) rfl rfl rfl ?_
      refine w_cv (np := 169) (as := [eI (zI a1), eI (zI 0), eI (zI 2), eI (zI 16), eI (zI 12), eI (zI 0)]) (lv' := [some (eR a0), some (eI (zI a1)), some (eI (zI 0)), some (eI (zI 2)), some (eI (zI 16)), some (eI (zI 12)), some (eI (zI 0)), none]) (rest := []) rfl rfl rfl (Nat.ble_eq.mp rfl) rfl rfl rfl (hl77 _ _ hk) rfl ?_
      refine m_233_ok hG h hR76 (hl77 _ _ hk) p0 ?_
      intro M79 μ80 h hR81 hl83
      have hl82 := y_le.tr hl77 hl83
      show ex_q fg rc (d + 4, (234, 169, [some (eR a0), some (eI (zI a1)), some (eI (zI v30))], []), f :: F, μ80)
      exact mg_234_169_ok hG hk p0 hK h17 h190 _ _ M79 μ80 h hR81 hl82
  · refine v_ge_t (t1 := 175) rfl rfl g12 ?_
    refine w_s (np := 176) (lv' := [some (eR a0), some (eI (zI a1)), x2]) (st' := [eR a0]) rfl (s_an rfl p0) rfl ?_
    obtain ⟨v13, h, k14, e15⟩ := x_gf_ok (ty := 3) h hR (by decide) rfl
    obtain ⟨g16, h⟩ := f_if_ok h
    have q17 : 0 < v13 := Nat.ble_eq.mp g16
    refine v_gf3 (np := 179) rfl rfl k14 e15 ?_
    clear k14 e15
    refine w_s (np := 180) (lv' := [some (eR a0), some (eI (zI a1)), x2]) (st' := [eR a0, eR v13]) rfl (s_an rfl p0) rfl ?_
    obtain ⟨v18, h, k19, e20⟩ := x_gf_ok (ty := 0) h hR (by decide) rfl
    refine v_gf0 (np := 183) rfl rfl k19 e20 ?_
    clear k19 e20
    refine w_s (np := 184) (lv' := [some (eR a0), some (eI (zI a1)), x2]) (st' := [eR a0, eI (zI v18), eR v13]) rfl (s_an rfl p0) rfl ?_
    obtain ⟨v21, h, k22, e23⟩ := x_gf_ok (ty := 0) h hR (by decide) rfl
    refine v_gf0 (np := 187) rfl rfl k22 e23 ?_
    clear k22 e23
    obtain ⟨M24, μ25, h, k28, hR26, hl27⟩ := x_sa_ex (ty := 0) h hR hl rfl (by decide)
    refine v_sa (np := 188) rfl rfl k28 ?_
    clear k28
    refine w_s (np := 189) (lv' := [some (eR a0), some (eI (zI a1)), x2]) (st' := [eI (zI 0)]) rfl rfl rfl ?_
    refine w_s (np := 190) (lv' := [some (eR a0), some (eI (zI 0)), x2]) (st' := []) rfl rfl rfl ?_
    obtain ⟨w29, ew29, h⟩ := z_f_ex h
    subst ew29
    exact h190 _ _ M24 μ25 h hR26 hl27
theorem mg_234_17_ok {fg : eG} {μz : eM} {rc : eQ} {d : Nat} {f : eFr} {F : List eFr} {μ0 : eM} {a0 : Nat} {K : yM → Bool} {i190 : Nat → yM → Bool} (hG : yG fg y_T) (hk : ev_kd μ0 a0 = some 11) (p0 : 0 < a0) (hK : ∀ (M : yM) (μ : eM), K M = true → xQ μz M μ → y_le μ0 μ → ex_q fg rc (d + 5, (f.1, f.2.1, f.2.2.1, f.2.2.2), F, μ)) (h190 : ∀ (a1 : Nat) (x2 : Option eV) (M : yM) (μ : eM), i190 a1 M = true → xQ μz M μ → y_le μ0 μ → ex_q fg rc (d + 4, (234, 190, [some (eR a0), some (eI (zI a1)), x2], []), f :: F, μ)) : ∀ n : Nat, ∀ (a1 : Nat) (x2 : Option eV) (M : yM) (μ : eM), mg_234_17 a0 K i190 n a1 M = true → xQ μz M μ → y_le μ0 μ → ex_q fg rc (d + 4, (234, 17, [some (eR a0), some (eI (zI a1)), x2], []), f :: F, μ) := by
  intro n
  induction n with
  | zero =>
    intro a1 x2 M μ h hR hl
    exact absurd h Bool.false_ne_true
  | succ n ih =>
    intro a1 x2 M μ h hR hl
    exact mg_234_17b_ok hG hk p0 hK h190 ih a1 x2 M μ h hR hl
noncomputable def mg_234_17r (a0 : Nat) (K : yM → Bool) (i190 : Nat → yM → Bool) (base : Nat → yM → Bool) (n : Nat) : Nat → yM → Bool := @Nat.rec (fun _ => Nat → yM → Bool) base (fun _ ih => mg_234_17b a0 K i190 ih) n
theorem mg_234_17r_ok {fg : eG} {μz : eM} {rc : eQ} {d : Nat} {f : eFr} {F : List eFr} {μ0 : eM} {a0 : Nat} {K : yM → Bool} {i190 : Nat → yM → Bool} {base : Nat → yM → Bool} (hG : yG fg y_T) (hk : ev_kd μ0 a0 = some 11) (p0 : 0 < a0) (hK : ∀ (M : yM) (μ : eM), K M = true → xQ μz M μ → y_le μ0 μ → ex_q fg rc (d + 5, (f.1, f.2.1, f.2.2.1, f.2.2.2), F, μ)) (h190 : ∀ (a1 : Nat) (x2 : Option eV) (M : yM) (μ : eM), i190 a1 M = true → xQ μz M μ → y_le μ0 μ → ex_q fg rc (d + 4, (234, 190, [some (eR a0), some (eI (zI a1)), x2], []), f :: F, μ)) (hb : ∀ (a1 : Nat) (x2 : Option eV) (M : yM) (μ : eM), base a1 M = true → xQ μz M μ → y_le μ0 μ → ex_q fg rc (d + 4, (234, 17, [some (eR a0), some (eI (zI a1)), x2], []), f :: F, μ)) : ∀ n : Nat, ∀ (a1 : Nat) (x2 : Option eV) (M : yM) (μ : eM), mg_234_17r a0 K i190 base n a1 M = true → xQ μz M μ → y_le μ0 μ → ex_q fg rc (d + 4, (234, 17, [some (eR a0), some (eI (zI a1)), x2], []), f :: F, μ) := by
  intro n
  induction n with
  | zero =>
    intro a1 x2 M μ h hR hl
    exact hb a1 x2 M μ h hR hl
  | succ n ih =>
    intro a1 x2 M μ h hR hl
    exact mg_234_17b_ok hG hk p0 hK h190 ih a1 x2 M μ h hR hl
/-! RhombInflatorModel.cuts -/
noncomputable def mg_234 (i17 : Nat → yM → Bool) (i190 : Nat → yM → Bool) (a0 : Nat) (M : yM) (K : yM → Bool) : Bool := y_gf M a0 11 20 fun v1 => z_l (z_add v1 1) fun v4 => y_wf M a0 11 20 v4 fun M5 => y_wf M5 a0 11 18 0 fun M11 => z_f 0 fun w17 => i17 w17 M11
theorem mg_234_ok {fg : eG} {μz : eM} {rc : eQ} {d : Nat} {f : eFr} {F : List eFr} {M : yM} {μ0 : eM} {i17 : Nat → yM → Bool} {i190 : Nat → yM → Bool} {a0 : Nat} {K : yM → Bool} (hG : yG fg y_T) (h : mg_234 i17 i190 a0 M K = true) (hR : xQ μz M μ0) (hk : ev_kd μ0 a0 = some 11) (p0 : 0 < a0) (h17 : ∀ (a1 : Nat) (x2 : Option eV) (M : yM) (μ : eM), i17 a1 M = true → xQ μz M μ → y_le μ0 μ → ex_q fg rc (d + 4, (234, 17, [some (eR a0), some (eI (zI a1)), x2], []), f :: F, μ)) (h190 : ∀ (a1 : Nat) (x2 : Option eV) (M : yM) (μ : eM), i190 a1 M = true → xQ μz M μ → y_le μ0 μ → ex_q fg rc (d + 4, (234, 190, [some (eR a0), some (eI (zI a1)), x2], []), f :: F, μ)) (hK : ∀ (M : yM) (μ : eM), K M = true → xQ μz M μ → y_le μ0 μ → ex_q fg rc (d + 5, (f.1, f.2.1, f.2.2.1, f.2.2.2), F, μ)) : ex_q fg rc (d + 4, (234, 0, [some (eR a0), none, none], []), f :: F, μ0) := by
  unfold mg_234 at h
  have hl := y_le_r μ0
  refine w_s (np := 1) (lv' := [some (eR a0), none, none]) (st' := [eR a0]) rfl (s_an rfl p0) rfl ?_
  refine w_s (np := 2) (lv' := [some (eR a0), none, none]) (st' := [eR a0, eR a0]) rfl rfl rfl ?_
  obtain ⟨v1, h, k2, e3⟩ := x_gf_ok (ty := 0) h hR (by decide) rfl
  refine v_gf0 (np := 5) rfl rfl k2 e3 ?_
  clear k2 e3
  refine w_s (np := 6) (lv' := [some (eR a0), none, none]) (st' := [eI (zI 1), eI (zI v1), eR a0]) rfl rfl rfl ?_
  obtain ⟨v4, ev4, h⟩ := z_l_ex h
  refine w_s (np := 7) (lv' := [some (eR a0), none, none]) (st' := [eI (zI v4), eR a0]) rfl (s_iadd ev4) rfl ?_
  clear ev4
  obtain ⟨M5, μ6, h, k9, hR7, hl8, e10⟩ := x_wf_ex (ty := 0) h hR hl rfl (by decide)
  refine v_pe0 (np := 10) rfl rfl k9 e10 ?_
  clear k9 e10
  refine w_s (np := 11) (lv' := [some (eR a0), none, none]) (st' := [eR a0]) rfl (s_an rfl p0) rfl ?_
  refine w_s (np := 12) (lv' := [some (eR a0), none, none]) (st' := [eI (zI 0), eR a0]) rfl rfl rfl ?_
  obtain ⟨M11, μ12, h, k15, hR13, hl14, e16⟩ := x_wf_ex (ty := 0) h hR7 hl8 rfl (by decide)
  refine v_pe0 (np := 15) rfl rfl k15 e16 ?_
  clear k15 e16
  refine w_s (np := 16) (lv' := [some (eR a0), none, none]) (st' := [eI (zI 0)]) rfl rfl rfl ?_
  refine w_s (np := 17) (lv' := [some (eR a0), some (eI (zI 0)), none]) (st' := []) rfl rfl rfl ?_
  obtain ⟨w17, ew17, h⟩ := z_f_ex h
  subst ew17
  exact h17 _ _ M11 μ12 h hR13 hl14
noncomputable def mg_239_181b (c234 : Nat → yM → (yM → Bool) → Bool) (a0 a1 a2 : Nat) (K : yM → Bool) (i10 : yM → Bool) (i77 : Nat → yM → Bool) (i135 : Nat → yM → Bool) (i218 : Nat → yM → Bool) (i181 : Nat → yM → Bool) (a3 : Nat) (M : yM) : Bool := y_gf M a0 11 8 fun v1 => z_if (z_lt a3 v1) (y_gf M a0 11 25 fun v6 => f_if false (Nat.ble 1 v6) (y_sa 100 M v6 a3 4294967295 fun M11 => y_gf M11 a0 11 26 fun v16 => f_if false (Nat.ble 1 v16) (y_sa 100 M11 v16 a3 4294967295 fun M21 => y_gf M21 a0 11 27 fun v26 => f_if false (Nat.ble 1 v26) (y_sa 100 M21 v26 a3 4294967295 fun M31 => z_l (z_add a3 1) fun v36 => z_f v36 fun w37 => i181 w37 M31)))) (z_f 0 fun w5 => i218 w5 M)
noncomputable def mg_239_181 (c234 : Nat → yM → (yM → Bool) → Bool) (a0 a1 a2 : Nat) (K : yM → Bool) (i10 : yM → Bool) (i77 : Nat → yM → Bool) (i135 : Nat → yM → Bool) (i218 : Nat → yM → Bool) (n : Nat) : Nat → yM → Bool := @Nat.rec (fun _ => Nat → yM → Bool) (fun _ _ => false) (fun _ ih => mg_239_181b c234 a0 a1 a2 K i10 i77 i135 i218 ih) n
theorem mg_239_181b_ok {fg : eG} {μz : eM} {rc : eQ} {d : Nat} {f : eFr} {F : List eFr} {μ0 : eM} {c234 : Nat → yM → (yM → Bool) → Bool} {a0 a1 a2 : Nat} {K : yM → Bool} {i10 : yM → Bool} {i77 : Nat → yM → Bool} {i135 : Nat → yM → Bool} {i218 : Nat → yM → Bool} {i181 : Nat → yM → Bool} (hc234 : ∀ (d : Nat) (f : eFr) (F : List eFr) (b0 : Nat) (M : yM) (μ : eM) (K : yM → Bool), c234 b0 M K = true → xQ μz M μ → ev_kd μ b0 = some 11 → 0 < b0 → (∀ (M : yM) (μ2 : eM), K M = true → xQ μz M μ2 → y_le μ μ2 → ex_q fg rc (d + 5, (f.1, f.2.1, f.2.2.1, f.2.2.2), F, μ2)) → ex_q fg rc (d + 4, (234, 0, [some (eR b0), none, none], []), f :: F, μ)) (hG : yG fg y_T) (hk : ev_kd μ0 a0 = some 11) (p0 : 0 < a0) (hK : ∀ (M : yM) (μ : eM), K M = true → xQ μz M μ → y_le μ0 μ → ex_q fg rc (d + 6, (f.1, f.2.1, f.2.2.1, f.2.2.2), F, μ)) (h10 : ∀ (M : yM) (μ : eM), i10 M = true → xQ μz M μ → y_le μ0 μ → ex_q fg rc (d + 5, (239, 10, [some (eR a0), some (eI (zI a1)), some (eI (zI a2)), none, none], []), f :: F, μ)) (h77 : ∀ (a3 : Nat) (M : yM) (μ : eM), i77 a3 M = true → xQ μz M μ → y_le μ0 μ → ex_q fg rc (d + 5, (239, 77, [some (eR a0), some (eI (zI a1)), some (eI (zI a2)), some (eI (zI a3)), none], []), f :: F, μ)) (h135 : ∀ (a3 : Nat) (M : yM) (μ : eM), i135 a3 M = true → xQ μz M μ → y_le μ0 μ → ex_q fg rc (d + 5, (239, 135, [some (eR a0), some (eI (zI a1)), some (eI (zI a2)), some (eI (zI a3)), none], []), f :: F, μ)) (h218 : ∀ (a3 : Nat) (x4 : Option eV) (M : yM) (μ : eM), i218 a3 M = true → xQ μz M μ → y_le μ0 μ → ex_q fg rc (d + 5, (239, 218, [some (eR a0), some (eI (zI a1)), some (eI (zI a2)), some (eI (zI a3)), x4], []), f :: F, μ)) (h181 : ∀ (a3 : Nat) (M : yM) (μ : eM), i181 a3 M = true → xQ μz M μ → y_le μ0 μ → ex_q fg rc (d + 5, (239, 181, [some (eR a0), some (eI (zI a1)), some (eI (zI a2)), some (eI (zI a3)), none], []), f :: F, μ)) : ∀ (a3 : Nat) (M : yM) (μ : eM), mg_239_181b c234 a0 a1 a2 K i10 i77 i135 i218 i181 a3 M = true → xQ μz M μ → y_le μ0 μ → ex_q fg rc (d + 5, (239, 181, [some (eR a0), some (eI (zI a1)), some (eI (zI a2)), some (eI (zI a3)), none], []), f :: F, μ) := by
  intro a3 M μ h hR hl
  unfold mg_239_181b at h
  refine w_s (np := 182) (lv' := [some (eR a0), some (eI (zI a1)), some (eI (zI a2)), some (eI (zI a3)), none]) (st' := [eI (zI a3)]) rfl rfl rfl ?_
  refine w_s (np := 183) (lv' := [some (eR a0), some (eI (zI a1)), some (eI (zI a2)), some (eI (zI a3)), none]) (st' := [eR a0, eI (zI a3)]) rfl (s_an rfl p0) rfl ?_
  obtain ⟨v1, h, k2, e3⟩ := x_gf_ok (ty := 0) h hR (by decide) rfl
  refine v_gf0 (np := 186) rfl rfl k2 e3 ?_
  clear k2 e3
  rcases z_if_t h with ⟨g4, h⟩ | ⟨g4, h⟩
  · refine v_ge_f (t1 := 216) rfl rfl g4 ?_
    refine w_s (np := 190) (lv' := [some (eR a0), some (eI (zI a1)), some (eI (zI a2)), some (eI (zI a3)), none]) (st' := [eR a0]) rfl (s_an rfl p0) rfl ?_
    obtain ⟨v6, h, k7, e8⟩ := x_gf_ok (ty := 3) h hR (by decide) rfl
    obtain ⟨g9, h⟩ := f_if_ok h
    have q10 : 0 < v6 := Nat.ble_eq.mp g9
    refine v_gf3 (np := 193) rfl rfl k7 e8 ?_
    clear k7 e8
    refine w_s (np := 194) (lv' := [some (eR a0), some (eI (zI a1)), some (eI (zI a2)), some (eI (zI a3)), none]) (st' := [eI (zI a3), eR v6]) rfl rfl rfl ?_
    refine w_s (np := 195) (lv' := [some (eR a0), some (eI (zI a1)), some (eI (zI a2)), some (eI (zI a3)), none]) (st' := [eI (zI 4294967295), eI (zI a3), eR v6]) rfl rfl rfl ?_
    obtain ⟨M11, μ12, h, k15, hR13, hl14⟩ := x_sa_ex (ty := 0) h hR hl rfl (by decide)
    refine v_sa (np := 196) rfl rfl k15 ?_
    clear k15
    refine w_s (np := 197) (lv' := [some (eR a0), some (eI (zI a1)), some (eI (zI a2)), some (eI (zI a3)), none]) (st' := [eR a0]) rfl (s_an rfl p0) rfl ?_
    obtain ⟨v16, h, k17, e18⟩ := x_gf_ok (ty := 3) h hR13 (by decide) rfl
    obtain ⟨g19, h⟩ := f_if_ok h
    have q20 : 0 < v16 := Nat.ble_eq.mp g19
    refine v_gf3 (np := 200) rfl rfl k17 e18 ?_
    clear k17 e18
    refine w_s (np := 201) (lv' := [some (eR a0), some (eI (zI a1)), some (eI (zI a2)), some (eI (zI a3)), none]) (st' := [eI (zI a3), eR v16]) rfl rfl rfl ?_
    refine w_s (np := 202) (lv' := [some (eR a0), some (eI (zI a1)), some (eI (zI a2)), some (eI (zI a3)), none]) (st' := [eI (zI 4294967295), eI (zI a3), eR v16]) rfl rfl rfl ?_
    obtain ⟨M21, μ22, h, k25, hR23, hl24⟩ := x_sa_ex (ty := 0) h hR13 hl14 rfl (by decide)
    refine v_sa (np := 203) rfl rfl k25 ?_
    clear k25
    refine w_s (np := 204) (lv' := [some (eR a0), some (eI (zI a1)), some (eI (zI a2)), some (eI (zI a3)), none]) (st' := [eR a0]) rfl (s_an rfl p0) rfl ?_
    obtain ⟨v26, h, k27, e28⟩ := x_gf_ok (ty := 3) h hR23 (by decide) rfl
    obtain ⟨g29, h⟩ := f_if_ok h
    have q30 : 0 < v26 := Nat.ble_eq.mp g29
    refine v_gf3 (np := 207) rfl rfl k27 e28 ?_
    clear k27 e28
    refine w_s (np := 208) (lv' := [some (eR a0), some (eI (zI a1)), some (eI (zI a2)), some (eI (zI a3)), none]) (st' := [eI (zI a3), eR v26]) rfl rfl rfl ?_
    refine w_s (np := 209) (lv' := [some (eR a0), some (eI (zI a1)), some (eI (zI a2)), some (eI (zI a3)), none]) (st' := [eI (zI 4294967295), eI (zI a3), eR v26]) rfl rfl rfl ?_
    obtain ⟨M31, μ32, h, k35, hR33, hl34⟩ := x_sa_ex (ty := 0) h hR23 hl24 rfl (by decide)
    refine v_sa (np := 210) rfl rfl k35 ?_
    clear k35
    obtain ⟨v36, ev36, h⟩ := z_l_ex h
    refine w_s (np := 213) (lv' := [some (eR a0), some (eI (zI a1)), some (eI (zI a2)), some (eI (zI v36)), none]) (st' := []) rfl (s_iinc (b := 1) rfl rfl ev36 rfl) rfl ?_
    clear ev36
    refine w_go (t1 := 181) rfl rfl ?_
    obtain ⟨w37, ew37, h⟩ := z_f_ex h
    subst ew37
    exact h181 _ M31 μ32 h hR33 hl34
  · refine v_ge_t (t1 := 216) rfl rfl g4 ?_
    refine w_s (np := 217) (lv' := [some (eR a0), some (eI (zI a1)), some (eI (zI a2)), some (eI (zI a3)), none]) (st' := [eI (zI 0)]) rfl rfl rfl ?_
    refine w_s (np := 218) (lv' := [some (eR a0), some (eI (zI a1)), some (eI (zI a2)), some (eI (zI 0)), none]) (st' := []) rfl rfl rfl ?_
    obtain ⟨w5, ew5, h⟩ := z_f_ex h
    subst ew5
    exact h218 _ _ M μ h hR hl
theorem mg_239_181_ok {fg : eG} {μz : eM} {rc : eQ} {d : Nat} {f : eFr} {F : List eFr} {μ0 : eM} {c234 : Nat → yM → (yM → Bool) → Bool} {a0 a1 a2 : Nat} {K : yM → Bool} {i10 : yM → Bool} {i77 : Nat → yM → Bool} {i135 : Nat → yM → Bool} {i218 : Nat → yM → Bool} (hc234 : ∀ (d : Nat) (f : eFr) (F : List eFr) (b0 : Nat) (M : yM) (μ : eM) (K : yM → Bool), c234 b0 M K = true → xQ μz M μ → ev_kd μ b0 = some 11 → 0 < b0 → (∀ (M : yM) (μ2 : eM), K M = true → xQ μz M μ2 → y_le μ μ2 → ex_q fg rc (d + 5, (f.1, f.2.1, f.2.2.1, f.2.2.2), F, μ2)) → ex_q fg rc (d + 4, (234, 0, [some (eR b0), none, none], []), f :: F, μ)) (hG : yG fg y_T) (hk : ev_kd μ0 a0 = some 11) (p0 : 0 < a0) (hK : ∀ (M : yM) (μ : eM), K M = true → xQ μz M μ → y_le μ0 μ → ex_q fg rc (d + 6, (f.1, f.2.1, f.2.2.1, f.2.2.2), F, μ)) (h10 : ∀ (M : yM) (μ : eM), i10 M = true → xQ μz M μ → y_le μ0 μ → ex_q fg rc (d + 5, (239, 10, [some (eR a0), some (eI (zI a1)), some (eI (zI a2)), none, none], []), f :: F, μ)) (h77 : ∀ (a3 : Nat) (M : yM) (μ : eM), i77 a3 M = true → xQ μz M μ → y_le μ0 μ → ex_q fg rc (d + 5, (239, 77, [some (eR a0), some (eI (zI a1)), some (eI (zI a2)), some (eI (zI a3)), none], []), f :: F, μ)) (h135 : ∀ (a3 : Nat) (M : yM) (μ : eM), i135 a3 M = true → xQ μz M μ → y_le μ0 μ → ex_q fg rc (d + 5, (239, 135, [some (eR a0), some (eI (zI a1)), some (eI (zI a2)), some (eI (zI a3)), none], []), f :: F, μ)) (h218 : ∀ (a3 : Nat) (x4 : Option eV) (M : yM) (μ : eM), i218 a3 M = true → xQ μz M μ → y_le μ0 μ → ex_q fg rc (d + 5, (239, 218, [some (eR a0), some (eI (zI a1)), some (eI (zI a2)), some (eI (zI a3)), x4], []), f :: F, μ)) : ∀ n : Nat, ∀ (a3 : Nat) (M : yM) (μ : eM), mg_239_181 c234 a0 a1 a2 K i10 i77 i135 i218 n a3 M = true → xQ μz M μ → y_le μ0 μ → ex_q fg rc (d + 5, (239, 181, [some (eR a0), some (eI (zI a1)), some (eI (zI a2)), some (eI (zI a3)), none], []), f :: F, μ) := by
  intro n
  induction n with
  | zero =>
    intro a3 M μ h hR hl
    exact absurd h Bool.false_ne_true
  | succ n ih =>
    intro a3 M μ h hR hl
    exact mg_239_181b_ok hc234 hG hk p0 hK h10 h77 h135 h218 ih a3 M μ h hR hl
noncomputable def mg_239_135b (c234 : Nat → yM → (yM → Bool) → Bool) (a0 a1 a2 : Nat) (K : yM → Bool) (i10 : yM → Bool) (i77 : Nat → yM → Bool) (i218 : Nat → yM → Bool) (i135 : Nat → yM → Bool) (a3 : Nat) (M : yM) : Bool := y_gf M a0 11 8 fun v1 => z_l (z_mul 3 v1) fun v4 => z_if (z_lt a3 v4) (y_gf M a0 11 24 fun v6 => f_if false (Nat.ble 1 v6) (y_gf M a0 11 22 fun v11 => f_if false (Nat.ble 1 v11) (y_lh 100 M v11 a3 fun v16 => y_lh 100 M v6 v16 fun v18 => y_gf M a0 11 12 fun v20 => f_if false (Nat.ble 1 v20) (z_l (z_div a3 3) fun v25 => y_lh 100 M v20 v25 fun v26 => z_l (z_rem a3 3) fun v28 => m_237 v26 v28 M fun v34 M29 => z_l (z_add v18 v34) fun v35 => y_sa 100 M29 v6 v16 v35 fun M36 => z_l (z_add a3 1) fun v41 => z_f v41 fun w42 => i135 w42 M36)))) (mg_239_181 c234 a0 a1 a2 K i10 i77 i135 i218 100000 0 M)
noncomputable def mg_239_135 (c234 : Nat → yM → (yM → Bool) → Bool) (a0 a1 a2 : Nat) (K : yM → Bool) (i10 : yM → Bool) (i77 : Nat → yM → Bool) (i218 : Nat → yM → Bool) (n : Nat) : Nat → yM → Bool := @Nat.rec (fun _ => Nat → yM → Bool) (fun _ _ => false) (fun _ ih => mg_239_135b c234 a0 a1 a2 K i10 i77 i218 ih) n
theorem mg_239_135b_ok {fg : eG} {μz : eM} {rc : eQ} {d : Nat} {f : eFr} {F : List eFr} {μ0 : eM} {c234 : Nat → yM → (yM → Bool) → Bool} {a0 a1 a2 : Nat} {K : yM → Bool} {i10 : yM → Bool} {i77 : Nat → yM → Bool} {i218 : Nat → yM → Bool} {i135 : Nat → yM → Bool} (hc234 : ∀ (d : Nat) (f : eFr) (F : List eFr) (b0 : Nat) (M : yM) (μ : eM) (K : yM → Bool), c234 b0 M K = true → xQ μz M μ → ev_kd μ b0 = some 11 → 0 < b0 → (∀ (M : yM) (μ2 : eM), K M = true → xQ μz M μ2 → y_le μ μ2 → ex_q fg rc (d + 5, (f.1, f.2.1, f.2.2.1, f.2.2.2), F, μ2)) → ex_q fg rc (d + 4, (234, 0, [some (eR b0), none, none], []), f :: F, μ)) (hG : yG fg y_T) (hk : ev_kd μ0 a0 = some 11) (p0 : 0 < a0) (hK : ∀ (M : yM) (μ : eM), K M = true → xQ μz M μ → y_le μ0 μ → ex_q fg rc (d + 6, (f.1, f.2.1, f.2.2.1, f.2.2.2), F, μ)) (h10 : ∀ (M : yM) (μ : eM), i10 M = true → xQ μz M μ → y_le μ0 μ → ex_q fg rc (d + 5, (239, 10, [some (eR a0), some (eI (zI a1)), some (eI (zI a2)), none, none], []), f :: F, μ)) (h77 : ∀ (a3 : Nat) (M : yM) (μ : eM), i77 a3 M = true → xQ μz M μ → y_le μ0 μ → ex_q fg rc (d + 5, (239, 77, [some (eR a0), some (eI (zI a1)), some (eI (zI a2)), some (eI (zI a3)), none], []), f :: F, μ)) (h218 : ∀ (a3 : Nat) (x4 : Option eV) (M : yM) (μ : eM), i218 a3 M = true → xQ μz M μ → y_le μ0 μ → ex_q fg rc (d + 5, (239, 218, [some (eR a0), some (eI (zI a1)), some (eI (zI a2)), some (eI (zI a3)), x4], []), f :: F, μ)) (h135 : ∀ (a3 : Nat) (M : yM) (μ : eM), i135 a3 M = true → xQ μz M μ → y_le μ0 μ → ex_q fg rc (d + 5, (239, 135, [some (eR a0), some (eI (zI a1)), some (eI (zI a2)), some (eI (zI a3)), none], []), f :: F, μ)) : ∀ (a3 : Nat) (M : yM) (μ : eM), mg_239_135b c234 a0 a1 a2 K i10 i77 i218 i135 a3 M = true → xQ μz M μ → y_le μ0 μ → ex_q fg rc (d + 5, (239, 135, [some (eR a0), some (eI (zI a1)), some (eI (zI a2)), some (eI (zI a3)), none], []), f :: F, μ) := by
  intro a3 M μ h hR hl
  unfold mg_239_135b at h
  refine w_s (np := 136) (lv' := [some (eR a0), some (eI (zI a1)), some (eI (zI a2)), some (eI (zI a3)), none]) (st' := [eI (zI a3)]) rfl rfl rfl ?_
  refine w_s (np := 137) (lv' := [some (eR a0), some (eI (zI a1)), some (eI (zI a2)), some (eI (zI a3)), none]) (st' := [eI (zI 3), eI (zI a3)]) rfl rfl rfl ?_
  refine w_s (np := 138) (lv' := [some (eR a0), some (eI (zI a1)), some (eI (zI a2)), some (eI (zI a3)), none]) (st' := [eR a0, eI (zI 3), eI (zI a3)]) rfl (s_an rfl p0) rfl ?_
  obtain ⟨v1, h, k2, e3⟩ := x_gf_ok (ty := 0) h hR (by decide) rfl
  refine v_gf0 (np := 141) rfl rfl k2 e3 ?_
  clear k2 e3
  obtain ⟨v4, ev4, h⟩ := z_l_ex h
  refine w_s (np := 142) (lv' := [some (eR a0), some (eI (zI a1)), some (eI (zI a2)), some (eI (zI a3)), none]) (st' := [eI (zI v4), eI (zI a3)]) rfl (s_imul ev4) rfl ?_
  clear ev4
  rcases z_if_t h with ⟨g5, h⟩ | ⟨g5, h⟩
  · refine v_ge_f (t1 := 179) rfl rfl g5 ?_
    refine w_s (np := 146) (lv' := [some (eR a0), some (eI (zI a1)), some (eI (zI a2)), some (eI (zI a3)), none]) (st' := [eR a0]) rfl (s_an rfl p0) rfl ?_
    obtain ⟨v6, h, k7, e8⟩ := x_gf_ok (ty := 3) h hR (by decide) rfl
    obtain ⟨g9, h⟩ := f_if_ok h
    have q10 : 0 < v6 := Nat.ble_eq.mp g9
    refine v_gf3 (np := 149) rfl rfl k7 e8 ?_
    clear k7 e8
    refine w_s (np := 150) (lv' := [some (eR a0), some (eI (zI a1)), some (eI (zI a2)), some (eI (zI a3)), none]) (st' := [eR a0, eR v6]) rfl (s_an rfl p0) rfl ?_
    obtain ⟨v11, h, k12, e13⟩ := x_gf_ok (ty := 3) h hR (by decide) rfl
    obtain ⟨g14, h⟩ := f_if_ok h
    have q15 : 0 < v11 := Nat.ble_eq.mp g14
    refine v_gf3 (np := 153) rfl rfl k12 e13 ?_
    clear k12 e13
    refine w_s (np := 154) (lv' := [some (eR a0), some (eI (zI a1)), some (eI (zI a2)), some (eI (zI a3)), none]) (st' := [eI (zI a3), eR v11, eR v6]) rfl rfl rfl ?_
    obtain ⟨v16, h, k17⟩ := x_lh_ok (ty := 0) h hR hG (by decide) rfl (by decide)
    refine v_la (np := 155) rfl rfl k17 ?_
    clear k17
    refine w_s (np := 156) (lv' := [some (eR a0), some (eI (zI a1)), some (eI (zI a2)), some (eI (zI a3)), none]) (st' := [eI (zI v16), eR v6, eI (zI v16), eR v6]) rfl rfl rfl ?_
    obtain ⟨v18, h, k19⟩ := x_lh_ok (ty := 0) h hR hG (by decide) rfl (by decide)
    refine v_la (np := 157) rfl rfl k19 ?_
    clear k19
    refine w_s (np := 158) (lv' := [some (eR a0), some (eI (zI a1)), some (eI (zI a2)), some (eI (zI a3)), none]) (st' := [eR a0, eI (zI v18), eI (zI v16), eR v6]) rfl (s_an rfl p0) rfl ?_
    obtain ⟨v20, h, k21, e22⟩ := x_gf_ok (ty := 3) h hR (by decide) rfl
    obtain ⟨g23, h⟩ := f_if_ok h
    have q24 : 0 < v20 := Nat.ble_eq.mp g23
    refine v_gf3 (np := 161) rfl rfl k21 e22 ?_
    clear k21 e22
    refine w_s (np := 162) (lv' := [some (eR a0), some (eI (zI a1)), some (eI (zI a2)), some (eI (zI a3)), none]) (st' := [eI (zI a3), eR v20, eI (zI v18), eI (zI v16), eR v6]) rfl rfl rfl ?_
    refine w_s (np := 163) (lv' := [some (eR a0), some (eI (zI a1)), some (eI (zI a2)), some (eI (zI a3)), none]) (st' := [eI (zI 3), eI (zI a3), eR v20, eI (zI v18), eI (zI v16), eR v6]) rfl rfl rfl ?_
    obtain ⟨v25, ev25, h⟩ := z_l_ex h
    refine w_s (np := 164) (lv' := [some (eR a0), some (eI (zI a1)), some (eI (zI a2)), some (eI (zI a3)), none]) (st' := [eI (zI v25), eR v20, eI (zI v18), eI (zI v16), eR v6]) rfl (s_idiv ⟨by decide, by decide⟩ ev25) rfl ?_
    clear ev25
    obtain ⟨v26, h, k27⟩ := x_lh_ok (ty := 0) h hR hG (by decide) rfl (by decide)
    refine v_la (np := 165) rfl rfl k27 ?_
    clear k27
    refine w_s (np := 166) (lv' := [some (eR a0), some (eI (zI a1)), some (eI (zI a2)), some (eI (zI a3)), none]) (st' := [eI (zI a3), eI (zI v26), eI (zI v18), eI (zI v16), eR v6]) rfl rfl rfl ?_
    refine w_s (np := 167) (lv' := [some (eR a0), some (eI (zI a1)), some (eI (zI a2)), some (eI (zI a3)), none]) (st' := [eI (zI 3), eI (zI a3), eI (zI v26), eI (zI v18), eI (zI v16), eR v6]) rfl rfl rfl ?_
    obtain ⟨v28, ev28, h⟩ := z_l_ex h
    refine w_s (np := 168) (lv' := [some (eR a0), some (eI (zI a1)), some (eI (zI a2)), some (eI (zI a3)), none]) (st' := [eI (zI v28), eI (zI v26), eI (zI v18), eI (zI v16), eR v6]) rfl (s_irem ⟨by decide, by decide⟩ ev28) rfl ?_
    clear ev28
    refine w_cs (np := 171) (as := [eI (zI v26), eI (zI v28)]) (lv' := [some (eI (zI v26)), some (eI (zI v28))]) (rest := [eI (zI v18), eI (zI v16), eR v6]) rfl rfl rfl (Nat.ble_eq.mp rfl) rfl rfl rfl rfl ?_
    refine m_237_ok hG h hR ?_
    intro v34 M29 μ30 h hR31 hl33
    have hl32 := y_le.tr hl hl33
    show ex_q fg rc (d + 5, (239, 171, [some (eR a0), some (eI (zI a1)), some (eI (zI a2)), some (eI (zI a3)), none], [eI (zI v34), eI (zI v18), eI (zI v16), eR v6]), f :: F, μ30)
    obtain ⟨v35, ev35, h⟩ := z_l_ex h
    refine w_s (np := 172) (lv' := [some (eR a0), some (eI (zI a1)), some (eI (zI a2)), some (eI (zI a3)), none]) (st' := [eI (zI v35), eI (zI v16), eR v6]) rfl (s_iadd ev35) rfl ?_
    clear ev35
    obtain ⟨M36, μ37, h, k40, hR38, hl39⟩ := x_sa_ex (ty := 0) h hR31 hl32 rfl (by decide)
    refine v_sa (np := 173) rfl rfl k40 ?_
    clear k40
    obtain ⟨v41, ev41, h⟩ := z_l_ex h
    refine w_s (np := 176) (lv' := [some (eR a0), some (eI (zI a1)), some (eI (zI a2)), some (eI (zI v41)), none]) (st' := []) rfl (s_iinc (b := 1) rfl rfl ev41 rfl) rfl ?_
    clear ev41
    refine w_go (t1 := 135) rfl rfl ?_
    obtain ⟨w42, ew42, h⟩ := z_f_ex h
    subst ew42
    exact h135 _ M36 μ37 h hR38 hl39
  · refine v_ge_t (t1 := 179) rfl rfl g5 ?_
    refine w_s (np := 180) (lv' := [some (eR a0), some (eI (zI a1)), some (eI (zI a2)), some (eI (zI a3)), none]) (st' := [eI (zI 0)]) rfl rfl rfl ?_
    refine w_s (np := 181) (lv' := [some (eR a0), some (eI (zI a1)), some (eI (zI a2)), some (eI (zI 0)), none]) (st' := []) rfl rfl rfl ?_
    exact mg_239_181_ok hc234 hG hk p0 hK h10 h77 h135 h218 100000 _ M μ h hR hl
theorem mg_239_135_ok {fg : eG} {μz : eM} {rc : eQ} {d : Nat} {f : eFr} {F : List eFr} {μ0 : eM} {c234 : Nat → yM → (yM → Bool) → Bool} {a0 a1 a2 : Nat} {K : yM → Bool} {i10 : yM → Bool} {i77 : Nat → yM → Bool} {i218 : Nat → yM → Bool} (hc234 : ∀ (d : Nat) (f : eFr) (F : List eFr) (b0 : Nat) (M : yM) (μ : eM) (K : yM → Bool), c234 b0 M K = true → xQ μz M μ → ev_kd μ b0 = some 11 → 0 < b0 → (∀ (M : yM) (μ2 : eM), K M = true → xQ μz M μ2 → y_le μ μ2 → ex_q fg rc (d + 5, (f.1, f.2.1, f.2.2.1, f.2.2.2), F, μ2)) → ex_q fg rc (d + 4, (234, 0, [some (eR b0), none, none], []), f :: F, μ)) (hG : yG fg y_T) (hk : ev_kd μ0 a0 = some 11) (p0 : 0 < a0) (hK : ∀ (M : yM) (μ : eM), K M = true → xQ μz M μ → y_le μ0 μ → ex_q fg rc (d + 6, (f.1, f.2.1, f.2.2.1, f.2.2.2), F, μ)) (h10 : ∀ (M : yM) (μ : eM), i10 M = true → xQ μz M μ → y_le μ0 μ → ex_q fg rc (d + 5, (239, 10, [some (eR a0), some (eI (zI a1)), some (eI (zI a2)), none, none], []), f :: F, μ)) (h77 : ∀ (a3 : Nat) (M : yM) (μ : eM), i77 a3 M = true → xQ μz M μ → y_le μ0 μ → ex_q fg rc (d + 5, (239, 77, [some (eR a0), some (eI (zI a1)), some (eI (zI a2)), some (eI (zI a3)), none], []), f :: F, μ)) (h218 : ∀ (a3 : Nat) (x4 : Option eV) (M : yM) (μ : eM), i218 a3 M = true → xQ μz M μ → y_le μ0 μ → ex_q fg rc (d + 5, (239, 218, [some (eR a0), some (eI (zI a1)), some (eI (zI a2)), some (eI (zI a3)), x4], []), f :: F, μ)) : ∀ n : Nat, ∀ (a3 : Nat) (M : yM) (μ : eM), mg_239_135 c234 a0 a1 a2 K i10 i77 i218 n a3 M = true → xQ μz M μ → y_le μ0 μ → ex_q fg rc (d + 5, (239, 135, [some (eR a0), some (eI (zI a1)), some (eI (zI a2)), some (eI (zI a3)), none], []), f :: F, μ) := by
  intro n
  induction n with
  | zero =>
    intro a3 M μ h hR hl
    exact absurd h Bool.false_ne_true
  | succ n ih =>
    intro a3 M μ h hR hl
    exact mg_239_135b_ok hc234 hG hk p0 hK h10 h77 h218 ih a3 M μ h hR hl
noncomputable def mg_239_135r (c234 : Nat → yM → (yM → Bool) → Bool) (a0 a1 a2 : Nat) (K : yM → Bool) (i10 : yM → Bool) (i77 : Nat → yM → Bool) (i218 : Nat → yM → Bool) (base : Nat → yM → Bool) (n : Nat) : Nat → yM → Bool := @Nat.rec (fun _ => Nat → yM → Bool) base (fun _ ih => mg_239_135b c234 a0 a1 a2 K i10 i77 i218 ih) n
theorem mg_239_135r_ok {fg : eG} {μz : eM} {rc : eQ} {d : Nat} {f : eFr} {F : List eFr} {μ0 : eM} {c234 : Nat → yM → (yM → Bool) → Bool} {a0 a1 a2 : Nat} {K : yM → Bool} {i10 : yM → Bool} {i77 : Nat → yM → Bool} {i218 : Nat → yM → Bool} {base : Nat → yM → Bool} (hc234 : ∀ (d : Nat) (f : eFr) (F : List eFr) (b0 : Nat) (M : yM) (μ : eM) (K : yM → Bool), c234 b0 M K = true → xQ μz M μ → ev_kd μ b0 = some 11 → 0 < b0 → (∀ (M : yM) (μ2 : eM), K M = true → xQ μz M μ2 → y_le μ μ2 → ex_q fg rc (d + 5, (f.1, f.2.1, f.2.2.1, f.2.2.2), F, μ2)) → ex_q fg rc (d + 4, (234, 0, [some (eR b0), none, none], []), f :: F, μ)) (hG : yG fg y_T) (hk : ev_kd μ0 a0 = some 11) (p0 : 0 < a0) (hK : ∀ (M : yM) (μ : eM), K M = true → xQ μz M μ → y_le μ0 μ → ex_q fg rc (d + 6, (f.1, f.2.1, f.2.2.1, f.2.2.2), F, μ)) (h10 : ∀ (M : yM) (μ : eM), i10 M = true → xQ μz M μ → y_le μ0 μ → ex_q fg rc (d + 5, (239, 10, [some (eR a0), some (eI (zI a1)), some (eI (zI a2)), none, none], []), f :: F, μ)) (h77 : ∀ (a3 : Nat) (M : yM) (μ : eM), i77 a3 M = true → xQ μz M μ → y_le μ0 μ → ex_q fg rc (d + 5, (239, 77, [some (eR a0), some (eI (zI a1)), some (eI (zI a2)), some (eI (zI a3)), none], []), f :: F, μ)) (h218 : ∀ (a3 : Nat) (x4 : Option eV) (M : yM) (μ : eM), i218 a3 M = true → xQ μz M μ → y_le μ0 μ → ex_q fg rc (d + 5, (239, 218, [some (eR a0), some (eI (zI a1)), some (eI (zI a2)), some (eI (zI a3)), x4], []), f :: F, μ)) (hb : ∀ (a3 : Nat) (M : yM) (μ : eM), base a3 M = true → xQ μz M μ → y_le μ0 μ → ex_q fg rc (d + 5, (239, 135, [some (eR a0), some (eI (zI a1)), some (eI (zI a2)), some (eI (zI a3)), none], []), f :: F, μ)) : ∀ n : Nat, ∀ (a3 : Nat) (M : yM) (μ : eM), mg_239_135r c234 a0 a1 a2 K i10 i77 i218 base n a3 M = true → xQ μz M μ → y_le μ0 μ → ex_q fg rc (d + 5, (239, 135, [some (eR a0), some (eI (zI a1)), some (eI (zI a2)), some (eI (zI a3)), none], []), f :: F, μ) := by
  intro n
  induction n with
  | zero =>
    intro a3 M μ h hR hl
    exact hb a3 M μ h hR hl
  | succ n ih =>
    intro a3 M μ h hR hl
    exact mg_239_135b_ok hc234 hG hk p0 hK h10 h77 h218 ih a3 M μ h hR hl
noncomputable def mg_239_112b (c234 : Nat → yM → (yM → Bool) → Bool) (a0 a1 a2 : Nat) (K : yM → Bool) (i10 : yM → Bool) (i77 : Nat → yM → Bool) (i135 : Nat → yM → Bool) (i218 : Nat → yM → Bool) (i112 : Nat → yM → Bool) (a3 : Nat) (M : yM) : Bool := y_gf M a0 11 28 fun v1 => z_if (z_lt a3 v1) (y_gf M a0 11 24 fun v6 => f_if false (Nat.ble 1 v6) (y_sa 100 M v6 a3 0 fun M11 => z_l (z_add a3 1) fun v16 => z_f v16 fun w17 => i112 w17 M11)) (z_f 0 fun w5 => i135 w5 M)
noncomputable def mg_239_112 (c234 : Nat → yM → (yM → Bool) → Bool) (a0 a1 a2 : Nat) (K : yM → Bool) (i10 : yM → Bool) (i77 : Nat → yM → Bool) (i135 : Nat → yM → Bool) (i218 : Nat → yM → Bool) (n : Nat) : Nat → yM → Bool := @Nat.rec (fun _ => Nat → yM → Bool) (fun _ _ => false) (fun _ ih => mg_239_112b c234 a0 a1 a2 K i10 i77 i135 i218 ih) n
theorem mg_239_112b_ok {fg : eG} {μz : eM} {rc : eQ} {d : Nat} {f : eFr} {F : List eFr} {μ0 : eM} {c234 : Nat → yM → (yM → Bool) → Bool} {a0 a1 a2 : Nat} {K : yM → Bool} {i10 : yM → Bool} {i77 : Nat → yM → Bool} {i135 : Nat → yM → Bool} {i218 : Nat → yM → Bool} {i112 : Nat → yM → Bool} (hc234 : ∀ (d : Nat) (f : eFr) (F : List eFr) (b0 : Nat) (M : yM) (μ : eM) (K : yM → Bool), c234 b0 M K = true → xQ μz M μ → ev_kd μ b0 = some 11 → 0 < b0 → (∀ (M : yM) (μ2 : eM), K M = true → xQ μz M μ2 → y_le μ μ2 → ex_q fg rc (d + 5, (f.1, f.2.1, f.2.2.1, f.2.2.2), F, μ2)) → ex_q fg rc (d + 4, (234, 0, [some (eR b0), none, none], []), f :: F, μ)) (hG : yG fg y_T) (hk : ev_kd μ0 a0 = some 11) (p0 : 0 < a0) (hK : ∀ (M : yM) (μ : eM), K M = true → xQ μz M μ → y_le μ0 μ → ex_q fg rc (d + 6, (f.1, f.2.1, f.2.2.1, f.2.2.2), F, μ)) (h10 : ∀ (M : yM) (μ : eM), i10 M = true → xQ μz M μ → y_le μ0 μ → ex_q fg rc (d + 5, (239, 10, [some (eR a0), some (eI (zI a1)), some (eI (zI a2)), none, none], []), f :: F, μ)) (h77 : ∀ (a3 : Nat) (M : yM) (μ : eM), i77 a3 M = true → xQ μz M μ → y_le μ0 μ → ex_q fg rc (d + 5, (239, 77, [some (eR a0), some (eI (zI a1)), some (eI (zI a2)), some (eI (zI a3)), none], []), f :: F, μ)) (h135 : ∀ (a3 : Nat) (M : yM) (μ : eM), i135 a3 M = true → xQ μz M μ → y_le μ0 μ → ex_q fg rc (d + 5, (239, 135, [some (eR a0), some (eI (zI a1)), some (eI (zI a2)), some (eI (zI a3)), none], []), f :: F, μ)) (h218 : ∀ (a3 : Nat) (x4 : Option eV) (M : yM) (μ : eM), i218 a3 M = true → xQ μz M μ → y_le μ0 μ → ex_q fg rc (d + 5, (239, 218, [some (eR a0), some (eI (zI a1)), some (eI (zI a2)), some (eI (zI a3)), x4], []), f :: F, μ)) (h112 : ∀ (a3 : Nat) (M : yM) (μ : eM), i112 a3 M = true → xQ μz M μ → y_le μ0 μ → ex_q fg rc (d + 5, (239, 112, [some (eR a0), some (eI (zI a1)), some (eI (zI a2)), some (eI (zI a3)), none], []), f :: F, μ)) : ∀ (a3 : Nat) (M : yM) (μ : eM), mg_239_112b c234 a0 a1 a2 K i10 i77 i135 i218 i112 a3 M = true → xQ μz M μ → y_le μ0 μ → ex_q fg rc (d + 5, (239, 112, [some (eR a0), some (eI (zI a1)), some (eI (zI a2)), some (eI (zI a3)), none], []), f :: F, μ) := by
  intro a3 M μ h hR hl
  unfold mg_239_112b at h
  refine w_s (np := 113) (lv' := [some (eR a0), some (eI (zI a1)), some (eI (zI a2)), some (eI (zI a3)), none]) (st' := [eI (zI a3)]) rfl rfl rfl ?_
  refine w_s (np := 114) (lv' := [some (eR a0), some (eI (zI a1)), some (eI (zI a2)), some (eI (zI a3)), none]) (st' := [eR a0, eI (zI a3)]) rfl (s_an rfl p0) rfl ?_
  obtain ⟨v1, h, k2, e3⟩ := x_gf_ok (ty := 0) h hR (by decide) rfl
  refine v_gf0 (np := 117) rfl rfl k2 e3 ?_
  clear k2 e3
  rcases z_if_t h with ⟨g4, h⟩ | ⟨g4, h⟩
  · refine v_ge_f (t1 := 133) rfl rfl g4 ?_
    refine w_s (np := 121) (lv' := [some (eR a0), some (eI (zI a1)), some (eI (zI a2)), some (eI (zI a3)), none]) (st' := [eR a0]) rfl (s_an rfl p0) rfl ?_
    obtain ⟨v6, h, k7, e8⟩ := x_gf_ok (ty := 3) h hR (by decide) rfl
    obtain ⟨g9, h⟩ := f_if_ok h
    have q10 : 0 < v6 := Nat.ble_eq.mp g9
    refine v_gf3 (np := 124) rfl rfl k7 e8 ?_
    clear k7 e8
    refine w_s (np := 125) (lv' := [some (eR a0), some (eI (zI a1)), some (eI (zI a2)), some (eI (zI a3)), none]) (st' := [eI (zI a3), eR v6]) rfl rfl rfl ?_
    refine w_s (np := 126) (lv' := [some (eR a0), some (eI (zI a1)), some (eI (zI a2)), some (eI (zI a3)), none]) (st' := [eI (zI 0), eI (zI a3), eR v6]) rfl rfl rfl ?_
    obtain ⟨M11, μ12, h, k15, hR13, hl14⟩ := x_sa_ex (ty := 0) h hR hl rfl (by decide)
    refine v_sa (np := 127) rfl rfl k15 ?_
    clear k15
    obtain ⟨v16, ev16, h⟩ := z_l_ex h
    refine w_s (np := 130) (lv' := [some (eR a0), some (eI (zI a1)), some (eI (zI a2)), some (eI (zI v16)), none]) (st' := []) rfl (s_iinc (b := 1) rfl rfl ev16 rfl) rfl ?_
    clear ev16
    refine w_go (t1 := 112) rfl rfl ?_
    obtain ⟨w17, ew17, h⟩ := z_f_ex h
    subst ew17
    exact h112 _ M11 μ12 h hR13 hl14
  · refine v_ge_t (t1 := 133) rfl rfl g4 ?_
    refine w_s (np := 134) (lv' := [some (eR a0), some (eI (zI a1)), some (eI (zI a2)), some (eI (zI a3)), none]) (st' := [eI (zI 0)]) rfl rfl rfl ?_
    refine w_s (np := 135) (lv' := [some (eR a0), some (eI (zI a1)), some (eI (zI a2)), some (eI (zI 0)), none]) (st' := []) rfl rfl rfl ?_
    obtain ⟨w5, ew5, h⟩ := z_f_ex h
    subst ew5
    exact h135 _ M μ h hR hl
theorem mg_239_112_ok {fg : eG} {μz : eM} {rc : eQ} {d : Nat} {f : eFr} {F : List eFr} {μ0 : eM} {c234 : Nat → yM → (yM → Bool) → Bool} {a0 a1 a2 : Nat} {K : yM → Bool} {i10 : yM → Bool} {i77 : Nat → yM → Bool} {i135 : Nat → yM → Bool} {i218 : Nat → yM → Bool} (hc234 : ∀ (d : Nat) (f : eFr) (F : List eFr) (b0 : Nat) (M : yM) (μ : eM) (K : yM → Bool), c234 b0 M K = true → xQ μz M μ → ev_kd μ b0 = some 11 → 0 < b0 → (∀ (M : yM) (μ2 : eM), K M = true → xQ μz M μ2 → y_le μ μ2 → ex_q fg rc (d + 5, (f.1, f.2.1, f.2.2.1, f.2.2.2), F, μ2)) → ex_q fg rc (d + 4, (234, 0, [some (eR b0), none, none], []), f :: F, μ)) (hG : yG fg y_T) (hk : ev_kd μ0 a0 = some 11) (p0 : 0 < a0) (hK : ∀ (M : yM) (μ : eM), K M = true → xQ μz M μ → y_le μ0 μ → ex_q fg rc (d + 6, (f.1, f.2.1, f.2.2.1, f.2.2.2), F, μ)) (h10 : ∀ (M : yM) (μ : eM), i10 M = true → xQ μz M μ → y_le μ0 μ → ex_q fg rc (d + 5, (239, 10, [some (eR a0), some (eI (zI a1)), some (eI (zI a2)), none, none], []), f :: F, μ)) (h77 : ∀ (a3 : Nat) (M : yM) (μ : eM), i77 a3 M = true → xQ μz M μ → y_le μ0 μ → ex_q fg rc (d + 5, (239, 77, [some (eR a0), some (eI (zI a1)), some (eI (zI a2)), some (eI (zI a3)), none], []), f :: F, μ)) (h135 : ∀ (a3 : Nat) (M : yM) (μ : eM), i135 a3 M = true → xQ μz M μ → y_le μ0 μ → ex_q fg rc (d + 5, (239, 135, [some (eR a0), some (eI (zI a1)), some (eI (zI a2)), some (eI (zI a3)), none], []), f :: F, μ)) (h218 : ∀ (a3 : Nat) (x4 : Option eV) (M : yM) (μ : eM), i218 a3 M = true → xQ μz M μ → y_le μ0 μ → ex_q fg rc (d + 5, (239, 218, [some (eR a0), some (eI (zI a1)), some (eI (zI a2)), some (eI (zI a3)), x4], []), f :: F, μ)) : ∀ n : Nat, ∀ (a3 : Nat) (M : yM) (μ : eM), mg_239_112 c234 a0 a1 a2 K i10 i77 i135 i218 n a3 M = true → xQ μz M μ → y_le μ0 μ → ex_q fg rc (d + 5, (239, 112, [some (eR a0), some (eI (zI a1)), some (eI (zI a2)), some (eI (zI a3)), none], []), f :: F, μ) := by
  intro n
  induction n with
  | zero =>
    intro a3 M μ h hR hl
    exact absurd h Bool.false_ne_true
  | succ n ih =>
    intro a3 M μ h hR hl
    exact mg_239_112b_ok hc234 hG hk p0 hK h10 h77 h135 h218 ih a3 M μ h hR hl
noncomputable def mg_239_77b (c234 : Nat → yM → (yM → Bool) → Bool) (a0 a1 a2 : Nat) (K : yM → Bool) (i10 : yM → Bool) (i135 : Nat → yM → Bool) (i218 : Nat → yM → Bool) (i77 : Nat → yM → Bool) (a3 : Nat) (M : yM) : Bool := y_gf M a0 11 8 fun v1 => z_l (z_mul 3 v1) fun v4 => z_if (z_lt a3 v4) (y_gf M a0 11 22 fun v6 => f_if false (Nat.ble 1 v6) (y_gf M a0 11 10 fun v11 => f_if false (Nat.ble 1 v11) (z_l (z_mul 4 a3) fun v16 => m_236 a0 v11 v16 M fun v22 M17 => y_sa 100 M17 v6 a3 v22 fun M23 => z_l (z_add a3 1) fun v28 => z_f v28 fun w29 => i77 w29 M23))) (mg_239_112 c234 a0 a1 a2 K i10 i77 i135 i218 100000 0 M)
noncomputable def mg_239_77 (c234 : Nat → yM → (yM → Bool) → Bool) (a0 a1 a2 : Nat) (K : yM → Bool) (i10 : yM → Bool) (i135 : Nat → yM → Bool) (i218 : Nat → yM → Bool) (n : Nat) : Nat → yM → Bool := @Nat.rec (fun _ => Nat → yM → Bool) (fun _ _ => false) (fun _ ih => mg_239_77b c234 a0 a1 a2 K i10 i135 i218 ih) n
theorem mg_239_77b_ok {fg : eG} {μz : eM} {rc : eQ} {d : Nat} {f : eFr} {F : List eFr} {μ0 : eM} {c234 : Nat → yM → (yM → Bool) → Bool} {a0 a1 a2 : Nat} {K : yM → Bool} {i10 : yM → Bool} {i135 : Nat → yM → Bool} {i218 : Nat → yM → Bool} {i77 : Nat → yM → Bool} (hc234 : ∀ (d : Nat) (f : eFr) (F : List eFr) (b0 : Nat) (M : yM) (μ : eM) (K : yM → Bool), c234 b0 M K = true → xQ μz M μ → ev_kd μ b0 = some 11 → 0 < b0 → (∀ (M : yM) (μ2 : eM), K M = true → xQ μz M μ2 → y_le μ μ2 → ex_q fg rc (d + 5, (f.1, f.2.1, f.2.2.1, f.2.2.2), F, μ2)) → ex_q fg rc (d + 4, (234, 0, [some (eR b0), none, none], []), f :: F, μ)) (hG : yG fg y_T) (hk : ev_kd μ0 a0 = some 11) (p0 : 0 < a0) (hK : ∀ (M : yM) (μ : eM), K M = true → xQ μz M μ → y_le μ0 μ → ex_q fg rc (d + 6, (f.1, f.2.1, f.2.2.1, f.2.2.2), F, μ)) (h10 : ∀ (M : yM) (μ : eM), i10 M = true → xQ μz M μ → y_le μ0 μ → ex_q fg rc (d + 5, (239, 10, [some (eR a0), some (eI (zI a1)), some (eI (zI a2)), none, none], []), f :: F, μ)) (h135 : ∀ (a3 : Nat) (M : yM) (μ : eM), i135 a3 M = true → xQ μz M μ → y_le μ0 μ → ex_q fg rc (d + 5, (239, 135, [some (eR a0), some (eI (zI a1)), some (eI (zI a2)), some (eI (zI a3)), none], []), f :: F, μ)) (h218 : ∀ (a3 : Nat) (x4 : Option eV) (M : yM) (μ : eM), i218 a3 M = true → xQ μz M μ → y_le μ0 μ → ex_q fg rc (d + 5, (239, 218, [some (eR a0), some (eI (zI a1)), some (eI (zI a2)), some (eI (zI a3)), x4], []), f :: F, μ)) (h77 : ∀ (a3 : Nat) (M : yM) (μ : eM), i77 a3 M = true → xQ μz M μ → y_le μ0 μ → ex_q fg rc (d + 5, (239, 77, [some (eR a0), some (eI (zI a1)), some (eI (zI a2)), some (eI (zI a3)), none], []), f :: F, μ)) : ∀ (a3 : Nat) (M : yM) (μ : eM), mg_239_77b c234 a0 a1 a2 K i10 i135 i218 i77 a3 M = true → xQ μz M μ → y_le μ0 μ → ex_q fg rc (d + 5, (239, 77, [some (eR a0), some (eI (zI a1)), some (eI (zI a2)), some (eI (zI a3)), none], []), f :: F, μ) := by
  intro a3 M μ h hR hl
  unfold mg_239_77b at h
  refine w_s (np := 78) (lv' := [some (eR a0), some (eI (zI a1)), some (eI (zI a2)), some (eI (zI a3)), none]) (st' := [eI (zI a3)]) rfl rfl rfl ?_
  refine w_s (np := 79) (lv' := [some (eR a0), some (eI (zI a1)), some (eI (zI a2)), some (eI (zI a3)), none]) (st' := [eI (zI 3), eI (zI a3)]) rfl rfl rfl ?_
  refine w_s (np := 80) (lv' := [some (eR a0), some (eI (zI a1)), some (eI (zI a2)), some (eI (zI a3)), none]) (st' := [eR a0, eI (zI 3), eI (zI a3)]) rfl (s_an rfl p0) rfl ?_
  obtain ⟨v1, h, k2, e3⟩ := x_gf_ok (ty := 0) h hR (by decide) rfl
  refine v_gf0 (np := 83) rfl rfl k2 e3 ?_
  clear k2 e3
  obtain ⟨v4, ev4, h⟩ := z_l_ex h
  refine w_s (np := 84) (lv' := [some (eR a0), some (eI (zI a1)), some (eI (zI a2)), some (eI (zI a3)), none]) (st' := [eI (zI v4), eI (zI a3)]) rfl (s_imul ev4) rfl ?_
  clear ev4
  rcases z_if_t h with ⟨g5, h⟩ | ⟨g5, h⟩
  · refine v_ge_f (t1 := 110) rfl rfl g5 ?_
    refine w_s (np := 88) (lv' := [some (eR a0), some (eI (zI a1)), some (eI (zI a2)), some (eI (zI a3)), none]) (st' := [eR a0]) rfl (s_an rfl p0) rfl ?_
    obtain ⟨v6, h, k7, e8⟩ := x_gf_ok (ty := 3) h hR (by decide) rfl
    obtain ⟨g9, h⟩ := f_if_ok h
    have q10 : 0 < v6 := Nat.ble_eq.mp g9
    refine v_gf3 (np := 91) rfl rfl k7 e8 ?_
    clear k7 e8
    refine w_s (np := 92) (lv' := [some (eR a0), some (eI (zI a1)), some (eI (zI a2)), some (eI (zI a3)), none]) (st' := [eI (zI a3), eR v6]) rfl rfl rfl ?_
    refine w_s (np := 93) (lv' := [some (eR a0), some (eI (zI a1)), some (eI (zI a2)), some (eI (zI a3)), none]) (st' := [eR a0, eI (zI a3), eR v6]) rfl (s_an rfl p0) rfl ?_
    refine w_s (np := 94) (lv' := [some (eR a0), some (eI (zI a1)), some (eI (zI a2)), some (eI (zI a3)), none]) (st' := [eR a0, eR a0, eI (zI a3), eR v6]) rfl (s_an rfl p0) rfl ?_
    obtain ⟨v11, h, k12, e13⟩ := x_gf_ok (ty := 3) h hR (by decide) rfl
    obtain ⟨g14, h⟩ := f_if_ok h
    have q15 : 0 < v11 := Nat.ble_eq.mp g14
    refine v_gf3 (np := 97) rfl rfl k12 e13 ?_
    clear k12 e13
    refine w_s (np := 98) (lv' := [some (eR a0), some (eI (zI a1)), some (eI (zI a2)), some (eI (zI a3)), none]) (st' := [eI (zI 4), eR v11, eR a0, eI (zI a3), eR v6]) rfl rfl rfl ?_
    refine w_s (np := 99) (lv' := [some (eR a0), some (eI (zI a1)), some (eI (zI a2)), some (eI (zI a3)), none]) (st' := [eI (zI a3), eI (zI 4), eR v11, eR a0, eI (zI a3), eR v6]) rfl rfl rfl ?_
    obtain ⟨v16, ev16, h⟩ := z_l_ex h
    refine w_s (np := 100) (lv' := [some (eR a0), some (eI (zI a1)), some (eI (zI a2)), some (eI (zI a3)), none]) (st' := [eI (zI v16), eR v11, eR a0, eI (zI a3), eR v6]) rfl (s_imul ev16) rfl ?_
    clear ev16
    refine w_cv (np := 103) (as := [eR v11, eI (zI v16)]) (lv' := [some (eR a0), some (eR v11), some (eI (zI v16)), none]) (rest := [eI (zI a3), eR v6]) rfl rfl rfl (Nat.ble_eq.mp rfl) rfl rfl rfl (hl _ _ hk) rfl ?_
    refine m_236_ok hG h hR (hl _ _ hk) p0 q15 ?_
    intro v22 M17 μ18 h hR19 hl21
    have hl20 := y_le.tr hl hl21
    show ex_q fg rc (d + 5, (239, 103, [some (eR a0), some (eI (zI a1)), some (eI (zI a2)), some (eI (zI a3)), none], [eI (zI v22), eI (zI a3), eR v6]), f :: F, μ18)
    obtain ⟨M23, μ24, h, k27, hR25, hl26⟩ := x_sa_ex (ty := 0) h hR19 hl20 rfl (by decide)
    refine v_sa (np := 104) rfl rfl k27 ?_
    clear k27
    obtain ⟨v28, ev28, h⟩ := z_l_ex h
    refine w_s (np := 107) (lv' := [some (eR a0), some (eI (zI a1)), some (eI (zI a2)), some (eI (zI v28)), none]) (st' := []) rfl (s_iinc (b := 1) rfl rfl ev28 rfl) rfl ?_
    clear ev28
    refine w_go (t1 := 77) rfl rfl ?_
    obtain ⟨w29, ew29, h⟩ := z_f_ex h
    subst ew29
    exact h77 _ M23 μ24 h hR25 hl26
  · refine v_ge_t (t1 := 110) rfl rfl g5 ?_
    refine w_s (np := 111) (lv' := [some (eR a0), some (eI (zI a1)), some (eI (zI a2)), some (eI (zI a3)), none]) (st' := [eI (zI 0)]) rfl rfl rfl ?_
    refine w_s (np := 112) (lv' := [some (eR a0), some (eI (zI a1)), some (eI (zI a2)), some (eI (zI 0)), none]) (st' := []) rfl rfl rfl ?_
    exact mg_239_112_ok hc234 hG hk p0 hK h10 h77 h135 h218 100000 _ M μ h hR hl
theorem mg_239_77_ok {fg : eG} {μz : eM} {rc : eQ} {d : Nat} {f : eFr} {F : List eFr} {μ0 : eM} {c234 : Nat → yM → (yM → Bool) → Bool} {a0 a1 a2 : Nat} {K : yM → Bool} {i10 : yM → Bool} {i135 : Nat → yM → Bool} {i218 : Nat → yM → Bool} (hc234 : ∀ (d : Nat) (f : eFr) (F : List eFr) (b0 : Nat) (M : yM) (μ : eM) (K : yM → Bool), c234 b0 M K = true → xQ μz M μ → ev_kd μ b0 = some 11 → 0 < b0 → (∀ (M : yM) (μ2 : eM), K M = true → xQ μz M μ2 → y_le μ μ2 → ex_q fg rc (d + 5, (f.1, f.2.1, f.2.2.1, f.2.2.2), F, μ2)) → ex_q fg rc (d + 4, (234, 0, [some (eR b0), none, none], []), f :: F, μ)) (hG : yG fg y_T) (hk : ev_kd μ0 a0 = some 11) (p0 : 0 < a0) (hK : ∀ (M : yM) (μ : eM), K M = true → xQ μz M μ → y_le μ0 μ → ex_q fg rc (d + 6, (f.1, f.2.1, f.2.2.1, f.2.2.2), F, μ)) (h10 : ∀ (M : yM) (μ : eM), i10 M = true → xQ μz M μ → y_le μ0 μ → ex_q fg rc (d + 5, (239, 10, [some (eR a0), some (eI (zI a1)), some (eI (zI a2)), none, none], []), f :: F, μ)) (h135 : ∀ (a3 : Nat) (M : yM) (μ : eM), i135 a3 M = true → xQ μz M μ → y_le μ0 μ → ex_q fg rc (d + 5, (239, 135, [some (eR a0), some (eI (zI a1)), some (eI (zI a2)), some (eI (zI a3)), none], []), f :: F, μ)) (h218 : ∀ (a3 : Nat) (x4 : Option eV) (M : yM) (μ : eM), i218 a3 M = true → xQ μz M μ → y_le μ0 μ → ex_q fg rc (d + 5, (239, 218, [some (eR a0), some (eI (zI a1)), some (eI (zI a2)), some (eI (zI a3)), x4], []), f :: F, μ)) : ∀ n : Nat, ∀ (a3 : Nat) (M : yM) (μ : eM), mg_239_77 c234 a0 a1 a2 K i10 i135 i218 n a3 M = true → xQ μz M μ → y_le μ0 μ → ex_q fg rc (d + 5, (239, 77, [some (eR a0), some (eI (zI a1)), some (eI (zI a2)), some (eI (zI a3)), none], []), f :: F, μ) := by
  intro n
  induction n with
  | zero =>
    intro a3 M μ h hR hl
    exact absurd h Bool.false_ne_true
  | succ n ih =>
    intro a3 M μ h hR hl
    exact mg_239_77b_ok hc234 hG hk p0 hK h10 h135 h218 ih a3 M μ h hR hl
noncomputable def mg_239_77r (c234 : Nat → yM → (yM → Bool) → Bool) (a0 a1 a2 : Nat) (K : yM → Bool) (i10 : yM → Bool) (i135 : Nat → yM → Bool) (i218 : Nat → yM → Bool) (base : Nat → yM → Bool) (n : Nat) : Nat → yM → Bool := @Nat.rec (fun _ => Nat → yM → Bool) base (fun _ ih => mg_239_77b c234 a0 a1 a2 K i10 i135 i218 ih) n
theorem mg_239_77r_ok {fg : eG} {μz : eM} {rc : eQ} {d : Nat} {f : eFr} {F : List eFr} {μ0 : eM} {c234 : Nat → yM → (yM → Bool) → Bool} {a0 a1 a2 : Nat} {K : yM → Bool} {i10 : yM → Bool} {i135 : Nat → yM → Bool} {i218 : Nat → yM → Bool} {base : Nat → yM → Bool} (hc234 : ∀ (d : Nat) (f : eFr) (F : List eFr) (b0 : Nat) (M : yM) (μ : eM) (K : yM → Bool), c234 b0 M K = true → xQ μz M μ → ev_kd μ b0 = some 11 → 0 < b0 → (∀ (M : yM) (μ2 : eM), K M = true → xQ μz M μ2 → y_le μ μ2 → ex_q fg rc (d + 5, (f.1, f.2.1, f.2.2.1, f.2.2.2), F, μ2)) → ex_q fg rc (d + 4, (234, 0, [some (eR b0), none, none], []), f :: F, μ)) (hG : yG fg y_T) (hk : ev_kd μ0 a0 = some 11) (p0 : 0 < a0) (hK : ∀ (M : yM) (μ : eM), K M = true → xQ μz M μ → y_le μ0 μ → ex_q fg rc (d + 6, (f.1, f.2.1, f.2.2.1, f.2.2.2), F, μ)) (h10 : ∀ (M : yM) (μ : eM), i10 M = true → xQ μz M μ → y_le μ0 μ → ex_q fg rc (d + 5, (239, 10, [some (eR a0), some (eI (zI a1)), some (eI (zI a2)), none, none], []), f :: F, μ)) (h135 : ∀ (a3 : Nat) (M : yM) (μ : eM), i135 a3 M = true → xQ μz M μ → y_le μ0 μ → ex_q fg rc (d + 5, (239, 135, [some (eR a0), some (eI (zI a1)), some (eI (zI a2)), some (eI (zI a3)), none], []), f :: F, μ)) (h218 : ∀ (a3 : Nat) (x4 : Option eV) (M : yM) (μ : eM), i218 a3 M = true → xQ μz M μ → y_le μ0 μ → ex_q fg rc (d + 5, (239, 218, [some (eR a0), some (eI (zI a1)), some (eI (zI a2)), some (eI (zI a3)), x4], []), f :: F, μ)) (hb : ∀ (a3 : Nat) (M : yM) (μ : eM), base a3 M = true → xQ μz M μ → y_le μ0 μ → ex_q fg rc (d + 5, (239, 77, [some (eR a0), some (eI (zI a1)), some (eI (zI a2)), some (eI (zI a3)), none], []), f :: F, μ)) : ∀ n : Nat, ∀ (a3 : Nat) (M : yM) (μ : eM), mg_239_77r c234 a0 a1 a2 K i10 i135 i218 base n a3 M = true → xQ μz M μ → y_le μ0 μ → ex_q fg rc (d + 5, (239, 77, [some (eR a0), some (eI (zI a1)), some (eI (zI a2)), some (eI (zI a3)), none], []), f :: F, μ) := by
  intro n
  induction n with
  | zero =>
    intro a3 M μ h hR hl
    exact hb a3 M μ h hR hl
  | succ n ih =>
    intro a3 M μ h hR hl
    exact mg_239_77b_ok hc234 hG hk p0 hK h10 h135 h218 ih a3 M μ h hR hl
noncomputable def mg_239_55 (c234 : Nat → yM → (yM → Bool) → Bool) (a0 a1 a2 : Nat) (K : yM → Bool) (i10 : yM → Bool) (i77 : Nat → yM → Bool) (i135 : Nat → yM → Bool) (i218 : Nat → yM → Bool) (n a3 : Nat) (M : yM) : Bool := f_if false (Nat.beq a0 98) (f_if false (Nat.beq a3 0) (q_sl M fun M1 => z_f 0 fun w1 => i77 w1 M1))
theorem mg_239_55_ok {fg : eG} {μz : eM} {rc : eQ} {d : Nat} {f : eFr} {F : List eFr} {μ0 : eM} {c234 : Nat → yM → (yM → Bool) → Bool} {a0 a1 a2 : Nat} {K : yM → Bool} {i10 : yM → Bool} {i77 : Nat → yM → Bool} {i135 : Nat → yM → Bool} {i218 : Nat → yM → Bool} (hc234 : ∀ (d : Nat) (f : eFr) (F : List eFr) (b0 : Nat) (M : yM) (μ : eM) (K : yM → Bool), c234 b0 M K = true → xQ μz M μ → ev_kd μ b0 = some 11 → 0 < b0 → (∀ (M : yM) (μ2 : eM), K M = true → xQ μz M μ2 → y_le μ μ2 → ex_q fg rc (d + 5, (f.1, f.2.1, f.2.2.1, f.2.2.2), F, μ2)) → ex_q fg rc (d + 4, (234, 0, [some (eR b0), none, none], []), f :: F, μ)) (hG : yG fg y_T) (hk : ev_kd μ0 a0 = some 11) (p0 : 0 < a0) (hK : ∀ (M : yM) (μ : eM), K M = true → xQ μz M μ → y_le μ0 μ → ex_q fg rc (d + 6, (f.1, f.2.1, f.2.2.1, f.2.2.2), F, μ)) (h10 : ∀ (M : yM) (μ : eM), i10 M = true → xQ μz M μ → y_le μ0 μ → ex_q fg rc (d + 5, (239, 10, [some (eR a0), some (eI (zI a1)), some (eI (zI a2)), none, none], []), f :: F, μ)) (h77 : ∀ (a3 : Nat) (M : yM) (μ : eM), i77 a3 M = true → xQ μz M μ → y_le μ0 μ → ex_q fg rc (d + 5, (239, 77, [some (eR a0), some (eI (zI a1)), some (eI (zI a2)), some (eI (zI a3)), none], []), f :: F, μ)) (h135 : ∀ (a3 : Nat) (M : yM) (μ : eM), i135 a3 M = true → xQ μz M μ → y_le μ0 μ → ex_q fg rc (d + 5, (239, 135, [some (eR a0), some (eI (zI a1)), some (eI (zI a2)), some (eI (zI a3)), none], []), f :: F, μ)) (h218 : ∀ (a3 : Nat) (x4 : Option eV) (M : yM) (μ : eM), i218 a3 M = true → xQ μz M μ → y_le μ0 μ → ex_q fg rc (d + 5, (239, 218, [some (eR a0), some (eI (zI a1)), some (eI (zI a2)), some (eI (zI a3)), x4], []), f :: F, μ)) : ∀ n : Nat, ∀ (a3 : Nat) (M : yM) (μ : eM), mg_239_55 c234 a0 a1 a2 K i10 i77 i135 i218 n a3 M = true → xQ μz M μ → y_le μ0 μ → ex_q fg rc (d + 5, (239, 55, [some (eR a0), some (eI (zI a1)), some (eI (zI a2)), some (eI (zI a3)), none], []), f :: F, μ) := by
  intro n a3 M μ h hR hl
  obtain ⟨g1, h1⟩ := f_if_ok h
  obtain ⟨g2, h2⟩ := f_if_ok h1
  have g3 := Nat.eq_of_beq_eq_true g1
  have g4 := Nat.eq_of_beq_eq_true g2
  subst g3
  subst g4
  rw [show zI 0 = ((0 : Nat) : Int) from z_c0]
  obtain ⟨q1, q2, q3, q4⟩ := x_sl_ok h2 hR
  refine h_sl 8192 0 μ (by decide) q1 q2 q3 ?_
  intro μ1 m1 m2 m3 m4 m5
  obtain ⟨M1, h, hR1⟩ := q4 μ1 m1 m2 (fun j hj => m4 j (Nat.zero_le j) hj) m5
  have hl1 := y_le.tr hl (y_le_2 m1)
  show ex_q fg rc (d + 5, (239, 75, [some (eR 98), some (eI (zI a1)), some (eI (zI a2)), some (eI (zI 8192)), none], []), f :: F, μ1)
  refine w_s (np := 76) (lv' := [some (eR 98), some (eI (zI a1)), some (eI (zI a2)), some (eI (zI 8192)), none]) (st' := [eI (zI 0)]) rfl rfl rfl ?_
  refine w_s (np := 77) (lv' := [some (eR 98), some (eI (zI a1)), some (eI (zI a2)), some (eI (zI 0)), none]) (st' := []) rfl rfl rfl ?_
  obtain ⟨w1, ew1, h⟩ := z_f_ex h
  subst ew1
  exact h77 _ M1 μ1 h hR1 hl1
noncomputable def mg_239_10b (c234 : Nat → yM → (yM → Bool) → Bool) (a0 a1 a2 : Nat) (K : yM → Bool) (i77 : Nat → yM → Bool) (i135 : Nat → yM → Bool) (i218 : Nat → yM → Bool) (i10 : yM → Bool) (M : yM) : Bool := y_gf M a0 11 20 fun v1 => z_if (z_lt v1 a2) (c234 a0 M fun M39 => i10 M39) (y_wf M a0 11 6 a1 fun M5 => y_wf M5 a0 11 7 a2 fun M11 => y_gf M11 a0 11 9 fun v17 => f_if false (Nat.ble 1 v17) (y_gf M11 a0 11 7 fun v22 => y_lh 100 M11 v17 v22 fun v25 => y_wf M11 a0 11 8 v25 fun M27 => y_wf M27 a0 11 28 0 fun M33 => mg_239_55 c234 a0 a1 a2 K i10 i77 i135 i218 100000 0 M33))
noncomputable def mg_239_10 (c234 : Nat → yM → (yM → Bool) → Bool) (a0 a1 a2 : Nat) (K : yM → Bool) (i77 : Nat → yM → Bool) (i135 : Nat → yM → Bool) (i218 : Nat → yM → Bool) (n : Nat) : yM → Bool := @Nat.rec (fun _ => yM → Bool) (fun _ => false) (fun _ ih => mg_239_10b c234 a0 a1 a2 K i77 i135 i218 ih) n
theorem mg_239_10b_ok {fg : eG} {μz : eM} {rc : eQ} {d : Nat} {f : eFr} {F : List eFr} {μ0 : eM} {c234 : Nat → yM → (yM → Bool) → Bool} {a0 a1 a2 : Nat} {K : yM → Bool} {i77 : Nat → yM → Bool} {i135 : Nat → yM → Bool} {i218 : Nat → yM → Bool} {i10 : yM → Bool} (hc234 : ∀ (d : Nat) (f : eFr) (F : List eFr) (b0 : Nat) (M : yM) (μ : eM) (K : yM → Bool), c234 b0 M K = true → xQ μz M μ → ev_kd μ b0 = some 11 → 0 < b0 → (∀ (M : yM) (μ2 : eM), K M = true → xQ μz M μ2 → y_le μ μ2 → ex_q fg rc (d + 5, (f.1, f.2.1, f.2.2.1, f.2.2.2), F, μ2)) → ex_q fg rc (d + 4, (234, 0, [some (eR b0), none, none], []), f :: F, μ)) (hG : yG fg y_T) (hk : ev_kd μ0 a0 = some 11) (p0 : 0 < a0) (hK : ∀ (M : yM) (μ : eM), K M = true → xQ μz M μ → y_le μ0 μ → ex_q fg rc (d + 6, (f.1, f.2.1, f.2.2.1, f.2.2.2), F, μ)) (h77 : ∀ (a3 : Nat) (M : yM) (μ : eM), i77 a3 M = true → xQ μz M μ → y_le μ0 μ → ex_q fg rc (d + 5, (239, 77, [some (eR a0), some (eI (zI a1)), some (eI (zI a2)), some (eI (zI a3)), none], []), f :: F, μ)) (h135 : ∀ (a3 : Nat) (M : yM) (μ : eM), i135 a3 M = true → xQ μz M μ → y_le μ0 μ → ex_q fg rc (d + 5, (239, 135, [some (eR a0), some (eI (zI a1)), some (eI (zI a2)), some (eI (zI a3)), none], []), f :: F, μ)) (h218 : ∀ (a3 : Nat) (x4 : Option eV) (M : yM) (μ : eM), i218 a3 M = true → xQ μz M μ → y_le μ0 μ → ex_q fg rc (d + 5, (239, 218, [some (eR a0), some (eI (zI a1)), some (eI (zI a2)), some (eI (zI a3)), x4], []), f :: F, μ)) (h10 : ∀ (M : yM) (μ : eM), i10 M = true → xQ μz M μ → y_le μ0 μ → ex_q fg rc (d + 5, (239, 10, [some (eR a0), some (eI (zI a1)), some (eI (zI a2)), none, none], []), f :: F, μ)) : ∀ (M : yM) (μ : eM), mg_239_10b c234 a0 a1 a2 K i77 i135 i218 i10 M = true → xQ μz M μ → y_le μ0 μ → ex_q fg rc (d + 5, (239, 10, [some (eR a0), some (eI (zI a1)), some (eI (zI a2)), none, none], []), f :: F, μ) := by
  intro M μ h hR hl
  unfold mg_239_10b at h
  refine w_s (np := 11) (lv' := [some (eR a0), some (eI (zI a1)), some (eI (zI a2)), none, none]) (st' := [eR a0]) rfl (s_an rfl p0) rfl ?_
  obtain ⟨v1, h, k2, e3⟩ := x_gf_ok (ty := 0) h hR (by decide) rfl
  refine v_gf0 (np := 14) rfl rfl k2 e3 ?_
  clear k2 e3
  refine w_s (np := 15) (lv' := [some (eR a0), some (eI (zI a1)), some (eI (zI a2)), none, none]) (st' := [eI (zI a2), eI (zI v1)]) rfl rfl rfl ?_
  rcases z_if_t h with ⟨g4, h⟩ | ⟨g4, h⟩
  · refine v_ge_f (t1 := 25) rfl rfl g4 ?_
    refine w_s (np := 19) (lv' := [some (eR a0), some (eI (zI a1)), some (eI (zI a2)), none, none]) (st' := [eR a0]) rfl (s_an rfl p0) rfl ?_
    refine w_cv (np := 22) (as := []) (lv' := [some (eR a0), none, none]) (rest := []) rfl rfl rfl (Nat.ble_eq.mp rfl) rfl rfl rfl (hl _ _ hk) rfl ?_
    refine hc234 _ _ _ _ _ _ _ h hR (hl _ _ hk) p0 ?_
    intro M39 μ40 h hR41 hl43
    have hl42 := y_le.tr hl hl43
    show ex_q fg rc (d + 5, (239, 22, [some (eR a0), some (eI (zI a1)), some (eI (zI a2)), none, none], []), f :: F, μ40)
    refine w_go (t1 := 10) rfl rfl ?_
    exact h10 M39 μ40 h hR41 hl42
  · refine v_ge_t (t1 := 25) rfl rfl g4 ?_
    refine w_s (np := 26) (lv' := [some (eR a0), some (eI (zI a1)), some (eI (zI a2)), none, none]) (st' := [eR a0]) rfl (s_an rfl p0) rfl ?_
    refine w_s (np := 27) (lv' := [some (eR a0), some (eI (zI a1)), some (eI (zI a2)), none, none]) (st' := [eI (zI a1), eR a0]) rfl rfl rfl ?_
    obtain ⟨M5, μ6, h, k9, hR7, hl8, e10⟩ := x_wf_ex (ty := 0) h hR hl rfl (by decide)
    refine v_pe0 (np := 30) rfl rfl k9 e10 ?_
    clear k9 e10
    refine w_s (np := 31) (lv' := [some (eR a0), some (eI (zI a1)), some (eI (zI a2)), none, none]) (st' := [eR a0]) rfl (s_an rfl p0) rfl ?_
    refine w_s (np := 32) (lv' := [some (eR a0), some (eI (zI a1)), some (eI (zI a2)), none, none]) (st' := [eI (zI a2), eR a0]) rfl rfl rfl ?_
    obtain ⟨M11, μ12, h, k15, hR13, hl14, e16⟩ := x_wf_ex (ty := 0) h hR7 hl8 rfl (by decide)
    refine v_pe0 (np := 35) rfl rfl k15 e16 ?_
    clear k15 e16
    refine w_s (np := 36) (lv' := [some (eR a0), some (eI (zI a1)), some (eI (zI a2)), none, none]) (st' := [eR a0]) rfl (s_an rfl p0) rfl ?_
    refine w_s (np := 37) (lv' := [some (eR a0), some (eI (zI a1)), some (eI (zI a2)), none, none]) (st' := [eR a0, eR a0]) rfl (s_an rfl p0) rfl ?_
    obtain ⟨v17, h, k18, e19⟩ := x_gf_ok (ty := 3) h hR13 (by decide) rfl
    obtain ⟨g20, h⟩ := f_if_ok h
    have q21 : 0 < v17 := Nat.ble_eq.mp g20
    refine v_gf3 (np := 40) rfl rfl k18 e19 ?_
    clear k18 e19
    refine w_s (np := 41) (lv' := [some (eR a0), some (eI (zI a1)), some (eI (zI a2)), none, none]) (st' := [eR a0, eR v17, eR a0]) rfl (s_an rfl p0) rfl ?_
    obtain ⟨v22, h, k23, e24⟩ := x_gf_ok (ty := 0) h hR13 (by decide) rfl
    refine v_gf0 (np := 44) rfl rfl k23 e24 ?_
    clear k23 e24
    obtain ⟨v25, h, k26⟩ := x_lh_ok (ty := 0) h hR13 hG (by decide) rfl (by decide)
    refine v_la (np := 45) rfl rfl k26 ?_
    clear k26
    obtain ⟨M27, μ28, h, k31, hR29, hl30, e32⟩ := x_wf_ex (ty := 0) h hR13 hl14 rfl (by decide)
    refine v_pe0 (np := 48) rfl rfl k31 e32 ?_
    clear k31 e32
    refine w_s (np := 49) (lv' := [some (eR a0), some (eI (zI a1)), some (eI (zI a2)), none, none]) (st' := [eR a0]) rfl (s_an rfl p0) rfl ?_
    refine w_s (np := 50) (lv' := [some (eR a0), some (eI (zI a1)), some (eI (zI a2)), none, none]) (st' := [eI (zI 0), eR a0]) rfl rfl rfl ?_
    obtain ⟨M33, μ34, h, k37, hR35, hl36, e38⟩ := x_wf_ex (ty := 0) h hR29 hl30 rfl (by decide)
    refine v_pe0 (np := 53) rfl rfl k37 e38 ?_
    clear k37 e38
    refine w_s (np := 54) (lv' := [some (eR a0), some (eI (zI a1)), some (eI (zI a2)), none, none]) (st' := [eI (zI 0)]) rfl rfl rfl ?_
    refine w_s (np := 55) (lv' := [some (eR a0), some (eI (zI a1)), some (eI (zI a2)), some (eI (zI 0)), none]) (st' := []) rfl rfl rfl ?_
    exact mg_239_55_ok hc234 hG hk p0 hK h10 h77 h135 h218 100000 _ M33 μ34 h hR35 hl36
theorem mg_239_10_ok {fg : eG} {μz : eM} {rc : eQ} {d : Nat} {f : eFr} {F : List eFr} {μ0 : eM} {c234 : Nat → yM → (yM → Bool) → Bool} {a0 a1 a2 : Nat} {K : yM → Bool} {i77 : Nat → yM → Bool} {i135 : Nat → yM → Bool} {i218 : Nat → yM → Bool} (hc234 : ∀ (d : Nat) (f : eFr) (F : List eFr) (b0 : Nat) (M : yM) (μ : eM) (K : yM → Bool), c234 b0 M K = true → xQ μz M μ → ev_kd μ b0 = some 11 → 0 < b0 → (∀ (M : yM) (μ2 : eM), K M = true → xQ μz M μ2 → y_le μ μ2 → ex_q fg rc (d + 5, (f.1, f.2.1, f.2.2.1, f.2.2.2), F, μ2)) → ex_q fg rc (d + 4, (234, 0, [some (eR b0), none, none], []), f :: F, μ)) (hG : yG fg y_T) (hk : ev_kd μ0 a0 = some 11) (p0 : 0 < a0) (hK : ∀ (M : yM) (μ : eM), K M = true → xQ μz M μ → y_le μ0 μ → ex_q fg rc (d + 6, (f.1, f.2.1, f.2.2.1, f.2.2.2), F, μ)) (h77 : ∀ (a3 : Nat) (M : yM) (μ : eM), i77 a3 M = true → xQ μz M μ → y_le μ0 μ → ex_q fg rc (d + 5, (239, 77, [some (eR a0), some (eI (zI a1)), some (eI (zI a2)), some (eI (zI a3)), none], []), f :: F, μ)) (h135 : ∀ (a3 : Nat) (M : yM) (μ : eM), i135 a3 M = true → xQ μz M μ → y_le μ0 μ → ex_q fg rc (d + 5, (239, 135, [some (eR a0), some (eI (zI a1)), some (eI (zI a2)), some (eI (zI a3)), none], []), f :: F, μ)) (h218 : ∀ (a3 : Nat) (x4 : Option eV) (M : yM) (μ : eM), i218 a3 M = true → xQ μz M μ → y_le μ0 μ → ex_q fg rc (d + 5, (239, 218, [some (eR a0), some (eI (zI a1)), some (eI (zI a2)), some (eI (zI a3)), x4], []), f :: F, μ)) : ∀ n : Nat, ∀ (M : yM) (μ : eM), mg_239_10 c234 a0 a1 a2 K i77 i135 i218 n M = true → xQ μz M μ → y_le μ0 μ → ex_q fg rc (d + 5, (239, 10, [some (eR a0), some (eI (zI a1)), some (eI (zI a2)), none, none], []), f :: F, μ) := by
  intro n
  induction n with
  | zero =>
    intro M μ h hR hl
    exact absurd h Bool.false_ne_true
  | succ n ih =>
    intro M μ h hR hl
    exact mg_239_10b_ok hc234 hG hk p0 hK h77 h135 h218 ih  M μ h hR hl
noncomputable def mg_239_10r (c234 : Nat → yM → (yM → Bool) → Bool) (a0 a1 a2 : Nat) (K : yM → Bool) (i77 : Nat → yM → Bool) (i135 : Nat → yM → Bool) (i218 : Nat → yM → Bool) (base : yM → Bool) (n : Nat) : yM → Bool := @Nat.rec (fun _ => yM → Bool) base (fun _ ih => mg_239_10b c234 a0 a1 a2 K i77 i135 i218 ih) n
theorem mg_239_10r_ok {fg : eG} {μz : eM} {rc : eQ} {d : Nat} {f : eFr} {F : List eFr} {μ0 : eM} {c234 : Nat → yM → (yM → Bool) → Bool} {a0 a1 a2 : Nat} {K : yM → Bool} {i77 : Nat → yM → Bool} {i135 : Nat → yM → Bool} {i218 : Nat → yM → Bool} {base : yM → Bool} (hc234 : ∀ (d : Nat) (f : eFr) (F : List eFr) (b0 : Nat) (M : yM) (μ : eM) (K : yM → Bool), c234 b0 M K = true → xQ μz M μ → ev_kd μ b0 = some 11 → 0 < b0 → (∀ (M : yM) (μ2 : eM), K M = true → xQ μz M μ2 → y_le μ μ2 → ex_q fg rc (d + 5, (f.1, f.2.1, f.2.2.1, f.2.2.2), F, μ2)) → ex_q fg rc (d + 4, (234, 0, [some (eR b0), none, none], []), f :: F, μ)) (hG : yG fg y_T) (hk : ev_kd μ0 a0 = some 11) (p0 : 0 < a0) (hK : ∀ (M : yM) (μ : eM), K M = true → xQ μz M μ → y_le μ0 μ → ex_q fg rc (d + 6, (f.1, f.2.1, f.2.2.1, f.2.2.2), F, μ)) (h77 : ∀ (a3 : Nat) (M : yM) (μ : eM), i77 a3 M = true → xQ μz M μ → y_le μ0 μ → ex_q fg rc (d + 5, (239, 77, [some (eR a0), some (eI (zI a1)), some (eI (zI a2)), some (eI (zI a3)), none], []), f :: F, μ)) (h135 : ∀ (a3 : Nat) (M : yM) (μ : eM), i135 a3 M = true → xQ μz M μ → y_le μ0 μ → ex_q fg rc (d + 5, (239, 135, [some (eR a0), some (eI (zI a1)), some (eI (zI a2)), some (eI (zI a3)), none], []), f :: F, μ)) (h218 : ∀ (a3 : Nat) (x4 : Option eV) (M : yM) (μ : eM), i218 a3 M = true → xQ μz M μ → y_le μ0 μ → ex_q fg rc (d + 5, (239, 218, [some (eR a0), some (eI (zI a1)), some (eI (zI a2)), some (eI (zI a3)), x4], []), f :: F, μ)) (hb : ∀ (M : yM) (μ : eM), base M = true → xQ μz M μ → y_le μ0 μ → ex_q fg rc (d + 5, (239, 10, [some (eR a0), some (eI (zI a1)), some (eI (zI a2)), none, none], []), f :: F, μ)) : ∀ n : Nat, ∀ (M : yM) (μ : eM), mg_239_10r c234 a0 a1 a2 K i77 i135 i218 base n M = true → xQ μz M μ → y_le μ0 μ → ex_q fg rc (d + 5, (239, 10, [some (eR a0), some (eI (zI a1)), some (eI (zI a2)), none, none], []), f :: F, μ) := by
  intro n
  induction n with
  | zero =>
    intro M μ h hR hl
    exact hb  M μ h hR hl
  | succ n ih =>
    intro M μ h hR hl
    exact mg_239_10b_ok hc234 hG hk p0 hK h77 h135 h218 ih  M μ h hR hl
/-! RhombInflatorModel.lays -/
noncomputable def mg_239 (c234 : Nat → yM → (yM → Bool) → Bool) (i10 : yM → Bool) (i77 : Nat → yM → Bool) (i135 : Nat → yM → Bool) (i218 : Nat → yM → Bool) (a0 a1 a2 : Nat) (M : yM) (K : yM → Bool) : Bool := m_229 a0 a1 M fun M1 => y_wf M1 a0 11 20 0 fun M6 => i10 M6
theorem mg_239_ok {fg : eG} {μz : eM} {rc : eQ} {d : Nat} {f : eFr} {F : List eFr} {M : yM} {μ0 : eM} {c234 : Nat → yM → (yM → Bool) → Bool} {i10 : yM → Bool} {i77 : Nat → yM → Bool} {i135 : Nat → yM → Bool} {i218 : Nat → yM → Bool} {a0 a1 a2 : Nat} {K : yM → Bool} (hc234 : ∀ (d : Nat) (f : eFr) (F : List eFr) (b0 : Nat) (M : yM) (μ : eM) (K : yM → Bool), c234 b0 M K = true → xQ μz M μ → ev_kd μ b0 = some 11 → 0 < b0 → (∀ (M : yM) (μ2 : eM), K M = true → xQ μz M μ2 → y_le μ μ2 → ex_q fg rc (d + 5, (f.1, f.2.1, f.2.2.1, f.2.2.2), F, μ2)) → ex_q fg rc (d + 4, (234, 0, [some (eR b0), none, none], []), f :: F, μ)) (hG : yG fg y_T) (h : mg_239 c234 i10 i77 i135 i218 a0 a1 a2 M K = true) (hR : xQ μz M μ0) (hk : ev_kd μ0 a0 = some 11) (p0 : 0 < a0) (h10 : ∀ (M : yM) (μ : eM), i10 M = true → xQ μz M μ → y_le μ0 μ → ex_q fg rc (d + 5, (239, 10, [some (eR a0), some (eI (zI a1)), some (eI (zI a2)), none, none], []), f :: F, μ)) (h77 : ∀ (a3 : Nat) (M : yM) (μ : eM), i77 a3 M = true → xQ μz M μ → y_le μ0 μ → ex_q fg rc (d + 5, (239, 77, [some (eR a0), some (eI (zI a1)), some (eI (zI a2)), some (eI (zI a3)), none], []), f :: F, μ)) (h135 : ∀ (a3 : Nat) (M : yM) (μ : eM), i135 a3 M = true → xQ μz M μ → y_le μ0 μ → ex_q fg rc (d + 5, (239, 135, [some (eR a0), some (eI (zI a1)), some (eI (zI a2)), some (eI (zI a3)), none], []), f :: F, μ)) (h218 : ∀ (a3 : Nat) (x4 : Option eV) (M : yM) (μ : eM), i218 a3 M = true → xQ μz M μ → y_le μ0 μ → ex_q fg rc (d + 5, (239, 218, [some (eR a0), some (eI (zI a1)), some (eI (zI a2)), some (eI (zI a3)), x4], []), f :: F, μ)) (hK : ∀ (M : yM) (μ : eM), K M = true → xQ μz M μ → y_le μ0 μ → ex_q fg rc (d + 6, (f.1, f.2.1, f.2.2.1, f.2.2.2), F, μ)) : ex_q fg rc (d + 5, (239, 0, [some (eR a0), some (eI (zI a1)), some (eI (zI a2)), none, none], []), f :: F, μ0) := by
  unfold mg_239 at h
  have hl := y_le_r μ0
  refine w_s (np := 1) (lv' := [some (eR a0), some (eI (zI a1)), some (eI (zI a2)), none, none]) (st' := [eR a0]) rfl (s_an rfl p0) rfl ?_
  refine w_s (np := 2) (lv' := [some (eR a0), some (eI (zI a1)), some (eI (zI a2)), none, none]) (st' := [eI (zI a1), eR a0]) rfl rfl rfl ?_
  refine w_cv (np := 5) (as := [eI (zI a1)]) (lv' := [some (eR a0), some (eI (zI a1)), none]) (rest := []) rfl rfl rfl (Nat.ble_eq.mp rfl) rfl rfl rfl (hl _ _ hk) rfl ?_
  refine m_229_ok hG h hR (hl _ _ hk) p0 ?_
  intro M1 μ2 h hR3 hl5
  have hl4 := y_le.tr hl hl5
  show ex_q fg rc (d + 5, (239, 5, [some (eR a0), some (eI (zI a1)), some (eI (zI a2)), none, none], []), f :: F, μ2)
  refine w_s (np := 6) (lv' := [some (eR a0), some (eI (zI a1)), some (eI (zI a2)), none, none]) (st' := [eR a0]) rfl (s_an rfl p0) rfl ?_
  refine w_s (np := 7) (lv' := [some (eR a0), some (eI (zI a1)), some (eI (zI a2)), none, none]) (st' := [eI (zI 0), eR a0]) rfl rfl rfl ?_
  obtain ⟨M6, μ7, h, k10, hR8, hl9, e11⟩ := x_wf_ex (ty := 0) h hR3 hl4 rfl (by decide)
  refine v_pe0 (np := 10) rfl rfl k10 e11 ?_
  clear k10 e11
  exact h10 M6 μ7 h hR8 hl9
