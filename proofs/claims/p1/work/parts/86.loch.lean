/-! locate: the reference, half by half -/
def tCor (k : Nat) : Int := ([0, 0, 0, 0, 0, 1, 0, 0, 1, 0, 0, 0, 0, 0, 0, 0, 0, 1, 0, 0, 0, 0, 1, 0, 0, 0, 0, 0, 0, 0, 0, 1, 0, 0, 1, 0, 0, 0, 0, 0, 0, 0, 0, 1, -1, 1, -1, 1, 0, 0, 0, 0, -1, 0, 0, 0, -1, 1, -1, 1, 0, 0, 0, 0, -1, 0, 0, 0, 0, -1, 0, 0, 0, 0, 0, 0, 0, 0, -1, 0, 0, -1, 0, 0, 0, 0, 0, 0, 0, 0, -1, 0, 0, 0, 0, -1, 0, 0, 0, 0, 1, -1, 1, -1, 0, 0, 0, -1, 0, 0, 0, 0, 1, -1, 1, -1, 1, 0, 0, 0] : List Int).getD k 0
/-- the reference as it is made -/
def tQ (μ : eM) : Prop := ev_kd μ 98 = some 11 ∧ μ.1 98 10 = 100 ∧ μ.1 98 8 = 10 ∧ h_ar μ 100 10680 ∧ ∀ k, k < 120 → μ.1 100 k = tCor k
theorem tQ_s {a b : eM} (h : tQ a) (h2 : tS a b) : tQ b := by
  obtain ⟨h3, h4, h5, h6, h7⟩ := h
  exact ⟨tS_kd h2 h3, (h2.2 98 10 (by omega)).trans h4, (h2.2 98 8 (by omega)).trans h5, h6.t h2.1, fun k hk => (h2.2 100 k (by omega)).trans (h7 k hk)⟩
theorem t_al {fg : eG} {μ : eM} {k : Nat} {v i : Int} (hq : tQ μ) (hi : i = (k : Int)) (hk : k < 120) (hv : tCor k = v) : ev_al fg μ 100 100 i = some v := by
  rw [h_al hq.2.2.2.1 hi (by omega), hq.2.2.2.2 k hk, hv]
theorem t265_0_0 {fg : eG} {rc rs d : Nat} {f : eFr} {F : List eFr} {μ : eM} {p q r s : Int} (hq : tQ μ) (hp : -9999 ≤ p ∧ p ≤ 9999) (hq0 : -9999 ≤ q ∧ q ≤ 9999) (hr : -9999 ≤ r ∧ r ≤ 9999) (hs : -9999 ≤ s ∧ s ≤ 9999) (K : ∀ (μ2 : eM) (u : Int), tS μ μ2 → ((0 ≤ u ↔ 0 ≤ (-832040) * p + 832040 * r + 1346269 * s) ∧ (u ≤ 0 ↔ (-832040) * p + 832040 * r + 1346269 * s ≤ 0)) → (u = 0 ∨ u = 1 ∨ u = -1) → ex_fine fg rc rs (d + 5, (f.1, f.2.1, f.2.2.1, eI u :: f.2.2.2), F, μ2)) : ex_fine fg rc rs (d + 4, (265, 0, [some (eR 98), some (eI (0)), some (eI (0)), some (eI (1)), some (eI (p)), some (eI (q)), some (eI (r)), some (eI (s)), none, none], []), f :: F, μ) := by
  refine w_s (np := 2) (lv' := [some (eR 98), some (eI (0)), some (eI (0)), some (eI (1)), some (eI (p)), some (eI (q)), some (eI (r)), some (eI (s)), none, none]) (st' := [eI (12)]) rfl rfl rfl ?_
  refine w_s (np := 3) (lv' := [some (eR 98), some (eI (0)), some (eI (0)), some (eI (1)), some (eI (p)), some (eI (q)), some (eI (r)), some (eI (s)), none, none]) (st' := [eI (0), eI (12)]) rfl rfl rfl ?_
  refine w_s (np := 4) (lv' := [some (eR 98), some (eI (0)), some (eI (0)), some (eI (1)), some (eI (p)), some (eI (q)), some (eI (r)), some (eI (s)), none, none]) (st' := [eI (0)]) rfl (b_imul rfl) rfl ?_
  refine w_s (np := 5) (lv' := [some (eR 98), some (eI (0)), some (eI (0)), some (eI (1)), some (eI (p)), some (eI (q)), some (eI (r)), some (eI (s)), none, none]) (st' := [eI (4), eI (0)]) rfl rfl rfl ?_
  refine w_s (np := 6) (lv' := [some (eR 98), some (eI (0)), some (eI (0)), some (eI (1)), some (eI (p)), some (eI (q)), some (eI (r)), some (eI (s)), none, none]) (st' := [eI (0), eI (4), eI (0)]) rfl rfl rfl ?_
  refine w_s (np := 7) (lv' := [some (eR 98), some (eI (0)), some (eI (0)), some (eI (1)), some (eI (p)), some (eI (q)), some (eI (r)), some (eI (s)), none, none]) (st' := [eI (0), eI (0)]) rfl (b_imul rfl) rfl ?_
  refine w_s (np := 8) (lv' := [some (eR 98), some (eI (0)), some (eI (0)), some (eI (1)), some (eI (p)), some (eI (q)), some (eI (r)), some (eI (s)), none, none]) (st' := [eI (0)]) rfl (b_iadd rfl) rfl ?_
  refine w_s (np := 10) (lv' := [some (eR 98), some (eI (0)), some (eI (0)), some (eI (1)), some (eI (p)), some (eI (q)), some (eI (r)), some (eI (s)), some (eI (0)), none]) (st' := []) rfl rfl rfl ?_
  refine w_s (np := 12) (lv' := [some (eR 98), some (eI (0)), some (eI (0)), some (eI (1)), some (eI (p)), some (eI (q)), some (eI (r)), some (eI (s)), some (eI (0)), none]) (st' := [eI (12)]) rfl rfl rfl ?_
  refine w_s (np := 13) (lv' := [some (eR 98), some (eI (0)), some (eI (0)), some (eI (1)), some (eI (p)), some (eI (q)), some (eI (r)), some (eI (s)), some (eI (0)), none]) (st' := [eI (0), eI (12)]) rfl rfl rfl ?_
  refine w_s (np := 14) (lv' := [some (eR 98), some (eI (0)), some (eI (0)), some (eI (1)), some (eI (p)), some (eI (q)), some (eI (r)), some (eI (s)), some (eI (0)), none]) (st' := [eI (0)]) rfl (b_imul rfl) rfl ?_
  refine w_s (np := 15) (lv' := [some (eR 98), some (eI (0)), some (eI (0)), some (eI (1)), some (eI (p)), some (eI (q)), some (eI (r)), some (eI (s)), some (eI (0)), none]) (st' := [eI (4), eI (0)]) rfl rfl rfl ?_
  refine w_s (np := 16) (lv' := [some (eR 98), some (eI (0)), some (eI (0)), some (eI (1)), some (eI (p)), some (eI (q)), some (eI (r)), some (eI (s)), some (eI (0)), none]) (st' := [eI (1), eI (4), eI (0)]) rfl rfl rfl ?_
  refine w_s (np := 17) (lv' := [some (eR 98), some (eI (0)), some (eI (0)), some (eI (1)), some (eI (p)), some (eI (q)), some (eI (r)), some (eI (s)), some (eI (0)), none]) (st' := [eI (4), eI (0)]) rfl (b_imul rfl) rfl ?_
  refine w_s (np := 18) (lv' := [some (eR 98), some (eI (0)), some (eI (0)), some (eI (1)), some (eI (p)), some (eI (q)), some (eI (r)), some (eI (s)), some (eI (0)), none]) (st' := [eI (4)]) rfl (b_iadd rfl) rfl ?_
  refine w_s (np := 20) (lv' := [some (eR 98), some (eI (0)), some (eI (0)), some (eI (1)), some (eI (p)), some (eI (q)), some (eI (r)), some (eI (s)), some (eI (0)), some (eI (4))]) (st' := []) rfl rfl rfl ?_
  refine w_s (np := 21) (lv' := [some (eR 98), some (eI (0)), some (eI (0)), some (eI (1)), some (eI (p)), some (eI (q)), some (eI (r)), some (eI (s)), some (eI (0)), some (eI (4))]) (st' := [eR 98]) rfl (s_an rfl (by decide)) rfl ?_
  refine w_s (np := 22) (lv' := [some (eR 98), some (eI (0)), some (eI (0)), some (eI (1)), some (eI (p)), some (eI (q)), some (eI (r)), some (eI (s)), some (eI (0)), some (eI (4))]) (st' := [eR 98, eR 98]) rfl (s_an rfl (by decide)) rfl ?_
  refine w_gf (np := 25) (v := eR 100) rfl rfl hq.1 (by rw [hq.2.1]; rfl) ?_
  refine w_s (np := 27) (lv' := [some (eR 98), some (eI (0)), some (eI (0)), some (eI (1)), some (eI (p)), some (eI (q)), some (eI (r)), some (eI (s)), some (eI (0)), some (eI (4))]) (st' := [eI (4), eR 100, eR 98]) rfl rfl rfl ?_
  refine w_al (np := 28) (v := 0) rfl rfl (t_al (k := 4) hq rfl (by decide) rfl) ?_
  refine w_s (np := 29) (lv' := [some (eR 98), some (eI (0)), some (eI (0)), some (eI (1)), some (eI (p)), some (eI (q)), some (eI (r)), some (eI (s)), some (eI (0)), some (eI (4))]) (st' := [eR 98, eI (0), eR 98]) rfl (s_an rfl (by decide)) rfl ?_
  refine w_gf (np := 32) (v := eR 100) rfl rfl hq.1 (by rw [hq.2.1]; rfl) ?_
  refine w_s (np := 34) (lv' := [some (eR 98), some (eI (0)), some (eI (0)), some (eI (1)), some (eI (p)), some (eI (q)), some (eI (r)), some (eI (s)), some (eI (0)), some (eI (4))]) (st' := [eI (0), eR 100, eI (0), eR 98]) rfl rfl rfl ?_
  refine w_al (np := 35) (v := 0) rfl rfl (t_al (k := 0) hq rfl (by decide) rfl) ?_
  refine w_s (np := 36) (lv' := [some (eR 98), some (eI (0)), some (eI (0)), some (eI (1)), some (eI (p)), some (eI (q)), some (eI (r)), some (eI (s)), some (eI (0)), some (eI (4))]) (st' := [eI (0), eR 98]) rfl (b_isub rfl) rfl ?_
  refine w_s (np := 37) (lv' := [some (eR 98), some (eI (0)), some (eI (0)), some (eI (1)), some (eI (p)), some (eI (q)), some (eI (r)), some (eI (s)), some (eI (0)), some (eI (4))]) (st' := [eJ (0), eR 98]) rfl (b_i2l rfl) rfl ?_
  refine w_s (np := 38) (lv' := [some (eR 98), some (eI (0)), some (eI (0)), some (eI (1)), some (eI (p)), some (eI (q)), some (eI (r)), some (eI (s)), some (eI (0)), some (eI (4))]) (st' := [eR 98, eJ (0), eR 98]) rfl (s_an rfl (by decide)) rfl ?_
  refine w_gf (np := 41) (v := eR 100) rfl rfl hq.1 (by rw [hq.2.1]; rfl) ?_
  refine w_s (np := 43) (lv' := [some (eR 98), some (eI (0)), some (eI (0)), some (eI (1)), some (eI (p)), some (eI (q)), some (eI (r)), some (eI (s)), some (eI (0)), some (eI (4))]) (st' := [eI (4), eR 100, eJ (0), eR 98]) rfl rfl rfl ?_
  refine w_s (np := 44) (lv' := [some (eR 98), some (eI (0)), some (eI (0)), some (eI (1)), some (eI (p)), some (eI (q)), some (eI (r)), some (eI (s)), some (eI (0)), some (eI (4))]) (st' := [eI (1), eI (4), eR 100, eJ (0), eR 98]) rfl rfl rfl ?_
  refine w_s (np := 45) (lv' := [some (eR 98), some (eI (0)), some (eI (0)), some (eI (1)), some (eI (p)), some (eI (q)), some (eI (r)), some (eI (s)), some (eI (0)), some (eI (4))]) (st' := [eI (5), eR 100, eJ (0), eR 98]) rfl (b_iadd rfl) rfl ?_
  refine w_al (np := 46) (v := 1) rfl rfl (t_al (k := 5) hq rfl (by decide) rfl) ?_
  refine w_s (np := 47) (lv' := [some (eR 98), some (eI (0)), some (eI (0)), some (eI (1)), some (eI (p)), some (eI (q)), some (eI (r)), some (eI (s)), some (eI (0)), some (eI (4))]) (st' := [eR 98, eI (1), eJ (0), eR 98]) rfl (s_an rfl (by decide)) rfl ?_
  refine w_gf (np := 50) (v := eR 100) rfl rfl hq.1 (by rw [hq.2.1]; rfl) ?_
  refine w_s (np := 52) (lv' := [some (eR 98), some (eI (0)), some (eI (0)), some (eI (1)), some (eI (p)), some (eI (q)), some (eI (r)), some (eI (s)), some (eI (0)), some (eI (4))]) (st' := [eI (0), eR 100, eI (1), eJ (0), eR 98]) rfl rfl rfl ?_
  refine w_s (np := 53) (lv' := [some (eR 98), some (eI (0)), some (eI (0)), some (eI (1)), some (eI (p)), some (eI (q)), some (eI (r)), some (eI (s)), some (eI (0)), some (eI (4))]) (st' := [eI (1), eI (0), eR 100, eI (1), eJ (0), eR 98]) rfl rfl rfl ?_
  refine w_s (np := 54) (lv' := [some (eR 98), some (eI (0)), some (eI (0)), some (eI (1)), some (eI (p)), some (eI (q)), some (eI (r)), some (eI (s)), some (eI (0)), some (eI (4))]) (st' := [eI (1), eR 100, eI (1), eJ (0), eR 98]) rfl (b_iadd rfl) rfl ?_
  refine w_al (np := 55) (v := 0) rfl rfl (t_al (k := 1) hq rfl (by decide) rfl) ?_
  refine w_s (np := 56) (lv' := [some (eR 98), some (eI (0)), some (eI (0)), some (eI (1)), some (eI (p)), some (eI (q)), some (eI (r)), some (eI (s)), some (eI (0)), some (eI (4))]) (st' := [eI (1), eJ (0), eR 98]) rfl (b_isub rfl) rfl ?_
  refine w_s (np := 57) (lv' := [some (eR 98), some (eI (0)), some (eI (0)), some (eI (1)), some (eI (p)), some (eI (q)), some (eI (r)), some (eI (s)), some (eI (0)), some (eI (4))]) (st' := [eJ (1), eJ (0), eR 98]) rfl (b_i2l rfl) rfl ?_
  refine w_s (np := 58) (lv' := [some (eR 98), some (eI (0)), some (eI (0)), some (eI (1)), some (eI (p)), some (eI (q)), some (eI (r)), some (eI (s)), some (eI (0)), some (eI (4))]) (st' := [eR 98, eJ (1), eJ (0), eR 98]) rfl (s_an rfl (by decide)) rfl ?_
  refine w_gf (np := 61) (v := eR 100) rfl rfl hq.1 (by rw [hq.2.1]; rfl) ?_
  refine w_s (np := 63) (lv' := [some (eR 98), some (eI (0)), some (eI (0)), some (eI (1)), some (eI (p)), some (eI (q)), some (eI (r)), some (eI (s)), some (eI (0)), some (eI (4))]) (st' := [eI (4), eR 100, eJ (1), eJ (0), eR 98]) rfl rfl rfl ?_
  refine w_s (np := 64) (lv' := [some (eR 98), some (eI (0)), some (eI (0)), some (eI (1)), some (eI (p)), some (eI (q)), some (eI (r)), some (eI (s)), some (eI (0)), some (eI (4))]) (st' := [eI (2), eI (4), eR 100, eJ (1), eJ (0), eR 98]) rfl rfl rfl ?_
  refine w_s (np := 65) (lv' := [some (eR 98), some (eI (0)), some (eI (0)), some (eI (1)), some (eI (p)), some (eI (q)), some (eI (r)), some (eI (s)), some (eI (0)), some (eI (4))]) (st' := [eI (6), eR 100, eJ (1), eJ (0), eR 98]) rfl (b_iadd rfl) rfl ?_
  refine w_al (np := 66) (v := 0) rfl rfl (t_al (k := 6) hq rfl (by decide) rfl) ?_
  refine w_s (np := 67) (lv' := [some (eR 98), some (eI (0)), some (eI (0)), some (eI (1)), some (eI (p)), some (eI (q)), some (eI (r)), some (eI (s)), some (eI (0)), some (eI (4))]) (st' := [eR 98, eI (0), eJ (1), eJ (0), eR 98]) rfl (s_an rfl (by decide)) rfl ?_
  refine w_gf (np := 70) (v := eR 100) rfl rfl hq.1 (by rw [hq.2.1]; rfl) ?_
  refine w_s (np := 72) (lv' := [some (eR 98), some (eI (0)), some (eI (0)), some (eI (1)), some (eI (p)), some (eI (q)), some (eI (r)), some (eI (s)), some (eI (0)), some (eI (4))]) (st' := [eI (0), eR 100, eI (0), eJ (1), eJ (0), eR 98]) rfl rfl rfl ?_
  refine w_s (np := 73) (lv' := [some (eR 98), some (eI (0)), some (eI (0)), some (eI (1)), some (eI (p)), some (eI (q)), some (eI (r)), some (eI (s)), some (eI (0)), some (eI (4))]) (st' := [eI (2), eI (0), eR 100, eI (0), eJ (1), eJ (0), eR 98]) rfl rfl rfl ?_
  refine w_s (np := 74) (lv' := [some (eR 98), some (eI (0)), some (eI (0)), some (eI (1)), some (eI (p)), some (eI (q)), some (eI (r)), some (eI (s)), some (eI (0)), some (eI (4))]) (st' := [eI (2), eR 100, eI (0), eJ (1), eJ (0), eR 98]) rfl (b_iadd rfl) rfl ?_
  refine w_al (np := 75) (v := 0) rfl rfl (t_al (k := 2) hq rfl (by decide) rfl) ?_
  refine w_s (np := 76) (lv' := [some (eR 98), some (eI (0)), some (eI (0)), some (eI (1)), some (eI (p)), some (eI (q)), some (eI (r)), some (eI (s)), some (eI (0)), some (eI (4))]) (st' := [eI (0), eJ (1), eJ (0), eR 98]) rfl (b_isub rfl) rfl ?_
  refine w_s (np := 77) (lv' := [some (eR 98), some (eI (0)), some (eI (0)), some (eI (1)), some (eI (p)), some (eI (q)), some (eI (r)), some (eI (s)), some (eI (0)), some (eI (4))]) (st' := [eJ (0), eJ (1), eJ (0), eR 98]) rfl (b_i2l rfl) rfl ?_
  refine w_s (np := 78) (lv' := [some (eR 98), some (eI (0)), some (eI (0)), some (eI (1)), some (eI (p)), some (eI (q)), some (eI (r)), some (eI (s)), some (eI (0)), some (eI (4))]) (st' := [eR 98, eJ (0), eJ (1), eJ (0), eR 98]) rfl (s_an rfl (by decide)) rfl ?_
  refine w_gf (np := 81) (v := eR 100) rfl rfl hq.1 (by rw [hq.2.1]; rfl) ?_
  refine w_s (np := 83) (lv' := [some (eR 98), some (eI (0)), some (eI (0)), some (eI (1)), some (eI (p)), some (eI (q)), some (eI (r)), some (eI (s)), some (eI (0)), some (eI (4))]) (st' := [eI (4), eR 100, eJ (0), eJ (1), eJ (0), eR 98]) rfl rfl rfl ?_
  refine w_s (np := 84) (lv' := [some (eR 98), some (eI (0)), some (eI (0)), some (eI (1)), some (eI (p)), some (eI (q)), some (eI (r)), some (eI (s)), some (eI (0)), some (eI (4))]) (st' := [eI (3), eI (4), eR 100, eJ (0), eJ (1), eJ (0), eR 98]) rfl rfl rfl ?_
  refine w_s (np := 85) (lv' := [some (eR 98), some (eI (0)), some (eI (0)), some (eI (1)), some (eI (p)), some (eI (q)), some (eI (r)), some (eI (s)), some (eI (0)), some (eI (4))]) (st' := [eI (7), eR 100, eJ (0), eJ (1), eJ (0), eR 98]) rfl (b_iadd rfl) rfl ?_
  refine w_al (np := 86) (v := 0) rfl rfl (t_al (k := 7) hq rfl (by decide) rfl) ?_
  refine w_s (np := 87) (lv' := [some (eR 98), some (eI (0)), some (eI (0)), some (eI (1)), some (eI (p)), some (eI (q)), some (eI (r)), some (eI (s)), some (eI (0)), some (eI (4))]) (st' := [eR 98, eI (0), eJ (0), eJ (1), eJ (0), eR 98]) rfl (s_an rfl (by decide)) rfl ?_
  refine w_gf (np := 90) (v := eR 100) rfl rfl hq.1 (by rw [hq.2.1]; rfl) ?_
  refine w_s (np := 92) (lv' := [some (eR 98), some (eI (0)), some (eI (0)), some (eI (1)), some (eI (p)), some (eI (q)), some (eI (r)), some (eI (s)), some (eI (0)), some (eI (4))]) (st' := [eI (0), eR 100, eI (0), eJ (0), eJ (1), eJ (0), eR 98]) rfl rfl rfl ?_
  refine w_s (np := 93) (lv' := [some (eR 98), some (eI (0)), some (eI (0)), some (eI (1)), some (eI (p)), some (eI (q)), some (eI (r)), some (eI (s)), some (eI (0)), some (eI (4))]) (st' := [eI (3), eI (0), eR 100, eI (0), eJ (0), eJ (1), eJ (0), eR 98]) rfl rfl rfl ?_
  refine w_s (np := 94) (lv' := [some (eR 98), some (eI (0)), some (eI (0)), some (eI (1)), some (eI (p)), some (eI (q)), some (eI (r)), some (eI (s)), some (eI (0)), some (eI (4))]) (st' := [eI (3), eR 100, eI (0), eJ (0), eJ (1), eJ (0), eR 98]) rfl (b_iadd rfl) rfl ?_
  refine w_al (np := 95) (v := 0) rfl rfl (t_al (k := 3) hq rfl (by decide) rfl) ?_
  refine w_s (np := 96) (lv' := [some (eR 98), some (eI (0)), some (eI (0)), some (eI (1)), some (eI (p)), some (eI (q)), some (eI (r)), some (eI (s)), some (eI (0)), some (eI (4))]) (st' := [eI (0), eJ (0), eJ (1), eJ (0), eR 98]) rfl (b_isub rfl) rfl ?_
  refine w_s (np := 97) (lv' := [some (eR 98), some (eI (0)), some (eI (0)), some (eI (1)), some (eI (p)), some (eI (q)), some (eI (r)), some (eI (s)), some (eI (0)), some (eI (4))]) (st' := [eJ (0), eJ (0), eJ (1), eJ (0), eR 98]) rfl (b_i2l rfl) rfl ?_
  refine w_s (np := 99) (lv' := [some (eR 98), some (eI (0)), some (eI (0)), some (eI (1)), some (eI (p)), some (eI (q)), some (eI (r)), some (eI (s)), some (eI (0)), some (eI (4))]) (st' := [eI (p), eJ (0), eJ (0), eJ (1), eJ (0), eR 98]) rfl rfl rfl ?_
  refine w_s (np := 100) (lv' := [some (eR 98), some (eI (0)), some (eI (0)), some (eI (1)), some (eI (p)), some (eI (q)), some (eI (r)), some (eI (s)), some (eI (0)), some (eI (4))]) (st' := [eJ (p), eJ (0), eJ (0), eJ (1), eJ (0), eR 98]) rfl (b_i2l (ev_w_in (by omega) (by omega))) rfl ?_
  refine w_s (np := 101) (lv' := [some (eR 98), some (eI (0)), some (eI (0)), some (eI (1)), some (eI (p)), some (eI (q)), some (eI (r)), some (eI (s)), some (eI (0)), some (eI (4))]) (st' := [eR 98, eJ (p), eJ (0), eJ (0), eJ (1), eJ (0), eR 98]) rfl (s_an rfl (by decide)) rfl ?_
  refine w_gf (np := 104) (v := eR 100) rfl rfl hq.1 (by rw [hq.2.1]; rfl) ?_
  refine w_s (np := 106) (lv' := [some (eR 98), some (eI (0)), some (eI (0)), some (eI (1)), some (eI (p)), some (eI (q)), some (eI (r)), some (eI (s)), some (eI (0)), some (eI (4))]) (st' := [eI (0), eR 100, eJ (p), eJ (0), eJ (0), eJ (1), eJ (0), eR 98]) rfl rfl rfl ?_
  refine w_al (np := 107) (v := 0) rfl rfl (t_al (k := 0) hq rfl (by decide) rfl) ?_
  refine w_s (np := 108) (lv' := [some (eR 98), some (eI (0)), some (eI (0)), some (eI (1)), some (eI (p)), some (eI (q)), some (eI (r)), some (eI (s)), some (eI (0)), some (eI (4))]) (st' := [eJ (0), eJ (p), eJ (0), eJ (0), eJ (1), eJ (0), eR 98]) rfl (b_i2l rfl) rfl ?_
  obtain ⟨v1, e2⟩ : ∃ v : Int, v = (p) - (0) := ⟨_, rfl⟩
  have b3 : -9999 ≤ v1 ∧ v1 ≤ 9999 := by omega
  refine w_s (np := 109) (lv' := [some (eR 98), some (eI (0)), some (eI (0)), some (eI (1)), some (eI (p)), some (eI (q)), some (eI (r)), some (eI (s)), some (eI (0)), some (eI (4))]) (st' := [eJ (v1), eJ (0), eJ (0), eJ (1), eJ (0), eR 98]) rfl (b_lsub (by rw [← e2]; exact ev_W_in (by omega) (by omega))) rfl ?_
  refine w_s (np := 111) (lv' := [some (eR 98), some (eI (0)), some (eI (0)), some (eI (1)), some (eI (p)), some (eI (q)), some (eI (r)), some (eI (s)), some (eI (0)), some (eI (4))]) (st' := [eI (q), eJ (v1), eJ (0), eJ (0), eJ (1), eJ (0), eR 98]) rfl rfl rfl ?_
  refine w_s (np := 112) (lv' := [some (eR 98), some (eI (0)), some (eI (0)), some (eI (1)), some (eI (p)), some (eI (q)), some (eI (r)), some (eI (s)), some (eI (0)), some (eI (4))]) (st' := [eJ (q), eJ (v1), eJ (0), eJ (0), eJ (1), eJ (0), eR 98]) rfl (b_i2l (ev_w_in (by omega) (by omega))) rfl ?_
  refine w_s (np := 113) (lv' := [some (eR 98), some (eI (0)), some (eI (0)), some (eI (1)), some (eI (p)), some (eI (q)), some (eI (r)), some (eI (s)), some (eI (0)), some (eI (4))]) (st' := [eR 98, eJ (q), eJ (v1), eJ (0), eJ (0), eJ (1), eJ (0), eR 98]) rfl (s_an rfl (by decide)) rfl ?_
  refine w_gf (np := 116) (v := eR 100) rfl rfl hq.1 (by rw [hq.2.1]; rfl) ?_
  refine w_s (np := 118) (lv' := [some (eR 98), some (eI (0)), some (eI (0)), some (eI (1)), some (eI (p)), some (eI (q)), some (eI (r)), some (eI (s)), some (eI (0)), some (eI (4))]) (st' := [eI (0), eR 100, eJ (q), eJ (v1), eJ (0), eJ (0), eJ (1), eJ (0), eR 98]) rfl rfl rfl ?_
  refine w_s (np := 119) (lv' := [some (eR 98), some (eI (0)), some (eI (0)), some (eI (1)), some (eI (p)), some (eI (q)), some (eI (r)), some (eI (s)), some (eI (0)), some (eI (4))]) (st' := [eI (1), eI (0), eR 100, eJ (q), eJ (v1), eJ (0), eJ (0), eJ (1), eJ (0), eR 98]) rfl rfl rfl ?_
  refine w_s (np := 120) (lv' := [some (eR 98), some (eI (0)), some (eI (0)), some (eI (1)), some (eI (p)), some (eI (q)), some (eI (r)), some (eI (s)), some (eI (0)), some (eI (4))]) (st' := [eI (1), eR 100, eJ (q), eJ (v1), eJ (0), eJ (0), eJ (1), eJ (0), eR 98]) rfl (b_iadd rfl) rfl ?_
  refine w_al (np := 121) (v := 0) rfl rfl (t_al (k := 1) hq rfl (by decide) rfl) ?_
  refine w_s (np := 122) (lv' := [some (eR 98), some (eI (0)), some (eI (0)), some (eI (1)), some (eI (p)), some (eI (q)), some (eI (r)), some (eI (s)), some (eI (0)), some (eI (4))]) (st' := [eJ (0), eJ (q), eJ (v1), eJ (0), eJ (0), eJ (1), eJ (0), eR 98]) rfl (b_i2l rfl) rfl ?_
  obtain ⟨v4, e5⟩ : ∃ v : Int, v = (q) - (0) := ⟨_, rfl⟩
  have b6 : -9999 ≤ v4 ∧ v4 ≤ 9999 := by omega
  refine w_s (np := 123) (lv' := [some (eR 98), some (eI (0)), some (eI (0)), some (eI (1)), some (eI (p)), some (eI (q)), some (eI (r)), some (eI (s)), some (eI (0)), some (eI (4))]) (st' := [eJ (v4), eJ (v1), eJ (0), eJ (0), eJ (1), eJ (0), eR 98]) rfl (b_lsub (by rw [← e5]; exact ev_W_in (by omega) (by omega))) rfl ?_
  refine w_s (np := 125) (lv' := [some (eR 98), some (eI (0)), some (eI (0)), some (eI (1)), some (eI (p)), some (eI (q)), some (eI (r)), some (eI (s)), some (eI (0)), some (eI (4))]) (st' := [eI (r), eJ (v4), eJ (v1), eJ (0), eJ (0), eJ (1), eJ (0), eR 98]) rfl rfl rfl ?_
  refine w_s (np := 126) (lv' := [some (eR 98), some (eI (0)), some (eI (0)), some (eI (1)), some (eI (p)), some (eI (q)), some (eI (r)), some (eI (s)), some (eI (0)), some (eI (4))]) (st' := [eJ (r), eJ (v4), eJ (v1), eJ (0), eJ (0), eJ (1), eJ (0), eR 98]) rfl (b_i2l (ev_w_in (by omega) (by omega))) rfl ?_
  refine w_s (np := 127) (lv' := [some (eR 98), some (eI (0)), some (eI (0)), some (eI (1)), some (eI (p)), some (eI (q)), some (eI (r)), some (eI (s)), some (eI (0)), some (eI (4))]) (st' := [eR 98, eJ (r), eJ (v4), eJ (v1), eJ (0), eJ (0), eJ (1), eJ (0), eR 98]) rfl (s_an rfl (by decide)) rfl ?_
  refine w_gf (np := 130) (v := eR 100) rfl rfl hq.1 (by rw [hq.2.1]; rfl) ?_
  refine w_s (np := 132) (lv' := [some (eR 98), some (eI (0)), some (eI (0)), some (eI (1)), some (eI (p)), some (eI (q)), some (eI (r)), some (eI (s)), some (eI (0)), some (eI (4))]) (st' := [eI (0), eR 100, eJ (r), eJ (v4), eJ (v1), eJ (0), eJ (0), eJ (1), eJ (0), eR 98]) rfl rfl rfl ?_
  refine w_s (np := 133) (lv' := [some (eR 98), some (eI (0)), some (eI (0)), some (eI (1)), some (eI (p)), some (eI (q)), some (eI (r)), some (eI (s)), some (eI (0)), some (eI (4))]) (st' := [eI (2), eI (0), eR 100, eJ (r), eJ (v4), eJ (v1), eJ (0), eJ (0), eJ (1), eJ (0), eR 98]) rfl rfl rfl ?_
  refine w_s (np := 134) (lv' := [some (eR 98), some (eI (0)), some (eI (0)), some (eI (1)), some (eI (p)), some (eI (q)), some (eI (r)), some (eI (s)), some (eI (0)), some (eI (4))]) (st' := [eI (2), eR 100, eJ (r), eJ (v4), eJ (v1), eJ (0), eJ (0), eJ (1), eJ (0), eR 98]) rfl (b_iadd rfl) rfl ?_
  refine w_al (np := 135) (v := 0) rfl rfl (t_al (k := 2) hq rfl (by decide) rfl) ?_
  refine w_s (np := 136) (lv' := [some (eR 98), some (eI (0)), some (eI (0)), some (eI (1)), some (eI (p)), some (eI (q)), some (eI (r)), some (eI (s)), some (eI (0)), some (eI (4))]) (st' := [eJ (0), eJ (r), eJ (v4), eJ (v1), eJ (0), eJ (0), eJ (1), eJ (0), eR 98]) rfl (b_i2l rfl) rfl ?_
  obtain ⟨v7, e8⟩ : ∃ v : Int, v = (r) - (0) := ⟨_, rfl⟩
  have b9 : -9999 ≤ v7 ∧ v7 ≤ 9999 := by omega
  refine w_s (np := 137) (lv' := [some (eR 98), some (eI (0)), some (eI (0)), some (eI (1)), some (eI (p)), some (eI (q)), some (eI (r)), some (eI (s)), some (eI (0)), some (eI (4))]) (st' := [eJ (v7), eJ (v4), eJ (v1), eJ (0), eJ (0), eJ (1), eJ (0), eR 98]) rfl (b_lsub (by rw [← e8]; exact ev_W_in (by omega) (by omega))) rfl ?_
  refine w_s (np := 139) (lv' := [some (eR 98), some (eI (0)), some (eI (0)), some (eI (1)), some (eI (p)), some (eI (q)), some (eI (r)), some (eI (s)), some (eI (0)), some (eI (4))]) (st' := [eI (s), eJ (v7), eJ (v4), eJ (v1), eJ (0), eJ (0), eJ (1), eJ (0), eR 98]) rfl rfl rfl ?_
  refine w_s (np := 140) (lv' := [some (eR 98), some (eI (0)), some (eI (0)), some (eI (1)), some (eI (p)), some (eI (q)), some (eI (r)), some (eI (s)), some (eI (0)), some (eI (4))]) (st' := [eJ (s), eJ (v7), eJ (v4), eJ (v1), eJ (0), eJ (0), eJ (1), eJ (0), eR 98]) rfl (b_i2l (ev_w_in (by omega) (by omega))) rfl ?_
  refine w_s (np := 141) (lv' := [some (eR 98), some (eI (0)), some (eI (0)), some (eI (1)), some (eI (p)), some (eI (q)), some (eI (r)), some (eI (s)), some (eI (0)), some (eI (4))]) (st' := [eR 98, eJ (s), eJ (v7), eJ (v4), eJ (v1), eJ (0), eJ (0), eJ (1), eJ (0), eR 98]) rfl (s_an rfl (by decide)) rfl ?_
  refine w_gf (np := 144) (v := eR 100) rfl rfl hq.1 (by rw [hq.2.1]; rfl) ?_
  refine w_s (np := 146) (lv' := [some (eR 98), some (eI (0)), some (eI (0)), some (eI (1)), some (eI (p)), some (eI (q)), some (eI (r)), some (eI (s)), some (eI (0)), some (eI (4))]) (st' := [eI (0), eR 100, eJ (s), eJ (v7), eJ (v4), eJ (v1), eJ (0), eJ (0), eJ (1), eJ (0), eR 98]) rfl rfl rfl ?_
  refine w_s (np := 147) (lv' := [some (eR 98), some (eI (0)), some (eI (0)), some (eI (1)), some (eI (p)), some (eI (q)), some (eI (r)), some (eI (s)), some (eI (0)), some (eI (4))]) (st' := [eI (3), eI (0), eR 100, eJ (s), eJ (v7), eJ (v4), eJ (v1), eJ (0), eJ (0), eJ (1), eJ (0), eR 98]) rfl rfl rfl ?_
  refine w_s (np := 148) (lv' := [some (eR 98), some (eI (0)), some (eI (0)), some (eI (1)), some (eI (p)), some (eI (q)), some (eI (r)), some (eI (s)), some (eI (0)), some (eI (4))]) (st' := [eI (3), eR 100, eJ (s), eJ (v7), eJ (v4), eJ (v1), eJ (0), eJ (0), eJ (1), eJ (0), eR 98]) rfl (b_iadd rfl) rfl ?_
  refine w_al (np := 149) (v := 0) rfl rfl (t_al (k := 3) hq rfl (by decide) rfl) ?_
  refine w_s (np := 150) (lv' := [some (eR 98), some (eI (0)), some (eI (0)), some (eI (1)), some (eI (p)), some (eI (q)), some (eI (r)), some (eI (s)), some (eI (0)), some (eI (4))]) (st' := [eJ (0), eJ (s), eJ (v7), eJ (v4), eJ (v1), eJ (0), eJ (0), eJ (1), eJ (0), eR 98]) rfl (b_i2l rfl) rfl ?_
  obtain ⟨v10, e11⟩ : ∃ v : Int, v = (s) - (0) := ⟨_, rfl⟩
  have b12 : -9999 ≤ v10 ∧ v10 ≤ 9999 := by omega
  refine w_s (np := 151) (lv' := [some (eR 98), some (eI (0)), some (eI (0)), some (eI (1)), some (eI (p)), some (eI (q)), some (eI (r)), some (eI (s)), some (eI (0)), some (eI (4))]) (st' := [eJ (v10), eJ (v7), eJ (v4), eJ (v1), eJ (0), eJ (0), eJ (1), eJ (0), eR 98]) rfl (b_lsub (by rw [← e11]; exact ev_W_in (by omega) (by omega))) rfl ?_
  refine w_cv (np := 154) (as := [eJ (0), eJ (1), eJ (0), eJ (0), eJ (v1), eJ (v4), eJ (v7), eJ (v10)]) (lv' := [some (eR 98), some (eJ (0)), none, some (eJ (1)), none, some (eJ (0)), none, some (eJ (0)), none, some (eJ (v1)), none, some (eJ (v4)), none, some (eJ (v7)), none, some (eJ (v10)), none]) (rest := []) rfl rfl rfl (Nat.ble_eq.mp rfl) rfl rfl rfl hq.1 rfl ?_
  refine t224 hq.1 (show (-8 : Int) ≤ 0 ∧ (0 : Int) ≤ 8 by omega) (show (-8 : Int) ≤ 1 ∧ (1 : Int) ≤ 8 by omega) (show (-8 : Int) ≤ 0 ∧ (0 : Int) ≤ 8 by omega) (show (-8 : Int) ≤ 0 ∧ (0 : Int) ≤ 8 by omega) (show (-100000 : Int) ≤ v1 ∧ (v1 : Int) ≤ 100000 by omega) (show (-100000 : Int) ≤ v4 ∧ (v4 : Int) ≤ 100000 by omega) (show (-100000 : Int) ≤ v7 ∧ (v7 : Int) ≤ 100000 by omega) (show (-100000 : Int) ≤ v10 ∧ (v10 : Int) ≤ 100000 by omega) ?_
  intro m B G s1 eB eG bB bG
  show ex_fine fg rc rs (d + 4, (265, 154, [some (eR 98), some (eI (0)), some (eI (0)), some (eI (1)), some (eI (p)), some (eI (q)), some (eI (r)), some (eI (s)), some (eI (0)), some (eI (4))], [eI (rSg (2 * B + G) G)]), f :: F, m)
  refine b_ri rfl rfl ?_
  have hB : B = (-1) * p + 1 * r := by omega
  have hG : G = 1 * s := by omega
  have hr := rSg_ok (x := 2 * B + G) (b := G) (by omega)
  have e9 : 416020 * (2 * B + G) + 930249 * G = (-832040) * p + 832040 * r + 1346269 * s := by omega
  rw [e9] at hr
  exact K m _ s1 hr (rSg_v _ _)
theorem t265_0_1 {fg : eG} {rc rs d : Nat} {f : eFr} {F : List eFr} {μ : eM} {p q r s : Int} (hq : tQ μ) (hp : -9999 ≤ p ∧ p ≤ 9999) (hq0 : -9999 ≤ q ∧ q ≤ 9999) (hr : -9999 ≤ r ∧ r ≤ 9999) (hs : -9999 ≤ s ∧ s ≤ 9999) (K : ∀ (μ2 : eM) (u : Int), tS μ μ2 → ((0 ≤ u ↔ 0 ≤ 832040 * p + 832040 * q + 514229 * r + (-832040)) ∧ (u ≤ 0 ↔ 832040 * p + 832040 * q + 514229 * r + (-832040) ≤ 0)) → (u = 0 ∨ u = 1 ∨ u = -1) → ex_fine fg rc rs (d + 5, (f.1, f.2.1, f.2.2.1, eI u :: f.2.2.2), F, μ2)) : ex_fine fg rc rs (d + 4, (265, 0, [some (eR 98), some (eI (0)), some (eI (1)), some (eI (2)), some (eI (p)), some (eI (q)), some (eI (r)), some (eI (s)), none, none], []), f :: F, μ) := by
  refine w_s (np := 2) (lv' := [some (eR 98), some (eI (0)), some (eI (1)), some (eI (2)), some (eI (p)), some (eI (q)), some (eI (r)), some (eI (s)), none, none]) (st' := [eI (12)]) rfl rfl rfl ?_
  refine w_s (np := 3) (lv' := [some (eR 98), some (eI (0)), some (eI (1)), some (eI (2)), some (eI (p)), some (eI (q)), some (eI (r)), some (eI (s)), none, none]) (st' := [eI (0), eI (12)]) rfl rfl rfl ?_
  refine w_s (np := 4) (lv' := [some (eR 98), some (eI (0)), some (eI (1)), some (eI (2)), some (eI (p)), some (eI (q)), some (eI (r)), some (eI (s)), none, none]) (st' := [eI (0)]) rfl (b_imul rfl) rfl ?_
  refine w_s (np := 5) (lv' := [some (eR 98), some (eI (0)), some (eI (1)), some (eI (2)), some (eI (p)), some (eI (q)), some (eI (r)), some (eI (s)), none, none]) (st' := [eI (4), eI (0)]) rfl rfl rfl ?_
  refine w_s (np := 6) (lv' := [some (eR 98), some (eI (0)), some (eI (1)), some (eI (2)), some (eI (p)), some (eI (q)), some (eI (r)), some (eI (s)), none, none]) (st' := [eI (1), eI (4), eI (0)]) rfl rfl rfl ?_
  refine w_s (np := 7) (lv' := [some (eR 98), some (eI (0)), some (eI (1)), some (eI (2)), some (eI (p)), some (eI (q)), some (eI (r)), some (eI (s)), none, none]) (st' := [eI (4), eI (0)]) rfl (b_imul rfl) rfl ?_
  refine w_s (np := 8) (lv' := [some (eR 98), some (eI (0)), some (eI (1)), some (eI (2)), some (eI (p)), some (eI (q)), some (eI (r)), some (eI (s)), none, none]) (st' := [eI (4)]) rfl (b_iadd rfl) rfl ?_
  refine w_s (np := 10) (lv' := [some (eR 98), some (eI (0)), some (eI (1)), some (eI (2)), some (eI (p)), some (eI (q)), some (eI (r)), some (eI (s)), some (eI (4)), none]) (st' := []) rfl rfl rfl ?_
  refine w_s (np := 12) (lv' := [some (eR 98), some (eI (0)), some (eI (1)), some (eI (2)), some (eI (p)), some (eI (q)), some (eI (r)), some (eI (s)), some (eI (4)), none]) (st' := [eI (12)]) rfl rfl rfl ?_
  refine w_s (np := 13) (lv' := [some (eR 98), some (eI (0)), some (eI (1)), some (eI (2)), some (eI (p)), some (eI (q)), some (eI (r)), some (eI (s)), some (eI (4)), none]) (st' := [eI (0), eI (12)]) rfl rfl rfl ?_
  refine w_s (np := 14) (lv' := [some (eR 98), some (eI (0)), some (eI (1)), some (eI (2)), some (eI (p)), some (eI (q)), some (eI (r)), some (eI (s)), some (eI (4)), none]) (st' := [eI (0)]) rfl (b_imul rfl) rfl ?_
  refine w_s (np := 15) (lv' := [some (eR 98), some (eI (0)), some (eI (1)), some (eI (2)), some (eI (p)), some (eI (q)), some (eI (r)), some (eI (s)), some (eI (4)), none]) (st' := [eI (4), eI (0)]) rfl rfl rfl ?_
  refine w_s (np := 16) (lv' := [some (eR 98), some (eI (0)), some (eI (1)), some (eI (2)), some (eI (p)), some (eI (q)), some (eI (r)), some (eI (s)), some (eI (4)), none]) (st' := [eI (2), eI (4), eI (0)]) rfl rfl rfl ?_
  refine w_s (np := 17) (lv' := [some (eR 98), some (eI (0)), some (eI (1)), some (eI (2)), some (eI (p)), some (eI (q)), some (eI (r)), some (eI (s)), some (eI (4)), none]) (st' := [eI (8), eI (0)]) rfl (b_imul rfl) rfl ?_
  refine w_s (np := 18) (lv' := [some (eR 98), some (eI (0)), some (eI (1)), some (eI (2)), some (eI (p)), some (eI (q)), some (eI (r)), some (eI (s)), some (eI (4)), none]) (st' := [eI (8)]) rfl (b_iadd rfl) rfl ?_
  refine w_s (np := 20) (lv' := [some (eR 98), some (eI (0)), some (eI (1)), some (eI (2)), some (eI (p)), some (eI (q)), some (eI (r)), some (eI (s)), some (eI (4)), some (eI (8))]) (st' := []) rfl rfl rfl ?_
  refine w_s (np := 21) (lv' := [some (eR 98), some (eI (0)), some (eI (1)), some (eI (2)), some (eI (p)), some (eI (q)), some (eI (r)), some (eI (s)), some (eI (4)), some (eI (8))]) (st' := [eR 98]) rfl (s_an rfl (by decide)) rfl ?_
  refine w_s (np := 22) (lv' := [some (eR 98), some (eI (0)), some (eI (1)), some (eI (2)), some (eI (p)), some (eI (q)), some (eI (r)), some (eI (s)), some (eI (4)), some (eI (8))]) (st' := [eR 98, eR 98]) rfl (s_an rfl (by decide)) rfl ?_
  refine w_gf (np := 25) (v := eR 100) rfl rfl hq.1 (by rw [hq.2.1]; rfl) ?_
  refine w_s (np := 27) (lv' := [some (eR 98), some (eI (0)), some (eI (1)), some (eI (2)), some (eI (p)), some (eI (q)), some (eI (r)), some (eI (s)), some (eI (4)), some (eI (8))]) (st' := [eI (8), eR 100, eR 98]) rfl rfl rfl ?_
  refine w_al (np := 28) (v := 1) rfl rfl (t_al (k := 8) hq rfl (by decide) rfl) ?_
  refine w_s (np := 29) (lv' := [some (eR 98), some (eI (0)), some (eI (1)), some (eI (2)), some (eI (p)), some (eI (q)), some (eI (r)), some (eI (s)), some (eI (4)), some (eI (8))]) (st' := [eR 98, eI (1), eR 98]) rfl (s_an rfl (by decide)) rfl ?_
  refine w_gf (np := 32) (v := eR 100) rfl rfl hq.1 (by rw [hq.2.1]; rfl) ?_
  refine w_s (np := 34) (lv' := [some (eR 98), some (eI (0)), some (eI (1)), some (eI (2)), some (eI (p)), some (eI (q)), some (eI (r)), some (eI (s)), some (eI (4)), some (eI (8))]) (st' := [eI (4), eR 100, eI (1), eR 98]) rfl rfl rfl ?_
  refine w_al (np := 35) (v := 0) rfl rfl (t_al (k := 4) hq rfl (by decide) rfl) ?_
  refine w_s (np := 36) (lv' := [some (eR 98), some (eI (0)), some (eI (1)), some (eI (2)), some (eI (p)), some (eI (q)), some (eI (r)), some (eI (s)), some (eI (4)), some (eI (8))]) (st' := [eI (1), eR 98]) rfl (b_isub rfl) rfl ?_
  refine w_s (np := 37) (lv' := [some (eR 98), some (eI (0)), some (eI (1)), some (eI (2)), some (eI (p)), some (eI (q)), some (eI (r)), some (eI (s)), some (eI (4)), some (eI (8))]) (st' := [eJ (1), eR 98]) rfl (b_i2l rfl) rfl ?_
  refine w_s (np := 38) (lv' := [some (eR 98), some (eI (0)), some (eI (1)), some (eI (2)), some (eI (p)), some (eI (q)), some (eI (r)), some (eI (s)), some (eI (4)), some (eI (8))]) (st' := [eR 98, eJ (1), eR 98]) rfl (s_an rfl (by decide)) rfl ?_
  refine w_gf (np := 41) (v := eR 100) rfl rfl hq.1 (by rw [hq.2.1]; rfl) ?_
  refine w_s (np := 43) (lv' := [some (eR 98), some (eI (0)), some (eI (1)), some (eI (2)), some (eI (p)), some (eI (q)), some (eI (r)), some (eI (s)), some (eI (4)), some (eI (8))]) (st' := [eI (8), eR 100, eJ (1), eR 98]) rfl rfl rfl ?_
  refine w_s (np := 44) (lv' := [some (eR 98), some (eI (0)), some (eI (1)), some (eI (2)), some (eI (p)), some (eI (q)), some (eI (r)), some (eI (s)), some (eI (4)), some (eI (8))]) (st' := [eI (1), eI (8), eR 100, eJ (1), eR 98]) rfl rfl rfl ?_
  refine w_s (np := 45) (lv' := [some (eR 98), some (eI (0)), some (eI (1)), some (eI (2)), some (eI (p)), some (eI (q)), some (eI (r)), some (eI (s)), some (eI (4)), some (eI (8))]) (st' := [eI (9), eR 100, eJ (1), eR 98]) rfl (b_iadd rfl) rfl ?_
  refine w_al (np := 46) (v := 0) rfl rfl (t_al (k := 9) hq rfl (by decide) rfl) ?_
  refine w_s (np := 47) (lv' := [some (eR 98), some (eI (0)), some (eI (1)), some (eI (2)), some (eI (p)), some (eI (q)), some (eI (r)), some (eI (s)), some (eI (4)), some (eI (8))]) (st' := [eR 98, eI (0), eJ (1), eR 98]) rfl (s_an rfl (by decide)) rfl ?_
  refine w_gf (np := 50) (v := eR 100) rfl rfl hq.1 (by rw [hq.2.1]; rfl) ?_
  refine w_s (np := 52) (lv' := [some (eR 98), some (eI (0)), some (eI (1)), some (eI (2)), some (eI (p)), some (eI (q)), some (eI (r)), some (eI (s)), some (eI (4)), some (eI (8))]) (st' := [eI (4), eR 100, eI (0), eJ (1), eR 98]) rfl rfl rfl ?_
  refine w_s (np := 53) (lv' := [some (eR 98), some (eI (0)), some (eI (1)), some (eI (2)), some (eI (p)), some (eI (q)), some (eI (r)), some (eI (s)), some (eI (4)), some (eI (8))]) (st' := [eI (1), eI (4), eR 100, eI (0), eJ (1), eR 98]) rfl rfl rfl ?_
  refine w_s (np := 54) (lv' := [some (eR 98), some (eI (0)), some (eI (1)), some (eI (2)), some (eI (p)), some (eI (q)), some (eI (r)), some (eI (s)), some (eI (4)), some (eI (8))]) (st' := [eI (5), eR 100, eI (0), eJ (1), eR 98]) rfl (b_iadd rfl) rfl ?_
  refine w_al (np := 55) (v := 1) rfl rfl (t_al (k := 5) hq rfl (by decide) rfl) ?_
  refine w_s (np := 56) (lv' := [some (eR 98), some (eI (0)), some (eI (1)), some (eI (2)), some (eI (p)), some (eI (q)), some (eI (r)), some (eI (s)), some (eI (4)), some (eI (8))]) (st' := [eI (-1), eJ (1), eR 98]) rfl (b_isub rfl) rfl ?_
  refine w_s (np := 57) (lv' := [some (eR 98), some (eI (0)), some (eI (1)), some (eI (2)), some (eI (p)), some (eI (q)), some (eI (r)), some (eI (s)), some (eI (4)), some (eI (8))]) (st' := [eJ (-1), eJ (1), eR 98]) rfl (b_i2l rfl) rfl ?_
  refine w_s (np := 58) (lv' := [some (eR 98), some (eI (0)), some (eI (1)), some (eI (2)), some (eI (p)), some (eI (q)), some (eI (r)), some (eI (s)), some (eI (4)), some (eI (8))]) (st' := [eR 98, eJ (-1), eJ (1), eR 98]) rfl (s_an rfl (by decide)) rfl ?_
  refine w_gf (np := 61) (v := eR 100) rfl rfl hq.1 (by rw [hq.2.1]; rfl) ?_
  refine w_s (np := 63) (lv' := [some (eR 98), some (eI (0)), some (eI (1)), some (eI (2)), some (eI (p)), some (eI (q)), some (eI (r)), some (eI (s)), some (eI (4)), some (eI (8))]) (st' := [eI (8), eR 100, eJ (-1), eJ (1), eR 98]) rfl rfl rfl ?_
  refine w_s (np := 64) (lv' := [some (eR 98), some (eI (0)), some (eI (1)), some (eI (2)), some (eI (p)), some (eI (q)), some (eI (r)), some (eI (s)), some (eI (4)), some (eI (8))]) (st' := [eI (2), eI (8), eR 100, eJ (-1), eJ (1), eR 98]) rfl rfl rfl ?_
  refine w_s (np := 65) (lv' := [some (eR 98), some (eI (0)), some (eI (1)), some (eI (2)), some (eI (p)), some (eI (q)), some (eI (r)), some (eI (s)), some (eI (4)), some (eI (8))]) (st' := [eI (10), eR 100, eJ (-1), eJ (1), eR 98]) rfl (b_iadd rfl) rfl ?_
  refine w_al (np := 66) (v := 0) rfl rfl (t_al (k := 10) hq rfl (by decide) rfl) ?_
  refine w_s (np := 67) (lv' := [some (eR 98), some (eI (0)), some (eI (1)), some (eI (2)), some (eI (p)), some (eI (q)), some (eI (r)), some (eI (s)), some (eI (4)), some (eI (8))]) (st' := [eR 98, eI (0), eJ (-1), eJ (1), eR 98]) rfl (s_an rfl (by decide)) rfl ?_
  refine w_gf (np := 70) (v := eR 100) rfl rfl hq.1 (by rw [hq.2.1]; rfl) ?_
  refine w_s (np := 72) (lv' := [some (eR 98), some (eI (0)), some (eI (1)), some (eI (2)), some (eI (p)), some (eI (q)), some (eI (r)), some (eI (s)), some (eI (4)), some (eI (8))]) (st' := [eI (4), eR 100, eI (0), eJ (-1), eJ (1), eR 98]) rfl rfl rfl ?_
  refine w_s (np := 73) (lv' := [some (eR 98), some (eI (0)), some (eI (1)), some (eI (2)), some (eI (p)), some (eI (q)), some (eI (r)), some (eI (s)), some (eI (4)), some (eI (8))]) (st' := [eI (2), eI (4), eR 100, eI (0), eJ (-1), eJ (1), eR 98]) rfl rfl rfl ?_
  refine w_s (np := 74) (lv' := [some (eR 98), some (eI (0)), some (eI (1)), some (eI (2)), some (eI (p)), some (eI (q)), some (eI (r)), some (eI (s)), some (eI (4)), some (eI (8))]) (st' := [eI (6), eR 100, eI (0), eJ (-1), eJ (1), eR 98]) rfl (b_iadd rfl) rfl ?_
  refine w_al (np := 75) (v := 0) rfl rfl (t_al (k := 6) hq rfl (by decide) rfl) ?_
  refine w_s (np := 76) (lv' := [some (eR 98), some (eI (0)), some (eI (1)), some (eI (2)), some (eI (p)), some (eI (q)), some (eI (r)), some (eI (s)), some (eI (4)), some (eI (8))]) (st' := [eI (0), eJ (-1), eJ (1), eR 98]) rfl (b_isub rfl) rfl ?_
  refine w_s (np := 77) (lv' := [some (eR 98), some (eI (0)), some (eI (1)), some (eI (2)), some (eI (p)), some (eI (q)), some (eI (r)), some (eI (s)), some (eI (4)), some (eI (8))]) (st' := [eJ (0), eJ (-1), eJ (1), eR 98]) rfl (b_i2l rfl) rfl ?_
  refine w_s (np := 78) (lv' := [some (eR 98), some (eI (0)), some (eI (1)), some (eI (2)), some (eI (p)), some (eI (q)), some (eI (r)), some (eI (s)), some (eI (4)), some (eI (8))]) (st' := [eR 98, eJ (0), eJ (-1), eJ (1), eR 98]) rfl (s_an rfl (by decide)) rfl ?_
  refine w_gf (np := 81) (v := eR 100) rfl rfl hq.1 (by rw [hq.2.1]; rfl) ?_
  refine w_s (np := 83) (lv' := [some (eR 98), some (eI (0)), some (eI (1)), some (eI (2)), some (eI (p)), some (eI (q)), some (eI (r)), some (eI (s)), some (eI (4)), some (eI (8))]) (st' := [eI (8), eR 100, eJ (0), eJ (-1), eJ (1), eR 98]) rfl rfl rfl ?_
  refine w_s (np := 84) (lv' := [some (eR 98), some (eI (0)), some (eI (1)), some (eI (2)), some (eI (p)), some (eI (q)), some (eI (r)), some (eI (s)), some (eI (4)), some (eI (8))]) (st' := [eI (3), eI (8), eR 100, eJ (0), eJ (-1), eJ (1), eR 98]) rfl rfl rfl ?_
  refine w_s (np := 85) (lv' := [some (eR 98), some (eI (0)), some (eI (1)), some (eI (2)), some (eI (p)), some (eI (q)), some (eI (r)), some (eI (s)), some (eI (4)), some (eI (8))]) (st' := [eI (11), eR 100, eJ (0), eJ (-1), eJ (1), eR 98]) rfl (b_iadd rfl) rfl ?_
  refine w_al (np := 86) (v := 0) rfl rfl (t_al (k := 11) hq rfl (by decide) rfl) ?_
  refine w_s (np := 87) (lv' := [some (eR 98), some (eI (0)), some (eI (1)), some (eI (2)), some (eI (p)), some (eI (q)), some (eI (r)), some (eI (s)), some (eI (4)), some (eI (8))]) (st' := [eR 98, eI (0), eJ (0), eJ (-1), eJ (1), eR 98]) rfl (s_an rfl (by decide)) rfl ?_
  refine w_gf (np := 90) (v := eR 100) rfl rfl hq.1 (by rw [hq.2.1]; rfl) ?_
  refine w_s (np := 92) (lv' := [some (eR 98), some (eI (0)), some (eI (1)), some (eI (2)), some (eI (p)), some (eI (q)), some (eI (r)), some (eI (s)), some (eI (4)), some (eI (8))]) (st' := [eI (4), eR 100, eI (0), eJ (0), eJ (-1), eJ (1), eR 98]) rfl rfl rfl ?_
  refine w_s (np := 93) (lv' := [some (eR 98), some (eI (0)), some (eI (1)), some (eI (2)), some (eI (p)), some (eI (q)), some (eI (r)), some (eI (s)), some (eI (4)), some (eI (8))]) (st' := [eI (3), eI (4), eR 100, eI (0), eJ (0), eJ (-1), eJ (1), eR 98]) rfl rfl rfl ?_
  refine w_s (np := 94) (lv' := [some (eR 98), some (eI (0)), some (eI (1)), some (eI (2)), some (eI (p)), some (eI (q)), some (eI (r)), some (eI (s)), some (eI (4)), some (eI (8))]) (st' := [eI (7), eR 100, eI (0), eJ (0), eJ (-1), eJ (1), eR 98]) rfl (b_iadd rfl) rfl ?_
  refine w_al (np := 95) (v := 0) rfl rfl (t_al (k := 7) hq rfl (by decide) rfl) ?_
  refine w_s (np := 96) (lv' := [some (eR 98), some (eI (0)), some (eI (1)), some (eI (2)), some (eI (p)), some (eI (q)), some (eI (r)), some (eI (s)), some (eI (4)), some (eI (8))]) (st' := [eI (0), eJ (0), eJ (-1), eJ (1), eR 98]) rfl (b_isub rfl) rfl ?_
  refine w_s (np := 97) (lv' := [some (eR 98), some (eI (0)), some (eI (1)), some (eI (2)), some (eI (p)), some (eI (q)), some (eI (r)), some (eI (s)), some (eI (4)), some (eI (8))]) (st' := [eJ (0), eJ (0), eJ (-1), eJ (1), eR 98]) rfl (b_i2l rfl) rfl ?_
  refine w_s (np := 99) (lv' := [some (eR 98), some (eI (0)), some (eI (1)), some (eI (2)), some (eI (p)), some (eI (q)), some (eI (r)), some (eI (s)), some (eI (4)), some (eI (8))]) (st' := [eI (p), eJ (0), eJ (0), eJ (-1), eJ (1), eR 98]) rfl rfl rfl ?_
  refine w_s (np := 100) (lv' := [some (eR 98), some (eI (0)), some (eI (1)), some (eI (2)), some (eI (p)), some (eI (q)), some (eI (r)), some (eI (s)), some (eI (4)), some (eI (8))]) (st' := [eJ (p), eJ (0), eJ (0), eJ (-1), eJ (1), eR 98]) rfl (b_i2l (ev_w_in (by omega) (by omega))) rfl ?_
  refine w_s (np := 101) (lv' := [some (eR 98), some (eI (0)), some (eI (1)), some (eI (2)), some (eI (p)), some (eI (q)), some (eI (r)), some (eI (s)), some (eI (4)), some (eI (8))]) (st' := [eR 98, eJ (p), eJ (0), eJ (0), eJ (-1), eJ (1), eR 98]) rfl (s_an rfl (by decide)) rfl ?_
  refine w_gf (np := 104) (v := eR 100) rfl rfl hq.1 (by rw [hq.2.1]; rfl) ?_
  refine w_s (np := 106) (lv' := [some (eR 98), some (eI (0)), some (eI (1)), some (eI (2)), some (eI (p)), some (eI (q)), some (eI (r)), some (eI (s)), some (eI (4)), some (eI (8))]) (st' := [eI (4), eR 100, eJ (p), eJ (0), eJ (0), eJ (-1), eJ (1), eR 98]) rfl rfl rfl ?_
  refine w_al (np := 107) (v := 0) rfl rfl (t_al (k := 4) hq rfl (by decide) rfl) ?_
  refine w_s (np := 108) (lv' := [some (eR 98), some (eI (0)), some (eI (1)), some (eI (2)), some (eI (p)), some (eI (q)), some (eI (r)), some (eI (s)), some (eI (4)), some (eI (8))]) (st' := [eJ (0), eJ (p), eJ (0), eJ (0), eJ (-1), eJ (1), eR 98]) rfl (b_i2l rfl) rfl ?_
  obtain ⟨v1, e2⟩ : ∃ v : Int, v = (p) - (0) := ⟨_, rfl⟩
  have b3 : -9999 ≤ v1 ∧ v1 ≤ 9999 := by omega
  refine w_s (np := 109) (lv' := [some (eR 98), some (eI (0)), some (eI (1)), some (eI (2)), some (eI (p)), some (eI (q)), some (eI (r)), some (eI (s)), some (eI (4)), some (eI (8))]) (st' := [eJ (v1), eJ (0), eJ (0), eJ (-1), eJ (1), eR 98]) rfl (b_lsub (by rw [← e2]; exact ev_W_in (by omega) (by omega))) rfl ?_
  refine w_s (np := 111) (lv' := [some (eR 98), some (eI (0)), some (eI (1)), some (eI (2)), some (eI (p)), some (eI (q)), some (eI (r)), some (eI (s)), some (eI (4)), some (eI (8))]) (st' := [eI (q), eJ (v1), eJ (0), eJ (0), eJ (-1), eJ (1), eR 98]) rfl rfl rfl ?_
  refine w_s (np := 112) (lv' := [some (eR 98), some (eI (0)), some (eI (1)), some (eI (2)), some (eI (p)), some (eI (q)), some (eI (r)), some (eI (s)), some (eI (4)), some (eI (8))]) (st' := [eJ (q), eJ (v1), eJ (0), eJ (0), eJ (-1), eJ (1), eR 98]) rfl (b_i2l (ev_w_in (by omega) (by omega))) rfl ?_
  refine w_s (np := 113) (lv' := [some (eR 98), some (eI (0)), some (eI (1)), some (eI (2)), some (eI (p)), some (eI (q)), some (eI (r)), some (eI (s)), some (eI (4)), some (eI (8))]) (st' := [eR 98, eJ (q), eJ (v1), eJ (0), eJ (0), eJ (-1), eJ (1), eR 98]) rfl (s_an rfl (by decide)) rfl ?_
  refine w_gf (np := 116) (v := eR 100) rfl rfl hq.1 (by rw [hq.2.1]; rfl) ?_
  refine w_s (np := 118) (lv' := [some (eR 98), some (eI (0)), some (eI (1)), some (eI (2)), some (eI (p)), some (eI (q)), some (eI (r)), some (eI (s)), some (eI (4)), some (eI (8))]) (st' := [eI (4), eR 100, eJ (q), eJ (v1), eJ (0), eJ (0), eJ (-1), eJ (1), eR 98]) rfl rfl rfl ?_
  refine w_s (np := 119) (lv' := [some (eR 98), some (eI (0)), some (eI (1)), some (eI (2)), some (eI (p)), some (eI (q)), some (eI (r)), some (eI (s)), some (eI (4)), some (eI (8))]) (st' := [eI (1), eI (4), eR 100, eJ (q), eJ (v1), eJ (0), eJ (0), eJ (-1), eJ (1), eR 98]) rfl rfl rfl ?_
  refine w_s (np := 120) (lv' := [some (eR 98), some (eI (0)), some (eI (1)), some (eI (2)), some (eI (p)), some (eI (q)), some (eI (r)), some (eI (s)), some (eI (4)), some (eI (8))]) (st' := [eI (5), eR 100, eJ (q), eJ (v1), eJ (0), eJ (0), eJ (-1), eJ (1), eR 98]) rfl (b_iadd rfl) rfl ?_
  refine w_al (np := 121) (v := 1) rfl rfl (t_al (k := 5) hq rfl (by decide) rfl) ?_
  refine w_s (np := 122) (lv' := [some (eR 98), some (eI (0)), some (eI (1)), some (eI (2)), some (eI (p)), some (eI (q)), some (eI (r)), some (eI (s)), some (eI (4)), some (eI (8))]) (st' := [eJ (1), eJ (q), eJ (v1), eJ (0), eJ (0), eJ (-1), eJ (1), eR 98]) rfl (b_i2l rfl) rfl ?_
  obtain ⟨v4, e5⟩ : ∃ v : Int, v = (q) - (1) := ⟨_, rfl⟩
  have b6 : -10000 ≤ v4 ∧ v4 ≤ 9998 := by omega
  refine w_s (np := 123) (lv' := [some (eR 98), some (eI (0)), some (eI (1)), some (eI (2)), some (eI (p)), some (eI (q)), some (eI (r)), some (eI (s)), some (eI (4)), some (eI (8))]) (st' := [eJ (v4), eJ (v1), eJ (0), eJ (0), eJ (-1), eJ (1), eR 98]) rfl (b_lsub (by rw [← e5]; exact ev_W_in (by omega) (by omega))) rfl ?_
  refine w_s (np := 125) (lv' := [some (eR 98), some (eI (0)), some (eI (1)), some (eI (2)), some (eI (p)), some (eI (q)), some (eI (r)), some (eI (s)), some (eI (4)), some (eI (8))]) (st' := [eI (r), eJ (v4), eJ (v1), eJ (0), eJ (0), eJ (-1), eJ (1), eR 98]) rfl rfl rfl ?_
  refine w_s (np := 126) (lv' := [some (eR 98), some (eI (0)), some (eI (1)), some (eI (2)), some (eI (p)), some (eI (q)), some (eI (r)), some (eI (s)), some (eI (4)), some (eI (8))]) (st' := [eJ (r), eJ (v4), eJ (v1), eJ (0), eJ (0), eJ (-1), eJ (1), eR 98]) rfl (b_i2l (ev_w_in (by omega) (by omega))) rfl ?_
  refine w_s (np := 127) (lv' := [some (eR 98), some (eI (0)), some (eI (1)), some (eI (2)), some (eI (p)), some (eI (q)), some (eI (r)), some (eI (s)), some (eI (4)), some (eI (8))]) (st' := [eR 98, eJ (r), eJ (v4), eJ (v1), eJ (0), eJ (0), eJ (-1), eJ (1), eR 98]) rfl (s_an rfl (by decide)) rfl ?_
  refine w_gf (np := 130) (v := eR 100) rfl rfl hq.1 (by rw [hq.2.1]; rfl) ?_
  refine w_s (np := 132) (lv' := [some (eR 98), some (eI (0)), some (eI (1)), some (eI (2)), some (eI (p)), some (eI (q)), some (eI (r)), some (eI (s)), some (eI (4)), some (eI (8))]) (st' := [eI (4), eR 100, eJ (r), eJ (v4), eJ (v1), eJ (0), eJ (0), eJ (-1), eJ (1), eR 98]) rfl rfl rfl ?_
  refine w_s (np := 133) (lv' := [some (eR 98), some (eI (0)), some (eI (1)), some (eI (2)), some (eI (p)), some (eI (q)), some (eI (r)), some (eI (s)), some (eI (4)), some (eI (8))]) (st' := [eI (2), eI (4), eR 100, eJ (r), eJ (v4), eJ (v1), eJ (0), eJ (0), eJ (-1), eJ (1), eR 98]) rfl rfl rfl ?_
  refine w_s (np := 134) (lv' := [some (eR 98), some (eI (0)), some (eI (1)), some (eI (2)), some (eI (p)), some (eI (q)), some (eI (r)), some (eI (s)), some (eI (4)), some (eI (8))]) (st' := [eI (6), eR 100, eJ (r), eJ (v4), eJ (v1), eJ (0), eJ (0), eJ (-1), eJ (1), eR 98]) rfl (b_iadd rfl) rfl ?_
  refine w_al (np := 135) (v := 0) rfl rfl (t_al (k := 6) hq rfl (by decide) rfl) ?_
  refine w_s (np := 136) (lv' := [some (eR 98), some (eI (0)), some (eI (1)), some (eI (2)), some (eI (p)), some (eI (q)), some (eI (r)), some (eI (s)), some (eI (4)), some (eI (8))]) (st' := [eJ (0), eJ (r), eJ (v4), eJ (v1), eJ (0), eJ (0), eJ (-1), eJ (1), eR 98]) rfl (b_i2l rfl) rfl ?_
  obtain ⟨v7, e8⟩ : ∃ v : Int, v = (r) - (0) := ⟨_, rfl⟩
  have b9 : -9999 ≤ v7 ∧ v7 ≤ 9999 := by omega
  refine w_s (np := 137) (lv' := [some (eR 98), some (eI (0)), some (eI (1)), some (eI (2)), some (eI (p)), some (eI (q)), some (eI (r)), some (eI (s)), some (eI (4)), some (eI (8))]) (st' := [eJ (v7), eJ (v4), eJ (v1), eJ (0), eJ (0), eJ (-1), eJ (1), eR 98]) rfl (b_lsub (by rw [← e8]; exact ev_W_in (by omega) (by omega))) rfl ?_
  refine w_s (np := 139) (lv' := [some (eR 98), some (eI (0)), some (eI (1)), some (eI (2)), some (eI (p)), some (eI (q)), some (eI (r)), some (eI (s)), some (eI (4)), some (eI (8))]) (st' := [eI (s), eJ (v7), eJ (v4), eJ (v1), eJ (0), eJ (0), eJ (-1), eJ (1), eR 98]) rfl rfl rfl ?_
  refine w_s (np := 140) (lv' := [some (eR 98), some (eI (0)), some (eI (1)), some (eI (2)), some (eI (p)), some (eI (q)), some (eI (r)), some (eI (s)), some (eI (4)), some (eI (8))]) (st' := [eJ (s), eJ (v7), eJ (v4), eJ (v1), eJ (0), eJ (0), eJ (-1), eJ (1), eR 98]) rfl (b_i2l (ev_w_in (by omega) (by omega))) rfl ?_
  refine w_s (np := 141) (lv' := [some (eR 98), some (eI (0)), some (eI (1)), some (eI (2)), some (eI (p)), some (eI (q)), some (eI (r)), some (eI (s)), some (eI (4)), some (eI (8))]) (st' := [eR 98, eJ (s), eJ (v7), eJ (v4), eJ (v1), eJ (0), eJ (0), eJ (-1), eJ (1), eR 98]) rfl (s_an rfl (by decide)) rfl ?_
  refine w_gf (np := 144) (v := eR 100) rfl rfl hq.1 (by rw [hq.2.1]; rfl) ?_
  refine w_s (np := 146) (lv' := [some (eR 98), some (eI (0)), some (eI (1)), some (eI (2)), some (eI (p)), some (eI (q)), some (eI (r)), some (eI (s)), some (eI (4)), some (eI (8))]) (st' := [eI (4), eR 100, eJ (s), eJ (v7), eJ (v4), eJ (v1), eJ (0), eJ (0), eJ (-1), eJ (1), eR 98]) rfl rfl rfl ?_
  refine w_s (np := 147) (lv' := [some (eR 98), some (eI (0)), some (eI (1)), some (eI (2)), some (eI (p)), some (eI (q)), some (eI (r)), some (eI (s)), some (eI (4)), some (eI (8))]) (st' := [eI (3), eI (4), eR 100, eJ (s), eJ (v7), eJ (v4), eJ (v1), eJ (0), eJ (0), eJ (-1), eJ (1), eR 98]) rfl rfl rfl ?_
  refine w_s (np := 148) (lv' := [some (eR 98), some (eI (0)), some (eI (1)), some (eI (2)), some (eI (p)), some (eI (q)), some (eI (r)), some (eI (s)), some (eI (4)), some (eI (8))]) (st' := [eI (7), eR 100, eJ (s), eJ (v7), eJ (v4), eJ (v1), eJ (0), eJ (0), eJ (-1), eJ (1), eR 98]) rfl (b_iadd rfl) rfl ?_
  refine w_al (np := 149) (v := 0) rfl rfl (t_al (k := 7) hq rfl (by decide) rfl) ?_
  refine w_s (np := 150) (lv' := [some (eR 98), some (eI (0)), some (eI (1)), some (eI (2)), some (eI (p)), some (eI (q)), some (eI (r)), some (eI (s)), some (eI (4)), some (eI (8))]) (st' := [eJ (0), eJ (s), eJ (v7), eJ (v4), eJ (v1), eJ (0), eJ (0), eJ (-1), eJ (1), eR 98]) rfl (b_i2l rfl) rfl ?_
  obtain ⟨v10, e11⟩ : ∃ v : Int, v = (s) - (0) := ⟨_, rfl⟩
  have b12 : -9999 ≤ v10 ∧ v10 ≤ 9999 := by omega
  refine w_s (np := 151) (lv' := [some (eR 98), some (eI (0)), some (eI (1)), some (eI (2)), some (eI (p)), some (eI (q)), some (eI (r)), some (eI (s)), some (eI (4)), some (eI (8))]) (st' := [eJ (v10), eJ (v7), eJ (v4), eJ (v1), eJ (0), eJ (0), eJ (-1), eJ (1), eR 98]) rfl (b_lsub (by rw [← e11]; exact ev_W_in (by omega) (by omega))) rfl ?_
  refine w_cv (np := 154) (as := [eJ (1), eJ (-1), eJ (0), eJ (0), eJ (v1), eJ (v4), eJ (v7), eJ (v10)]) (lv' := [some (eR 98), some (eJ (1)), none, some (eJ (-1)), none, some (eJ (0)), none, some (eJ (0)), none, some (eJ (v1)), none, some (eJ (v4)), none, some (eJ (v7)), none, some (eJ (v10)), none]) (rest := []) rfl rfl rfl (Nat.ble_eq.mp rfl) rfl rfl rfl hq.1 rfl ?_
  refine t224 hq.1 (show (-8 : Int) ≤ 1 ∧ (1 : Int) ≤ 8 by omega) (show (-8 : Int) ≤ -1 ∧ (-1 : Int) ≤ 8 by omega) (show (-8 : Int) ≤ 0 ∧ (0 : Int) ≤ 8 by omega) (show (-8 : Int) ≤ 0 ∧ (0 : Int) ≤ 8 by omega) (show (-100000 : Int) ≤ v1 ∧ (v1 : Int) ≤ 100000 by omega) (show (-100000 : Int) ≤ v4 ∧ (v4 : Int) ≤ 100000 by omega) (show (-100000 : Int) ≤ v7 ∧ (v7 : Int) ≤ 100000 by omega) (show (-100000 : Int) ≤ v10 ∧ (v10 : Int) ≤ 100000 by omega) ?_
  intro m B G s1 eB eG bB bG
  show ex_fine fg rc rs (d + 4, (265, 154, [some (eR 98), some (eI (0)), some (eI (1)), some (eI (2)), some (eI (p)), some (eI (q)), some (eI (r)), some (eI (s)), some (eI (4)), some (eI (8))], [eI (rSg (2 * B + G) G)]), f :: F, m)
  refine b_ri rfl rfl ?_
  have hB : B = 1 * p + 1 * q + (-1) * r + (-1) := by omega
  have hG : G = 1 * r := by omega
  have hr := rSg_ok (x := 2 * B + G) (b := G) (by omega)
  have e9 : 416020 * (2 * B + G) + 930249 * G = 832040 * p + 832040 * q + 514229 * r + (-832040) := by omega
  rw [e9] at hr
  exact K m _ s1 hr (rSg_v _ _)
theorem t265_0_2 {fg : eG} {rc rs d : Nat} {f : eFr} {F : List eFr} {μ : eM} {p q r s : Int} (hq : tQ μ) (hp : -9999 ≤ p ∧ p ≤ 9999) (hq0 : -9999 ≤ q ∧ q ≤ 9999) (hr : -9999 ≤ r ∧ r ≤ 9999) (hs : -9999 ≤ s ∧ s ≤ 9999) (K : ∀ (μ2 : eM) (u : Int), tS μ μ2 → ((0 ≤ u ↔ 0 ≤ (-832040) * q + (-1346269) * r + (-1346269) * s) ∧ (u ≤ 0 ↔ (-832040) * q + (-1346269) * r + (-1346269) * s ≤ 0)) → (u = 0 ∨ u = 1 ∨ u = -1) → ex_fine fg rc rs (d + 5, (f.1, f.2.1, f.2.2.1, eI u :: f.2.2.2), F, μ2)) : ex_fine fg rc rs (d + 4, (265, 0, [some (eR 98), some (eI (0)), some (eI (2)), some (eI (0)), some (eI (p)), some (eI (q)), some (eI (r)), some (eI (s)), none, none], []), f :: F, μ) := by
  refine w_s (np := 2) (lv' := [some (eR 98), some (eI (0)), some (eI (2)), some (eI (0)), some (eI (p)), some (eI (q)), some (eI (r)), some (eI (s)), none, none]) (st' := [eI (12)]) rfl rfl rfl ?_
  refine w_s (np := 3) (lv' := [some (eR 98), some (eI (0)), some (eI (2)), some (eI (0)), some (eI (p)), some (eI (q)), some (eI (r)), some (eI (s)), none, none]) (st' := [eI (0), eI (12)]) rfl rfl rfl ?_
  refine w_s (np := 4) (lv' := [some (eR 98), some (eI (0)), some (eI (2)), some (eI (0)), some (eI (p)), some (eI (q)), some (eI (r)), some (eI (s)), none, none]) (st' := [eI (0)]) rfl (b_imul rfl) rfl ?_
  refine w_s (np := 5) (lv' := [some (eR 98), some (eI (0)), some (eI (2)), some (eI (0)), some (eI (p)), some (eI (q)), some (eI (r)), some (eI (s)), none, none]) (st' := [eI (4), eI (0)]) rfl rfl rfl ?_
  refine w_s (np := 6) (lv' := [some (eR 98), some (eI (0)), some (eI (2)), some (eI (0)), some (eI (p)), some (eI (q)), some (eI (r)), some (eI (s)), none, none]) (st' := [eI (2), eI (4), eI (0)]) rfl rfl rfl ?_
  refine w_s (np := 7) (lv' := [some (eR 98), some (eI (0)), some (eI (2)), some (eI (0)), some (eI (p)), some (eI (q)), some (eI (r)), some (eI (s)), none, none]) (st' := [eI (8), eI (0)]) rfl (b_imul rfl) rfl ?_
  refine w_s (np := 8) (lv' := [some (eR 98), some (eI (0)), some (eI (2)), some (eI (0)), some (eI (p)), some (eI (q)), some (eI (r)), some (eI (s)), none, none]) (st' := [eI (8)]) rfl (b_iadd rfl) rfl ?_
  refine w_s (np := 10) (lv' := [some (eR 98), some (eI (0)), some (eI (2)), some (eI (0)), some (eI (p)), some (eI (q)), some (eI (r)), some (eI (s)), some (eI (8)), none]) (st' := []) rfl rfl rfl ?_
  refine w_s (np := 12) (lv' := [some (eR 98), some (eI (0)), some (eI (2)), some (eI (0)), some (eI (p)), some (eI (q)), some (eI (r)), some (eI (s)), some (eI (8)), none]) (st' := [eI (12)]) rfl rfl rfl ?_
  refine w_s (np := 13) (lv' := [some (eR 98), some (eI (0)), some (eI (2)), some (eI (0)), some (eI (p)), some (eI (q)), some (eI (r)), some (eI (s)), some (eI (8)), none]) (st' := [eI (0), eI (12)]) rfl rfl rfl ?_
  refine w_s (np := 14) (lv' := [some (eR 98), some (eI (0)), some (eI (2)), some (eI (0)), some (eI (p)), some (eI (q)), some (eI (r)), some (eI (s)), some (eI (8)), none]) (st' := [eI (0)]) rfl (b_imul rfl) rfl ?_
  refine w_s (np := 15) (lv' := [some (eR 98), some (eI (0)), some (eI (2)), some (eI (0)), some (eI (p)), some (eI (q)), some (eI (r)), some (eI (s)), some (eI (8)), none]) (st' := [eI (4), eI (0)]) rfl rfl rfl ?_
  refine w_s (np := 16) (lv' := [some (eR 98), some (eI (0)), some (eI (2)), some (eI (0)), some (eI (p)), some (eI (q)), some (eI (r)), some (eI (s)), some (eI (8)), none]) (st' := [eI (0), eI (4), eI (0)]) rfl rfl rfl ?_
  refine w_s (np := 17) (lv' := [some (eR 98), some (eI (0)), some (eI (2)), some (eI (0)), some (eI (p)), some (eI (q)), some (eI (r)), some (eI (s)), some (eI (8)), none]) (st' := [eI (0), eI (0)]) rfl (b_imul rfl) rfl ?_
  refine w_s (np := 18) (lv' := [some (eR 98), some (eI (0)), some (eI (2)), some (eI (0)), some (eI (p)), some (eI (q)), some (eI (r)), some (eI (s)), some (eI (8)), none]) (st' := [eI (0)]) rfl (b_iadd rfl) rfl ?_
  refine w_s (np := 20) (lv' := [some (eR 98), some (eI (0)), some (eI (2)), some (eI (0)), some (eI (p)), some (eI (q)), some (eI (r)), some (eI (s)), some (eI (8)), some (eI (0))]) (st' := []) rfl rfl rfl ?_
  refine w_s (np := 21) (lv' := [some (eR 98), some (eI (0)), some (eI (2)), some (eI (0)), some (eI (p)), some (eI (q)), some (eI (r)), some (eI (s)), some (eI (8)), some (eI (0))]) (st' := [eR 98]) rfl (s_an rfl (by decide)) rfl ?_
  refine w_s (np := 22) (lv' := [some (eR 98), some (eI (0)), some (eI (2)), some (eI (0)), some (eI (p)), some (eI (q)), some (eI (r)), some (eI (s)), some (eI (8)), some (eI (0))]) (st' := [eR 98, eR 98]) rfl (s_an rfl (by decide)) rfl ?_
  refine w_gf (np := 25) (v := eR 100) rfl rfl hq.1 (by rw [hq.2.1]; rfl) ?_
  refine w_s (np := 27) (lv' := [some (eR 98), some (eI (0)), some (eI (2)), some (eI (0)), some (eI (p)), some (eI (q)), some (eI (r)), some (eI (s)), some (eI (8)), some (eI (0))]) (st' := [eI (0), eR 100, eR 98]) rfl rfl rfl ?_
  refine w_al (np := 28) (v := 0) rfl rfl (t_al (k := 0) hq rfl (by decide) rfl) ?_
  refine w_s (np := 29) (lv' := [some (eR 98), some (eI (0)), some (eI (2)), some (eI (0)), some (eI (p)), some (eI (q)), some (eI (r)), some (eI (s)), some (eI (8)), some (eI (0))]) (st' := [eR 98, eI (0), eR 98]) rfl (s_an rfl (by decide)) rfl ?_
  refine w_gf (np := 32) (v := eR 100) rfl rfl hq.1 (by rw [hq.2.1]; rfl) ?_
  refine w_s (np := 34) (lv' := [some (eR 98), some (eI (0)), some (eI (2)), some (eI (0)), some (eI (p)), some (eI (q)), some (eI (r)), some (eI (s)), some (eI (8)), some (eI (0))]) (st' := [eI (8), eR 100, eI (0), eR 98]) rfl rfl rfl ?_
  refine w_al (np := 35) (v := 1) rfl rfl (t_al (k := 8) hq rfl (by decide) rfl) ?_
  refine w_s (np := 36) (lv' := [some (eR 98), some (eI (0)), some (eI (2)), some (eI (0)), some (eI (p)), some (eI (q)), some (eI (r)), some (eI (s)), some (eI (8)), some (eI (0))]) (st' := [eI (-1), eR 98]) rfl (b_isub rfl) rfl ?_
  refine w_s (np := 37) (lv' := [some (eR 98), some (eI (0)), some (eI (2)), some (eI (0)), some (eI (p)), some (eI (q)), some (eI (r)), some (eI (s)), some (eI (8)), some (eI (0))]) (st' := [eJ (-1), eR 98]) rfl (b_i2l rfl) rfl ?_
  refine w_s (np := 38) (lv' := [some (eR 98), some (eI (0)), some (eI (2)), some (eI (0)), some (eI (p)), some (eI (q)), some (eI (r)), some (eI (s)), some (eI (8)), some (eI (0))]) (st' := [eR 98, eJ (-1), eR 98]) rfl (s_an rfl (by decide)) rfl ?_
  refine w_gf (np := 41) (v := eR 100) rfl rfl hq.1 (by rw [hq.2.1]; rfl) ?_
  refine w_s (np := 43) (lv' := [some (eR 98), some (eI (0)), some (eI (2)), some (eI (0)), some (eI (p)), some (eI (q)), some (eI (r)), some (eI (s)), some (eI (8)), some (eI (0))]) (st' := [eI (0), eR 100, eJ (-1), eR 98]) rfl rfl rfl ?_
  refine w_s (np := 44) (lv' := [some (eR 98), some (eI (0)), some (eI (2)), some (eI (0)), some (eI (p)), some (eI (q)), some (eI (r)), some (eI (s)), some (eI (8)), some (eI (0))]) (st' := [eI (1), eI (0), eR 100, eJ (-1), eR 98]) rfl rfl rfl ?_
  refine w_s (np := 45) (lv' := [some (eR 98), some (eI (0)), some (eI (2)), some (eI (0)), some (eI (p)), some (eI (q)), some (eI (r)), some (eI (s)), some (eI (8)), some (eI (0))]) (st' := [eI (1), eR 100, eJ (-1), eR 98]) rfl (b_iadd rfl) rfl ?_
  refine w_al (np := 46) (v := 0) rfl rfl (t_al (k := 1) hq rfl (by decide) rfl) ?_
  refine w_s (np := 47) (lv' := [some (eR 98), some (eI (0)), some (eI (2)), some (eI (0)), some (eI (p)), some (eI (q)), some (eI (r)), some (eI (s)), some (eI (8)), some (eI (0))]) (st' := [eR 98, eI (0), eJ (-1), eR 98]) rfl (s_an rfl (by decide)) rfl ?_
  refine w_gf (np := 50) (v := eR 100) rfl rfl hq.1 (by rw [hq.2.1]; rfl) ?_
  refine w_s (np := 52) (lv' := [some (eR 98), some (eI (0)), some (eI (2)), some (eI (0)), some (eI (p)), some (eI (q)), some (eI (r)), some (eI (s)), some (eI (8)), some (eI (0))]) (st' := [eI (8), eR 100, eI (0), eJ (-1), eR 98]) rfl rfl rfl ?_
  refine w_s (np := 53) (lv' := [some (eR 98), some (eI (0)), some (eI (2)), some (eI (0)), some (eI (p)), some (eI (q)), some (eI (r)), some (eI (s)), some (eI (8)), some (eI (0))]) (st' := [eI (1), eI (8), eR 100, eI (0), eJ (-1), eR 98]) rfl rfl rfl ?_
  refine w_s (np := 54) (lv' := [some (eR 98), some (eI (0)), some (eI (2)), some (eI (0)), some (eI (p)), some (eI (q)), some (eI (r)), some (eI (s)), some (eI (8)), some (eI (0))]) (st' := [eI (9), eR 100, eI (0), eJ (-1), eR 98]) rfl (b_iadd rfl) rfl ?_
  refine w_al (np := 55) (v := 0) rfl rfl (t_al (k := 9) hq rfl (by decide) rfl) ?_
  refine w_s (np := 56) (lv' := [some (eR 98), some (eI (0)), some (eI (2)), some (eI (0)), some (eI (p)), some (eI (q)), some (eI (r)), some (eI (s)), some (eI (8)), some (eI (0))]) (st' := [eI (0), eJ (-1), eR 98]) rfl (b_isub rfl) rfl ?_
  refine w_s (np := 57) (lv' := [some (eR 98), some (eI (0)), some (eI (2)), some (eI (0)), some (eI (p)), some (eI (q)), some (eI (r)), some (eI (s)), some (eI (8)), some (eI (0))]) (st' := [eJ (0), eJ (-1), eR 98]) rfl (b_i2l rfl) rfl ?_
  refine w_s (np := 58) (lv' := [some (eR 98), some (eI (0)), some (eI (2)), some (eI (0)), some (eI (p)), some (eI (q)), some (eI (r)), some (eI (s)), some (eI (8)), some (eI (0))]) (st' := [eR 98, eJ (0), eJ (-1), eR 98]) rfl (s_an rfl (by decide)) rfl ?_
  refine w_gf (np := 61) (v := eR 100) rfl rfl hq.1 (by rw [hq.2.1]; rfl) ?_
  refine w_s (np := 63) (lv' := [some (eR 98), some (eI (0)), some (eI (2)), some (eI (0)), some (eI (p)), some (eI (q)), some (eI (r)), some (eI (s)), some (eI (8)), some (eI (0))]) (st' := [eI (0), eR 100, eJ (0), eJ (-1), eR 98]) rfl rfl rfl ?_
  refine w_s (np := 64) (lv' := [some (eR 98), some (eI (0)), some (eI (2)), some (eI (0)), some (eI (p)), some (eI (q)), some (eI (r)), some (eI (s)), some (eI (8)), some (eI (0))]) (st' := [eI (2), eI (0), eR 100, eJ (0), eJ (-1), eR 98]) rfl rfl rfl ?_
  refine w_s (np := 65) (lv' := [some (eR 98), some (eI (0)), some (eI (2)), some (eI (0)), some (eI (p)), some (eI (q)), some (eI (r)), some (eI (s)), some (eI (8)), some (eI (0))]) (st' := [eI (2), eR 100, eJ (0), eJ (-1), eR 98]) rfl (b_iadd rfl) rfl ?_
  refine w_al (np := 66) (v := 0) rfl rfl (t_al (k := 2) hq rfl (by decide) rfl) ?_
  refine w_s (np := 67) (lv' := [some (eR 98), some (eI (0)), some (eI (2)), some (eI (0)), some (eI (p)), some (eI (q)), some (eI (r)), some (eI (s)), some (eI (8)), some (eI (0))]) (st' := [eR 98, eI (0), eJ (0), eJ (-1), eR 98]) rfl (s_an rfl (by decide)) rfl ?_
  refine w_gf (np := 70) (v := eR 100) rfl rfl hq.1 (by rw [hq.2.1]; rfl) ?_
  refine w_s (np := 72) (lv' := [some (eR 98), some (eI (0)), some (eI (2)), some (eI (0)), some (eI (p)), some (eI (q)), some (eI (r)), some (eI (s)), some (eI (8)), some (eI (0))]) (st' := [eI (8), eR 100, eI (0), eJ (0), eJ (-1), eR 98]) rfl rfl rfl ?_
  refine w_s (np := 73) (lv' := [some (eR 98), some (eI (0)), some (eI (2)), some (eI (0)), some (eI (p)), some (eI (q)), some (eI (r)), some (eI (s)), some (eI (8)), some (eI (0))]) (st' := [eI (2), eI (8), eR 100, eI (0), eJ (0), eJ (-1), eR 98]) rfl rfl rfl ?_
  refine w_s (np := 74) (lv' := [some (eR 98), some (eI (0)), some (eI (2)), some (eI (0)), some (eI (p)), some (eI (q)), some (eI (r)), some (eI (s)), some (eI (8)), some (eI (0))]) (st' := [eI (10), eR 100, eI (0), eJ (0), eJ (-1), eR 98]) rfl (b_iadd rfl) rfl ?_
  refine w_al (np := 75) (v := 0) rfl rfl (t_al (k := 10) hq rfl (by decide) rfl) ?_
  refine w_s (np := 76) (lv' := [some (eR 98), some (eI (0)), some (eI (2)), some (eI (0)), some (eI (p)), some (eI (q)), some (eI (r)), some (eI (s)), some (eI (8)), some (eI (0))]) (st' := [eI (0), eJ (0), eJ (-1), eR 98]) rfl (b_isub rfl) rfl ?_
  refine w_s (np := 77) (lv' := [some (eR 98), some (eI (0)), some (eI (2)), some (eI (0)), some (eI (p)), some (eI (q)), some (eI (r)), some (eI (s)), some (eI (8)), some (eI (0))]) (st' := [eJ (0), eJ (0), eJ (-1), eR 98]) rfl (b_i2l rfl) rfl ?_
  refine w_s (np := 78) (lv' := [some (eR 98), some (eI (0)), some (eI (2)), some (eI (0)), some (eI (p)), some (eI (q)), some (eI (r)), some (eI (s)), some (eI (8)), some (eI (0))]) (st' := [eR 98, eJ (0), eJ (0), eJ (-1), eR 98]) rfl (s_an rfl (by decide)) rfl ?_
  refine w_gf (np := 81) (v := eR 100) rfl rfl hq.1 (by rw [hq.2.1]; rfl) ?_
  refine w_s (np := 83) (lv' := [some (eR 98), some (eI (0)), some (eI (2)), some (eI (0)), some (eI (p)), some (eI (q)), some (eI (r)), some (eI (s)), some (eI (8)), some (eI (0))]) (st' := [eI (0), eR 100, eJ (0), eJ (0), eJ (-1), eR 98]) rfl rfl rfl ?_
  refine w_s (np := 84) (lv' := [some (eR 98), some (eI (0)), some (eI (2)), some (eI (0)), some (eI (p)), some (eI (q)), some (eI (r)), some (eI (s)), some (eI (8)), some (eI (0))]) (st' := [eI (3), eI (0), eR 100, eJ (0), eJ (0), eJ (-1), eR 98]) rfl rfl rfl ?_
  refine w_s (np := 85) (lv' := [some (eR 98), some (eI (0)), some (eI (2)), some (eI (0)), some (eI (p)), some (eI (q)), some (eI (r)), some (eI (s)), some (eI (8)), some (eI (0))]) (st' := [eI (3), eR 100, eJ (0), eJ (0), eJ (-1), eR 98]) rfl (b_iadd rfl) rfl ?_
  refine w_al (np := 86) (v := 0) rfl rfl (t_al (k := 3) hq rfl (by decide) rfl) ?_
  refine w_s (np := 87) (lv' := [some (eR 98), some (eI (0)), some (eI (2)), some (eI (0)), some (eI (p)), some (eI (q)), some (eI (r)), some (eI (s)), some (eI (8)), some (eI (0))]) (st' := [eR 98, eI (0), eJ (0), eJ (0), eJ (-1), eR 98]) rfl (s_an rfl (by decide)) rfl ?_
  refine w_gf (np := 90) (v := eR 100) rfl rfl hq.1 (by rw [hq.2.1]; rfl) ?_
  refine w_s (np := 92) (lv' := [some (eR 98), some (eI (0)), some (eI (2)), some (eI (0)), some (eI (p)), some (eI (q)), some (eI (r)), some (eI (s)), some (eI (8)), some (eI (0))]) (st' := [eI (8), eR 100, eI (0), eJ (0), eJ (0), eJ (-1), eR 98]) rfl rfl rfl ?_
  refine w_s (np := 93) (lv' := [some (eR 98), some (eI (0)), some (eI (2)), some (eI (0)), some (eI (p)), some (eI (q)), some (eI (r)), some (eI (s)), some (eI (8)), some (eI (0))]) (st' := [eI (3), eI (8), eR 100, eI (0), eJ (0), eJ (0), eJ (-1), eR 98]) rfl rfl rfl ?_
  refine w_s (np := 94) (lv' := [some (eR 98), some (eI (0)), some (eI (2)), some (eI (0)), some (eI (p)), some (eI (q)), some (eI (r)), some (eI (s)), some (eI (8)), some (eI (0))]) (st' := [eI (11), eR 100, eI (0), eJ (0), eJ (0), eJ (-1), eR 98]) rfl (b_iadd rfl) rfl ?_
  refine w_al (np := 95) (v := 0) rfl rfl (t_al (k := 11) hq rfl (by decide) rfl) ?_
  refine w_s (np := 96) (lv' := [some (eR 98), some (eI (0)), some (eI (2)), some (eI (0)), some (eI (p)), some (eI (q)), some (eI (r)), some (eI (s)), some (eI (8)), some (eI (0))]) (st' := [eI (0), eJ (0), eJ (0), eJ (-1), eR 98]) rfl (b_isub rfl) rfl ?_
  refine w_s (np := 97) (lv' := [some (eR 98), some (eI (0)), some (eI (2)), some (eI (0)), some (eI (p)), some (eI (q)), some (eI (r)), some (eI (s)), some (eI (8)), some (eI (0))]) (st' := [eJ (0), eJ (0), eJ (0), eJ (-1), eR 98]) rfl (b_i2l rfl) rfl ?_
  refine w_s (np := 99) (lv' := [some (eR 98), some (eI (0)), some (eI (2)), some (eI (0)), some (eI (p)), some (eI (q)), some (eI (r)), some (eI (s)), some (eI (8)), some (eI (0))]) (st' := [eI (p), eJ (0), eJ (0), eJ (0), eJ (-1), eR 98]) rfl rfl rfl ?_
  refine w_s (np := 100) (lv' := [some (eR 98), some (eI (0)), some (eI (2)), some (eI (0)), some (eI (p)), some (eI (q)), some (eI (r)), some (eI (s)), some (eI (8)), some (eI (0))]) (st' := [eJ (p), eJ (0), eJ (0), eJ (0), eJ (-1), eR 98]) rfl (b_i2l (ev_w_in (by omega) (by omega))) rfl ?_
  refine w_s (np := 101) (lv' := [some (eR 98), some (eI (0)), some (eI (2)), some (eI (0)), some (eI (p)), some (eI (q)), some (eI (r)), some (eI (s)), some (eI (8)), some (eI (0))]) (st' := [eR 98, eJ (p), eJ (0), eJ (0), eJ (0), eJ (-1), eR 98]) rfl (s_an rfl (by decide)) rfl ?_
  refine w_gf (np := 104) (v := eR 100) rfl rfl hq.1 (by rw [hq.2.1]; rfl) ?_
  refine w_s (np := 106) (lv' := [some (eR 98), some (eI (0)), some (eI (2)), some (eI (0)), some (eI (p)), some (eI (q)), some (eI (r)), some (eI (s)), some (eI (8)), some (eI (0))]) (st' := [eI (8), eR 100, eJ (p), eJ (0), eJ (0), eJ (0), eJ (-1), eR 98]) rfl rfl rfl ?_
  refine w_al (np := 107) (v := 1) rfl rfl (t_al (k := 8) hq rfl (by decide) rfl) ?_
  refine w_s (np := 108) (lv' := [some (eR 98), some (eI (0)), some (eI (2)), some (eI (0)), some (eI (p)), some (eI (q)), some (eI (r)), some (eI (s)), some (eI (8)), some (eI (0))]) (st' := [eJ (1), eJ (p), eJ (0), eJ (0), eJ (0), eJ (-1), eR 98]) rfl (b_i2l rfl) rfl ?_
  obtain ⟨v1, e2⟩ : ∃ v : Int, v = (p) - (1) := ⟨_, rfl⟩
  have b3 : -10000 ≤ v1 ∧ v1 ≤ 9998 := by omega
  refine w_s (np := 109) (lv' := [some (eR 98), some (eI (0)), some (eI (2)), some (eI (0)), some (eI (p)), some (eI (q)), some (eI (r)), some (eI (s)), some (eI (8)), some (eI (0))]) (st' := [eJ (v1), eJ (0), eJ (0), eJ (0), eJ (-1), eR 98]) rfl (b_lsub (by rw [← e2]; exact ev_W_in (by omega) (by omega))) rfl ?_
  refine w_s (np := 111) (lv' := [some (eR 98), some (eI (0)), some (eI (2)), some (eI (0)), some (eI (p)), some (eI (q)), some (eI (r)), some (eI (s)), some (eI (8)), some (eI (0))]) (st' := [eI (q), eJ (v1), eJ (0), eJ (0), eJ (0), eJ (-1), eR 98]) rfl rfl rfl ?_
  refine w_s (np := 112) (lv' := [some (eR 98), some (eI (0)), some (eI (2)), some (eI (0)), some (eI (p)), some (eI (q)), some (eI (r)), some (eI (s)), some (eI (8)), some (eI (0))]) (st' := [eJ (q), eJ (v1), eJ (0), eJ (0), eJ (0), eJ (-1), eR 98]) rfl (b_i2l (ev_w_in (by omega) (by omega))) rfl ?_
  refine w_s (np := 113) (lv' := [some (eR 98), some (eI (0)), some (eI (2)), some (eI (0)), some (eI (p)), some (eI (q)), some (eI (r)), some (eI (s)), some (eI (8)), some (eI (0))]) (st' := [eR 98, eJ (q), eJ (v1), eJ (0), eJ (0), eJ (0), eJ (-1), eR 98]) rfl (s_an rfl (by decide)) rfl ?_
  refine w_gf (np := 116) (v := eR 100) rfl rfl hq.1 (by rw [hq.2.1]; rfl) ?_
  refine w_s (np := 118) (lv' := [some (eR 98), some (eI (0)), some (eI (2)), some (eI (0)), some (eI (p)), some (eI (q)), some (eI (r)), some (eI (s)), some (eI (8)), some (eI (0))]) (st' := [eI (8), eR 100, eJ (q), eJ (v1), eJ (0), eJ (0), eJ (0), eJ (-1), eR 98]) rfl rfl rfl ?_
  refine w_s (np := 119) (lv' := [some (eR 98), some (eI (0)), some (eI (2)), some (eI (0)), some (eI (p)), some (eI (q)), some (eI (r)), some (eI (s)), some (eI (8)), some (eI (0))]) (st' := [eI (1), eI (8), eR 100, eJ (q), eJ (v1), eJ (0), eJ (0), eJ (0), eJ (-1), eR 98]) rfl rfl rfl ?_
  refine w_s (np := 120) (lv' := [some (eR 98), some (eI (0)), some (eI (2)), some (eI (0)), some (eI (p)), some (eI (q)), some (eI (r)), some (eI (s)), some (eI (8)), some (eI (0))]) (st' := [eI (9), eR 100, eJ (q), eJ (v1), eJ (0), eJ (0), eJ (0), eJ (-1), eR 98]) rfl (b_iadd rfl) rfl ?_
  refine w_al (np := 121) (v := 0) rfl rfl (t_al (k := 9) hq rfl (by decide) rfl) ?_
  refine w_s (np := 122) (lv' := [some (eR 98), some (eI (0)), some (eI (2)), some (eI (0)), some (eI (p)), some (eI (q)), some (eI (r)), some (eI (s)), some (eI (8)), some (eI (0))]) (st' := [eJ (0), eJ (q), eJ (v1), eJ (0), eJ (0), eJ (0), eJ (-1), eR 98]) rfl (b_i2l rfl) rfl ?_
  obtain ⟨v4, e5⟩ : ∃ v : Int, v = (q) - (0) := ⟨_, rfl⟩
  have b6 : -9999 ≤ v4 ∧ v4 ≤ 9999 := by omega
  refine w_s (np := 123) (lv' := [some (eR 98), some (eI (0)), some (eI (2)), some (eI (0)), some (eI (p)), some (eI (q)), some (eI (r)), some (eI (s)), some (eI (8)), some (eI (0))]) (st' := [eJ (v4), eJ (v1), eJ (0), eJ (0), eJ (0), eJ (-1), eR 98]) rfl (b_lsub (by rw [← e5]; exact ev_W_in (by omega) (by omega))) rfl ?_
  refine w_s (np := 125) (lv' := [some (eR 98), some (eI (0)), some (eI (2)), some (eI (0)), some (eI (p)), some (eI (q)), some (eI (r)), some (eI (s)), some (eI (8)), some (eI (0))]) (st' := [eI (r), eJ (v4), eJ (v1), eJ (0), eJ (0), eJ (0), eJ (-1), eR 98]) rfl rfl rfl ?_
  refine w_s (np := 126) (lv' := [some (eR 98), some (eI (0)), some (eI (2)), some (eI (0)), some (eI (p)), some (eI (q)), some (eI (r)), some (eI (s)), some (eI (8)), some (eI (0))]) (st' := [eJ (r), eJ (v4), eJ (v1), eJ (0), eJ (0), eJ (0), eJ (-1), eR 98]) rfl (b_i2l (ev_w_in (by omega) (by omega))) rfl ?_
  refine w_s (np := 127) (lv' := [some (eR 98), some (eI (0)), some (eI (2)), some (eI (0)), some (eI (p)), some (eI (q)), some (eI (r)), some (eI (s)), some (eI (8)), some (eI (0))]) (st' := [eR 98, eJ (r), eJ (v4), eJ (v1), eJ (0), eJ (0), eJ (0), eJ (-1), eR 98]) rfl (s_an rfl (by decide)) rfl ?_
  refine w_gf (np := 130) (v := eR 100) rfl rfl hq.1 (by rw [hq.2.1]; rfl) ?_
  refine w_s (np := 132) (lv' := [some (eR 98), some (eI (0)), some (eI (2)), some (eI (0)), some (eI (p)), some (eI (q)), some (eI (r)), some (eI (s)), some (eI (8)), some (eI (0))]) (st' := [eI (8), eR 100, eJ (r), eJ (v4), eJ (v1), eJ (0), eJ (0), eJ (0), eJ (-1), eR 98]) rfl rfl rfl ?_
  refine w_s (np := 133) (lv' := [some (eR 98), some (eI (0)), some (eI (2)), some (eI (0)), some (eI (p)), some (eI (q)), some (eI (r)), some (eI (s)), some (eI (8)), some (eI (0))]) (st' := [eI (2), eI (8), eR 100, eJ (r), eJ (v4), eJ (v1), eJ (0), eJ (0), eJ (0), eJ (-1), eR 98]) rfl rfl rfl ?_
  refine w_s (np := 134) (lv' := [some (eR 98), some (eI (0)), some (eI (2)), some (eI (0)), some (eI (p)), some (eI (q)), some (eI (r)), some (eI (s)), some (eI (8)), some (eI (0))]) (st' := [eI (10), eR 100, eJ (r), eJ (v4), eJ (v1), eJ (0), eJ (0), eJ (0), eJ (-1), eR 98]) rfl (b_iadd rfl) rfl ?_
  refine w_al (np := 135) (v := 0) rfl rfl (t_al (k := 10) hq rfl (by decide) rfl) ?_
  refine w_s (np := 136) (lv' := [some (eR 98), some (eI (0)), some (eI (2)), some (eI (0)), some (eI (p)), some (eI (q)), some (eI (r)), some (eI (s)), some (eI (8)), some (eI (0))]) (st' := [eJ (0), eJ (r), eJ (v4), eJ (v1), eJ (0), eJ (0), eJ (0), eJ (-1), eR 98]) rfl (b_i2l rfl) rfl ?_
  obtain ⟨v7, e8⟩ : ∃ v : Int, v = (r) - (0) := ⟨_, rfl⟩
  have b9 : -9999 ≤ v7 ∧ v7 ≤ 9999 := by omega
  refine w_s (np := 137) (lv' := [some (eR 98), some (eI (0)), some (eI (2)), some (eI (0)), some (eI (p)), some (eI (q)), some (eI (r)), some (eI (s)), some (eI (8)), some (eI (0))]) (st' := [eJ (v7), eJ (v4), eJ (v1), eJ (0), eJ (0), eJ (0), eJ (-1), eR 98]) rfl (b_lsub (by rw [← e8]; exact ev_W_in (by omega) (by omega))) rfl ?_
  refine w_s (np := 139) (lv' := [some (eR 98), some (eI (0)), some (eI (2)), some (eI (0)), some (eI (p)), some (eI (q)), some (eI (r)), some (eI (s)), some (eI (8)), some (eI (0))]) (st' := [eI (s), eJ (v7), eJ (v4), eJ (v1), eJ (0), eJ (0), eJ (0), eJ (-1), eR 98]) rfl rfl rfl ?_
  refine w_s (np := 140) (lv' := [some (eR 98), some (eI (0)), some (eI (2)), some (eI (0)), some (eI (p)), some (eI (q)), some (eI (r)), some (eI (s)), some (eI (8)), some (eI (0))]) (st' := [eJ (s), eJ (v7), eJ (v4), eJ (v1), eJ (0), eJ (0), eJ (0), eJ (-1), eR 98]) rfl (b_i2l (ev_w_in (by omega) (by omega))) rfl ?_
  refine w_s (np := 141) (lv' := [some (eR 98), some (eI (0)), some (eI (2)), some (eI (0)), some (eI (p)), some (eI (q)), some (eI (r)), some (eI (s)), some (eI (8)), some (eI (0))]) (st' := [eR 98, eJ (s), eJ (v7), eJ (v4), eJ (v1), eJ (0), eJ (0), eJ (0), eJ (-1), eR 98]) rfl (s_an rfl (by decide)) rfl ?_
  refine w_gf (np := 144) (v := eR 100) rfl rfl hq.1 (by rw [hq.2.1]; rfl) ?_
  refine w_s (np := 146) (lv' := [some (eR 98), some (eI (0)), some (eI (2)), some (eI (0)), some (eI (p)), some (eI (q)), some (eI (r)), some (eI (s)), some (eI (8)), some (eI (0))]) (st' := [eI (8), eR 100, eJ (s), eJ (v7), eJ (v4), eJ (v1), eJ (0), eJ (0), eJ (0), eJ (-1), eR 98]) rfl rfl rfl ?_
  refine w_s (np := 147) (lv' := [some (eR 98), some (eI (0)), some (eI (2)), some (eI (0)), some (eI (p)), some (eI (q)), some (eI (r)), some (eI (s)), some (eI (8)), some (eI (0))]) (st' := [eI (3), eI (8), eR 100, eJ (s), eJ (v7), eJ (v4), eJ (v1), eJ (0), eJ (0), eJ (0), eJ (-1), eR 98]) rfl rfl rfl ?_
  refine w_s (np := 148) (lv' := [some (eR 98), some (eI (0)), some (eI (2)), some (eI (0)), some (eI (p)), some (eI (q)), some (eI (r)), some (eI (s)), some (eI (8)), some (eI (0))]) (st' := [eI (11), eR 100, eJ (s), eJ (v7), eJ (v4), eJ (v1), eJ (0), eJ (0), eJ (0), eJ (-1), eR 98]) rfl (b_iadd rfl) rfl ?_
  refine w_al (np := 149) (v := 0) rfl rfl (t_al (k := 11) hq rfl (by decide) rfl) ?_
  refine w_s (np := 150) (lv' := [some (eR 98), some (eI (0)), some (eI (2)), some (eI (0)), some (eI (p)), some (eI (q)), some (eI (r)), some (eI (s)), some (eI (8)), some (eI (0))]) (st' := [eJ (0), eJ (s), eJ (v7), eJ (v4), eJ (v1), eJ (0), eJ (0), eJ (0), eJ (-1), eR 98]) rfl (b_i2l rfl) rfl ?_
  obtain ⟨v10, e11⟩ : ∃ v : Int, v = (s) - (0) := ⟨_, rfl⟩
  have b12 : -9999 ≤ v10 ∧ v10 ≤ 9999 := by omega
  refine w_s (np := 151) (lv' := [some (eR 98), some (eI (0)), some (eI (2)), some (eI (0)), some (eI (p)), some (eI (q)), some (eI (r)), some (eI (s)), some (eI (8)), some (eI (0))]) (st' := [eJ (v10), eJ (v7), eJ (v4), eJ (v1), eJ (0), eJ (0), eJ (0), eJ (-1), eR 98]) rfl (b_lsub (by rw [← e11]; exact ev_W_in (by omega) (by omega))) rfl ?_
  refine w_cv (np := 154) (as := [eJ (-1), eJ (0), eJ (0), eJ (0), eJ (v1), eJ (v4), eJ (v7), eJ (v10)]) (lv' := [some (eR 98), some (eJ (-1)), none, some (eJ (0)), none, some (eJ (0)), none, some (eJ (0)), none, some (eJ (v1)), none, some (eJ (v4)), none, some (eJ (v7)), none, some (eJ (v10)), none]) (rest := []) rfl rfl rfl (Nat.ble_eq.mp rfl) rfl rfl rfl hq.1 rfl ?_
  refine t224 hq.1 (show (-8 : Int) ≤ -1 ∧ (-1 : Int) ≤ 8 by omega) (show (-8 : Int) ≤ 0 ∧ (0 : Int) ≤ 8 by omega) (show (-8 : Int) ≤ 0 ∧ (0 : Int) ≤ 8 by omega) (show (-8 : Int) ≤ 0 ∧ (0 : Int) ≤ 8 by omega) (show (-100000 : Int) ≤ v1 ∧ (v1 : Int) ≤ 100000 by omega) (show (-100000 : Int) ≤ v4 ∧ (v4 : Int) ≤ 100000 by omega) (show (-100000 : Int) ≤ v7 ∧ (v7 : Int) ≤ 100000 by omega) (show (-100000 : Int) ≤ v10 ∧ (v10 : Int) ≤ 100000 by omega) ?_
  intro m B G s1 eB eG bB bG
  show ex_fine fg rc rs (d + 4, (265, 154, [some (eR 98), some (eI (0)), some (eI (2)), some (eI (0)), some (eI (p)), some (eI (q)), some (eI (r)), some (eI (s)), some (eI (8)), some (eI (0))], [eI (rSg (2 * B + G) G)]), f :: F, m)
  refine b_ri rfl rfl ?_
  have hB : B = (-1) * q := by omega
  have hG : G = (-1) * r + (-1) * s := by omega
  have hr := rSg_ok (x := 2 * B + G) (b := G) (by omega)
  have e9 : 416020 * (2 * B + G) + 930249 * G = (-832040) * q + (-1346269) * r + (-1346269) * s := by omega
  rw [e9] at hr
  exact K m _ s1 hr (rSg_v _ _)
theorem t265_1_0 {fg : eG} {rc rs d : Nat} {f : eFr} {F : List eFr} {μ : eM} {p q r s : Int} (hq : tQ μ) (hp : -9999 ≤ p ∧ p ≤ 9999) (hq0 : -9999 ≤ q ∧ q ≤ 9999) (hr : -9999 ≤ r ∧ r ≤ 9999) (hs : -9999 ≤ s ∧ s ≤ 9999) (K : ∀ (μ2 : eM) (u : Int), tS μ μ2 → ((0 ≤ u ↔ 0 ≤ (-832040) * p + 832040 * r + 1346269 * s) ∧ (u ≤ 0 ↔ (-832040) * p + 832040 * r + 1346269 * s ≤ 0)) → (u = 0 ∨ u = 1 ∨ u = -1) → ex_fine fg rc rs (d + 5, (f.1, f.2.1, f.2.2.1, eI u :: f.2.2.2), F, μ2)) : ex_fine fg rc rs (d + 4, (265, 0, [some (eR 98), some (eI (1)), some (eI (0)), some (eI (1)), some (eI (p)), some (eI (q)), some (eI (r)), some (eI (s)), none, none], []), f :: F, μ) := by
  refine w_s (np := 2) (lv' := [some (eR 98), some (eI (1)), some (eI (0)), some (eI (1)), some (eI (p)), some (eI (q)), some (eI (r)), some (eI (s)), none, none]) (st' := [eI (12)]) rfl rfl rfl ?_
  refine w_s (np := 3) (lv' := [some (eR 98), some (eI (1)), some (eI (0)), some (eI (1)), some (eI (p)), some (eI (q)), some (eI (r)), some (eI (s)), none, none]) (st' := [eI (1), eI (12)]) rfl rfl rfl ?_
  refine w_s (np := 4) (lv' := [some (eR 98), some (eI (1)), some (eI (0)), some (eI (1)), some (eI (p)), some (eI (q)), some (eI (r)), some (eI (s)), none, none]) (st' := [eI (12)]) rfl (b_imul rfl) rfl ?_
  refine w_s (np := 5) (lv' := [some (eR 98), some (eI (1)), some (eI (0)), some (eI (1)), some (eI (p)), some (eI (q)), some (eI (r)), some (eI (s)), none, none]) (st' := [eI (4), eI (12)]) rfl rfl rfl ?_
  refine w_s (np := 6) (lv' := [some (eR 98), some (eI (1)), some (eI (0)), some (eI (1)), some (eI (p)), some (eI (q)), some (eI (r)), some (eI (s)), none, none]) (st' := [eI (0), eI (4), eI (12)]) rfl rfl rfl ?_
  refine w_s (np := 7) (lv' := [some (eR 98), some (eI (1)), some (eI (0)), some (eI (1)), some (eI (p)), some (eI (q)), some (eI (r)), some (eI (s)), none, none]) (st' := [eI (0), eI (12)]) rfl (b_imul rfl) rfl ?_
  refine w_s (np := 8) (lv' := [some (eR 98), some (eI (1)), some (eI (0)), some (eI (1)), some (eI (p)), some (eI (q)), some (eI (r)), some (eI (s)), none, none]) (st' := [eI (12)]) rfl (b_iadd rfl) rfl ?_
  refine w_s (np := 10) (lv' := [some (eR 98), some (eI (1)), some (eI (0)), some (eI (1)), some (eI (p)), some (eI (q)), some (eI (r)), some (eI (s)), some (eI (12)), none]) (st' := []) rfl rfl rfl ?_
  refine w_s (np := 12) (lv' := [some (eR 98), some (eI (1)), some (eI (0)), some (eI (1)), some (eI (p)), some (eI (q)), some (eI (r)), some (eI (s)), some (eI (12)), none]) (st' := [eI (12)]) rfl rfl rfl ?_
  refine w_s (np := 13) (lv' := [some (eR 98), some (eI (1)), some (eI (0)), some (eI (1)), some (eI (p)), some (eI (q)), some (eI (r)), some (eI (s)), some (eI (12)), none]) (st' := [eI (1), eI (12)]) rfl rfl rfl ?_
  refine w_s (np := 14) (lv' := [some (eR 98), some (eI (1)), some (eI (0)), some (eI (1)), some (eI (p)), some (eI (q)), some (eI (r)), some (eI (s)), some (eI (12)), none]) (st' := [eI (12)]) rfl (b_imul rfl) rfl ?_
  refine w_s (np := 15) (lv' := [some (eR 98), some (eI (1)), some (eI (0)), some (eI (1)), some (eI (p)), some (eI (q)), some (eI (r)), some (eI (s)), some (eI (12)), none]) (st' := [eI (4), eI (12)]) rfl rfl rfl ?_
  refine w_s (np := 16) (lv' := [some (eR 98), some (eI (1)), some (eI (0)), some (eI (1)), some (eI (p)), some (eI (q)), some (eI (r)), some (eI (s)), some (eI (12)), none]) (st' := [eI (1), eI (4), eI (12)]) rfl rfl rfl ?_
  refine w_s (np := 17) (lv' := [some (eR 98), some (eI (1)), some (eI (0)), some (eI (1)), some (eI (p)), some (eI (q)), some (eI (r)), some (eI (s)), some (eI (12)), none]) (st' := [eI (4), eI (12)]) rfl (b_imul rfl) rfl ?_
  refine w_s (np := 18) (lv' := [some (eR 98), some (eI (1)), some (eI (0)), some (eI (1)), some (eI (p)), some (eI (q)), some (eI (r)), some (eI (s)), some (eI (12)), none]) (st' := [eI (16)]) rfl (b_iadd rfl) rfl ?_
  refine w_s (np := 20) (lv' := [some (eR 98), some (eI (1)), some (eI (0)), some (eI (1)), some (eI (p)), some (eI (q)), some (eI (r)), some (eI (s)), some (eI (12)), some (eI (16))]) (st' := []) rfl rfl rfl ?_
  refine w_s (np := 21) (lv' := [some (eR 98), some (eI (1)), some (eI (0)), some (eI (1)), some (eI (p)), some (eI (q)), some (eI (r)), some (eI (s)), some (eI (12)), some (eI (16))]) (st' := [eR 98]) rfl (s_an rfl (by decide)) rfl ?_
  refine w_s (np := 22) (lv' := [some (eR 98), some (eI (1)), some (eI (0)), some (eI (1)), some (eI (p)), some (eI (q)), some (eI (r)), some (eI (s)), some (eI (12)), some (eI (16))]) (st' := [eR 98, eR 98]) rfl (s_an rfl (by decide)) rfl ?_
  refine w_gf (np := 25) (v := eR 100) rfl rfl hq.1 (by rw [hq.2.1]; rfl) ?_
  refine w_s (np := 27) (lv' := [some (eR 98), some (eI (1)), some (eI (0)), some (eI (1)), some (eI (p)), some (eI (q)), some (eI (r)), some (eI (s)), some (eI (12)), some (eI (16))]) (st' := [eI (16), eR 100, eR 98]) rfl rfl rfl ?_
  refine w_al (np := 28) (v := 0) rfl rfl (t_al (k := 16) hq rfl (by decide) rfl) ?_
  refine w_s (np := 29) (lv' := [some (eR 98), some (eI (1)), some (eI (0)), some (eI (1)), some (eI (p)), some (eI (q)), some (eI (r)), some (eI (s)), some (eI (12)), some (eI (16))]) (st' := [eR 98, eI (0), eR 98]) rfl (s_an rfl (by decide)) rfl ?_
  refine w_gf (np := 32) (v := eR 100) rfl rfl hq.1 (by rw [hq.2.1]; rfl) ?_
  refine w_s (np := 34) (lv' := [some (eR 98), some (eI (1)), some (eI (0)), some (eI (1)), some (eI (p)), some (eI (q)), some (eI (r)), some (eI (s)), some (eI (12)), some (eI (16))]) (st' := [eI (12), eR 100, eI (0), eR 98]) rfl rfl rfl ?_
  refine w_al (np := 35) (v := 0) rfl rfl (t_al (k := 12) hq rfl (by decide) rfl) ?_
  refine w_s (np := 36) (lv' := [some (eR 98), some (eI (1)), some (eI (0)), some (eI (1)), some (eI (p)), some (eI (q)), some (eI (r)), some (eI (s)), some (eI (12)), some (eI (16))]) (st' := [eI (0), eR 98]) rfl (b_isub rfl) rfl ?_
  refine w_s (np := 37) (lv' := [some (eR 98), some (eI (1)), some (eI (0)), some (eI (1)), some (eI (p)), some (eI (q)), some (eI (r)), some (eI (s)), some (eI (12)), some (eI (16))]) (st' := [eJ (0), eR 98]) rfl (b_i2l rfl) rfl ?_
  refine w_s (np := 38) (lv' := [some (eR 98), some (eI (1)), some (eI (0)), some (eI (1)), some (eI (p)), some (eI (q)), some (eI (r)), some (eI (s)), some (eI (12)), some (eI (16))]) (st' := [eR 98, eJ (0), eR 98]) rfl (s_an rfl (by decide)) rfl ?_
  refine w_gf (np := 41) (v := eR 100) rfl rfl hq.1 (by rw [hq.2.1]; rfl) ?_
  refine w_s (np := 43) (lv' := [some (eR 98), some (eI (1)), some (eI (0)), some (eI (1)), some (eI (p)), some (eI (q)), some (eI (r)), some (eI (s)), some (eI (12)), some (eI (16))]) (st' := [eI (16), eR 100, eJ (0), eR 98]) rfl rfl rfl ?_
  refine w_s (np := 44) (lv' := [some (eR 98), some (eI (1)), some (eI (0)), some (eI (1)), some (eI (p)), some (eI (q)), some (eI (r)), some (eI (s)), some (eI (12)), some (eI (16))]) (st' := [eI (1), eI (16), eR 100, eJ (0), eR 98]) rfl rfl rfl ?_
  refine w_s (np := 45) (lv' := [some (eR 98), some (eI (1)), some (eI (0)), some (eI (1)), some (eI (p)), some (eI (q)), some (eI (r)), some (eI (s)), some (eI (12)), some (eI (16))]) (st' := [eI (17), eR 100, eJ (0), eR 98]) rfl (b_iadd rfl) rfl ?_
  refine w_al (np := 46) (v := 1) rfl rfl (t_al (k := 17) hq rfl (by decide) rfl) ?_
  refine w_s (np := 47) (lv' := [some (eR 98), some (eI (1)), some (eI (0)), some (eI (1)), some (eI (p)), some (eI (q)), some (eI (r)), some (eI (s)), some (eI (12)), some (eI (16))]) (st' := [eR 98, eI (1), eJ (0), eR 98]) rfl (s_an rfl (by decide)) rfl ?_
  refine w_gf (np := 50) (v := eR 100) rfl rfl hq.1 (by rw [hq.2.1]; rfl) ?_
  refine w_s (np := 52) (lv' := [some (eR 98), some (eI (1)), some (eI (0)), some (eI (1)), some (eI (p)), some (eI (q)), some (eI (r)), some (eI (s)), some (eI (12)), some (eI (16))]) (st' := [eI (12), eR 100, eI (1), eJ (0), eR 98]) rfl rfl rfl ?_
  refine w_s (np := 53) (lv' := [some (eR 98), some (eI (1)), some (eI (0)), some (eI (1)), some (eI (p)), some (eI (q)), some (eI (r)), some (eI (s)), some (eI (12)), some (eI (16))]) (st' := [eI (1), eI (12), eR 100, eI (1), eJ (0), eR 98]) rfl rfl rfl ?_
  refine w_s (np := 54) (lv' := [some (eR 98), some (eI (1)), some (eI (0)), some (eI (1)), some (eI (p)), some (eI (q)), some (eI (r)), some (eI (s)), some (eI (12)), some (eI (16))]) (st' := [eI (13), eR 100, eI (1), eJ (0), eR 98]) rfl (b_iadd rfl) rfl ?_
  refine w_al (np := 55) (v := 0) rfl rfl (t_al (k := 13) hq rfl (by decide) rfl) ?_
  refine w_s (np := 56) (lv' := [some (eR 98), some (eI (1)), some (eI (0)), some (eI (1)), some (eI (p)), some (eI (q)), some (eI (r)), some (eI (s)), some (eI (12)), some (eI (16))]) (st' := [eI (1), eJ (0), eR 98]) rfl (b_isub rfl) rfl ?_
  refine w_s (np := 57) (lv' := [some (eR 98), some (eI (1)), some (eI (0)), some (eI (1)), some (eI (p)), some (eI (q)), some (eI (r)), some (eI (s)), some (eI (12)), some (eI (16))]) (st' := [eJ (1), eJ (0), eR 98]) rfl (b_i2l rfl) rfl ?_
  refine w_s (np := 58) (lv' := [some (eR 98), some (eI (1)), some (eI (0)), some (eI (1)), some (eI (p)), some (eI (q)), some (eI (r)), some (eI (s)), some (eI (12)), some (eI (16))]) (st' := [eR 98, eJ (1), eJ (0), eR 98]) rfl (s_an rfl (by decide)) rfl ?_
  refine w_gf (np := 61) (v := eR 100) rfl rfl hq.1 (by rw [hq.2.1]; rfl) ?_
  refine w_s (np := 63) (lv' := [some (eR 98), some (eI (1)), some (eI (0)), some (eI (1)), some (eI (p)), some (eI (q)), some (eI (r)), some (eI (s)), some (eI (12)), some (eI (16))]) (st' := [eI (16), eR 100, eJ (1), eJ (0), eR 98]) rfl rfl rfl ?_
  refine w_s (np := 64) (lv' := [some (eR 98), some (eI (1)), some (eI (0)), some (eI (1)), some (eI (p)), some (eI (q)), some (eI (r)), some (eI (s)), some (eI (12)), some (eI (16))]) (st' := [eI (2), eI (16), eR 100, eJ (1), eJ (0), eR 98]) rfl rfl rfl ?_
  refine w_s (np := 65) (lv' := [some (eR 98), some (eI (1)), some (eI (0)), some (eI (1)), some (eI (p)), some (eI (q)), some (eI (r)), some (eI (s)), some (eI (12)), some (eI (16))]) (st' := [eI (18), eR 100, eJ (1), eJ (0), eR 98]) rfl (b_iadd rfl) rfl ?_
  refine w_al (np := 66) (v := 0) rfl rfl (t_al (k := 18) hq rfl (by decide) rfl) ?_
  refine w_s (np := 67) (lv' := [some (eR 98), some (eI (1)), some (eI (0)), some (eI (1)), some (eI (p)), some (eI (q)), some (eI (r)), some (eI (s)), some (eI (12)), some (eI (16))]) (st' := [eR 98, eI (0), eJ (1), eJ (0), eR 98]) rfl (s_an rfl (by decide)) rfl ?_
  refine w_gf (np := 70) (v := eR 100) rfl rfl hq.1 (by rw [hq.2.1]; rfl) ?_
  refine w_s (np := 72) (lv' := [some (eR 98), some (eI (1)), some (eI (0)), some (eI (1)), some (eI (p)), some (eI (q)), some (eI (r)), some (eI (s)), some (eI (12)), some (eI (16))]) (st' := [eI (12), eR 100, eI (0), eJ (1), eJ (0), eR 98]) rfl rfl rfl ?_
  refine w_s (np := 73) (lv' := [some (eR 98), some (eI (1)), some (eI (0)), some (eI (1)), some (eI (p)), some (eI (q)), some (eI (r)), some (eI (s)), some (eI (12)), some (eI (16))]) (st' := [eI (2), eI (12), eR 100, eI (0), eJ (1), eJ (0), eR 98]) rfl rfl rfl ?_
  refine w_s (np := 74) (lv' := [some (eR 98), some (eI (1)), some (eI (0)), some (eI (1)), some (eI (p)), some (eI (q)), some (eI (r)), some (eI (s)), some (eI (12)), some (eI (16))]) (st' := [eI (14), eR 100, eI (0), eJ (1), eJ (0), eR 98]) rfl (b_iadd rfl) rfl ?_
  refine w_al (np := 75) (v := 0) rfl rfl (t_al (k := 14) hq rfl (by decide) rfl) ?_
  refine w_s (np := 76) (lv' := [some (eR 98), some (eI (1)), some (eI (0)), some (eI (1)), some (eI (p)), some (eI (q)), some (eI (r)), some (eI (s)), some (eI (12)), some (eI (16))]) (st' := [eI (0), eJ (1), eJ (0), eR 98]) rfl (b_isub rfl) rfl ?_
  refine w_s (np := 77) (lv' := [some (eR 98), some (eI (1)), some (eI (0)), some (eI (1)), some (eI (p)), some (eI (q)), some (eI (r)), some (eI (s)), some (eI (12)), some (eI (16))]) (st' := [eJ (0), eJ (1), eJ (0), eR 98]) rfl (b_i2l rfl) rfl ?_
  refine w_s (np := 78) (lv' := [some (eR 98), some (eI (1)), some (eI (0)), some (eI (1)), some (eI (p)), some (eI (q)), some (eI (r)), some (eI (s)), some (eI (12)), some (eI (16))]) (st' := [eR 98, eJ (0), eJ (1), eJ (0), eR 98]) rfl (s_an rfl (by decide)) rfl ?_
  refine w_gf (np := 81) (v := eR 100) rfl rfl hq.1 (by rw [hq.2.1]; rfl) ?_
  refine w_s (np := 83) (lv' := [some (eR 98), some (eI (1)), some (eI (0)), some (eI (1)), some (eI (p)), some (eI (q)), some (eI (r)), some (eI (s)), some (eI (12)), some (eI (16))]) (st' := [eI (16), eR 100, eJ (0), eJ (1), eJ (0), eR 98]) rfl rfl rfl ?_
  refine w_s (np := 84) (lv' := [some (eR 98), some (eI (1)), some (eI (0)), some (eI (1)), some (eI (p)), some (eI (q)), some (eI (r)), some (eI (s)), some (eI (12)), some (eI (16))]) (st' := [eI (3), eI (16), eR 100, eJ (0), eJ (1), eJ (0), eR 98]) rfl rfl rfl ?_
  refine w_s (np := 85) (lv' := [some (eR 98), some (eI (1)), some (eI (0)), some (eI (1)), some (eI (p)), some (eI (q)), some (eI (r)), some (eI (s)), some (eI (12)), some (eI (16))]) (st' := [eI (19), eR 100, eJ (0), eJ (1), eJ (0), eR 98]) rfl (b_iadd rfl) rfl ?_
  refine w_al (np := 86) (v := 0) rfl rfl (t_al (k := 19) hq rfl (by decide) rfl) ?_
  refine w_s (np := 87) (lv' := [some (eR 98), some (eI (1)), some (eI (0)), some (eI (1)), some (eI (p)), some (eI (q)), some (eI (r)), some (eI (s)), some (eI (12)), some (eI (16))]) (st' := [eR 98, eI (0), eJ (0), eJ (1), eJ (0), eR 98]) rfl (s_an rfl (by decide)) rfl ?_
  refine w_gf (np := 90) (v := eR 100) rfl rfl hq.1 (by rw [hq.2.1]; rfl) ?_
  refine w_s (np := 92) (lv' := [some (eR 98), some (eI (1)), some (eI (0)), some (eI (1)), some (eI (p)), some (eI (q)), some (eI (r)), some (eI (s)), some (eI (12)), some (eI (16))]) (st' := [eI (12), eR 100, eI (0), eJ (0), eJ (1), eJ (0), eR 98]) rfl rfl rfl ?_
  refine w_s (np := 93) (lv' := [some (eR 98), some (eI (1)), some (eI (0)), some (eI (1)), some (eI (p)), some (eI (q)), some (eI (r)), some (eI (s)), some (eI (12)), some (eI (16))]) (st' := [eI (3), eI (12), eR 100, eI (0), eJ (0), eJ (1), eJ (0), eR 98]) rfl rfl rfl ?_
  refine w_s (np := 94) (lv' := [some (eR 98), some (eI (1)), some (eI (0)), some (eI (1)), some (eI (p)), some (eI (q)), some (eI (r)), some (eI (s)), some (eI (12)), some (eI (16))]) (st' := [eI (15), eR 100, eI (0), eJ (0), eJ (1), eJ (0), eR 98]) rfl (b_iadd rfl) rfl ?_
  refine w_al (np := 95) (v := 0) rfl rfl (t_al (k := 15) hq rfl (by decide) rfl) ?_
  refine w_s (np := 96) (lv' := [some (eR 98), some (eI (1)), some (eI (0)), some (eI (1)), some (eI (p)), some (eI (q)), some (eI (r)), some (eI (s)), some (eI (12)), some (eI (16))]) (st' := [eI (0), eJ (0), eJ (1), eJ (0), eR 98]) rfl (b_isub rfl) rfl ?_
  refine w_s (np := 97) (lv' := [some (eR 98), some (eI (1)), some (eI (0)), some (eI (1)), some (eI (p)), some (eI (q)), some (eI (r)), some (eI (s)), some (eI (12)), some (eI (16))]) (st' := [eJ (0), eJ (0), eJ (1), eJ (0), eR 98]) rfl (b_i2l rfl) rfl ?_
  refine w_s (np := 99) (lv' := [some (eR 98), some (eI (1)), some (eI (0)), some (eI (1)), some (eI (p)), some (eI (q)), some (eI (r)), some (eI (s)), some (eI (12)), some (eI (16))]) (st' := [eI (p), eJ (0), eJ (0), eJ (1), eJ (0), eR 98]) rfl rfl rfl ?_
  refine w_s (np := 100) (lv' := [some (eR 98), some (eI (1)), some (eI (0)), some (eI (1)), some (eI (p)), some (eI (q)), some (eI (r)), some (eI (s)), some (eI (12)), some (eI (16))]) (st' := [eJ (p), eJ (0), eJ (0), eJ (1), eJ (0), eR 98]) rfl (b_i2l (ev_w_in (by omega) (by omega))) rfl ?_
  refine w_s (np := 101) (lv' := [some (eR 98), some (eI (1)), some (eI (0)), some (eI (1)), some (eI (p)), some (eI (q)), some (eI (r)), some (eI (s)), some (eI (12)), some (eI (16))]) (st' := [eR 98, eJ (p), eJ (0), eJ (0), eJ (1), eJ (0), eR 98]) rfl (s_an rfl (by decide)) rfl ?_
  refine w_gf (np := 104) (v := eR 100) rfl rfl hq.1 (by rw [hq.2.1]; rfl) ?_
  refine w_s (np := 106) (lv' := [some (eR 98), some (eI (1)), some (eI (0)), some (eI (1)), some (eI (p)), some (eI (q)), some (eI (r)), some (eI (s)), some (eI (12)), some (eI (16))]) (st' := [eI (12), eR 100, eJ (p), eJ (0), eJ (0), eJ (1), eJ (0), eR 98]) rfl rfl rfl ?_
  refine w_al (np := 107) (v := 0) rfl rfl (t_al (k := 12) hq rfl (by decide) rfl) ?_
  refine w_s (np := 108) (lv' := [some (eR 98), some (eI (1)), some (eI (0)), some (eI (1)), some (eI (p)), some (eI (q)), some (eI (r)), some (eI (s)), some (eI (12)), some (eI (16))]) (st' := [eJ (0), eJ (p), eJ (0), eJ (0), eJ (1), eJ (0), eR 98]) rfl (b_i2l rfl) rfl ?_
  obtain ⟨v1, e2⟩ : ∃ v : Int, v = (p) - (0) := ⟨_, rfl⟩
  have b3 : -9999 ≤ v1 ∧ v1 ≤ 9999 := by omega
  refine w_s (np := 109) (lv' := [some (eR 98), some (eI (1)), some (eI (0)), some (eI (1)), some (eI (p)), some (eI (q)), some (eI (r)), some (eI (s)), some (eI (12)), some (eI (16))]) (st' := [eJ (v1), eJ (0), eJ (0), eJ (1), eJ (0), eR 98]) rfl (b_lsub (by rw [← e2]; exact ev_W_in (by omega) (by omega))) rfl ?_
  refine w_s (np := 111) (lv' := [some (eR 98), some (eI (1)), some (eI (0)), some (eI (1)), some (eI (p)), some (eI (q)), some (eI (r)), some (eI (s)), some (eI (12)), some (eI (16))]) (st' := [eI (q), eJ (v1), eJ (0), eJ (0), eJ (1), eJ (0), eR 98]) rfl rfl rfl ?_
  refine w_s (np := 112) (lv' := [some (eR 98), some (eI (1)), some (eI (0)), some (eI (1)), some (eI (p)), some (eI (q)), some (eI (r)), some (eI (s)), some (eI (12)), some (eI (16))]) (st' := [eJ (q), eJ (v1), eJ (0), eJ (0), eJ (1), eJ (0), eR 98]) rfl (b_i2l (ev_w_in (by omega) (by omega))) rfl ?_
  refine w_s (np := 113) (lv' := [some (eR 98), some (eI (1)), some (eI (0)), some (eI (1)), some (eI (p)), some (eI (q)), some (eI (r)), some (eI (s)), some (eI (12)), some (eI (16))]) (st' := [eR 98, eJ (q), eJ (v1), eJ (0), eJ (0), eJ (1), eJ (0), eR 98]) rfl (s_an rfl (by decide)) rfl ?_
  refine w_gf (np := 116) (v := eR 100) rfl rfl hq.1 (by rw [hq.2.1]; rfl) ?_
  refine w_s (np := 118) (lv' := [some (eR 98), some (eI (1)), some (eI (0)), some (eI (1)), some (eI (p)), some (eI (q)), some (eI (r)), some (eI (s)), some (eI (12)), some (eI (16))]) (st' := [eI (12), eR 100, eJ (q), eJ (v1), eJ (0), eJ (0), eJ (1), eJ (0), eR 98]) rfl rfl rfl ?_
  refine w_s (np := 119) (lv' := [some (eR 98), some (eI (1)), some (eI (0)), some (eI (1)), some (eI (p)), some (eI (q)), some (eI (r)), some (eI (s)), some (eI (12)), some (eI (16))]) (st' := [eI (1), eI (12), eR 100, eJ (q), eJ (v1), eJ (0), eJ (0), eJ (1), eJ (0), eR 98]) rfl rfl rfl ?_
  refine w_s (np := 120) (lv' := [some (eR 98), some (eI (1)), some (eI (0)), some (eI (1)), some (eI (p)), some (eI (q)), some (eI (r)), some (eI (s)), some (eI (12)), some (eI (16))]) (st' := [eI (13), eR 100, eJ (q), eJ (v1), eJ (0), eJ (0), eJ (1), eJ (0), eR 98]) rfl (b_iadd rfl) rfl ?_
  refine w_al (np := 121) (v := 0) rfl rfl (t_al (k := 13) hq rfl (by decide) rfl) ?_
  refine w_s (np := 122) (lv' := [some (eR 98), some (eI (1)), some (eI (0)), some (eI (1)), some (eI (p)), some (eI (q)), some (eI (r)), some (eI (s)), some (eI (12)), some (eI (16))]) (st' := [eJ (0), eJ (q), eJ (v1), eJ (0), eJ (0), eJ (1), eJ (0), eR 98]) rfl (b_i2l rfl) rfl ?_
  obtain ⟨v4, e5⟩ : ∃ v : Int, v = (q) - (0) := ⟨_, rfl⟩
  have b6 : -9999 ≤ v4 ∧ v4 ≤ 9999 := by omega
  refine w_s (np := 123) (lv' := [some (eR 98), some (eI (1)), some (eI (0)), some (eI (1)), some (eI (p)), some (eI (q)), some (eI (r)), some (eI (s)), some (eI (12)), some (eI (16))]) (st' := [eJ (v4), eJ (v1), eJ (0), eJ (0), eJ (1), eJ (0), eR 98]) rfl (b_lsub (by rw [← e5]; exact ev_W_in (by omega) (by omega))) rfl ?_
  refine w_s (np := 125) (lv' := [some (eR 98), some (eI (1)), some (eI (0)), some (eI (1)), some (eI (p)), some (eI (q)), some (eI (r)), some (eI (s)), some (eI (12)), some (eI (16))]) (st' := [eI (r), eJ (v4), eJ (v1), eJ (0), eJ (0), eJ (1), eJ (0), eR 98]) rfl rfl rfl ?_
  refine w_s (np := 126) (lv' := [some (eR 98), some (eI (1)), some (eI (0)), some (eI (1)), some (eI (p)), some (eI (q)), some (eI (r)), some (eI (s)), some (eI (12)), some (eI (16))]) (st' := [eJ (r), eJ (v4), eJ (v1), eJ (0), eJ (0), eJ (1), eJ (0), eR 98]) rfl (b_i2l (ev_w_in (by omega) (by omega))) rfl ?_
  refine w_s (np := 127) (lv' := [some (eR 98), some (eI (1)), some (eI (0)), some (eI (1)), some (eI (p)), some (eI (q)), some (eI (r)), some (eI (s)), some (eI (12)), some (eI (16))]) (st' := [eR 98, eJ (r), eJ (v4), eJ (v1), eJ (0), eJ (0), eJ (1), eJ (0), eR 98]) rfl (s_an rfl (by decide)) rfl ?_
  refine w_gf (np := 130) (v := eR 100) rfl rfl hq.1 (by rw [hq.2.1]; rfl) ?_
  refine w_s (np := 132) (lv' := [some (eR 98), some (eI (1)), some (eI (0)), some (eI (1)), some (eI (p)), some (eI (q)), some (eI (r)), some (eI (s)), some (eI (12)), some (eI (16))]) (st' := [eI (12), eR 100, eJ (r), eJ (v4), eJ (v1), eJ (0), eJ (0), eJ (1), eJ (0), eR 98]) rfl rfl rfl ?_
  refine w_s (np := 133) (lv' := [some (eR 98), some (eI (1)), some (eI (0)), some (eI (1)), some (eI (p)), some (eI (q)), some (eI (r)), some (eI (s)), some (eI (12)), some (eI (16))]) (st' := [eI (2), eI (12), eR 100, eJ (r), eJ (v4), eJ (v1), eJ (0), eJ (0), eJ (1), eJ (0), eR 98]) rfl rfl rfl ?_
  refine w_s (np := 134) (lv' := [some (eR 98), some (eI (1)), some (eI (0)), some (eI (1)), some (eI (p)), some (eI (q)), some (eI (r)), some (eI (s)), some (eI (12)), some (eI (16))]) (st' := [eI (14), eR 100, eJ (r), eJ (v4), eJ (v1), eJ (0), eJ (0), eJ (1), eJ (0), eR 98]) rfl (b_iadd rfl) rfl ?_
  refine w_al (np := 135) (v := 0) rfl rfl (t_al (k := 14) hq rfl (by decide) rfl) ?_
  refine w_s (np := 136) (lv' := [some (eR 98), some (eI (1)), some (eI (0)), some (eI (1)), some (eI (p)), some (eI (q)), some (eI (r)), some (eI (s)), some (eI (12)), some (eI (16))]) (st' := [eJ (0), eJ (r), eJ (v4), eJ (v1), eJ (0), eJ (0), eJ (1), eJ (0), eR 98]) rfl (b_i2l rfl) rfl ?_
  obtain ⟨v7, e8⟩ : ∃ v : Int, v = (r) - (0) := ⟨_, rfl⟩
  have b9 : -9999 ≤ v7 ∧ v7 ≤ 9999 := by omega
  refine w_s (np := 137) (lv' := [some (eR 98), some (eI (1)), some (eI (0)), some (eI (1)), some (eI (p)), some (eI (q)), some (eI (r)), some (eI (s)), some (eI (12)), some (eI (16))]) (st' := [eJ (v7), eJ (v4), eJ (v1), eJ (0), eJ (0), eJ (1), eJ (0), eR 98]) rfl (b_lsub (by rw [← e8]; exact ev_W_in (by omega) (by omega))) rfl ?_
  refine w_s (np := 139) (lv' := [some (eR 98), some (eI (1)), some (eI (0)), some (eI (1)), some (eI (p)), some (eI (q)), some (eI (r)), some (eI (s)), some (eI (12)), some (eI (16))]) (st' := [eI (s), eJ (v7), eJ (v4), eJ (v1), eJ (0), eJ (0), eJ (1), eJ (0), eR 98]) rfl rfl rfl ?_
  refine w_s (np := 140) (lv' := [some (eR 98), some (eI (1)), some (eI (0)), some (eI (1)), some (eI (p)), some (eI (q)), some (eI (r)), some (eI (s)), some (eI (12)), some (eI (16))]) (st' := [eJ (s), eJ (v7), eJ (v4), eJ (v1), eJ (0), eJ (0), eJ (1), eJ (0), eR 98]) rfl (b_i2l (ev_w_in (by omega) (by omega))) rfl ?_
  refine w_s (np := 141) (lv' := [some (eR 98), some (eI (1)), some (eI (0)), some (eI (1)), some (eI (p)), some (eI (q)), some (eI (r)), some (eI (s)), some (eI (12)), some (eI (16))]) (st' := [eR 98, eJ (s), eJ (v7), eJ (v4), eJ (v1), eJ (0), eJ (0), eJ (1), eJ (0), eR 98]) rfl (s_an rfl (by decide)) rfl ?_
  refine w_gf (np := 144) (v := eR 100) rfl rfl hq.1 (by rw [hq.2.1]; rfl) ?_
  refine w_s (np := 146) (lv' := [some (eR 98), some (eI (1)), some (eI (0)), some (eI (1)), some (eI (p)), some (eI (q)), some (eI (r)), some (eI (s)), some (eI (12)), some (eI (16))]) (st' := [eI (12), eR 100, eJ (s), eJ (v7), eJ (v4), eJ (v1), eJ (0), eJ (0), eJ (1), eJ (0), eR 98]) rfl rfl rfl ?_
  refine w_s (np := 147) (lv' := [some (eR 98), some (eI (1)), some (eI (0)), some (eI (1)), some (eI (p)), some (eI (q)), some (eI (r)), some (eI (s)), some (eI (12)), some (eI (16))]) (st' := [eI (3), eI (12), eR 100, eJ (s), eJ (v7), eJ (v4), eJ (v1), eJ (0), eJ (0), eJ (1), eJ (0), eR 98]) rfl rfl rfl ?_
  refine w_s (np := 148) (lv' := [some (eR 98), some (eI (1)), some (eI (0)), some (eI (1)), some (eI (p)), some (eI (q)), some (eI (r)), some (eI (s)), some (eI (12)), some (eI (16))]) (st' := [eI (15), eR 100, eJ (s), eJ (v7), eJ (v4), eJ (v1), eJ (0), eJ (0), eJ (1), eJ (0), eR 98]) rfl (b_iadd rfl) rfl ?_
  refine w_al (np := 149) (v := 0) rfl rfl (t_al (k := 15) hq rfl (by decide) rfl) ?_
  refine w_s (np := 150) (lv' := [some (eR 98), some (eI (1)), some (eI (0)), some (eI (1)), some (eI (p)), some (eI (q)), some (eI (r)), some (eI (s)), some (eI (12)), some (eI (16))]) (st' := [eJ (0), eJ (s), eJ (v7), eJ (v4), eJ (v1), eJ (0), eJ (0), eJ (1), eJ (0), eR 98]) rfl (b_i2l rfl) rfl ?_
  obtain ⟨v10, e11⟩ : ∃ v : Int, v = (s) - (0) := ⟨_, rfl⟩
  have b12 : -9999 ≤ v10 ∧ v10 ≤ 9999 := by omega
  refine w_s (np := 151) (lv' := [some (eR 98), some (eI (1)), some (eI (0)), some (eI (1)), some (eI (p)), some (eI (q)), some (eI (r)), some (eI (s)), some (eI (12)), some (eI (16))]) (st' := [eJ (v10), eJ (v7), eJ (v4), eJ (v1), eJ (0), eJ (0), eJ (1), eJ (0), eR 98]) rfl (b_lsub (by rw [← e11]; exact ev_W_in (by omega) (by omega))) rfl ?_
  refine w_cv (np := 154) (as := [eJ (0), eJ (1), eJ (0), eJ (0), eJ (v1), eJ (v4), eJ (v7), eJ (v10)]) (lv' := [some (eR 98), some (eJ (0)), none, some (eJ (1)), none, some (eJ (0)), none, some (eJ (0)), none, some (eJ (v1)), none, some (eJ (v4)), none, some (eJ (v7)), none, some (eJ (v10)), none]) (rest := []) rfl rfl rfl (Nat.ble_eq.mp rfl) rfl rfl rfl hq.1 rfl ?_
  refine t224 hq.1 (show (-8 : Int) ≤ 0 ∧ (0 : Int) ≤ 8 by omega) (show (-8 : Int) ≤ 1 ∧ (1 : Int) ≤ 8 by omega) (show (-8 : Int) ≤ 0 ∧ (0 : Int) ≤ 8 by omega) (show (-8 : Int) ≤ 0 ∧ (0 : Int) ≤ 8 by omega) (show (-100000 : Int) ≤ v1 ∧ (v1 : Int) ≤ 100000 by omega) (show (-100000 : Int) ≤ v4 ∧ (v4 : Int) ≤ 100000 by omega) (show (-100000 : Int) ≤ v7 ∧ (v7 : Int) ≤ 100000 by omega) (show (-100000 : Int) ≤ v10 ∧ (v10 : Int) ≤ 100000 by omega) ?_
  intro m B G s1 eB eG bB bG
  show ex_fine fg rc rs (d + 4, (265, 154, [some (eR 98), some (eI (1)), some (eI (0)), some (eI (1)), some (eI (p)), some (eI (q)), some (eI (r)), some (eI (s)), some (eI (12)), some (eI (16))], [eI (rSg (2 * B + G) G)]), f :: F, m)
  refine b_ri rfl rfl ?_
  have hB : B = (-1) * p + 1 * r := by omega
  have hG : G = 1 * s := by omega
  have hr := rSg_ok (x := 2 * B + G) (b := G) (by omega)
  have e9 : 416020 * (2 * B + G) + 930249 * G = (-832040) * p + 832040 * r + 1346269 * s := by omega
  rw [e9] at hr
  exact K m _ s1 hr (rSg_v _ _)
theorem t265_1_1 {fg : eG} {rc rs d : Nat} {f : eFr} {F : List eFr} {μ : eM} {p q r s : Int} (hq : tQ μ) (hp : -9999 ≤ p ∧ p ≤ 9999) (hq0 : -9999 ≤ q ∧ q ≤ 9999) (hr : -9999 ≤ r ∧ r ≤ 9999) (hs : -9999 ≤ s ∧ s ≤ 9999) (K : ∀ (μ2 : eM) (u : Int), tS μ μ2 → ((0 ≤ u ↔ 0 ≤ (-514229) * p + (-832040) * q + (-832040) * r + (-514229) * s + (832040)) ∧ (u ≤ 0 ↔ (-514229) * p + (-832040) * q + (-832040) * r + (-514229) * s + (832040) ≤ 0)) → (u = 0 ∨ u = 1 ∨ u = -1) → ex_fine fg rc rs (d + 5, (f.1, f.2.1, f.2.2.1, eI u :: f.2.2.2), F, μ2)) : ex_fine fg rc rs (d + 4, (265, 0, [some (eR 98), some (eI (1)), some (eI (1)), some (eI (2)), some (eI (p)), some (eI (q)), some (eI (r)), some (eI (s)), none, none], []), f :: F, μ) := by
  refine w_s (np := 2) (lv' := [some (eR 98), some (eI (1)), some (eI (1)), some (eI (2)), some (eI (p)), some (eI (q)), some (eI (r)), some (eI (s)), none, none]) (st' := [eI (12)]) rfl rfl rfl ?_
  refine w_s (np := 3) (lv' := [some (eR 98), some (eI (1)), some (eI (1)), some (eI (2)), some (eI (p)), some (eI (q)), some (eI (r)), some (eI (s)), none, none]) (st' := [eI (1), eI (12)]) rfl rfl rfl ?_
  refine w_s (np := 4) (lv' := [some (eR 98), some (eI (1)), some (eI (1)), some (eI (2)), some (eI (p)), some (eI (q)), some (eI (r)), some (eI (s)), none, none]) (st' := [eI (12)]) rfl (b_imul rfl) rfl ?_
  refine w_s (np := 5) (lv' := [some (eR 98), some (eI (1)), some (eI (1)), some (eI (2)), some (eI (p)), some (eI (q)), some (eI (r)), some (eI (s)), none, none]) (st' := [eI (4), eI (12)]) rfl rfl rfl ?_
  refine w_s (np := 6) (lv' := [some (eR 98), some (eI (1)), some (eI (1)), some (eI (2)), some (eI (p)), some (eI (q)), some (eI (r)), some (eI (s)), none, none]) (st' := [eI (1), eI (4), eI (12)]) rfl rfl rfl ?_
  refine w_s (np := 7) (lv' := [some (eR 98), some (eI (1)), some (eI (1)), some (eI (2)), some (eI (p)), some (eI (q)), some (eI (r)), some (eI (s)), none, none]) (st' := [eI (4), eI (12)]) rfl (b_imul rfl) rfl ?_
  refine w_s (np := 8) (lv' := [some (eR 98), some (eI (1)), some (eI (1)), some (eI (2)), some (eI (p)), some (eI (q)), some (eI (r)), some (eI (s)), none, none]) (st' := [eI (16)]) rfl (b_iadd rfl) rfl ?_
  refine w_s (np := 10) (lv' := [some (eR 98), some (eI (1)), some (eI (1)), some (eI (2)), some (eI (p)), some (eI (q)), some (eI (r)), some (eI (s)), some (eI (16)), none]) (st' := []) rfl rfl rfl ?_
  refine w_s (np := 12) (lv' := [some (eR 98), some (eI (1)), some (eI (1)), some (eI (2)), some (eI (p)), some (eI (q)), some (eI (r)), some (eI (s)), some (eI (16)), none]) (st' := [eI (12)]) rfl rfl rfl ?_
  refine w_s (np := 13) (lv' := [some (eR 98), some (eI (1)), some (eI (1)), some (eI (2)), some (eI (p)), some (eI (q)), some (eI (r)), some (eI (s)), some (eI (16)), none]) (st' := [eI (1), eI (12)]) rfl rfl rfl ?_
  refine w_s (np := 14) (lv' := [some (eR 98), some (eI (1)), some (eI (1)), some (eI (2)), some (eI (p)), some (eI (q)), some (eI (r)), some (eI (s)), some (eI (16)), none]) (st' := [eI (12)]) rfl (b_imul rfl) rfl ?_
  refine w_s (np := 15) (lv' := [some (eR 98), some (eI (1)), some (eI (1)), some (eI (2)), some (eI (p)), some (eI (q)), some (eI (r)), some (eI (s)), some (eI (16)), none]) (st' := [eI (4), eI (12)]) rfl rfl rfl ?_
  refine w_s (np := 16) (lv' := [some (eR 98), some (eI (1)), some (eI (1)), some (eI (2)), some (eI (p)), some (eI (q)), some (eI (r)), some (eI (s)), some (eI (16)), none]) (st' := [eI (2), eI (4), eI (12)]) rfl rfl rfl ?_
  refine w_s (np := 17) (lv' := [some (eR 98), some (eI (1)), some (eI (1)), some (eI (2)), some (eI (p)), some (eI (q)), some (eI (r)), some (eI (s)), some (eI (16)), none]) (st' := [eI (8), eI (12)]) rfl (b_imul rfl) rfl ?_
  refine w_s (np := 18) (lv' := [some (eR 98), some (eI (1)), some (eI (1)), some (eI (2)), some (eI (p)), some (eI (q)), some (eI (r)), some (eI (s)), some (eI (16)), none]) (st' := [eI (20)]) rfl (b_iadd rfl) rfl ?_
  refine w_s (np := 20) (lv' := [some (eR 98), some (eI (1)), some (eI (1)), some (eI (2)), some (eI (p)), some (eI (q)), some (eI (r)), some (eI (s)), some (eI (16)), some (eI (20))]) (st' := []) rfl rfl rfl ?_
  refine w_s (np := 21) (lv' := [some (eR 98), some (eI (1)), some (eI (1)), some (eI (2)), some (eI (p)), some (eI (q)), some (eI (r)), some (eI (s)), some (eI (16)), some (eI (20))]) (st' := [eR 98]) rfl (s_an rfl (by decide)) rfl ?_
  refine w_s (np := 22) (lv' := [some (eR 98), some (eI (1)), some (eI (1)), some (eI (2)), some (eI (p)), some (eI (q)), some (eI (r)), some (eI (s)), some (eI (16)), some (eI (20))]) (st' := [eR 98, eR 98]) rfl (s_an rfl (by decide)) rfl ?_
  refine w_gf (np := 25) (v := eR 100) rfl rfl hq.1 (by rw [hq.2.1]; rfl) ?_
  refine w_s (np := 27) (lv' := [some (eR 98), some (eI (1)), some (eI (1)), some (eI (2)), some (eI (p)), some (eI (q)), some (eI (r)), some (eI (s)), some (eI (16)), some (eI (20))]) (st' := [eI (20), eR 100, eR 98]) rfl rfl rfl ?_
  refine w_al (np := 28) (v := 0) rfl rfl (t_al (k := 20) hq rfl (by decide) rfl) ?_
  refine w_s (np := 29) (lv' := [some (eR 98), some (eI (1)), some (eI (1)), some (eI (2)), some (eI (p)), some (eI (q)), some (eI (r)), some (eI (s)), some (eI (16)), some (eI (20))]) (st' := [eR 98, eI (0), eR 98]) rfl (s_an rfl (by decide)) rfl ?_
  refine w_gf (np := 32) (v := eR 100) rfl rfl hq.1 (by rw [hq.2.1]; rfl) ?_
  refine w_s (np := 34) (lv' := [some (eR 98), some (eI (1)), some (eI (1)), some (eI (2)), some (eI (p)), some (eI (q)), some (eI (r)), some (eI (s)), some (eI (16)), some (eI (20))]) (st' := [eI (16), eR 100, eI (0), eR 98]) rfl rfl rfl ?_
  refine w_al (np := 35) (v := 0) rfl rfl (t_al (k := 16) hq rfl (by decide) rfl) ?_
  refine w_s (np := 36) (lv' := [some (eR 98), some (eI (1)), some (eI (1)), some (eI (2)), some (eI (p)), some (eI (q)), some (eI (r)), some (eI (s)), some (eI (16)), some (eI (20))]) (st' := [eI (0), eR 98]) rfl (b_isub rfl) rfl ?_
  refine w_s (np := 37) (lv' := [some (eR 98), some (eI (1)), some (eI (1)), some (eI (2)), some (eI (p)), some (eI (q)), some (eI (r)), some (eI (s)), some (eI (16)), some (eI (20))]) (st' := [eJ (0), eR 98]) rfl (b_i2l rfl) rfl ?_
  refine w_s (np := 38) (lv' := [some (eR 98), some (eI (1)), some (eI (1)), some (eI (2)), some (eI (p)), some (eI (q)), some (eI (r)), some (eI (s)), some (eI (16)), some (eI (20))]) (st' := [eR 98, eJ (0), eR 98]) rfl (s_an rfl (by decide)) rfl ?_
  refine w_gf (np := 41) (v := eR 100) rfl rfl hq.1 (by rw [hq.2.1]; rfl) ?_
  refine w_s (np := 43) (lv' := [some (eR 98), some (eI (1)), some (eI (1)), some (eI (2)), some (eI (p)), some (eI (q)), some (eI (r)), some (eI (s)), some (eI (16)), some (eI (20))]) (st' := [eI (20), eR 100, eJ (0), eR 98]) rfl rfl rfl ?_
  refine w_s (np := 44) (lv' := [some (eR 98), some (eI (1)), some (eI (1)), some (eI (2)), some (eI (p)), some (eI (q)), some (eI (r)), some (eI (s)), some (eI (16)), some (eI (20))]) (st' := [eI (1), eI (20), eR 100, eJ (0), eR 98]) rfl rfl rfl ?_
  refine w_s (np := 45) (lv' := [some (eR 98), some (eI (1)), some (eI (1)), some (eI (2)), some (eI (p)), some (eI (q)), some (eI (r)), some (eI (s)), some (eI (16)), some (eI (20))]) (st' := [eI (21), eR 100, eJ (0), eR 98]) rfl (b_iadd rfl) rfl ?_
  refine w_al (np := 46) (v := 0) rfl rfl (t_al (k := 21) hq rfl (by decide) rfl) ?_
  refine w_s (np := 47) (lv' := [some (eR 98), some (eI (1)), some (eI (1)), some (eI (2)), some (eI (p)), some (eI (q)), some (eI (r)), some (eI (s)), some (eI (16)), some (eI (20))]) (st' := [eR 98, eI (0), eJ (0), eR 98]) rfl (s_an rfl (by decide)) rfl ?_
  refine w_gf (np := 50) (v := eR 100) rfl rfl hq.1 (by rw [hq.2.1]; rfl) ?_
  refine w_s (np := 52) (lv' := [some (eR 98), some (eI (1)), some (eI (1)), some (eI (2)), some (eI (p)), some (eI (q)), some (eI (r)), some (eI (s)), some (eI (16)), some (eI (20))]) (st' := [eI (16), eR 100, eI (0), eJ (0), eR 98]) rfl rfl rfl ?_
  refine w_s (np := 53) (lv' := [some (eR 98), some (eI (1)), some (eI (1)), some (eI (2)), some (eI (p)), some (eI (q)), some (eI (r)), some (eI (s)), some (eI (16)), some (eI (20))]) (st' := [eI (1), eI (16), eR 100, eI (0), eJ (0), eR 98]) rfl rfl rfl ?_
  refine w_s (np := 54) (lv' := [some (eR 98), some (eI (1)), some (eI (1)), some (eI (2)), some (eI (p)), some (eI (q)), some (eI (r)), some (eI (s)), some (eI (16)), some (eI (20))]) (st' := [eI (17), eR 100, eI (0), eJ (0), eR 98]) rfl (b_iadd rfl) rfl ?_
  refine w_al (np := 55) (v := 1) rfl rfl (t_al (k := 17) hq rfl (by decide) rfl) ?_
  refine w_s (np := 56) (lv' := [some (eR 98), some (eI (1)), some (eI (1)), some (eI (2)), some (eI (p)), some (eI (q)), some (eI (r)), some (eI (s)), some (eI (16)), some (eI (20))]) (st' := [eI (-1), eJ (0), eR 98]) rfl (b_isub rfl) rfl ?_
  refine w_s (np := 57) (lv' := [some (eR 98), some (eI (1)), some (eI (1)), some (eI (2)), some (eI (p)), some (eI (q)), some (eI (r)), some (eI (s)), some (eI (16)), some (eI (20))]) (st' := [eJ (-1), eJ (0), eR 98]) rfl (b_i2l rfl) rfl ?_
  refine w_s (np := 58) (lv' := [some (eR 98), some (eI (1)), some (eI (1)), some (eI (2)), some (eI (p)), some (eI (q)), some (eI (r)), some (eI (s)), some (eI (16)), some (eI (20))]) (st' := [eR 98, eJ (-1), eJ (0), eR 98]) rfl (s_an rfl (by decide)) rfl ?_
  refine w_gf (np := 61) (v := eR 100) rfl rfl hq.1 (by rw [hq.2.1]; rfl) ?_
  refine w_s (np := 63) (lv' := [some (eR 98), some (eI (1)), some (eI (1)), some (eI (2)), some (eI (p)), some (eI (q)), some (eI (r)), some (eI (s)), some (eI (16)), some (eI (20))]) (st' := [eI (20), eR 100, eJ (-1), eJ (0), eR 98]) rfl rfl rfl ?_
  refine w_s (np := 64) (lv' := [some (eR 98), some (eI (1)), some (eI (1)), some (eI (2)), some (eI (p)), some (eI (q)), some (eI (r)), some (eI (s)), some (eI (16)), some (eI (20))]) (st' := [eI (2), eI (20), eR 100, eJ (-1), eJ (0), eR 98]) rfl rfl rfl ?_
  refine w_s (np := 65) (lv' := [some (eR 98), some (eI (1)), some (eI (1)), some (eI (2)), some (eI (p)), some (eI (q)), some (eI (r)), some (eI (s)), some (eI (16)), some (eI (20))]) (st' := [eI (22), eR 100, eJ (-1), eJ (0), eR 98]) rfl (b_iadd rfl) rfl ?_
  refine w_al (np := 66) (v := 1) rfl rfl (t_al (k := 22) hq rfl (by decide) rfl) ?_
  refine w_s (np := 67) (lv' := [some (eR 98), some (eI (1)), some (eI (1)), some (eI (2)), some (eI (p)), some (eI (q)), some (eI (r)), some (eI (s)), some (eI (16)), some (eI (20))]) (st' := [eR 98, eI (1), eJ (-1), eJ (0), eR 98]) rfl (s_an rfl (by decide)) rfl ?_
  refine w_gf (np := 70) (v := eR 100) rfl rfl hq.1 (by rw [hq.2.1]; rfl) ?_
  refine w_s (np := 72) (lv' := [some (eR 98), some (eI (1)), some (eI (1)), some (eI (2)), some (eI (p)), some (eI (q)), some (eI (r)), some (eI (s)), some (eI (16)), some (eI (20))]) (st' := [eI (16), eR 100, eI (1), eJ (-1), eJ (0), eR 98]) rfl rfl rfl ?_
  refine w_s (np := 73) (lv' := [some (eR 98), some (eI (1)), some (eI (1)), some (eI (2)), some (eI (p)), some (eI (q)), some (eI (r)), some (eI (s)), some (eI (16)), some (eI (20))]) (st' := [eI (2), eI (16), eR 100, eI (1), eJ (-1), eJ (0), eR 98]) rfl rfl rfl ?_
  refine w_s (np := 74) (lv' := [some (eR 98), some (eI (1)), some (eI (1)), some (eI (2)), some (eI (p)), some (eI (q)), some (eI (r)), some (eI (s)), some (eI (16)), some (eI (20))]) (st' := [eI (18), eR 100, eI (1), eJ (-1), eJ (0), eR 98]) rfl (b_iadd rfl) rfl ?_
  refine w_al (np := 75) (v := 0) rfl rfl (t_al (k := 18) hq rfl (by decide) rfl) ?_
  refine w_s (np := 76) (lv' := [some (eR 98), some (eI (1)), some (eI (1)), some (eI (2)), some (eI (p)), some (eI (q)), some (eI (r)), some (eI (s)), some (eI (16)), some (eI (20))]) (st' := [eI (1), eJ (-1), eJ (0), eR 98]) rfl (b_isub rfl) rfl ?_
  refine w_s (np := 77) (lv' := [some (eR 98), some (eI (1)), some (eI (1)), some (eI (2)), some (eI (p)), some (eI (q)), some (eI (r)), some (eI (s)), some (eI (16)), some (eI (20))]) (st' := [eJ (1), eJ (-1), eJ (0), eR 98]) rfl (b_i2l rfl) rfl ?_
  refine w_s (np := 78) (lv' := [some (eR 98), some (eI (1)), some (eI (1)), some (eI (2)), some (eI (p)), some (eI (q)), some (eI (r)), some (eI (s)), some (eI (16)), some (eI (20))]) (st' := [eR 98, eJ (1), eJ (-1), eJ (0), eR 98]) rfl (s_an rfl (by decide)) rfl ?_
  refine w_gf (np := 81) (v := eR 100) rfl rfl hq.1 (by rw [hq.2.1]; rfl) ?_
  refine w_s (np := 83) (lv' := [some (eR 98), some (eI (1)), some (eI (1)), some (eI (2)), some (eI (p)), some (eI (q)), some (eI (r)), some (eI (s)), some (eI (16)), some (eI (20))]) (st' := [eI (20), eR 100, eJ (1), eJ (-1), eJ (0), eR 98]) rfl rfl rfl ?_
  refine w_s (np := 84) (lv' := [some (eR 98), some (eI (1)), some (eI (1)), some (eI (2)), some (eI (p)), some (eI (q)), some (eI (r)), some (eI (s)), some (eI (16)), some (eI (20))]) (st' := [eI (3), eI (20), eR 100, eJ (1), eJ (-1), eJ (0), eR 98]) rfl rfl rfl ?_
  refine w_s (np := 85) (lv' := [some (eR 98), some (eI (1)), some (eI (1)), some (eI (2)), some (eI (p)), some (eI (q)), some (eI (r)), some (eI (s)), some (eI (16)), some (eI (20))]) (st' := [eI (23), eR 100, eJ (1), eJ (-1), eJ (0), eR 98]) rfl (b_iadd rfl) rfl ?_
  refine w_al (np := 86) (v := 0) rfl rfl (t_al (k := 23) hq rfl (by decide) rfl) ?_
  refine w_s (np := 87) (lv' := [some (eR 98), some (eI (1)), some (eI (1)), some (eI (2)), some (eI (p)), some (eI (q)), some (eI (r)), some (eI (s)), some (eI (16)), some (eI (20))]) (st' := [eR 98, eI (0), eJ (1), eJ (-1), eJ (0), eR 98]) rfl (s_an rfl (by decide)) rfl ?_
  refine w_gf (np := 90) (v := eR 100) rfl rfl hq.1 (by rw [hq.2.1]; rfl) ?_
  refine w_s (np := 92) (lv' := [some (eR 98), some (eI (1)), some (eI (1)), some (eI (2)), some (eI (p)), some (eI (q)), some (eI (r)), some (eI (s)), some (eI (16)), some (eI (20))]) (st' := [eI (16), eR 100, eI (0), eJ (1), eJ (-1), eJ (0), eR 98]) rfl rfl rfl ?_
  refine w_s (np := 93) (lv' := [some (eR 98), some (eI (1)), some (eI (1)), some (eI (2)), some (eI (p)), some (eI (q)), some (eI (r)), some (eI (s)), some (eI (16)), some (eI (20))]) (st' := [eI (3), eI (16), eR 100, eI (0), eJ (1), eJ (-1), eJ (0), eR 98]) rfl rfl rfl ?_
  refine w_s (np := 94) (lv' := [some (eR 98), some (eI (1)), some (eI (1)), some (eI (2)), some (eI (p)), some (eI (q)), some (eI (r)), some (eI (s)), some (eI (16)), some (eI (20))]) (st' := [eI (19), eR 100, eI (0), eJ (1), eJ (-1), eJ (0), eR 98]) rfl (b_iadd rfl) rfl ?_
  refine w_al (np := 95) (v := 0) rfl rfl (t_al (k := 19) hq rfl (by decide) rfl) ?_
  refine w_s (np := 96) (lv' := [some (eR 98), some (eI (1)), some (eI (1)), some (eI (2)), some (eI (p)), some (eI (q)), some (eI (r)), some (eI (s)), some (eI (16)), some (eI (20))]) (st' := [eI (0), eJ (1), eJ (-1), eJ (0), eR 98]) rfl (b_isub rfl) rfl ?_
  refine w_s (np := 97) (lv' := [some (eR 98), some (eI (1)), some (eI (1)), some (eI (2)), some (eI (p)), some (eI (q)), some (eI (r)), some (eI (s)), some (eI (16)), some (eI (20))]) (st' := [eJ (0), eJ (1), eJ (-1), eJ (0), eR 98]) rfl (b_i2l rfl) rfl ?_
  refine w_s (np := 99) (lv' := [some (eR 98), some (eI (1)), some (eI (1)), some (eI (2)), some (eI (p)), some (eI (q)), some (eI (r)), some (eI (s)), some (eI (16)), some (eI (20))]) (st' := [eI (p), eJ (0), eJ (1), eJ (-1), eJ (0), eR 98]) rfl rfl rfl ?_
  refine w_s (np := 100) (lv' := [some (eR 98), some (eI (1)), some (eI (1)), some (eI (2)), some (eI (p)), some (eI (q)), some (eI (r)), some (eI (s)), some (eI (16)), some (eI (20))]) (st' := [eJ (p), eJ (0), eJ (1), eJ (-1), eJ (0), eR 98]) rfl (b_i2l (ev_w_in (by omega) (by omega))) rfl ?_
  refine w_s (np := 101) (lv' := [some (eR 98), some (eI (1)), some (eI (1)), some (eI (2)), some (eI (p)), some (eI (q)), some (eI (r)), some (eI (s)), some (eI (16)), some (eI (20))]) (st' := [eR 98, eJ (p), eJ (0), eJ (1), eJ (-1), eJ (0), eR 98]) rfl (s_an rfl (by decide)) rfl ?_
  refine w_gf (np := 104) (v := eR 100) rfl rfl hq.1 (by rw [hq.2.1]; rfl) ?_
  refine w_s (np := 106) (lv' := [some (eR 98), some (eI (1)), some (eI (1)), some (eI (2)), some (eI (p)), some (eI (q)), some (eI (r)), some (eI (s)), some (eI (16)), some (eI (20))]) (st' := [eI (16), eR 100, eJ (p), eJ (0), eJ (1), eJ (-1), eJ (0), eR 98]) rfl rfl rfl ?_
  refine w_al (np := 107) (v := 0) rfl rfl (t_al (k := 16) hq rfl (by decide) rfl) ?_
  refine w_s (np := 108) (lv' := [some (eR 98), some (eI (1)), some (eI (1)), some (eI (2)), some (eI (p)), some (eI (q)), some (eI (r)), some (eI (s)), some (eI (16)), some (eI (20))]) (st' := [eJ (0), eJ (p), eJ (0), eJ (1), eJ (-1), eJ (0), eR 98]) rfl (b_i2l rfl) rfl ?_
  obtain ⟨v1, e2⟩ : ∃ v : Int, v = (p) - (0) := ⟨_, rfl⟩
  have b3 : -9999 ≤ v1 ∧ v1 ≤ 9999 := by omega
  refine w_s (np := 109) (lv' := [some (eR 98), some (eI (1)), some (eI (1)), some (eI (2)), some (eI (p)), some (eI (q)), some (eI (r)), some (eI (s)), some (eI (16)), some (eI (20))]) (st' := [eJ (v1), eJ (0), eJ (1), eJ (-1), eJ (0), eR 98]) rfl (b_lsub (by rw [← e2]; exact ev_W_in (by omega) (by omega))) rfl ?_
  refine w_s (np := 111) (lv' := [some (eR 98), some (eI (1)), some (eI (1)), some (eI (2)), some (eI (p)), some (eI (q)), some (eI (r)), some (eI (s)), some (eI (16)), some (eI (20))]) (st' := [eI (q), eJ (v1), eJ (0), eJ (1), eJ (-1), eJ (0), eR 98]) rfl rfl rfl ?_
  refine w_s (np := 112) (lv' := [some (eR 98), some (eI (1)), some (eI (1)), some (eI (2)), some (eI (p)), some (eI (q)), some (eI (r)), some (eI (s)), some (eI (16)), some (eI (20))]) (st' := [eJ (q), eJ (v1), eJ (0), eJ (1), eJ (-1), eJ (0), eR 98]) rfl (b_i2l (ev_w_in (by omega) (by omega))) rfl ?_
  refine w_s (np := 113) (lv' := [some (eR 98), some (eI (1)), some (eI (1)), some (eI (2)), some (eI (p)), some (eI (q)), some (eI (r)), some (eI (s)), some (eI (16)), some (eI (20))]) (st' := [eR 98, eJ (q), eJ (v1), eJ (0), eJ (1), eJ (-1), eJ (0), eR 98]) rfl (s_an rfl (by decide)) rfl ?_
  refine w_gf (np := 116) (v := eR 100) rfl rfl hq.1 (by rw [hq.2.1]; rfl) ?_
  refine w_s (np := 118) (lv' := [some (eR 98), some (eI (1)), some (eI (1)), some (eI (2)), some (eI (p)), some (eI (q)), some (eI (r)), some (eI (s)), some (eI (16)), some (eI (20))]) (st' := [eI (16), eR 100, eJ (q), eJ (v1), eJ (0), eJ (1), eJ (-1), eJ (0), eR 98]) rfl rfl rfl ?_
  refine w_s (np := 119) (lv' := [some (eR 98), some (eI (1)), some (eI (1)), some (eI (2)), some (eI (p)), some (eI (q)), some (eI (r)), some (eI (s)), some (eI (16)), some (eI (20))]) (st' := [eI (1), eI (16), eR 100, eJ (q), eJ (v1), eJ (0), eJ (1), eJ (-1), eJ (0), eR 98]) rfl rfl rfl ?_
  refine w_s (np := 120) (lv' := [some (eR 98), some (eI (1)), some (eI (1)), some (eI (2)), some (eI (p)), some (eI (q)), some (eI (r)), some (eI (s)), some (eI (16)), some (eI (20))]) (st' := [eI (17), eR 100, eJ (q), eJ (v1), eJ (0), eJ (1), eJ (-1), eJ (0), eR 98]) rfl (b_iadd rfl) rfl ?_
  refine w_al (np := 121) (v := 1) rfl rfl (t_al (k := 17) hq rfl (by decide) rfl) ?_
  refine w_s (np := 122) (lv' := [some (eR 98), some (eI (1)), some (eI (1)), some (eI (2)), some (eI (p)), some (eI (q)), some (eI (r)), some (eI (s)), some (eI (16)), some (eI (20))]) (st' := [eJ (1), eJ (q), eJ (v1), eJ (0), eJ (1), eJ (-1), eJ (0), eR 98]) rfl (b_i2l rfl) rfl ?_
  obtain ⟨v4, e5⟩ : ∃ v : Int, v = (q) - (1) := ⟨_, rfl⟩
  have b6 : -10000 ≤ v4 ∧ v4 ≤ 9998 := by omega
  refine w_s (np := 123) (lv' := [some (eR 98), some (eI (1)), some (eI (1)), some (eI (2)), some (eI (p)), some (eI (q)), some (eI (r)), some (eI (s)), some (eI (16)), some (eI (20))]) (st' := [eJ (v4), eJ (v1), eJ (0), eJ (1), eJ (-1), eJ (0), eR 98]) rfl (b_lsub (by rw [← e5]; exact ev_W_in (by omega) (by omega))) rfl ?_
  refine w_s (np := 125) (lv' := [some (eR 98), some (eI (1)), some (eI (1)), some (eI (2)), some (eI (p)), some (eI (q)), some (eI (r)), some (eI (s)), some (eI (16)), some (eI (20))]) (st' := [eI (r), eJ (v4), eJ (v1), eJ (0), eJ (1), eJ (-1), eJ (0), eR 98]) rfl rfl rfl ?_
  refine w_s (np := 126) (lv' := [some (eR 98), some (eI (1)), some (eI (1)), some (eI (2)), some (eI (p)), some (eI (q)), some (eI (r)), some (eI (s)), some (eI (16)), some (eI (20))]) (st' := [eJ (r), eJ (v4), eJ (v1), eJ (0), eJ (1), eJ (-1), eJ (0), eR 98]) rfl (b_i2l (ev_w_in (by omega) (by omega))) rfl ?_
  refine w_s (np := 127) (lv' := [some (eR 98), some (eI (1)), some (eI (1)), some (eI (2)), some (eI (p)), some (eI (q)), some (eI (r)), some (eI (s)), some (eI (16)), some (eI (20))]) (st' := [eR 98, eJ (r), eJ (v4), eJ (v1), eJ (0), eJ (1), eJ (-1), eJ (0), eR 98]) rfl (s_an rfl (by decide)) rfl ?_
  refine w_gf (np := 130) (v := eR 100) rfl rfl hq.1 (by rw [hq.2.1]; rfl) ?_
  refine w_s (np := 132) (lv' := [some (eR 98), some (eI (1)), some (eI (1)), some (eI (2)), some (eI (p)), some (eI (q)), some (eI (r)), some (eI (s)), some (eI (16)), some (eI (20))]) (st' := [eI (16), eR 100, eJ (r), eJ (v4), eJ (v1), eJ (0), eJ (1), eJ (-1), eJ (0), eR 98]) rfl rfl rfl ?_
  refine w_s (np := 133) (lv' := [some (eR 98), some (eI (1)), some (eI (1)), some (eI (2)), some (eI (p)), some (eI (q)), some (eI (r)), some (eI (s)), some (eI (16)), some (eI (20))]) (st' := [eI (2), eI (16), eR 100, eJ (r), eJ (v4), eJ (v1), eJ (0), eJ (1), eJ (-1), eJ (0), eR 98]) rfl rfl rfl ?_
  refine w_s (np := 134) (lv' := [some (eR 98), some (eI (1)), some (eI (1)), some (eI (2)), some (eI (p)), some (eI (q)), some (eI (r)), some (eI (s)), some (eI (16)), some (eI (20))]) (st' := [eI (18), eR 100, eJ (r), eJ (v4), eJ (v1), eJ (0), eJ (1), eJ (-1), eJ (0), eR 98]) rfl (b_iadd rfl) rfl ?_
  refine w_al (np := 135) (v := 0) rfl rfl (t_al (k := 18) hq rfl (by decide) rfl) ?_
  refine w_s (np := 136) (lv' := [some (eR 98), some (eI (1)), some (eI (1)), some (eI (2)), some (eI (p)), some (eI (q)), some (eI (r)), some (eI (s)), some (eI (16)), some (eI (20))]) (st' := [eJ (0), eJ (r), eJ (v4), eJ (v1), eJ (0), eJ (1), eJ (-1), eJ (0), eR 98]) rfl (b_i2l rfl) rfl ?_
  obtain ⟨v7, e8⟩ : ∃ v : Int, v = (r) - (0) := ⟨_, rfl⟩
  have b9 : -9999 ≤ v7 ∧ v7 ≤ 9999 := by omega
  refine w_s (np := 137) (lv' := [some (eR 98), some (eI (1)), some (eI (1)), some (eI (2)), some (eI (p)), some (eI (q)), some (eI (r)), some (eI (s)), some (eI (16)), some (eI (20))]) (st' := [eJ (v7), eJ (v4), eJ (v1), eJ (0), eJ (1), eJ (-1), eJ (0), eR 98]) rfl (b_lsub (by rw [← e8]; exact ev_W_in (by omega) (by omega))) rfl ?_
  refine w_s (np := 139) (lv' := [some (eR 98), some (eI (1)), some (eI (1)), some (eI (2)), some (eI (p)), some (eI (q)), some (eI (r)), some (eI (s)), some (eI (16)), some (eI (20))]) (st' := [eI (s), eJ (v7), eJ (v4), eJ (v1), eJ (0), eJ (1), eJ (-1), eJ (0), eR 98]) rfl rfl rfl ?_
  refine w_s (np := 140) (lv' := [some (eR 98), some (eI (1)), some (eI (1)), some (eI (2)), some (eI (p)), some (eI (q)), some (eI (r)), some (eI (s)), some (eI (16)), some (eI (20))]) (st' := [eJ (s), eJ (v7), eJ (v4), eJ (v1), eJ (0), eJ (1), eJ (-1), eJ (0), eR 98]) rfl (b_i2l (ev_w_in (by omega) (by omega))) rfl ?_
  refine w_s (np := 141) (lv' := [some (eR 98), some (eI (1)), some (eI (1)), some (eI (2)), some (eI (p)), some (eI (q)), some (eI (r)), some (eI (s)), some (eI (16)), some (eI (20))]) (st' := [eR 98, eJ (s), eJ (v7), eJ (v4), eJ (v1), eJ (0), eJ (1), eJ (-1), eJ (0), eR 98]) rfl (s_an rfl (by decide)) rfl ?_
  refine w_gf (np := 144) (v := eR 100) rfl rfl hq.1 (by rw [hq.2.1]; rfl) ?_
  refine w_s (np := 146) (lv' := [some (eR 98), some (eI (1)), some (eI (1)), some (eI (2)), some (eI (p)), some (eI (q)), some (eI (r)), some (eI (s)), some (eI (16)), some (eI (20))]) (st' := [eI (16), eR 100, eJ (s), eJ (v7), eJ (v4), eJ (v1), eJ (0), eJ (1), eJ (-1), eJ (0), eR 98]) rfl rfl rfl ?_
  refine w_s (np := 147) (lv' := [some (eR 98), some (eI (1)), some (eI (1)), some (eI (2)), some (eI (p)), some (eI (q)), some (eI (r)), some (eI (s)), some (eI (16)), some (eI (20))]) (st' := [eI (3), eI (16), eR 100, eJ (s), eJ (v7), eJ (v4), eJ (v1), eJ (0), eJ (1), eJ (-1), eJ (0), eR 98]) rfl rfl rfl ?_
  refine w_s (np := 148) (lv' := [some (eR 98), some (eI (1)), some (eI (1)), some (eI (2)), some (eI (p)), some (eI (q)), some (eI (r)), some (eI (s)), some (eI (16)), some (eI (20))]) (st' := [eI (19), eR 100, eJ (s), eJ (v7), eJ (v4), eJ (v1), eJ (0), eJ (1), eJ (-1), eJ (0), eR 98]) rfl (b_iadd rfl) rfl ?_
  refine w_al (np := 149) (v := 0) rfl rfl (t_al (k := 19) hq rfl (by decide) rfl) ?_
  refine w_s (np := 150) (lv' := [some (eR 98), some (eI (1)), some (eI (1)), some (eI (2)), some (eI (p)), some (eI (q)), some (eI (r)), some (eI (s)), some (eI (16)), some (eI (20))]) (st' := [eJ (0), eJ (s), eJ (v7), eJ (v4), eJ (v1), eJ (0), eJ (1), eJ (-1), eJ (0), eR 98]) rfl (b_i2l rfl) rfl ?_
  obtain ⟨v10, e11⟩ : ∃ v : Int, v = (s) - (0) := ⟨_, rfl⟩
  have b12 : -9999 ≤ v10 ∧ v10 ≤ 9999 := by omega
  refine w_s (np := 151) (lv' := [some (eR 98), some (eI (1)), some (eI (1)), some (eI (2)), some (eI (p)), some (eI (q)), some (eI (r)), some (eI (s)), some (eI (16)), some (eI (20))]) (st' := [eJ (v10), eJ (v7), eJ (v4), eJ (v1), eJ (0), eJ (1), eJ (-1), eJ (0), eR 98]) rfl (b_lsub (by rw [← e11]; exact ev_W_in (by omega) (by omega))) rfl ?_
  refine w_cv (np := 154) (as := [eJ (0), eJ (-1), eJ (1), eJ (0), eJ (v1), eJ (v4), eJ (v7), eJ (v10)]) (lv' := [some (eR 98), some (eJ (0)), none, some (eJ (-1)), none, some (eJ (1)), none, some (eJ (0)), none, some (eJ (v1)), none, some (eJ (v4)), none, some (eJ (v7)), none, some (eJ (v10)), none]) (rest := []) rfl rfl rfl (Nat.ble_eq.mp rfl) rfl rfl rfl hq.1 rfl ?_
  refine t224 hq.1 (show (-8 : Int) ≤ 0 ∧ (0 : Int) ≤ 8 by omega) (show (-8 : Int) ≤ -1 ∧ (-1 : Int) ≤ 8 by omega) (show (-8 : Int) ≤ 1 ∧ (1 : Int) ≤ 8 by omega) (show (-8 : Int) ≤ 0 ∧ (0 : Int) ≤ 8 by omega) (show (-100000 : Int) ≤ v1 ∧ (v1 : Int) ≤ 100000 by omega) (show (-100000 : Int) ≤ v4 ∧ (v4 : Int) ≤ 100000 by omega) (show (-100000 : Int) ≤ v7 ∧ (v7 : Int) ≤ 100000 by omega) (show (-100000 : Int) ≤ v10 ∧ (v10 : Int) ≤ 100000 by omega) ?_
  intro m B G s1 eB eG bB bG
  show ex_fine fg rc rs (d + 4, (265, 154, [some (eR 98), some (eI (1)), some (eI (1)), some (eI (2)), some (eI (p)), some (eI (q)), some (eI (r)), some (eI (s)), some (eI (16)), some (eI (20))], [eI (rSg (2 * B + G) G)]), f :: F, m)
  refine b_ri rfl rfl ?_
  have hB : B = 1 * p + (-1) * q + (-1) * r + 1 * s + (1) := by omega
  have hG : G = (-1) * p + (-1) * s := by omega
  have hr := rSg_ok (x := 2 * B + G) (b := G) (by omega)
  have e9 : 416020 * (2 * B + G) + 930249 * G = (-514229) * p + (-832040) * q + (-832040) * r + (-514229) * s + (832040) := by omega
  rw [e9] at hr
  exact K m _ s1 hr (rSg_v _ _)
theorem t265_1_2 {fg : eG} {rc rs d : Nat} {f : eFr} {F : List eFr} {μ : eM} {p q r s : Int} (hq : tQ μ) (hp : -9999 ≤ p ∧ p ≤ 9999) (hq0 : -9999 ≤ q ∧ q ≤ 9999) (hr : -9999 ≤ r ∧ r ≤ 9999) (hs : -9999 ≤ s ∧ s ≤ 9999) (K : ∀ (μ2 : eM) (u : Int), tS μ μ2 → ((0 ≤ u ↔ 0 ≤ 1346269 * p + 832040 * q + (-832040) * s) ∧ (u ≤ 0 ↔ 1346269 * p + 832040 * q + (-832040) * s ≤ 0)) → (u = 0 ∨ u = 1 ∨ u = -1) → ex_fine fg rc rs (d + 5, (f.1, f.2.1, f.2.2.1, eI u :: f.2.2.2), F, μ2)) : ex_fine fg rc rs (d + 4, (265, 0, [some (eR 98), some (eI (1)), some (eI (2)), some (eI (0)), some (eI (p)), some (eI (q)), some (eI (r)), some (eI (s)), none, none], []), f :: F, μ) := by
  refine w_s (np := 2) (lv' := [some (eR 98), some (eI (1)), some (eI (2)), some (eI (0)), some (eI (p)), some (eI (q)), some (eI (r)), some (eI (s)), none, none]) (st' := [eI (12)]) rfl rfl rfl ?_
  refine w_s (np := 3) (lv' := [some (eR 98), some (eI (1)), some (eI (2)), some (eI (0)), some (eI (p)), some (eI (q)), some (eI (r)), some (eI (s)), none, none]) (st' := [eI (1), eI (12)]) rfl rfl rfl ?_
  refine w_s (np := 4) (lv' := [some (eR 98), some (eI (1)), some (eI (2)), some (eI (0)), some (eI (p)), some (eI (q)), some (eI (r)), some (eI (s)), none, none]) (st' := [eI (12)]) rfl (b_imul rfl) rfl ?_
  refine w_s (np := 5) (lv' := [some (eR 98), some (eI (1)), some (eI (2)), some (eI (0)), some (eI (p)), some (eI (q)), some (eI (r)), some (eI (s)), none, none]) (st' := [eI (4), eI (12)]) rfl rfl rfl ?_
  refine w_s (np := 6) (lv' := [some (eR 98), some (eI (1)), some (eI (2)), some (eI (0)), some (eI (p)), some (eI (q)), some (eI (r)), some (eI (s)), none, none]) (st' := [eI (2), eI (4), eI (12)]) rfl rfl rfl ?_
  refine w_s (np := 7) (lv' := [some (eR 98), some (eI (1)), some (eI (2)), some (eI (0)), some (eI (p)), some (eI (q)), some (eI (r)), some (eI (s)), none, none]) (st' := [eI (8), eI (12)]) rfl (b_imul rfl) rfl ?_
  refine w_s (np := 8) (lv' := [some (eR 98), some (eI (1)), some (eI (2)), some (eI (0)), some (eI (p)), some (eI (q)), some (eI (r)), some (eI (s)), none, none]) (st' := [eI (20)]) rfl (b_iadd rfl) rfl ?_
  refine w_s (np := 10) (lv' := [some (eR 98), some (eI (1)), some (eI (2)), some (eI (0)), some (eI (p)), some (eI (q)), some (eI (r)), some (eI (s)), some (eI (20)), none]) (st' := []) rfl rfl rfl ?_
  refine w_s (np := 12) (lv' := [some (eR 98), some (eI (1)), some (eI (2)), some (eI (0)), some (eI (p)), some (eI (q)), some (eI (r)), some (eI (s)), some (eI (20)), none]) (st' := [eI (12)]) rfl rfl rfl ?_
  refine w_s (np := 13) (lv' := [some (eR 98), some (eI (1)), some (eI (2)), some (eI (0)), some (eI (p)), some (eI (q)), some (eI (r)), some (eI (s)), some (eI (20)), none]) (st' := [eI (1), eI (12)]) rfl rfl rfl ?_
  refine w_s (np := 14) (lv' := [some (eR 98), some (eI (1)), some (eI (2)), some (eI (0)), some (eI (p)), some (eI (q)), some (eI (r)), some (eI (s)), some (eI (20)), none]) (st' := [eI (12)]) rfl (b_imul rfl) rfl ?_
  refine w_s (np := 15) (lv' := [some (eR 98), some (eI (1)), some (eI (2)), some (eI (0)), some (eI (p)), some (eI (q)), some (eI (r)), some (eI (s)), some (eI (20)), none]) (st' := [eI (4), eI (12)]) rfl rfl rfl ?_
  refine w_s (np := 16) (lv' := [some (eR 98), some (eI (1)), some (eI (2)), some (eI (0)), some (eI (p)), some (eI (q)), some (eI (r)), some (eI (s)), some (eI (20)), none]) (st' := [eI (0), eI (4), eI (12)]) rfl rfl rfl ?_
  refine w_s (np := 17) (lv' := [some (eR 98), some (eI (1)), some (eI (2)), some (eI (0)), some (eI (p)), some (eI (q)), some (eI (r)), some (eI (s)), some (eI (20)), none]) (st' := [eI (0), eI (12)]) rfl (b_imul rfl) rfl ?_
  refine w_s (np := 18) (lv' := [some (eR 98), some (eI (1)), some (eI (2)), some (eI (0)), some (eI (p)), some (eI (q)), some (eI (r)), some (eI (s)), some (eI (20)), none]) (st' := [eI (12)]) rfl (b_iadd rfl) rfl ?_
  refine w_s (np := 20) (lv' := [some (eR 98), some (eI (1)), some (eI (2)), some (eI (0)), some (eI (p)), some (eI (q)), some (eI (r)), some (eI (s)), some (eI (20)), some (eI (12))]) (st' := []) rfl rfl rfl ?_
  refine w_s (np := 21) (lv' := [some (eR 98), some (eI (1)), some (eI (2)), some (eI (0)), some (eI (p)), some (eI (q)), some (eI (r)), some (eI (s)), some (eI (20)), some (eI (12))]) (st' := [eR 98]) rfl (s_an rfl (by decide)) rfl ?_
  refine w_s (np := 22) (lv' := [some (eR 98), some (eI (1)), some (eI (2)), some (eI (0)), some (eI (p)), some (eI (q)), some (eI (r)), some (eI (s)), some (eI (20)), some (eI (12))]) (st' := [eR 98, eR 98]) rfl (s_an rfl (by decide)) rfl ?_
  refine w_gf (np := 25) (v := eR 100) rfl rfl hq.1 (by rw [hq.2.1]; rfl) ?_
  refine w_s (np := 27) (lv' := [some (eR 98), some (eI (1)), some (eI (2)), some (eI (0)), some (eI (p)), some (eI (q)), some (eI (r)), some (eI (s)), some (eI (20)), some (eI (12))]) (st' := [eI (12), eR 100, eR 98]) rfl rfl rfl ?_
  refine w_al (np := 28) (v := 0) rfl rfl (t_al (k := 12) hq rfl (by decide) rfl) ?_
  refine w_s (np := 29) (lv' := [some (eR 98), some (eI (1)), some (eI (2)), some (eI (0)), some (eI (p)), some (eI (q)), some (eI (r)), some (eI (s)), some (eI (20)), some (eI (12))]) (st' := [eR 98, eI (0), eR 98]) rfl (s_an rfl (by decide)) rfl ?_
  refine w_gf (np := 32) (v := eR 100) rfl rfl hq.1 (by rw [hq.2.1]; rfl) ?_
  refine w_s (np := 34) (lv' := [some (eR 98), some (eI (1)), some (eI (2)), some (eI (0)), some (eI (p)), some (eI (q)), some (eI (r)), some (eI (s)), some (eI (20)), some (eI (12))]) (st' := [eI (20), eR 100, eI (0), eR 98]) rfl rfl rfl ?_
  refine w_al (np := 35) (v := 0) rfl rfl (t_al (k := 20) hq rfl (by decide) rfl) ?_
  refine w_s (np := 36) (lv' := [some (eR 98), some (eI (1)), some (eI (2)), some (eI (0)), some (eI (p)), some (eI (q)), some (eI (r)), some (eI (s)), some (eI (20)), some (eI (12))]) (st' := [eI (0), eR 98]) rfl (b_isub rfl) rfl ?_
  refine w_s (np := 37) (lv' := [some (eR 98), some (eI (1)), some (eI (2)), some (eI (0)), some (eI (p)), some (eI (q)), some (eI (r)), some (eI (s)), some (eI (20)), some (eI (12))]) (st' := [eJ (0), eR 98]) rfl (b_i2l rfl) rfl ?_
  refine w_s (np := 38) (lv' := [some (eR 98), some (eI (1)), some (eI (2)), some (eI (0)), some (eI (p)), some (eI (q)), some (eI (r)), some (eI (s)), some (eI (20)), some (eI (12))]) (st' := [eR 98, eJ (0), eR 98]) rfl (s_an rfl (by decide)) rfl ?_
  refine w_gf (np := 41) (v := eR 100) rfl rfl hq.1 (by rw [hq.2.1]; rfl) ?_
  refine w_s (np := 43) (lv' := [some (eR 98), some (eI (1)), some (eI (2)), some (eI (0)), some (eI (p)), some (eI (q)), some (eI (r)), some (eI (s)), some (eI (20)), some (eI (12))]) (st' := [eI (12), eR 100, eJ (0), eR 98]) rfl rfl rfl ?_
  refine w_s (np := 44) (lv' := [some (eR 98), some (eI (1)), some (eI (2)), some (eI (0)), some (eI (p)), some (eI (q)), some (eI (r)), some (eI (s)), some (eI (20)), some (eI (12))]) (st' := [eI (1), eI (12), eR 100, eJ (0), eR 98]) rfl rfl rfl ?_
  refine w_s (np := 45) (lv' := [some (eR 98), some (eI (1)), some (eI (2)), some (eI (0)), some (eI (p)), some (eI (q)), some (eI (r)), some (eI (s)), some (eI (20)), some (eI (12))]) (st' := [eI (13), eR 100, eJ (0), eR 98]) rfl (b_iadd rfl) rfl ?_
  refine w_al (np := 46) (v := 0) rfl rfl (t_al (k := 13) hq rfl (by decide) rfl) ?_
  refine w_s (np := 47) (lv' := [some (eR 98), some (eI (1)), some (eI (2)), some (eI (0)), some (eI (p)), some (eI (q)), some (eI (r)), some (eI (s)), some (eI (20)), some (eI (12))]) (st' := [eR 98, eI (0), eJ (0), eR 98]) rfl (s_an rfl (by decide)) rfl ?_
  refine w_gf (np := 50) (v := eR 100) rfl rfl hq.1 (by rw [hq.2.1]; rfl) ?_
  refine w_s (np := 52) (lv' := [some (eR 98), some (eI (1)), some (eI (2)), some (eI (0)), some (eI (p)), some (eI (q)), some (eI (r)), some (eI (s)), some (eI (20)), some (eI (12))]) (st' := [eI (20), eR 100, eI (0), eJ (0), eR 98]) rfl rfl rfl ?_
  refine w_s (np := 53) (lv' := [some (eR 98), some (eI (1)), some (eI (2)), some (eI (0)), some (eI (p)), some (eI (q)), some (eI (r)), some (eI (s)), some (eI (20)), some (eI (12))]) (st' := [eI (1), eI (20), eR 100, eI (0), eJ (0), eR 98]) rfl rfl rfl ?_
  refine w_s (np := 54) (lv' := [some (eR 98), some (eI (1)), some (eI (2)), some (eI (0)), some (eI (p)), some (eI (q)), some (eI (r)), some (eI (s)), some (eI (20)), some (eI (12))]) (st' := [eI (21), eR 100, eI (0), eJ (0), eR 98]) rfl (b_iadd rfl) rfl ?_
  refine w_al (np := 55) (v := 0) rfl rfl (t_al (k := 21) hq rfl (by decide) rfl) ?_
  refine w_s (np := 56) (lv' := [some (eR 98), some (eI (1)), some (eI (2)), some (eI (0)), some (eI (p)), some (eI (q)), some (eI (r)), some (eI (s)), some (eI (20)), some (eI (12))]) (st' := [eI (0), eJ (0), eR 98]) rfl (b_isub rfl) rfl ?_
  refine w_s (np := 57) (lv' := [some (eR 98), some (eI (1)), some (eI (2)), some (eI (0)), some (eI (p)), some (eI (q)), some (eI (r)), some (eI (s)), some (eI (20)), some (eI (12))]) (st' := [eJ (0), eJ (0), eR 98]) rfl (b_i2l rfl) rfl ?_
  refine w_s (np := 58) (lv' := [some (eR 98), some (eI (1)), some (eI (2)), some (eI (0)), some (eI (p)), some (eI (q)), some (eI (r)), some (eI (s)), some (eI (20)), some (eI (12))]) (st' := [eR 98, eJ (0), eJ (0), eR 98]) rfl (s_an rfl (by decide)) rfl ?_
  refine w_gf (np := 61) (v := eR 100) rfl rfl hq.1 (by rw [hq.2.1]; rfl) ?_
  refine w_s (np := 63) (lv' := [some (eR 98), some (eI (1)), some (eI (2)), some (eI (0)), some (eI (p)), some (eI (q)), some (eI (r)), some (eI (s)), some (eI (20)), some (eI (12))]) (st' := [eI (12), eR 100, eJ (0), eJ (0), eR 98]) rfl rfl rfl ?_
  refine w_s (np := 64) (lv' := [some (eR 98), some (eI (1)), some (eI (2)), some (eI (0)), some (eI (p)), some (eI (q)), some (eI (r)), some (eI (s)), some (eI (20)), some (eI (12))]) (st' := [eI (2), eI (12), eR 100, eJ (0), eJ (0), eR 98]) rfl rfl rfl ?_
  refine w_s (np := 65) (lv' := [some (eR 98), some (eI (1)), some (eI (2)), some (eI (0)), some (eI (p)), some (eI (q)), some (eI (r)), some (eI (s)), some (eI (20)), some (eI (12))]) (st' := [eI (14), eR 100, eJ (0), eJ (0), eR 98]) rfl (b_iadd rfl) rfl ?_
  refine w_al (np := 66) (v := 0) rfl rfl (t_al (k := 14) hq rfl (by decide) rfl) ?_
  refine w_s (np := 67) (lv' := [some (eR 98), some (eI (1)), some (eI (2)), some (eI (0)), some (eI (p)), some (eI (q)), some (eI (r)), some (eI (s)), some (eI (20)), some (eI (12))]) (st' := [eR 98, eI (0), eJ (0), eJ (0), eR 98]) rfl (s_an rfl (by decide)) rfl ?_
  refine w_gf (np := 70) (v := eR 100) rfl rfl hq.1 (by rw [hq.2.1]; rfl) ?_
  refine w_s (np := 72) (lv' := [some (eR 98), some (eI (1)), some (eI (2)), some (eI (0)), some (eI (p)), some (eI (q)), some (eI (r)), some (eI (s)), some (eI (20)), some (eI (12))]) (st' := [eI (20), eR 100, eI (0), eJ (0), eJ (0), eR 98]) rfl rfl rfl ?_
  refine w_s (np := 73) (lv' := [some (eR 98), some (eI (1)), some (eI (2)), some (eI (0)), some (eI (p)), some (eI (q)), some (eI (r)), some (eI (s)), some (eI (20)), some (eI (12))]) (st' := [eI (2), eI (20), eR 100, eI (0), eJ (0), eJ (0), eR 98]) rfl rfl rfl ?_
  refine w_s (np := 74) (lv' := [some (eR 98), some (eI (1)), some (eI (2)), some (eI (0)), some (eI (p)), some (eI (q)), some (eI (r)), some (eI (s)), some (eI (20)), some (eI (12))]) (st' := [eI (22), eR 100, eI (0), eJ (0), eJ (0), eR 98]) rfl (b_iadd rfl) rfl ?_
  refine w_al (np := 75) (v := 1) rfl rfl (t_al (k := 22) hq rfl (by decide) rfl) ?_
  refine w_s (np := 76) (lv' := [some (eR 98), some (eI (1)), some (eI (2)), some (eI (0)), some (eI (p)), some (eI (q)), some (eI (r)), some (eI (s)), some (eI (20)), some (eI (12))]) (st' := [eI (-1), eJ (0), eJ (0), eR 98]) rfl (b_isub rfl) rfl ?_
  refine w_s (np := 77) (lv' := [some (eR 98), some (eI (1)), some (eI (2)), some (eI (0)), some (eI (p)), some (eI (q)), some (eI (r)), some (eI (s)), some (eI (20)), some (eI (12))]) (st' := [eJ (-1), eJ (0), eJ (0), eR 98]) rfl (b_i2l rfl) rfl ?_
  refine w_s (np := 78) (lv' := [some (eR 98), some (eI (1)), some (eI (2)), some (eI (0)), some (eI (p)), some (eI (q)), some (eI (r)), some (eI (s)), some (eI (20)), some (eI (12))]) (st' := [eR 98, eJ (-1), eJ (0), eJ (0), eR 98]) rfl (s_an rfl (by decide)) rfl ?_
  refine w_gf (np := 81) (v := eR 100) rfl rfl hq.1 (by rw [hq.2.1]; rfl) ?_
  refine w_s (np := 83) (lv' := [some (eR 98), some (eI (1)), some (eI (2)), some (eI (0)), some (eI (p)), some (eI (q)), some (eI (r)), some (eI (s)), some (eI (20)), some (eI (12))]) (st' := [eI (12), eR 100, eJ (-1), eJ (0), eJ (0), eR 98]) rfl rfl rfl ?_
  refine w_s (np := 84) (lv' := [some (eR 98), some (eI (1)), some (eI (2)), some (eI (0)), some (eI (p)), some (eI (q)), some (eI (r)), some (eI (s)), some (eI (20)), some (eI (12))]) (st' := [eI (3), eI (12), eR 100, eJ (-1), eJ (0), eJ (0), eR 98]) rfl rfl rfl ?_
  refine w_s (np := 85) (lv' := [some (eR 98), some (eI (1)), some (eI (2)), some (eI (0)), some (eI (p)), some (eI (q)), some (eI (r)), some (eI (s)), some (eI (20)), some (eI (12))]) (st' := [eI (15), eR 100, eJ (-1), eJ (0), eJ (0), eR 98]) rfl (b_iadd rfl) rfl ?_
  refine w_al (np := 86) (v := 0) rfl rfl (t_al (k := 15) hq rfl (by decide) rfl) ?_
  refine w_s (np := 87) (lv' := [some (eR 98), some (eI (1)), some (eI (2)), some (eI (0)), some (eI (p)), some (eI (q)), some (eI (r)), some (eI (s)), some (eI (20)), some (eI (12))]) (st' := [eR 98, eI (0), eJ (-1), eJ (0), eJ (0), eR 98]) rfl (s_an rfl (by decide)) rfl ?_
  refine w_gf (np := 90) (v := eR 100) rfl rfl hq.1 (by rw [hq.2.1]; rfl) ?_
  refine w_s (np := 92) (lv' := [some (eR 98), some (eI (1)), some (eI (2)), some (eI (0)), some (eI (p)), some (eI (q)), some (eI (r)), some (eI (s)), some (eI (20)), some (eI (12))]) (st' := [eI (20), eR 100, eI (0), eJ (-1), eJ (0), eJ (0), eR 98]) rfl rfl rfl ?_
  refine w_s (np := 93) (lv' := [some (eR 98), some (eI (1)), some (eI (2)), some (eI (0)), some (eI (p)), some (eI (q)), some (eI (r)), some (eI (s)), some (eI (20)), some (eI (12))]) (st' := [eI (3), eI (20), eR 100, eI (0), eJ (-1), eJ (0), eJ (0), eR 98]) rfl rfl rfl ?_
  refine w_s (np := 94) (lv' := [some (eR 98), some (eI (1)), some (eI (2)), some (eI (0)), some (eI (p)), some (eI (q)), some (eI (r)), some (eI (s)), some (eI (20)), some (eI (12))]) (st' := [eI (23), eR 100, eI (0), eJ (-1), eJ (0), eJ (0), eR 98]) rfl (b_iadd rfl) rfl ?_
  refine w_al (np := 95) (v := 0) rfl rfl (t_al (k := 23) hq rfl (by decide) rfl) ?_
  refine w_s (np := 96) (lv' := [some (eR 98), some (eI (1)), some (eI (2)), some (eI (0)), some (eI (p)), some (eI (q)), some (eI (r)), some (eI (s)), some (eI (20)), some (eI (12))]) (st' := [eI (0), eJ (-1), eJ (0), eJ (0), eR 98]) rfl (b_isub rfl) rfl ?_
  refine w_s (np := 97) (lv' := [some (eR 98), some (eI (1)), some (eI (2)), some (eI (0)), some (eI (p)), some (eI (q)), some (eI (r)), some (eI (s)), some (eI (20)), some (eI (12))]) (st' := [eJ (0), eJ (-1), eJ (0), eJ (0), eR 98]) rfl (b_i2l rfl) rfl ?_
  refine w_s (np := 99) (lv' := [some (eR 98), some (eI (1)), some (eI (2)), some (eI (0)), some (eI (p)), some (eI (q)), some (eI (r)), some (eI (s)), some (eI (20)), some (eI (12))]) (st' := [eI (p), eJ (0), eJ (-1), eJ (0), eJ (0), eR 98]) rfl rfl rfl ?_
  refine w_s (np := 100) (lv' := [some (eR 98), some (eI (1)), some (eI (2)), some (eI (0)), some (eI (p)), some (eI (q)), some (eI (r)), some (eI (s)), some (eI (20)), some (eI (12))]) (st' := [eJ (p), eJ (0), eJ (-1), eJ (0), eJ (0), eR 98]) rfl (b_i2l (ev_w_in (by omega) (by omega))) rfl ?_
  refine w_s (np := 101) (lv' := [some (eR 98), some (eI (1)), some (eI (2)), some (eI (0)), some (eI (p)), some (eI (q)), some (eI (r)), some (eI (s)), some (eI (20)), some (eI (12))]) (st' := [eR 98, eJ (p), eJ (0), eJ (-1), eJ (0), eJ (0), eR 98]) rfl (s_an rfl (by decide)) rfl ?_
  refine w_gf (np := 104) (v := eR 100) rfl rfl hq.1 (by rw [hq.2.1]; rfl) ?_
  refine w_s (np := 106) (lv' := [some (eR 98), some (eI (1)), some (eI (2)), some (eI (0)), some (eI (p)), some (eI (q)), some (eI (r)), some (eI (s)), some (eI (20)), some (eI (12))]) (st' := [eI (20), eR 100, eJ (p), eJ (0), eJ (-1), eJ (0), eJ (0), eR 98]) rfl rfl rfl ?_
  refine w_al (np := 107) (v := 0) rfl rfl (t_al (k := 20) hq rfl (by decide) rfl) ?_
  refine w_s (np := 108) (lv' := [some (eR 98), some (eI (1)), some (eI (2)), some (eI (0)), some (eI (p)), some (eI (q)), some (eI (r)), some (eI (s)), some (eI (20)), some (eI (12))]) (st' := [eJ (0), eJ (p), eJ (0), eJ (-1), eJ (0), eJ (0), eR 98]) rfl (b_i2l rfl) rfl ?_
  obtain ⟨v1, e2⟩ : ∃ v : Int, v = (p) - (0) := ⟨_, rfl⟩
  have b3 : -9999 ≤ v1 ∧ v1 ≤ 9999 := by omega
  refine w_s (np := 109) (lv' := [some (eR 98), some (eI (1)), some (eI (2)), some (eI (0)), some (eI (p)), some (eI (q)), some (eI (r)), some (eI (s)), some (eI (20)), some (eI (12))]) (st' := [eJ (v1), eJ (0), eJ (-1), eJ (0), eJ (0), eR 98]) rfl (b_lsub (by rw [← e2]; exact ev_W_in (by omega) (by omega))) rfl ?_
  refine w_s (np := 111) (lv' := [some (eR 98), some (eI (1)), some (eI (2)), some (eI (0)), some (eI (p)), some (eI (q)), some (eI (r)), some (eI (s)), some (eI (20)), some (eI (12))]) (st' := [eI (q), eJ (v1), eJ (0), eJ (-1), eJ (0), eJ (0), eR 98]) rfl rfl rfl ?_
  refine w_s (np := 112) (lv' := [some (eR 98), some (eI (1)), some (eI (2)), some (eI (0)), some (eI (p)), some (eI (q)), some (eI (r)), some (eI (s)), some (eI (20)), some (eI (12))]) (st' := [eJ (q), eJ (v1), eJ (0), eJ (-1), eJ (0), eJ (0), eR 98]) rfl (b_i2l (ev_w_in (by omega) (by omega))) rfl ?_
  refine w_s (np := 113) (lv' := [some (eR 98), some (eI (1)), some (eI (2)), some (eI (0)), some (eI (p)), some (eI (q)), some (eI (r)), some (eI (s)), some (eI (20)), some (eI (12))]) (st' := [eR 98, eJ (q), eJ (v1), eJ (0), eJ (-1), eJ (0), eJ (0), eR 98]) rfl (s_an rfl (by decide)) rfl ?_
  refine w_gf (np := 116) (v := eR 100) rfl rfl hq.1 (by rw [hq.2.1]; rfl) ?_
  refine w_s (np := 118) (lv' := [some (eR 98), some (eI (1)), some (eI (2)), some (eI (0)), some (eI (p)), some (eI (q)), some (eI (r)), some (eI (s)), some (eI (20)), some (eI (12))]) (st' := [eI (20), eR 100, eJ (q), eJ (v1), eJ (0), eJ (-1), eJ (0), eJ (0), eR 98]) rfl rfl rfl ?_
  refine w_s (np := 119) (lv' := [some (eR 98), some (eI (1)), some (eI (2)), some (eI (0)), some (eI (p)), some (eI (q)), some (eI (r)), some (eI (s)), some (eI (20)), some (eI (12))]) (st' := [eI (1), eI (20), eR 100, eJ (q), eJ (v1), eJ (0), eJ (-1), eJ (0), eJ (0), eR 98]) rfl rfl rfl ?_
  refine w_s (np := 120) (lv' := [some (eR 98), some (eI (1)), some (eI (2)), some (eI (0)), some (eI (p)), some (eI (q)), some (eI (r)), some (eI (s)), some (eI (20)), some (eI (12))]) (st' := [eI (21), eR 100, eJ (q), eJ (v1), eJ (0), eJ (-1), eJ (0), eJ (0), eR 98]) rfl (b_iadd rfl) rfl ?_
  refine w_al (np := 121) (v := 0) rfl rfl (t_al (k := 21) hq rfl (by decide) rfl) ?_
  refine w_s (np := 122) (lv' := [some (eR 98), some (eI (1)), some (eI (2)), some (eI (0)), some (eI (p)), some (eI (q)), some (eI (r)), some (eI (s)), some (eI (20)), some (eI (12))]) (st' := [eJ (0), eJ (q), eJ (v1), eJ (0), eJ (-1), eJ (0), eJ (0), eR 98]) rfl (b_i2l rfl) rfl ?_
  obtain ⟨v4, e5⟩ : ∃ v : Int, v = (q) - (0) := ⟨_, rfl⟩
  have b6 : -9999 ≤ v4 ∧ v4 ≤ 9999 := by omega
  refine w_s (np := 123) (lv' := [some (eR 98), some (eI (1)), some (eI (2)), some (eI (0)), some (eI (p)), some (eI (q)), some (eI (r)), some (eI (s)), some (eI (20)), some (eI (12))]) (st' := [eJ (v4), eJ (v1), eJ (0), eJ (-1), eJ (0), eJ (0), eR 98]) rfl (b_lsub (by rw [← e5]; exact ev_W_in (by omega) (by omega))) rfl ?_
  refine w_s (np := 125) (lv' := [some (eR 98), some (eI (1)), some (eI (2)), some (eI (0)), some (eI (p)), some (eI (q)), some (eI (r)), some (eI (s)), some (eI (20)), some (eI (12))]) (st' := [eI (r), eJ (v4), eJ (v1), eJ (0), eJ (-1), eJ (0), eJ (0), eR 98]) rfl rfl rfl ?_
  refine w_s (np := 126) (lv' := [some (eR 98), some (eI (1)), some (eI (2)), some (eI (0)), some (eI (p)), some (eI (q)), some (eI (r)), some (eI (s)), some (eI (20)), some (eI (12))]) (st' := [eJ (r), eJ (v4), eJ (v1), eJ (0), eJ (-1), eJ (0), eJ (0), eR 98]) rfl (b_i2l (ev_w_in (by omega) (by omega))) rfl ?_
  refine w_s (np := 127) (lv' := [some (eR 98), some (eI (1)), some (eI (2)), some (eI (0)), some (eI (p)), some (eI (q)), some (eI (r)), some (eI (s)), some (eI (20)), some (eI (12))]) (st' := [eR 98, eJ (r), eJ (v4), eJ (v1), eJ (0), eJ (-1), eJ (0), eJ (0), eR 98]) rfl (s_an rfl (by decide)) rfl ?_
  refine w_gf (np := 130) (v := eR 100) rfl rfl hq.1 (by rw [hq.2.1]; rfl) ?_
  refine w_s (np := 132) (lv' := [some (eR 98), some (eI (1)), some (eI (2)), some (eI (0)), some (eI (p)), some (eI (q)), some (eI (r)), some (eI (s)), some (eI (20)), some (eI (12))]) (st' := [eI (20), eR 100, eJ (r), eJ (v4), eJ (v1), eJ (0), eJ (-1), eJ (0), eJ (0), eR 98]) rfl rfl rfl ?_
  refine w_s (np := 133) (lv' := [some (eR 98), some (eI (1)), some (eI (2)), some (eI (0)), some (eI (p)), some (eI (q)), some (eI (r)), some (eI (s)), some (eI (20)), some (eI (12))]) (st' := [eI (2), eI (20), eR 100, eJ (r), eJ (v4), eJ (v1), eJ (0), eJ (-1), eJ (0), eJ (0), eR 98]) rfl rfl rfl ?_
  refine w_s (np := 134) (lv' := [some (eR 98), some (eI (1)), some (eI (2)), some (eI (0)), some (eI (p)), some (eI (q)), some (eI (r)), some (eI (s)), some (eI (20)), some (eI (12))]) (st' := [eI (22), eR 100, eJ (r), eJ (v4), eJ (v1), eJ (0), eJ (-1), eJ (0), eJ (0), eR 98]) rfl (b_iadd rfl) rfl ?_
  refine w_al (np := 135) (v := 1) rfl rfl (t_al (k := 22) hq rfl (by decide) rfl) ?_
  refine w_s (np := 136) (lv' := [some (eR 98), some (eI (1)), some (eI (2)), some (eI (0)), some (eI (p)), some (eI (q)), some (eI (r)), some (eI (s)), some (eI (20)), some (eI (12))]) (st' := [eJ (1), eJ (r), eJ (v4), eJ (v1), eJ (0), eJ (-1), eJ (0), eJ (0), eR 98]) rfl (b_i2l rfl) rfl ?_
  obtain ⟨v7, e8⟩ : ∃ v : Int, v = (r) - (1) := ⟨_, rfl⟩
  have b9 : -10000 ≤ v7 ∧ v7 ≤ 9998 := by omega
  refine w_s (np := 137) (lv' := [some (eR 98), some (eI (1)), some (eI (2)), some (eI (0)), some (eI (p)), some (eI (q)), some (eI (r)), some (eI (s)), some (eI (20)), some (eI (12))]) (st' := [eJ (v7), eJ (v4), eJ (v1), eJ (0), eJ (-1), eJ (0), eJ (0), eR 98]) rfl (b_lsub (by rw [← e8]; exact ev_W_in (by omega) (by omega))) rfl ?_
  refine w_s (np := 139) (lv' := [some (eR 98), some (eI (1)), some (eI (2)), some (eI (0)), some (eI (p)), some (eI (q)), some (eI (r)), some (eI (s)), some (eI (20)), some (eI (12))]) (st' := [eI (s), eJ (v7), eJ (v4), eJ (v1), eJ (0), eJ (-1), eJ (0), eJ (0), eR 98]) rfl rfl rfl ?_
  refine w_s (np := 140) (lv' := [some (eR 98), some (eI (1)), some (eI (2)), some (eI (0)), some (eI (p)), some (eI (q)), some (eI (r)), some (eI (s)), some (eI (20)), some (eI (12))]) (st' := [eJ (s), eJ (v7), eJ (v4), eJ (v1), eJ (0), eJ (-1), eJ (0), eJ (0), eR 98]) rfl (b_i2l (ev_w_in (by omega) (by omega))) rfl ?_
  refine w_s (np := 141) (lv' := [some (eR 98), some (eI (1)), some (eI (2)), some (eI (0)), some (eI (p)), some (eI (q)), some (eI (r)), some (eI (s)), some (eI (20)), some (eI (12))]) (st' := [eR 98, eJ (s), eJ (v7), eJ (v4), eJ (v1), eJ (0), eJ (-1), eJ (0), eJ (0), eR 98]) rfl (s_an rfl (by decide)) rfl ?_
  refine w_gf (np := 144) (v := eR 100) rfl rfl hq.1 (by rw [hq.2.1]; rfl) ?_
  refine w_s (np := 146) (lv' := [some (eR 98), some (eI (1)), some (eI (2)), some (eI (0)), some (eI (p)), some (eI (q)), some (eI (r)), some (eI (s)), some (eI (20)), some (eI (12))]) (st' := [eI (20), eR 100, eJ (s), eJ (v7), eJ (v4), eJ (v1), eJ (0), eJ (-1), eJ (0), eJ (0), eR 98]) rfl rfl rfl ?_
  refine w_s (np := 147) (lv' := [some (eR 98), some (eI (1)), some (eI (2)), some (eI (0)), some (eI (p)), some (eI (q)), some (eI (r)), some (eI (s)), some (eI (20)), some (eI (12))]) (st' := [eI (3), eI (20), eR 100, eJ (s), eJ (v7), eJ (v4), eJ (v1), eJ (0), eJ (-1), eJ (0), eJ (0), eR 98]) rfl rfl rfl ?_
  refine w_s (np := 148) (lv' := [some (eR 98), some (eI (1)), some (eI (2)), some (eI (0)), some (eI (p)), some (eI (q)), some (eI (r)), some (eI (s)), some (eI (20)), some (eI (12))]) (st' := [eI (23), eR 100, eJ (s), eJ (v7), eJ (v4), eJ (v1), eJ (0), eJ (-1), eJ (0), eJ (0), eR 98]) rfl (b_iadd rfl) rfl ?_
  refine w_al (np := 149) (v := 0) rfl rfl (t_al (k := 23) hq rfl (by decide) rfl) ?_
  refine w_s (np := 150) (lv' := [some (eR 98), some (eI (1)), some (eI (2)), some (eI (0)), some (eI (p)), some (eI (q)), some (eI (r)), some (eI (s)), some (eI (20)), some (eI (12))]) (st' := [eJ (0), eJ (s), eJ (v7), eJ (v4), eJ (v1), eJ (0), eJ (-1), eJ (0), eJ (0), eR 98]) rfl (b_i2l rfl) rfl ?_
  obtain ⟨v10, e11⟩ : ∃ v : Int, v = (s) - (0) := ⟨_, rfl⟩
  have b12 : -9999 ≤ v10 ∧ v10 ≤ 9999 := by omega
  refine w_s (np := 151) (lv' := [some (eR 98), some (eI (1)), some (eI (2)), some (eI (0)), some (eI (p)), some (eI (q)), some (eI (r)), some (eI (s)), some (eI (20)), some (eI (12))]) (st' := [eJ (v10), eJ (v7), eJ (v4), eJ (v1), eJ (0), eJ (-1), eJ (0), eJ (0), eR 98]) rfl (b_lsub (by rw [← e11]; exact ev_W_in (by omega) (by omega))) rfl ?_
  refine w_cv (np := 154) (as := [eJ (0), eJ (0), eJ (-1), eJ (0), eJ (v1), eJ (v4), eJ (v7), eJ (v10)]) (lv' := [some (eR 98), some (eJ (0)), none, some (eJ (0)), none, some (eJ (-1)), none, some (eJ (0)), none, some (eJ (v1)), none, some (eJ (v4)), none, some (eJ (v7)), none, some (eJ (v10)), none]) (rest := []) rfl rfl rfl (Nat.ble_eq.mp rfl) rfl rfl rfl hq.1 rfl ?_
  refine t224 hq.1 (show (-8 : Int) ≤ 0 ∧ (0 : Int) ≤ 8 by omega) (show (-8 : Int) ≤ 0 ∧ (0 : Int) ≤ 8 by omega) (show (-8 : Int) ≤ -1 ∧ (-1 : Int) ≤ 8 by omega) (show (-8 : Int) ≤ 0 ∧ (0 : Int) ≤ 8 by omega) (show (-100000 : Int) ≤ v1 ∧ (v1 : Int) ≤ 100000 by omega) (show (-100000 : Int) ≤ v4 ∧ (v4 : Int) ≤ 100000 by omega) (show (-100000 : Int) ≤ v7 ∧ (v7 : Int) ≤ 100000 by omega) (show (-100000 : Int) ≤ v10 ∧ (v10 : Int) ≤ 100000 by omega) ?_
  intro m B G s1 eB eG bB bG
  show ex_fine fg rc rs (d + 4, (265, 154, [some (eR 98), some (eI (1)), some (eI (2)), some (eI (0)), some (eI (p)), some (eI (q)), some (eI (r)), some (eI (s)), some (eI (20)), some (eI (12))], [eI (rSg (2 * B + G) G)]), f :: F, m)
  refine b_ri rfl rfl ?_
  have hB : B = 1 * q + (-1) * s := by omega
  have hG : G = 1 * p := by omega
  have hr := rSg_ok (x := 2 * B + G) (b := G) (by omega)
  have e9 : 416020 * (2 * B + G) + 930249 * G = 1346269 * p + 832040 * q + (-832040) * s := by omega
  rw [e9] at hr
  exact K m _ s1 hr (rSg_v _ _)
theorem t265_2_0 {fg : eG} {rc rs d : Nat} {f : eFr} {F : List eFr} {μ : eM} {p q r s : Int} (hq : tQ μ) (hp : -9999 ≤ p ∧ p ≤ 9999) (hq0 : -9999 ≤ q ∧ q ≤ 9999) (hr : -9999 ≤ r ∧ r ≤ 9999) (hs : -9999 ≤ s ∧ s ≤ 9999) (K : ∀ (μ2 : eM) (u : Int), tS μ μ2 → ((0 ≤ u ↔ 0 ≤ (-1346269) * p + (-1346269) * q + (-832040) * r) ∧ (u ≤ 0 ↔ (-1346269) * p + (-1346269) * q + (-832040) * r ≤ 0)) → (u = 0 ∨ u = 1 ∨ u = -1) → ex_fine fg rc rs (d + 5, (f.1, f.2.1, f.2.2.1, eI u :: f.2.2.2), F, μ2)) : ex_fine fg rc rs (d + 4, (265, 0, [some (eR 98), some (eI (2)), some (eI (0)), some (eI (1)), some (eI (p)), some (eI (q)), some (eI (r)), some (eI (s)), none, none], []), f :: F, μ) := by
  refine w_s (np := 2) (lv' := [some (eR 98), some (eI (2)), some (eI (0)), some (eI (1)), some (eI (p)), some (eI (q)), some (eI (r)), some (eI (s)), none, none]) (st' := [eI (12)]) rfl rfl rfl ?_
  refine w_s (np := 3) (lv' := [some (eR 98), some (eI (2)), some (eI (0)), some (eI (1)), some (eI (p)), some (eI (q)), some (eI (r)), some (eI (s)), none, none]) (st' := [eI (2), eI (12)]) rfl rfl rfl ?_
  refine w_s (np := 4) (lv' := [some (eR 98), some (eI (2)), some (eI (0)), some (eI (1)), some (eI (p)), some (eI (q)), some (eI (r)), some (eI (s)), none, none]) (st' := [eI (24)]) rfl (b_imul rfl) rfl ?_
  refine w_s (np := 5) (lv' := [some (eR 98), some (eI (2)), some (eI (0)), some (eI (1)), some (eI (p)), some (eI (q)), some (eI (r)), some (eI (s)), none, none]) (st' := [eI (4), eI (24)]) rfl rfl rfl ?_
  refine w_s (np := 6) (lv' := [some (eR 98), some (eI (2)), some (eI (0)), some (eI (1)), some (eI (p)), some (eI (q)), some (eI (r)), some (eI (s)), none, none]) (st' := [eI (0), eI (4), eI (24)]) rfl rfl rfl ?_
  refine w_s (np := 7) (lv' := [some (eR 98), some (eI (2)), some (eI (0)), some (eI (1)), some (eI (p)), some (eI (q)), some (eI (r)), some (eI (s)), none, none]) (st' := [eI (0), eI (24)]) rfl (b_imul rfl) rfl ?_
  refine w_s (np := 8) (lv' := [some (eR 98), some (eI (2)), some (eI (0)), some (eI (1)), some (eI (p)), some (eI (q)), some (eI (r)), some (eI (s)), none, none]) (st' := [eI (24)]) rfl (b_iadd rfl) rfl ?_
  refine w_s (np := 10) (lv' := [some (eR 98), some (eI (2)), some (eI (0)), some (eI (1)), some (eI (p)), some (eI (q)), some (eI (r)), some (eI (s)), some (eI (24)), none]) (st' := []) rfl rfl rfl ?_
  refine w_s (np := 12) (lv' := [some (eR 98), some (eI (2)), some (eI (0)), some (eI (1)), some (eI (p)), some (eI (q)), some (eI (r)), some (eI (s)), some (eI (24)), none]) (st' := [eI (12)]) rfl rfl rfl ?_
  refine w_s (np := 13) (lv' := [some (eR 98), some (eI (2)), some (eI (0)), some (eI (1)), some (eI (p)), some (eI (q)), some (eI (r)), some (eI (s)), some (eI (24)), none]) (st' := [eI (2), eI (12)]) rfl rfl rfl ?_
  refine w_s (np := 14) (lv' := [some (eR 98), some (eI (2)), some (eI (0)), some (eI (1)), some (eI (p)), some (eI (q)), some (eI (r)), some (eI (s)), some (eI (24)), none]) (st' := [eI (24)]) rfl (b_imul rfl) rfl ?_
  refine w_s (np := 15) (lv' := [some (eR 98), some (eI (2)), some (eI (0)), some (eI (1)), some (eI (p)), some (eI (q)), some (eI (r)), some (eI (s)), some (eI (24)), none]) (st' := [eI (4), eI (24)]) rfl rfl rfl ?_
  refine w_s (np := 16) (lv' := [some (eR 98), some (eI (2)), some (eI (0)), some (eI (1)), some (eI (p)), some (eI (q)), some (eI (r)), some (eI (s)), some (eI (24)), none]) (st' := [eI (1), eI (4), eI (24)]) rfl rfl rfl ?_
  refine w_s (np := 17) (lv' := [some (eR 98), some (eI (2)), some (eI (0)), some (eI (1)), some (eI (p)), some (eI (q)), some (eI (r)), some (eI (s)), some (eI (24)), none]) (st' := [eI (4), eI (24)]) rfl (b_imul rfl) rfl ?_
  refine w_s (np := 18) (lv' := [some (eR 98), some (eI (2)), some (eI (0)), some (eI (1)), some (eI (p)), some (eI (q)), some (eI (r)), some (eI (s)), some (eI (24)), none]) (st' := [eI (28)]) rfl (b_iadd rfl) rfl ?_
  refine w_s (np := 20) (lv' := [some (eR 98), some (eI (2)), some (eI (0)), some (eI (1)), some (eI (p)), some (eI (q)), some (eI (r)), some (eI (s)), some (eI (24)), some (eI (28))]) (st' := []) rfl rfl rfl ?_
  refine w_s (np := 21) (lv' := [some (eR 98), some (eI (2)), some (eI (0)), some (eI (1)), some (eI (p)), some (eI (q)), some (eI (r)), some (eI (s)), some (eI (24)), some (eI (28))]) (st' := [eR 98]) rfl (s_an rfl (by decide)) rfl ?_
  refine w_s (np := 22) (lv' := [some (eR 98), some (eI (2)), some (eI (0)), some (eI (1)), some (eI (p)), some (eI (q)), some (eI (r)), some (eI (s)), some (eI (24)), some (eI (28))]) (st' := [eR 98, eR 98]) rfl (s_an rfl (by decide)) rfl ?_
  refine w_gf (np := 25) (v := eR 100) rfl rfl hq.1 (by rw [hq.2.1]; rfl) ?_
  refine w_s (np := 27) (lv' := [some (eR 98), some (eI (2)), some (eI (0)), some (eI (1)), some (eI (p)), some (eI (q)), some (eI (r)), some (eI (s)), some (eI (24)), some (eI (28))]) (st' := [eI (28), eR 100, eR 98]) rfl rfl rfl ?_
  refine w_al (np := 28) (v := 0) rfl rfl (t_al (k := 28) hq rfl (by decide) rfl) ?_
  refine w_s (np := 29) (lv' := [some (eR 98), some (eI (2)), some (eI (0)), some (eI (1)), some (eI (p)), some (eI (q)), some (eI (r)), some (eI (s)), some (eI (24)), some (eI (28))]) (st' := [eR 98, eI (0), eR 98]) rfl (s_an rfl (by decide)) rfl ?_
  refine w_gf (np := 32) (v := eR 100) rfl rfl hq.1 (by rw [hq.2.1]; rfl) ?_
  refine w_s (np := 34) (lv' := [some (eR 98), some (eI (2)), some (eI (0)), some (eI (1)), some (eI (p)), some (eI (q)), some (eI (r)), some (eI (s)), some (eI (24)), some (eI (28))]) (st' := [eI (24), eR 100, eI (0), eR 98]) rfl rfl rfl ?_
  refine w_al (np := 35) (v := 0) rfl rfl (t_al (k := 24) hq rfl (by decide) rfl) ?_
  refine w_s (np := 36) (lv' := [some (eR 98), some (eI (2)), some (eI (0)), some (eI (1)), some (eI (p)), some (eI (q)), some (eI (r)), some (eI (s)), some (eI (24)), some (eI (28))]) (st' := [eI (0), eR 98]) rfl (b_isub rfl) rfl ?_
  refine w_s (np := 37) (lv' := [some (eR 98), some (eI (2)), some (eI (0)), some (eI (1)), some (eI (p)), some (eI (q)), some (eI (r)), some (eI (s)), some (eI (24)), some (eI (28))]) (st' := [eJ (0), eR 98]) rfl (b_i2l rfl) rfl ?_
  refine w_s (np := 38) (lv' := [some (eR 98), some (eI (2)), some (eI (0)), some (eI (1)), some (eI (p)), some (eI (q)), some (eI (r)), some (eI (s)), some (eI (24)), some (eI (28))]) (st' := [eR 98, eJ (0), eR 98]) rfl (s_an rfl (by decide)) rfl ?_
  refine w_gf (np := 41) (v := eR 100) rfl rfl hq.1 (by rw [hq.2.1]; rfl) ?_
  refine w_s (np := 43) (lv' := [some (eR 98), some (eI (2)), some (eI (0)), some (eI (1)), some (eI (p)), some (eI (q)), some (eI (r)), some (eI (s)), some (eI (24)), some (eI (28))]) (st' := [eI (28), eR 100, eJ (0), eR 98]) rfl rfl rfl ?_
  refine w_s (np := 44) (lv' := [some (eR 98), some (eI (2)), some (eI (0)), some (eI (1)), some (eI (p)), some (eI (q)), some (eI (r)), some (eI (s)), some (eI (24)), some (eI (28))]) (st' := [eI (1), eI (28), eR 100, eJ (0), eR 98]) rfl rfl rfl ?_
  refine w_s (np := 45) (lv' := [some (eR 98), some (eI (2)), some (eI (0)), some (eI (1)), some (eI (p)), some (eI (q)), some (eI (r)), some (eI (s)), some (eI (24)), some (eI (28))]) (st' := [eI (29), eR 100, eJ (0), eR 98]) rfl (b_iadd rfl) rfl ?_
  refine w_al (np := 46) (v := 0) rfl rfl (t_al (k := 29) hq rfl (by decide) rfl) ?_
  refine w_s (np := 47) (lv' := [some (eR 98), some (eI (2)), some (eI (0)), some (eI (1)), some (eI (p)), some (eI (q)), some (eI (r)), some (eI (s)), some (eI (24)), some (eI (28))]) (st' := [eR 98, eI (0), eJ (0), eR 98]) rfl (s_an rfl (by decide)) rfl ?_
  refine w_gf (np := 50) (v := eR 100) rfl rfl hq.1 (by rw [hq.2.1]; rfl) ?_
  refine w_s (np := 52) (lv' := [some (eR 98), some (eI (2)), some (eI (0)), some (eI (1)), some (eI (p)), some (eI (q)), some (eI (r)), some (eI (s)), some (eI (24)), some (eI (28))]) (st' := [eI (24), eR 100, eI (0), eJ (0), eR 98]) rfl rfl rfl ?_
  refine w_s (np := 53) (lv' := [some (eR 98), some (eI (2)), some (eI (0)), some (eI (1)), some (eI (p)), some (eI (q)), some (eI (r)), some (eI (s)), some (eI (24)), some (eI (28))]) (st' := [eI (1), eI (24), eR 100, eI (0), eJ (0), eR 98]) rfl rfl rfl ?_
  refine w_s (np := 54) (lv' := [some (eR 98), some (eI (2)), some (eI (0)), some (eI (1)), some (eI (p)), some (eI (q)), some (eI (r)), some (eI (s)), some (eI (24)), some (eI (28))]) (st' := [eI (25), eR 100, eI (0), eJ (0), eR 98]) rfl (b_iadd rfl) rfl ?_
  refine w_al (np := 55) (v := 0) rfl rfl (t_al (k := 25) hq rfl (by decide) rfl) ?_
  refine w_s (np := 56) (lv' := [some (eR 98), some (eI (2)), some (eI (0)), some (eI (1)), some (eI (p)), some (eI (q)), some (eI (r)), some (eI (s)), some (eI (24)), some (eI (28))]) (st' := [eI (0), eJ (0), eR 98]) rfl (b_isub rfl) rfl ?_
  refine w_s (np := 57) (lv' := [some (eR 98), some (eI (2)), some (eI (0)), some (eI (1)), some (eI (p)), some (eI (q)), some (eI (r)), some (eI (s)), some (eI (24)), some (eI (28))]) (st' := [eJ (0), eJ (0), eR 98]) rfl (b_i2l rfl) rfl ?_
  refine w_s (np := 58) (lv' := [some (eR 98), some (eI (2)), some (eI (0)), some (eI (1)), some (eI (p)), some (eI (q)), some (eI (r)), some (eI (s)), some (eI (24)), some (eI (28))]) (st' := [eR 98, eJ (0), eJ (0), eR 98]) rfl (s_an rfl (by decide)) rfl ?_
  refine w_gf (np := 61) (v := eR 100) rfl rfl hq.1 (by rw [hq.2.1]; rfl) ?_
  refine w_s (np := 63) (lv' := [some (eR 98), some (eI (2)), some (eI (0)), some (eI (1)), some (eI (p)), some (eI (q)), some (eI (r)), some (eI (s)), some (eI (24)), some (eI (28))]) (st' := [eI (28), eR 100, eJ (0), eJ (0), eR 98]) rfl rfl rfl ?_
  refine w_s (np := 64) (lv' := [some (eR 98), some (eI (2)), some (eI (0)), some (eI (1)), some (eI (p)), some (eI (q)), some (eI (r)), some (eI (s)), some (eI (24)), some (eI (28))]) (st' := [eI (2), eI (28), eR 100, eJ (0), eJ (0), eR 98]) rfl rfl rfl ?_
  refine w_s (np := 65) (lv' := [some (eR 98), some (eI (2)), some (eI (0)), some (eI (1)), some (eI (p)), some (eI (q)), some (eI (r)), some (eI (s)), some (eI (24)), some (eI (28))]) (st' := [eI (30), eR 100, eJ (0), eJ (0), eR 98]) rfl (b_iadd rfl) rfl ?_
  refine w_al (np := 66) (v := 0) rfl rfl (t_al (k := 30) hq rfl (by decide) rfl) ?_
  refine w_s (np := 67) (lv' := [some (eR 98), some (eI (2)), some (eI (0)), some (eI (1)), some (eI (p)), some (eI (q)), some (eI (r)), some (eI (s)), some (eI (24)), some (eI (28))]) (st' := [eR 98, eI (0), eJ (0), eJ (0), eR 98]) rfl (s_an rfl (by decide)) rfl ?_
  refine w_gf (np := 70) (v := eR 100) rfl rfl hq.1 (by rw [hq.2.1]; rfl) ?_
  refine w_s (np := 72) (lv' := [some (eR 98), some (eI (2)), some (eI (0)), some (eI (1)), some (eI (p)), some (eI (q)), some (eI (r)), some (eI (s)), some (eI (24)), some (eI (28))]) (st' := [eI (24), eR 100, eI (0), eJ (0), eJ (0), eR 98]) rfl rfl rfl ?_
  refine w_s (np := 73) (lv' := [some (eR 98), some (eI (2)), some (eI (0)), some (eI (1)), some (eI (p)), some (eI (q)), some (eI (r)), some (eI (s)), some (eI (24)), some (eI (28))]) (st' := [eI (2), eI (24), eR 100, eI (0), eJ (0), eJ (0), eR 98]) rfl rfl rfl ?_
  refine w_s (np := 74) (lv' := [some (eR 98), some (eI (2)), some (eI (0)), some (eI (1)), some (eI (p)), some (eI (q)), some (eI (r)), some (eI (s)), some (eI (24)), some (eI (28))]) (st' := [eI (26), eR 100, eI (0), eJ (0), eJ (0), eR 98]) rfl (b_iadd rfl) rfl ?_
  refine w_al (np := 75) (v := 0) rfl rfl (t_al (k := 26) hq rfl (by decide) rfl) ?_
  refine w_s (np := 76) (lv' := [some (eR 98), some (eI (2)), some (eI (0)), some (eI (1)), some (eI (p)), some (eI (q)), some (eI (r)), some (eI (s)), some (eI (24)), some (eI (28))]) (st' := [eI (0), eJ (0), eJ (0), eR 98]) rfl (b_isub rfl) rfl ?_
  refine w_s (np := 77) (lv' := [some (eR 98), some (eI (2)), some (eI (0)), some (eI (1)), some (eI (p)), some (eI (q)), some (eI (r)), some (eI (s)), some (eI (24)), some (eI (28))]) (st' := [eJ (0), eJ (0), eJ (0), eR 98]) rfl (b_i2l rfl) rfl ?_
  refine w_s (np := 78) (lv' := [some (eR 98), some (eI (2)), some (eI (0)), some (eI (1)), some (eI (p)), some (eI (q)), some (eI (r)), some (eI (s)), some (eI (24)), some (eI (28))]) (st' := [eR 98, eJ (0), eJ (0), eJ (0), eR 98]) rfl (s_an rfl (by decide)) rfl ?_
  refine w_gf (np := 81) (v := eR 100) rfl rfl hq.1 (by rw [hq.2.1]; rfl) ?_
  refine w_s (np := 83) (lv' := [some (eR 98), some (eI (2)), some (eI (0)), some (eI (1)), some (eI (p)), some (eI (q)), some (eI (r)), some (eI (s)), some (eI (24)), some (eI (28))]) (st' := [eI (28), eR 100, eJ (0), eJ (0), eJ (0), eR 98]) rfl rfl rfl ?_
  refine w_s (np := 84) (lv' := [some (eR 98), some (eI (2)), some (eI (0)), some (eI (1)), some (eI (p)), some (eI (q)), some (eI (r)), some (eI (s)), some (eI (24)), some (eI (28))]) (st' := [eI (3), eI (28), eR 100, eJ (0), eJ (0), eJ (0), eR 98]) rfl rfl rfl ?_
  refine w_s (np := 85) (lv' := [some (eR 98), some (eI (2)), some (eI (0)), some (eI (1)), some (eI (p)), some (eI (q)), some (eI (r)), some (eI (s)), some (eI (24)), some (eI (28))]) (st' := [eI (31), eR 100, eJ (0), eJ (0), eJ (0), eR 98]) rfl (b_iadd rfl) rfl ?_
  refine w_al (np := 86) (v := 1) rfl rfl (t_al (k := 31) hq rfl (by decide) rfl) ?_
  refine w_s (np := 87) (lv' := [some (eR 98), some (eI (2)), some (eI (0)), some (eI (1)), some (eI (p)), some (eI (q)), some (eI (r)), some (eI (s)), some (eI (24)), some (eI (28))]) (st' := [eR 98, eI (1), eJ (0), eJ (0), eJ (0), eR 98]) rfl (s_an rfl (by decide)) rfl ?_
  refine w_gf (np := 90) (v := eR 100) rfl rfl hq.1 (by rw [hq.2.1]; rfl) ?_
  refine w_s (np := 92) (lv' := [some (eR 98), some (eI (2)), some (eI (0)), some (eI (1)), some (eI (p)), some (eI (q)), some (eI (r)), some (eI (s)), some (eI (24)), some (eI (28))]) (st' := [eI (24), eR 100, eI (1), eJ (0), eJ (0), eJ (0), eR 98]) rfl rfl rfl ?_
  refine w_s (np := 93) (lv' := [some (eR 98), some (eI (2)), some (eI (0)), some (eI (1)), some (eI (p)), some (eI (q)), some (eI (r)), some (eI (s)), some (eI (24)), some (eI (28))]) (st' := [eI (3), eI (24), eR 100, eI (1), eJ (0), eJ (0), eJ (0), eR 98]) rfl rfl rfl ?_
  refine w_s (np := 94) (lv' := [some (eR 98), some (eI (2)), some (eI (0)), some (eI (1)), some (eI (p)), some (eI (q)), some (eI (r)), some (eI (s)), some (eI (24)), some (eI (28))]) (st' := [eI (27), eR 100, eI (1), eJ (0), eJ (0), eJ (0), eR 98]) rfl (b_iadd rfl) rfl ?_
  refine w_al (np := 95) (v := 0) rfl rfl (t_al (k := 27) hq rfl (by decide) rfl) ?_
  refine w_s (np := 96) (lv' := [some (eR 98), some (eI (2)), some (eI (0)), some (eI (1)), some (eI (p)), some (eI (q)), some (eI (r)), some (eI (s)), some (eI (24)), some (eI (28))]) (st' := [eI (1), eJ (0), eJ (0), eJ (0), eR 98]) rfl (b_isub rfl) rfl ?_
  refine w_s (np := 97) (lv' := [some (eR 98), some (eI (2)), some (eI (0)), some (eI (1)), some (eI (p)), some (eI (q)), some (eI (r)), some (eI (s)), some (eI (24)), some (eI (28))]) (st' := [eJ (1), eJ (0), eJ (0), eJ (0), eR 98]) rfl (b_i2l rfl) rfl ?_
  refine w_s (np := 99) (lv' := [some (eR 98), some (eI (2)), some (eI (0)), some (eI (1)), some (eI (p)), some (eI (q)), some (eI (r)), some (eI (s)), some (eI (24)), some (eI (28))]) (st' := [eI (p), eJ (1), eJ (0), eJ (0), eJ (0), eR 98]) rfl rfl rfl ?_
  refine w_s (np := 100) (lv' := [some (eR 98), some (eI (2)), some (eI (0)), some (eI (1)), some (eI (p)), some (eI (q)), some (eI (r)), some (eI (s)), some (eI (24)), some (eI (28))]) (st' := [eJ (p), eJ (1), eJ (0), eJ (0), eJ (0), eR 98]) rfl (b_i2l (ev_w_in (by omega) (by omega))) rfl ?_
  refine w_s (np := 101) (lv' := [some (eR 98), some (eI (2)), some (eI (0)), some (eI (1)), some (eI (p)), some (eI (q)), some (eI (r)), some (eI (s)), some (eI (24)), some (eI (28))]) (st' := [eR 98, eJ (p), eJ (1), eJ (0), eJ (0), eJ (0), eR 98]) rfl (s_an rfl (by decide)) rfl ?_
  refine w_gf (np := 104) (v := eR 100) rfl rfl hq.1 (by rw [hq.2.1]; rfl) ?_
  refine w_s (np := 106) (lv' := [some (eR 98), some (eI (2)), some (eI (0)), some (eI (1)), some (eI (p)), some (eI (q)), some (eI (r)), some (eI (s)), some (eI (24)), some (eI (28))]) (st' := [eI (24), eR 100, eJ (p), eJ (1), eJ (0), eJ (0), eJ (0), eR 98]) rfl rfl rfl ?_
  refine w_al (np := 107) (v := 0) rfl rfl (t_al (k := 24) hq rfl (by decide) rfl) ?_
  refine w_s (np := 108) (lv' := [some (eR 98), some (eI (2)), some (eI (0)), some (eI (1)), some (eI (p)), some (eI (q)), some (eI (r)), some (eI (s)), some (eI (24)), some (eI (28))]) (st' := [eJ (0), eJ (p), eJ (1), eJ (0), eJ (0), eJ (0), eR 98]) rfl (b_i2l rfl) rfl ?_
  obtain ⟨v1, e2⟩ : ∃ v : Int, v = (p) - (0) := ⟨_, rfl⟩
  have b3 : -9999 ≤ v1 ∧ v1 ≤ 9999 := by omega
  refine w_s (np := 109) (lv' := [some (eR 98), some (eI (2)), some (eI (0)), some (eI (1)), some (eI (p)), some (eI (q)), some (eI (r)), some (eI (s)), some (eI (24)), some (eI (28))]) (st' := [eJ (v1), eJ (1), eJ (0), eJ (0), eJ (0), eR 98]) rfl (b_lsub (by rw [← e2]; exact ev_W_in (by omega) (by omega))) rfl ?_
  refine w_s (np := 111) (lv' := [some (eR 98), some (eI (2)), some (eI (0)), some (eI (1)), some (eI (p)), some (eI (q)), some (eI (r)), some (eI (s)), some (eI (24)), some (eI (28))]) (st' := [eI (q), eJ (v1), eJ (1), eJ (0), eJ (0), eJ (0), eR 98]) rfl rfl rfl ?_
  refine w_s (np := 112) (lv' := [some (eR 98), some (eI (2)), some (eI (0)), some (eI (1)), some (eI (p)), some (eI (q)), some (eI (r)), some (eI (s)), some (eI (24)), some (eI (28))]) (st' := [eJ (q), eJ (v1), eJ (1), eJ (0), eJ (0), eJ (0), eR 98]) rfl (b_i2l (ev_w_in (by omega) (by omega))) rfl ?_
  refine w_s (np := 113) (lv' := [some (eR 98), some (eI (2)), some (eI (0)), some (eI (1)), some (eI (p)), some (eI (q)), some (eI (r)), some (eI (s)), some (eI (24)), some (eI (28))]) (st' := [eR 98, eJ (q), eJ (v1), eJ (1), eJ (0), eJ (0), eJ (0), eR 98]) rfl (s_an rfl (by decide)) rfl ?_
  refine w_gf (np := 116) (v := eR 100) rfl rfl hq.1 (by rw [hq.2.1]; rfl) ?_
  refine w_s (np := 118) (lv' := [some (eR 98), some (eI (2)), some (eI (0)), some (eI (1)), some (eI (p)), some (eI (q)), some (eI (r)), some (eI (s)), some (eI (24)), some (eI (28))]) (st' := [eI (24), eR 100, eJ (q), eJ (v1), eJ (1), eJ (0), eJ (0), eJ (0), eR 98]) rfl rfl rfl ?_
  refine w_s (np := 119) (lv' := [some (eR 98), some (eI (2)), some (eI (0)), some (eI (1)), some (eI (p)), some (eI (q)), some (eI (r)), some (eI (s)), some (eI (24)), some (eI (28))]) (st' := [eI (1), eI (24), eR 100, eJ (q), eJ (v1), eJ (1), eJ (0), eJ (0), eJ (0), eR 98]) rfl rfl rfl ?_
  refine w_s (np := 120) (lv' := [some (eR 98), some (eI (2)), some (eI (0)), some (eI (1)), some (eI (p)), some (eI (q)), some (eI (r)), some (eI (s)), some (eI (24)), some (eI (28))]) (st' := [eI (25), eR 100, eJ (q), eJ (v1), eJ (1), eJ (0), eJ (0), eJ (0), eR 98]) rfl (b_iadd rfl) rfl ?_
  refine w_al (np := 121) (v := 0) rfl rfl (t_al (k := 25) hq rfl (by decide) rfl) ?_
  refine w_s (np := 122) (lv' := [some (eR 98), some (eI (2)), some (eI (0)), some (eI (1)), some (eI (p)), some (eI (q)), some (eI (r)), some (eI (s)), some (eI (24)), some (eI (28))]) (st' := [eJ (0), eJ (q), eJ (v1), eJ (1), eJ (0), eJ (0), eJ (0), eR 98]) rfl (b_i2l rfl) rfl ?_
  obtain ⟨v4, e5⟩ : ∃ v : Int, v = (q) - (0) := ⟨_, rfl⟩
  have b6 : -9999 ≤ v4 ∧ v4 ≤ 9999 := by omega
  refine w_s (np := 123) (lv' := [some (eR 98), some (eI (2)), some (eI (0)), some (eI (1)), some (eI (p)), some (eI (q)), some (eI (r)), some (eI (s)), some (eI (24)), some (eI (28))]) (st' := [eJ (v4), eJ (v1), eJ (1), eJ (0), eJ (0), eJ (0), eR 98]) rfl (b_lsub (by rw [← e5]; exact ev_W_in (by omega) (by omega))) rfl ?_
  refine w_s (np := 125) (lv' := [some (eR 98), some (eI (2)), some (eI (0)), some (eI (1)), some (eI (p)), some (eI (q)), some (eI (r)), some (eI (s)), some (eI (24)), some (eI (28))]) (st' := [eI (r), eJ (v4), eJ (v1), eJ (1), eJ (0), eJ (0), eJ (0), eR 98]) rfl rfl rfl ?_
  refine w_s (np := 126) (lv' := [some (eR 98), some (eI (2)), some (eI (0)), some (eI (1)), some (eI (p)), some (eI (q)), some (eI (r)), some (eI (s)), some (eI (24)), some (eI (28))]) (st' := [eJ (r), eJ (v4), eJ (v1), eJ (1), eJ (0), eJ (0), eJ (0), eR 98]) rfl (b_i2l (ev_w_in (by omega) (by omega))) rfl ?_
  refine w_s (np := 127) (lv' := [some (eR 98), some (eI (2)), some (eI (0)), some (eI (1)), some (eI (p)), some (eI (q)), some (eI (r)), some (eI (s)), some (eI (24)), some (eI (28))]) (st' := [eR 98, eJ (r), eJ (v4), eJ (v1), eJ (1), eJ (0), eJ (0), eJ (0), eR 98]) rfl (s_an rfl (by decide)) rfl ?_
  refine w_gf (np := 130) (v := eR 100) rfl rfl hq.1 (by rw [hq.2.1]; rfl) ?_
  refine w_s (np := 132) (lv' := [some (eR 98), some (eI (2)), some (eI (0)), some (eI (1)), some (eI (p)), some (eI (q)), some (eI (r)), some (eI (s)), some (eI (24)), some (eI (28))]) (st' := [eI (24), eR 100, eJ (r), eJ (v4), eJ (v1), eJ (1), eJ (0), eJ (0), eJ (0), eR 98]) rfl rfl rfl ?_
  refine w_s (np := 133) (lv' := [some (eR 98), some (eI (2)), some (eI (0)), some (eI (1)), some (eI (p)), some (eI (q)), some (eI (r)), some (eI (s)), some (eI (24)), some (eI (28))]) (st' := [eI (2), eI (24), eR 100, eJ (r), eJ (v4), eJ (v1), eJ (1), eJ (0), eJ (0), eJ (0), eR 98]) rfl rfl rfl ?_
  refine w_s (np := 134) (lv' := [some (eR 98), some (eI (2)), some (eI (0)), some (eI (1)), some (eI (p)), some (eI (q)), some (eI (r)), some (eI (s)), some (eI (24)), some (eI (28))]) (st' := [eI (26), eR 100, eJ (r), eJ (v4), eJ (v1), eJ (1), eJ (0), eJ (0), eJ (0), eR 98]) rfl (b_iadd rfl) rfl ?_
  refine w_al (np := 135) (v := 0) rfl rfl (t_al (k := 26) hq rfl (by decide) rfl) ?_
  refine w_s (np := 136) (lv' := [some (eR 98), some (eI (2)), some (eI (0)), some (eI (1)), some (eI (p)), some (eI (q)), some (eI (r)), some (eI (s)), some (eI (24)), some (eI (28))]) (st' := [eJ (0), eJ (r), eJ (v4), eJ (v1), eJ (1), eJ (0), eJ (0), eJ (0), eR 98]) rfl (b_i2l rfl) rfl ?_
  obtain ⟨v7, e8⟩ : ∃ v : Int, v = (r) - (0) := ⟨_, rfl⟩
  have b9 : -9999 ≤ v7 ∧ v7 ≤ 9999 := by omega
  refine w_s (np := 137) (lv' := [some (eR 98), some (eI (2)), some (eI (0)), some (eI (1)), some (eI (p)), some (eI (q)), some (eI (r)), some (eI (s)), some (eI (24)), some (eI (28))]) (st' := [eJ (v7), eJ (v4), eJ (v1), eJ (1), eJ (0), eJ (0), eJ (0), eR 98]) rfl (b_lsub (by rw [← e8]; exact ev_W_in (by omega) (by omega))) rfl ?_
  refine w_s (np := 139) (lv' := [some (eR 98), some (eI (2)), some (eI (0)), some (eI (1)), some (eI (p)), some (eI (q)), some (eI (r)), some (eI (s)), some (eI (24)), some (eI (28))]) (st' := [eI (s), eJ (v7), eJ (v4), eJ (v1), eJ (1), eJ (0), eJ (0), eJ (0), eR 98]) rfl rfl rfl ?_
  refine w_s (np := 140) (lv' := [some (eR 98), some (eI (2)), some (eI (0)), some (eI (1)), some (eI (p)), some (eI (q)), some (eI (r)), some (eI (s)), some (eI (24)), some (eI (28))]) (st' := [eJ (s), eJ (v7), eJ (v4), eJ (v1), eJ (1), eJ (0), eJ (0), eJ (0), eR 98]) rfl (b_i2l (ev_w_in (by omega) (by omega))) rfl ?_
  refine w_s (np := 141) (lv' := [some (eR 98), some (eI (2)), some (eI (0)), some (eI (1)), some (eI (p)), some (eI (q)), some (eI (r)), some (eI (s)), some (eI (24)), some (eI (28))]) (st' := [eR 98, eJ (s), eJ (v7), eJ (v4), eJ (v1), eJ (1), eJ (0), eJ (0), eJ (0), eR 98]) rfl (s_an rfl (by decide)) rfl ?_
  refine w_gf (np := 144) (v := eR 100) rfl rfl hq.1 (by rw [hq.2.1]; rfl) ?_
  refine w_s (np := 146) (lv' := [some (eR 98), some (eI (2)), some (eI (0)), some (eI (1)), some (eI (p)), some (eI (q)), some (eI (r)), some (eI (s)), some (eI (24)), some (eI (28))]) (st' := [eI (24), eR 100, eJ (s), eJ (v7), eJ (v4), eJ (v1), eJ (1), eJ (0), eJ (0), eJ (0), eR 98]) rfl rfl rfl ?_
  refine w_s (np := 147) (lv' := [some (eR 98), some (eI (2)), some (eI (0)), some (eI (1)), some (eI (p)), some (eI (q)), some (eI (r)), some (eI (s)), some (eI (24)), some (eI (28))]) (st' := [eI (3), eI (24), eR 100, eJ (s), eJ (v7), eJ (v4), eJ (v1), eJ (1), eJ (0), eJ (0), eJ (0), eR 98]) rfl rfl rfl ?_
  refine w_s (np := 148) (lv' := [some (eR 98), some (eI (2)), some (eI (0)), some (eI (1)), some (eI (p)), some (eI (q)), some (eI (r)), some (eI (s)), some (eI (24)), some (eI (28))]) (st' := [eI (27), eR 100, eJ (s), eJ (v7), eJ (v4), eJ (v1), eJ (1), eJ (0), eJ (0), eJ (0), eR 98]) rfl (b_iadd rfl) rfl ?_
  refine w_al (np := 149) (v := 0) rfl rfl (t_al (k := 27) hq rfl (by decide) rfl) ?_
  refine w_s (np := 150) (lv' := [some (eR 98), some (eI (2)), some (eI (0)), some (eI (1)), some (eI (p)), some (eI (q)), some (eI (r)), some (eI (s)), some (eI (24)), some (eI (28))]) (st' := [eJ (0), eJ (s), eJ (v7), eJ (v4), eJ (v1), eJ (1), eJ (0), eJ (0), eJ (0), eR 98]) rfl (b_i2l rfl) rfl ?_
  obtain ⟨v10, e11⟩ : ∃ v : Int, v = (s) - (0) := ⟨_, rfl⟩
  have b12 : -9999 ≤ v10 ∧ v10 ≤ 9999 := by omega
  refine w_s (np := 151) (lv' := [some (eR 98), some (eI (2)), some (eI (0)), some (eI (1)), some (eI (p)), some (eI (q)), some (eI (r)), some (eI (s)), some (eI (24)), some (eI (28))]) (st' := [eJ (v10), eJ (v7), eJ (v4), eJ (v1), eJ (1), eJ (0), eJ (0), eJ (0), eR 98]) rfl (b_lsub (by rw [← e11]; exact ev_W_in (by omega) (by omega))) rfl ?_
  refine w_cv (np := 154) (as := [eJ (0), eJ (0), eJ (0), eJ (1), eJ (v1), eJ (v4), eJ (v7), eJ (v10)]) (lv' := [some (eR 98), some (eJ (0)), none, some (eJ (0)), none, some (eJ (0)), none, some (eJ (1)), none, some (eJ (v1)), none, some (eJ (v4)), none, some (eJ (v7)), none, some (eJ (v10)), none]) (rest := []) rfl rfl rfl (Nat.ble_eq.mp rfl) rfl rfl rfl hq.1 rfl ?_
  refine t224 hq.1 (show (-8 : Int) ≤ 0 ∧ (0 : Int) ≤ 8 by omega) (show (-8 : Int) ≤ 0 ∧ (0 : Int) ≤ 8 by omega) (show (-8 : Int) ≤ 0 ∧ (0 : Int) ≤ 8 by omega) (show (-8 : Int) ≤ 1 ∧ (1 : Int) ≤ 8 by omega) (show (-100000 : Int) ≤ v1 ∧ (v1 : Int) ≤ 100000 by omega) (show (-100000 : Int) ≤ v4 ∧ (v4 : Int) ≤ 100000 by omega) (show (-100000 : Int) ≤ v7 ∧ (v7 : Int) ≤ 100000 by omega) (show (-100000 : Int) ≤ v10 ∧ (v10 : Int) ≤ 100000 by omega) ?_
  intro m B G s1 eB eG bB bG
  show ex_fine fg rc rs (d + 4, (265, 154, [some (eR 98), some (eI (2)), some (eI (0)), some (eI (1)), some (eI (p)), some (eI (q)), some (eI (r)), some (eI (s)), some (eI (24)), some (eI (28))], [eI (rSg (2 * B + G) G)]), f :: F, m)
  refine b_ri rfl rfl ?_
  have hB : B = (-1) * r := by omega
  have hG : G = (-1) * p + (-1) * q := by omega
  have hr := rSg_ok (x := 2 * B + G) (b := G) (by omega)
  have e9 : 416020 * (2 * B + G) + 930249 * G = (-1346269) * p + (-1346269) * q + (-832040) * r := by omega
  rw [e9] at hr
  exact K m _ s1 hr (rSg_v _ _)
theorem t265_2_1 {fg : eG} {rc rs d : Nat} {f : eFr} {F : List eFr} {μ : eM} {p q r s : Int} (hq : tQ μ) (hp : -9999 ≤ p ∧ p ≤ 9999) (hq0 : -9999 ≤ q ∧ q ≤ 9999) (hr : -9999 ≤ r ∧ r ≤ 9999) (hs : -9999 ≤ s ∧ s ≤ 9999) (K : ∀ (μ2 : eM) (u : Int), tS μ μ2 → ((0 ≤ u ↔ 0 ≤ 514229 * q + 832040 * r + 832040 * s + (-832040)) ∧ (u ≤ 0 ↔ 514229 * q + 832040 * r + 832040 * s + (-832040) ≤ 0)) → (u = 0 ∨ u = 1 ∨ u = -1) → ex_fine fg rc rs (d + 5, (f.1, f.2.1, f.2.2.1, eI u :: f.2.2.2), F, μ2)) : ex_fine fg rc rs (d + 4, (265, 0, [some (eR 98), some (eI (2)), some (eI (1)), some (eI (2)), some (eI (p)), some (eI (q)), some (eI (r)), some (eI (s)), none, none], []), f :: F, μ) := by
  refine w_s (np := 2) (lv' := [some (eR 98), some (eI (2)), some (eI (1)), some (eI (2)), some (eI (p)), some (eI (q)), some (eI (r)), some (eI (s)), none, none]) (st' := [eI (12)]) rfl rfl rfl ?_
  refine w_s (np := 3) (lv' := [some (eR 98), some (eI (2)), some (eI (1)), some (eI (2)), some (eI (p)), some (eI (q)), some (eI (r)), some (eI (s)), none, none]) (st' := [eI (2), eI (12)]) rfl rfl rfl ?_
  refine w_s (np := 4) (lv' := [some (eR 98), some (eI (2)), some (eI (1)), some (eI (2)), some (eI (p)), some (eI (q)), some (eI (r)), some (eI (s)), none, none]) (st' := [eI (24)]) rfl (b_imul rfl) rfl ?_
  refine w_s (np := 5) (lv' := [some (eR 98), some (eI (2)), some (eI (1)), some (eI (2)), some (eI (p)), some (eI (q)), some (eI (r)), some (eI (s)), none, none]) (st' := [eI (4), eI (24)]) rfl rfl rfl ?_
  refine w_s (np := 6) (lv' := [some (eR 98), some (eI (2)), some (eI (1)), some (eI (2)), some (eI (p)), some (eI (q)), some (eI (r)), some (eI (s)), none, none]) (st' := [eI (1), eI (4), eI (24)]) rfl rfl rfl ?_
  refine w_s (np := 7) (lv' := [some (eR 98), some (eI (2)), some (eI (1)), some (eI (2)), some (eI (p)), some (eI (q)), some (eI (r)), some (eI (s)), none, none]) (st' := [eI (4), eI (24)]) rfl (b_imul rfl) rfl ?_
  refine w_s (np := 8) (lv' := [some (eR 98), some (eI (2)), some (eI (1)), some (eI (2)), some (eI (p)), some (eI (q)), some (eI (r)), some (eI (s)), none, none]) (st' := [eI (28)]) rfl (b_iadd rfl) rfl ?_
  refine w_s (np := 10) (lv' := [some (eR 98), some (eI (2)), some (eI (1)), some (eI (2)), some (eI (p)), some (eI (q)), some (eI (r)), some (eI (s)), some (eI (28)), none]) (st' := []) rfl rfl rfl ?_
  refine w_s (np := 12) (lv' := [some (eR 98), some (eI (2)), some (eI (1)), some (eI (2)), some (eI (p)), some (eI (q)), some (eI (r)), some (eI (s)), some (eI (28)), none]) (st' := [eI (12)]) rfl rfl rfl ?_
  refine w_s (np := 13) (lv' := [some (eR 98), some (eI (2)), some (eI (1)), some (eI (2)), some (eI (p)), some (eI (q)), some (eI (r)), some (eI (s)), some (eI (28)), none]) (st' := [eI (2), eI (12)]) rfl rfl rfl ?_
  refine w_s (np := 14) (lv' := [some (eR 98), some (eI (2)), some (eI (1)), some (eI (2)), some (eI (p)), some (eI (q)), some (eI (r)), some (eI (s)), some (eI (28)), none]) (st' := [eI (24)]) rfl (b_imul rfl) rfl ?_
  refine w_s (np := 15) (lv' := [some (eR 98), some (eI (2)), some (eI (1)), some (eI (2)), some (eI (p)), some (eI (q)), some (eI (r)), some (eI (s)), some (eI (28)), none]) (st' := [eI (4), eI (24)]) rfl rfl rfl ?_
  refine w_s (np := 16) (lv' := [some (eR 98), some (eI (2)), some (eI (1)), some (eI (2)), some (eI (p)), some (eI (q)), some (eI (r)), some (eI (s)), some (eI (28)), none]) (st' := [eI (2), eI (4), eI (24)]) rfl rfl rfl ?_
  refine w_s (np := 17) (lv' := [some (eR 98), some (eI (2)), some (eI (1)), some (eI (2)), some (eI (p)), some (eI (q)), some (eI (r)), some (eI (s)), some (eI (28)), none]) (st' := [eI (8), eI (24)]) rfl (b_imul rfl) rfl ?_
  refine w_s (np := 18) (lv' := [some (eR 98), some (eI (2)), some (eI (1)), some (eI (2)), some (eI (p)), some (eI (q)), some (eI (r)), some (eI (s)), some (eI (28)), none]) (st' := [eI (32)]) rfl (b_iadd rfl) rfl ?_
  refine w_s (np := 20) (lv' := [some (eR 98), some (eI (2)), some (eI (1)), some (eI (2)), some (eI (p)), some (eI (q)), some (eI (r)), some (eI (s)), some (eI (28)), some (eI (32))]) (st' := []) rfl rfl rfl ?_
  refine w_s (np := 21) (lv' := [some (eR 98), some (eI (2)), some (eI (1)), some (eI (2)), some (eI (p)), some (eI (q)), some (eI (r)), some (eI (s)), some (eI (28)), some (eI (32))]) (st' := [eR 98]) rfl (s_an rfl (by decide)) rfl ?_
  refine w_s (np := 22) (lv' := [some (eR 98), some (eI (2)), some (eI (1)), some (eI (2)), some (eI (p)), some (eI (q)), some (eI (r)), some (eI (s)), some (eI (28)), some (eI (32))]) (st' := [eR 98, eR 98]) rfl (s_an rfl (by decide)) rfl ?_
  refine w_gf (np := 25) (v := eR 100) rfl rfl hq.1 (by rw [hq.2.1]; rfl) ?_
  refine w_s (np := 27) (lv' := [some (eR 98), some (eI (2)), some (eI (1)), some (eI (2)), some (eI (p)), some (eI (q)), some (eI (r)), some (eI (s)), some (eI (28)), some (eI (32))]) (st' := [eI (32), eR 100, eR 98]) rfl rfl rfl ?_
  refine w_al (np := 28) (v := 0) rfl rfl (t_al (k := 32) hq rfl (by decide) rfl) ?_
  refine w_s (np := 29) (lv' := [some (eR 98), some (eI (2)), some (eI (1)), some (eI (2)), some (eI (p)), some (eI (q)), some (eI (r)), some (eI (s)), some (eI (28)), some (eI (32))]) (st' := [eR 98, eI (0), eR 98]) rfl (s_an rfl (by decide)) rfl ?_
  refine w_gf (np := 32) (v := eR 100) rfl rfl hq.1 (by rw [hq.2.1]; rfl) ?_
  refine w_s (np := 34) (lv' := [some (eR 98), some (eI (2)), some (eI (1)), some (eI (2)), some (eI (p)), some (eI (q)), some (eI (r)), some (eI (s)), some (eI (28)), some (eI (32))]) (st' := [eI (28), eR 100, eI (0), eR 98]) rfl rfl rfl ?_
  refine w_al (np := 35) (v := 0) rfl rfl (t_al (k := 28) hq rfl (by decide) rfl) ?_
  refine w_s (np := 36) (lv' := [some (eR 98), some (eI (2)), some (eI (1)), some (eI (2)), some (eI (p)), some (eI (q)), some (eI (r)), some (eI (s)), some (eI (28)), some (eI (32))]) (st' := [eI (0), eR 98]) rfl (b_isub rfl) rfl ?_
  refine w_s (np := 37) (lv' := [some (eR 98), some (eI (2)), some (eI (1)), some (eI (2)), some (eI (p)), some (eI (q)), some (eI (r)), some (eI (s)), some (eI (28)), some (eI (32))]) (st' := [eJ (0), eR 98]) rfl (b_i2l rfl) rfl ?_
  refine w_s (np := 38) (lv' := [some (eR 98), some (eI (2)), some (eI (1)), some (eI (2)), some (eI (p)), some (eI (q)), some (eI (r)), some (eI (s)), some (eI (28)), some (eI (32))]) (st' := [eR 98, eJ (0), eR 98]) rfl (s_an rfl (by decide)) rfl ?_
  refine w_gf (np := 41) (v := eR 100) rfl rfl hq.1 (by rw [hq.2.1]; rfl) ?_
  refine w_s (np := 43) (lv' := [some (eR 98), some (eI (2)), some (eI (1)), some (eI (2)), some (eI (p)), some (eI (q)), some (eI (r)), some (eI (s)), some (eI (28)), some (eI (32))]) (st' := [eI (32), eR 100, eJ (0), eR 98]) rfl rfl rfl ?_
  refine w_s (np := 44) (lv' := [some (eR 98), some (eI (2)), some (eI (1)), some (eI (2)), some (eI (p)), some (eI (q)), some (eI (r)), some (eI (s)), some (eI (28)), some (eI (32))]) (st' := [eI (1), eI (32), eR 100, eJ (0), eR 98]) rfl rfl rfl ?_
  refine w_s (np := 45) (lv' := [some (eR 98), some (eI (2)), some (eI (1)), some (eI (2)), some (eI (p)), some (eI (q)), some (eI (r)), some (eI (s)), some (eI (28)), some (eI (32))]) (st' := [eI (33), eR 100, eJ (0), eR 98]) rfl (b_iadd rfl) rfl ?_
  refine w_al (np := 46) (v := 0) rfl rfl (t_al (k := 33) hq rfl (by decide) rfl) ?_
  refine w_s (np := 47) (lv' := [some (eR 98), some (eI (2)), some (eI (1)), some (eI (2)), some (eI (p)), some (eI (q)), some (eI (r)), some (eI (s)), some (eI (28)), some (eI (32))]) (st' := [eR 98, eI (0), eJ (0), eR 98]) rfl (s_an rfl (by decide)) rfl ?_
  refine w_gf (np := 50) (v := eR 100) rfl rfl hq.1 (by rw [hq.2.1]; rfl) ?_
  refine w_s (np := 52) (lv' := [some (eR 98), some (eI (2)), some (eI (1)), some (eI (2)), some (eI (p)), some (eI (q)), some (eI (r)), some (eI (s)), some (eI (28)), some (eI (32))]) (st' := [eI (28), eR 100, eI (0), eJ (0), eR 98]) rfl rfl rfl ?_
  refine w_s (np := 53) (lv' := [some (eR 98), some (eI (2)), some (eI (1)), some (eI (2)), some (eI (p)), some (eI (q)), some (eI (r)), some (eI (s)), some (eI (28)), some (eI (32))]) (st' := [eI (1), eI (28), eR 100, eI (0), eJ (0), eR 98]) rfl rfl rfl ?_
  refine w_s (np := 54) (lv' := [some (eR 98), some (eI (2)), some (eI (1)), some (eI (2)), some (eI (p)), some (eI (q)), some (eI (r)), some (eI (s)), some (eI (28)), some (eI (32))]) (st' := [eI (29), eR 100, eI (0), eJ (0), eR 98]) rfl (b_iadd rfl) rfl ?_
  refine w_al (np := 55) (v := 0) rfl rfl (t_al (k := 29) hq rfl (by decide) rfl) ?_
  refine w_s (np := 56) (lv' := [some (eR 98), some (eI (2)), some (eI (1)), some (eI (2)), some (eI (p)), some (eI (q)), some (eI (r)), some (eI (s)), some (eI (28)), some (eI (32))]) (st' := [eI (0), eJ (0), eR 98]) rfl (b_isub rfl) rfl ?_
  refine w_s (np := 57) (lv' := [some (eR 98), some (eI (2)), some (eI (1)), some (eI (2)), some (eI (p)), some (eI (q)), some (eI (r)), some (eI (s)), some (eI (28)), some (eI (32))]) (st' := [eJ (0), eJ (0), eR 98]) rfl (b_i2l rfl) rfl ?_
  refine w_s (np := 58) (lv' := [some (eR 98), some (eI (2)), some (eI (1)), some (eI (2)), some (eI (p)), some (eI (q)), some (eI (r)), some (eI (s)), some (eI (28)), some (eI (32))]) (st' := [eR 98, eJ (0), eJ (0), eR 98]) rfl (s_an rfl (by decide)) rfl ?_
  refine w_gf (np := 61) (v := eR 100) rfl rfl hq.1 (by rw [hq.2.1]; rfl) ?_
  refine w_s (np := 63) (lv' := [some (eR 98), some (eI (2)), some (eI (1)), some (eI (2)), some (eI (p)), some (eI (q)), some (eI (r)), some (eI (s)), some (eI (28)), some (eI (32))]) (st' := [eI (32), eR 100, eJ (0), eJ (0), eR 98]) rfl rfl rfl ?_
  refine w_s (np := 64) (lv' := [some (eR 98), some (eI (2)), some (eI (1)), some (eI (2)), some (eI (p)), some (eI (q)), some (eI (r)), some (eI (s)), some (eI (28)), some (eI (32))]) (st' := [eI (2), eI (32), eR 100, eJ (0), eJ (0), eR 98]) rfl rfl rfl ?_
  refine w_s (np := 65) (lv' := [some (eR 98), some (eI (2)), some (eI (1)), some (eI (2)), some (eI (p)), some (eI (q)), some (eI (r)), some (eI (s)), some (eI (28)), some (eI (32))]) (st' := [eI (34), eR 100, eJ (0), eJ (0), eR 98]) rfl (b_iadd rfl) rfl ?_
  refine w_al (np := 66) (v := 1) rfl rfl (t_al (k := 34) hq rfl (by decide) rfl) ?_
  refine w_s (np := 67) (lv' := [some (eR 98), some (eI (2)), some (eI (1)), some (eI (2)), some (eI (p)), some (eI (q)), some (eI (r)), some (eI (s)), some (eI (28)), some (eI (32))]) (st' := [eR 98, eI (1), eJ (0), eJ (0), eR 98]) rfl (s_an rfl (by decide)) rfl ?_
  refine w_gf (np := 70) (v := eR 100) rfl rfl hq.1 (by rw [hq.2.1]; rfl) ?_
  refine w_s (np := 72) (lv' := [some (eR 98), some (eI (2)), some (eI (1)), some (eI (2)), some (eI (p)), some (eI (q)), some (eI (r)), some (eI (s)), some (eI (28)), some (eI (32))]) (st' := [eI (28), eR 100, eI (1), eJ (0), eJ (0), eR 98]) rfl rfl rfl ?_
  refine w_s (np := 73) (lv' := [some (eR 98), some (eI (2)), some (eI (1)), some (eI (2)), some (eI (p)), some (eI (q)), some (eI (r)), some (eI (s)), some (eI (28)), some (eI (32))]) (st' := [eI (2), eI (28), eR 100, eI (1), eJ (0), eJ (0), eR 98]) rfl rfl rfl ?_
  refine w_s (np := 74) (lv' := [some (eR 98), some (eI (2)), some (eI (1)), some (eI (2)), some (eI (p)), some (eI (q)), some (eI (r)), some (eI (s)), some (eI (28)), some (eI (32))]) (st' := [eI (30), eR 100, eI (1), eJ (0), eJ (0), eR 98]) rfl (b_iadd rfl) rfl ?_
  refine w_al (np := 75) (v := 0) rfl rfl (t_al (k := 30) hq rfl (by decide) rfl) ?_
  refine w_s (np := 76) (lv' := [some (eR 98), some (eI (2)), some (eI (1)), some (eI (2)), some (eI (p)), some (eI (q)), some (eI (r)), some (eI (s)), some (eI (28)), some (eI (32))]) (st' := [eI (1), eJ (0), eJ (0), eR 98]) rfl (b_isub rfl) rfl ?_
  refine w_s (np := 77) (lv' := [some (eR 98), some (eI (2)), some (eI (1)), some (eI (2)), some (eI (p)), some (eI (q)), some (eI (r)), some (eI (s)), some (eI (28)), some (eI (32))]) (st' := [eJ (1), eJ (0), eJ (0), eR 98]) rfl (b_i2l rfl) rfl ?_
  refine w_s (np := 78) (lv' := [some (eR 98), some (eI (2)), some (eI (1)), some (eI (2)), some (eI (p)), some (eI (q)), some (eI (r)), some (eI (s)), some (eI (28)), some (eI (32))]) (st' := [eR 98, eJ (1), eJ (0), eJ (0), eR 98]) rfl (s_an rfl (by decide)) rfl ?_
  refine w_gf (np := 81) (v := eR 100) rfl rfl hq.1 (by rw [hq.2.1]; rfl) ?_
  refine w_s (np := 83) (lv' := [some (eR 98), some (eI (2)), some (eI (1)), some (eI (2)), some (eI (p)), some (eI (q)), some (eI (r)), some (eI (s)), some (eI (28)), some (eI (32))]) (st' := [eI (32), eR 100, eJ (1), eJ (0), eJ (0), eR 98]) rfl rfl rfl ?_
  refine w_s (np := 84) (lv' := [some (eR 98), some (eI (2)), some (eI (1)), some (eI (2)), some (eI (p)), some (eI (q)), some (eI (r)), some (eI (s)), some (eI (28)), some (eI (32))]) (st' := [eI (3), eI (32), eR 100, eJ (1), eJ (0), eJ (0), eR 98]) rfl rfl rfl ?_
  refine w_s (np := 85) (lv' := [some (eR 98), some (eI (2)), some (eI (1)), some (eI (2)), some (eI (p)), some (eI (q)), some (eI (r)), some (eI (s)), some (eI (28)), some (eI (32))]) (st' := [eI (35), eR 100, eJ (1), eJ (0), eJ (0), eR 98]) rfl (b_iadd rfl) rfl ?_
  refine w_al (np := 86) (v := 0) rfl rfl (t_al (k := 35) hq rfl (by decide) rfl) ?_
  refine w_s (np := 87) (lv' := [some (eR 98), some (eI (2)), some (eI (1)), some (eI (2)), some (eI (p)), some (eI (q)), some (eI (r)), some (eI (s)), some (eI (28)), some (eI (32))]) (st' := [eR 98, eI (0), eJ (1), eJ (0), eJ (0), eR 98]) rfl (s_an rfl (by decide)) rfl ?_
  refine w_gf (np := 90) (v := eR 100) rfl rfl hq.1 (by rw [hq.2.1]; rfl) ?_
  refine w_s (np := 92) (lv' := [some (eR 98), some (eI (2)), some (eI (1)), some (eI (2)), some (eI (p)), some (eI (q)), some (eI (r)), some (eI (s)), some (eI (28)), some (eI (32))]) (st' := [eI (28), eR 100, eI (0), eJ (1), eJ (0), eJ (0), eR 98]) rfl rfl rfl ?_
  refine w_s (np := 93) (lv' := [some (eR 98), some (eI (2)), some (eI (1)), some (eI (2)), some (eI (p)), some (eI (q)), some (eI (r)), some (eI (s)), some (eI (28)), some (eI (32))]) (st' := [eI (3), eI (28), eR 100, eI (0), eJ (1), eJ (0), eJ (0), eR 98]) rfl rfl rfl ?_
  refine w_s (np := 94) (lv' := [some (eR 98), some (eI (2)), some (eI (1)), some (eI (2)), some (eI (p)), some (eI (q)), some (eI (r)), some (eI (s)), some (eI (28)), some (eI (32))]) (st' := [eI (31), eR 100, eI (0), eJ (1), eJ (0), eJ (0), eR 98]) rfl (b_iadd rfl) rfl ?_
  refine w_al (np := 95) (v := 1) rfl rfl (t_al (k := 31) hq rfl (by decide) rfl) ?_
  refine w_s (np := 96) (lv' := [some (eR 98), some (eI (2)), some (eI (1)), some (eI (2)), some (eI (p)), some (eI (q)), some (eI (r)), some (eI (s)), some (eI (28)), some (eI (32))]) (st' := [eI (-1), eJ (1), eJ (0), eJ (0), eR 98]) rfl (b_isub rfl) rfl ?_
  refine w_s (np := 97) (lv' := [some (eR 98), some (eI (2)), some (eI (1)), some (eI (2)), some (eI (p)), some (eI (q)), some (eI (r)), some (eI (s)), some (eI (28)), some (eI (32))]) (st' := [eJ (-1), eJ (1), eJ (0), eJ (0), eR 98]) rfl (b_i2l rfl) rfl ?_
  refine w_s (np := 99) (lv' := [some (eR 98), some (eI (2)), some (eI (1)), some (eI (2)), some (eI (p)), some (eI (q)), some (eI (r)), some (eI (s)), some (eI (28)), some (eI (32))]) (st' := [eI (p), eJ (-1), eJ (1), eJ (0), eJ (0), eR 98]) rfl rfl rfl ?_
  refine w_s (np := 100) (lv' := [some (eR 98), some (eI (2)), some (eI (1)), some (eI (2)), some (eI (p)), some (eI (q)), some (eI (r)), some (eI (s)), some (eI (28)), some (eI (32))]) (st' := [eJ (p), eJ (-1), eJ (1), eJ (0), eJ (0), eR 98]) rfl (b_i2l (ev_w_in (by omega) (by omega))) rfl ?_
  refine w_s (np := 101) (lv' := [some (eR 98), some (eI (2)), some (eI (1)), some (eI (2)), some (eI (p)), some (eI (q)), some (eI (r)), some (eI (s)), some (eI (28)), some (eI (32))]) (st' := [eR 98, eJ (p), eJ (-1), eJ (1), eJ (0), eJ (0), eR 98]) rfl (s_an rfl (by decide)) rfl ?_
  refine w_gf (np := 104) (v := eR 100) rfl rfl hq.1 (by rw [hq.2.1]; rfl) ?_
  refine w_s (np := 106) (lv' := [some (eR 98), some (eI (2)), some (eI (1)), some (eI (2)), some (eI (p)), some (eI (q)), some (eI (r)), some (eI (s)), some (eI (28)), some (eI (32))]) (st' := [eI (28), eR 100, eJ (p), eJ (-1), eJ (1), eJ (0), eJ (0), eR 98]) rfl rfl rfl ?_
  refine w_al (np := 107) (v := 0) rfl rfl (t_al (k := 28) hq rfl (by decide) rfl) ?_
  refine w_s (np := 108) (lv' := [some (eR 98), some (eI (2)), some (eI (1)), some (eI (2)), some (eI (p)), some (eI (q)), some (eI (r)), some (eI (s)), some (eI (28)), some (eI (32))]) (st' := [eJ (0), eJ (p), eJ (-1), eJ (1), eJ (0), eJ (0), eR 98]) rfl (b_i2l rfl) rfl ?_
  obtain ⟨v1, e2⟩ : ∃ v : Int, v = (p) - (0) := ⟨_, rfl⟩
  have b3 : -9999 ≤ v1 ∧ v1 ≤ 9999 := by omega
  refine w_s (np := 109) (lv' := [some (eR 98), some (eI (2)), some (eI (1)), some (eI (2)), some (eI (p)), some (eI (q)), some (eI (r)), some (eI (s)), some (eI (28)), some (eI (32))]) (st' := [eJ (v1), eJ (-1), eJ (1), eJ (0), eJ (0), eR 98]) rfl (b_lsub (by rw [← e2]; exact ev_W_in (by omega) (by omega))) rfl ?_
  refine w_s (np := 111) (lv' := [some (eR 98), some (eI (2)), some (eI (1)), some (eI (2)), some (eI (p)), some (eI (q)), some (eI (r)), some (eI (s)), some (eI (28)), some (eI (32))]) (st' := [eI (q), eJ (v1), eJ (-1), eJ (1), eJ (0), eJ (0), eR 98]) rfl rfl rfl ?_
  refine w_s (np := 112) (lv' := [some (eR 98), some (eI (2)), some (eI (1)), some (eI (2)), some (eI (p)), some (eI (q)), some (eI (r)), some (eI (s)), some (eI (28)), some (eI (32))]) (st' := [eJ (q), eJ (v1), eJ (-1), eJ (1), eJ (0), eJ (0), eR 98]) rfl (b_i2l (ev_w_in (by omega) (by omega))) rfl ?_
  refine w_s (np := 113) (lv' := [some (eR 98), some (eI (2)), some (eI (1)), some (eI (2)), some (eI (p)), some (eI (q)), some (eI (r)), some (eI (s)), some (eI (28)), some (eI (32))]) (st' := [eR 98, eJ (q), eJ (v1), eJ (-1), eJ (1), eJ (0), eJ (0), eR 98]) rfl (s_an rfl (by decide)) rfl ?_
  refine w_gf (np := 116) (v := eR 100) rfl rfl hq.1 (by rw [hq.2.1]; rfl) ?_
  refine w_s (np := 118) (lv' := [some (eR 98), some (eI (2)), some (eI (1)), some (eI (2)), some (eI (p)), some (eI (q)), some (eI (r)), some (eI (s)), some (eI (28)), some (eI (32))]) (st' := [eI (28), eR 100, eJ (q), eJ (v1), eJ (-1), eJ (1), eJ (0), eJ (0), eR 98]) rfl rfl rfl ?_
  refine w_s (np := 119) (lv' := [some (eR 98), some (eI (2)), some (eI (1)), some (eI (2)), some (eI (p)), some (eI (q)), some (eI (r)), some (eI (s)), some (eI (28)), some (eI (32))]) (st' := [eI (1), eI (28), eR 100, eJ (q), eJ (v1), eJ (-1), eJ (1), eJ (0), eJ (0), eR 98]) rfl rfl rfl ?_
  refine w_s (np := 120) (lv' := [some (eR 98), some (eI (2)), some (eI (1)), some (eI (2)), some (eI (p)), some (eI (q)), some (eI (r)), some (eI (s)), some (eI (28)), some (eI (32))]) (st' := [eI (29), eR 100, eJ (q), eJ (v1), eJ (-1), eJ (1), eJ (0), eJ (0), eR 98]) rfl (b_iadd rfl) rfl ?_
  refine w_al (np := 121) (v := 0) rfl rfl (t_al (k := 29) hq rfl (by decide) rfl) ?_
  refine w_s (np := 122) (lv' := [some (eR 98), some (eI (2)), some (eI (1)), some (eI (2)), some (eI (p)), some (eI (q)), some (eI (r)), some (eI (s)), some (eI (28)), some (eI (32))]) (st' := [eJ (0), eJ (q), eJ (v1), eJ (-1), eJ (1), eJ (0), eJ (0), eR 98]) rfl (b_i2l rfl) rfl ?_
  obtain ⟨v4, e5⟩ : ∃ v : Int, v = (q) - (0) := ⟨_, rfl⟩
  have b6 : -9999 ≤ v4 ∧ v4 ≤ 9999 := by omega
  refine w_s (np := 123) (lv' := [some (eR 98), some (eI (2)), some (eI (1)), some (eI (2)), some (eI (p)), some (eI (q)), some (eI (r)), some (eI (s)), some (eI (28)), some (eI (32))]) (st' := [eJ (v4), eJ (v1), eJ (-1), eJ (1), eJ (0), eJ (0), eR 98]) rfl (b_lsub (by rw [← e5]; exact ev_W_in (by omega) (by omega))) rfl ?_
  refine w_s (np := 125) (lv' := [some (eR 98), some (eI (2)), some (eI (1)), some (eI (2)), some (eI (p)), some (eI (q)), some (eI (r)), some (eI (s)), some (eI (28)), some (eI (32))]) (st' := [eI (r), eJ (v4), eJ (v1), eJ (-1), eJ (1), eJ (0), eJ (0), eR 98]) rfl rfl rfl ?_
  refine w_s (np := 126) (lv' := [some (eR 98), some (eI (2)), some (eI (1)), some (eI (2)), some (eI (p)), some (eI (q)), some (eI (r)), some (eI (s)), some (eI (28)), some (eI (32))]) (st' := [eJ (r), eJ (v4), eJ (v1), eJ (-1), eJ (1), eJ (0), eJ (0), eR 98]) rfl (b_i2l (ev_w_in (by omega) (by omega))) rfl ?_
  refine w_s (np := 127) (lv' := [some (eR 98), some (eI (2)), some (eI (1)), some (eI (2)), some (eI (p)), some (eI (q)), some (eI (r)), some (eI (s)), some (eI (28)), some (eI (32))]) (st' := [eR 98, eJ (r), eJ (v4), eJ (v1), eJ (-1), eJ (1), eJ (0), eJ (0), eR 98]) rfl (s_an rfl (by decide)) rfl ?_
  refine w_gf (np := 130) (v := eR 100) rfl rfl hq.1 (by rw [hq.2.1]; rfl) ?_
  refine w_s (np := 132) (lv' := [some (eR 98), some (eI (2)), some (eI (1)), some (eI (2)), some (eI (p)), some (eI (q)), some (eI (r)), some (eI (s)), some (eI (28)), some (eI (32))]) (st' := [eI (28), eR 100, eJ (r), eJ (v4), eJ (v1), eJ (-1), eJ (1), eJ (0), eJ (0), eR 98]) rfl rfl rfl ?_
  refine w_s (np := 133) (lv' := [some (eR 98), some (eI (2)), some (eI (1)), some (eI (2)), some (eI (p)), some (eI (q)), some (eI (r)), some (eI (s)), some (eI (28)), some (eI (32))]) (st' := [eI (2), eI (28), eR 100, eJ (r), eJ (v4), eJ (v1), eJ (-1), eJ (1), eJ (0), eJ (0), eR 98]) rfl rfl rfl ?_
  refine w_s (np := 134) (lv' := [some (eR 98), some (eI (2)), some (eI (1)), some (eI (2)), some (eI (p)), some (eI (q)), some (eI (r)), some (eI (s)), some (eI (28)), some (eI (32))]) (st' := [eI (30), eR 100, eJ (r), eJ (v4), eJ (v1), eJ (-1), eJ (1), eJ (0), eJ (0), eR 98]) rfl (b_iadd rfl) rfl ?_
  refine w_al (np := 135) (v := 0) rfl rfl (t_al (k := 30) hq rfl (by decide) rfl) ?_
  refine w_s (np := 136) (lv' := [some (eR 98), some (eI (2)), some (eI (1)), some (eI (2)), some (eI (p)), some (eI (q)), some (eI (r)), some (eI (s)), some (eI (28)), some (eI (32))]) (st' := [eJ (0), eJ (r), eJ (v4), eJ (v1), eJ (-1), eJ (1), eJ (0), eJ (0), eR 98]) rfl (b_i2l rfl) rfl ?_
  obtain ⟨v7, e8⟩ : ∃ v : Int, v = (r) - (0) := ⟨_, rfl⟩
  have b9 : -9999 ≤ v7 ∧ v7 ≤ 9999 := by omega
  refine w_s (np := 137) (lv' := [some (eR 98), some (eI (2)), some (eI (1)), some (eI (2)), some (eI (p)), some (eI (q)), some (eI (r)), some (eI (s)), some (eI (28)), some (eI (32))]) (st' := [eJ (v7), eJ (v4), eJ (v1), eJ (-1), eJ (1), eJ (0), eJ (0), eR 98]) rfl (b_lsub (by rw [← e8]; exact ev_W_in (by omega) (by omega))) rfl ?_
  refine w_s (np := 139) (lv' := [some (eR 98), some (eI (2)), some (eI (1)), some (eI (2)), some (eI (p)), some (eI (q)), some (eI (r)), some (eI (s)), some (eI (28)), some (eI (32))]) (st' := [eI (s), eJ (v7), eJ (v4), eJ (v1), eJ (-1), eJ (1), eJ (0), eJ (0), eR 98]) rfl rfl rfl ?_
  refine w_s (np := 140) (lv' := [some (eR 98), some (eI (2)), some (eI (1)), some (eI (2)), some (eI (p)), some (eI (q)), some (eI (r)), some (eI (s)), some (eI (28)), some (eI (32))]) (st' := [eJ (s), eJ (v7), eJ (v4), eJ (v1), eJ (-1), eJ (1), eJ (0), eJ (0), eR 98]) rfl (b_i2l (ev_w_in (by omega) (by omega))) rfl ?_
  refine w_s (np := 141) (lv' := [some (eR 98), some (eI (2)), some (eI (1)), some (eI (2)), some (eI (p)), some (eI (q)), some (eI (r)), some (eI (s)), some (eI (28)), some (eI (32))]) (st' := [eR 98, eJ (s), eJ (v7), eJ (v4), eJ (v1), eJ (-1), eJ (1), eJ (0), eJ (0), eR 98]) rfl (s_an rfl (by decide)) rfl ?_
  refine w_gf (np := 144) (v := eR 100) rfl rfl hq.1 (by rw [hq.2.1]; rfl) ?_
  refine w_s (np := 146) (lv' := [some (eR 98), some (eI (2)), some (eI (1)), some (eI (2)), some (eI (p)), some (eI (q)), some (eI (r)), some (eI (s)), some (eI (28)), some (eI (32))]) (st' := [eI (28), eR 100, eJ (s), eJ (v7), eJ (v4), eJ (v1), eJ (-1), eJ (1), eJ (0), eJ (0), eR 98]) rfl rfl rfl ?_
  refine w_s (np := 147) (lv' := [some (eR 98), some (eI (2)), some (eI (1)), some (eI (2)), some (eI (p)), some (eI (q)), some (eI (r)), some (eI (s)), some (eI (28)), some (eI (32))]) (st' := [eI (3), eI (28), eR 100, eJ (s), eJ (v7), eJ (v4), eJ (v1), eJ (-1), eJ (1), eJ (0), eJ (0), eR 98]) rfl rfl rfl ?_
  refine w_s (np := 148) (lv' := [some (eR 98), some (eI (2)), some (eI (1)), some (eI (2)), some (eI (p)), some (eI (q)), some (eI (r)), some (eI (s)), some (eI (28)), some (eI (32))]) (st' := [eI (31), eR 100, eJ (s), eJ (v7), eJ (v4), eJ (v1), eJ (-1), eJ (1), eJ (0), eJ (0), eR 98]) rfl (b_iadd rfl) rfl ?_
  refine w_al (np := 149) (v := 1) rfl rfl (t_al (k := 31) hq rfl (by decide) rfl) ?_
  refine w_s (np := 150) (lv' := [some (eR 98), some (eI (2)), some (eI (1)), some (eI (2)), some (eI (p)), some (eI (q)), some (eI (r)), some (eI (s)), some (eI (28)), some (eI (32))]) (st' := [eJ (1), eJ (s), eJ (v7), eJ (v4), eJ (v1), eJ (-1), eJ (1), eJ (0), eJ (0), eR 98]) rfl (b_i2l rfl) rfl ?_
  obtain ⟨v10, e11⟩ : ∃ v : Int, v = (s) - (1) := ⟨_, rfl⟩
  have b12 : -10000 ≤ v10 ∧ v10 ≤ 9998 := by omega
  refine w_s (np := 151) (lv' := [some (eR 98), some (eI (2)), some (eI (1)), some (eI (2)), some (eI (p)), some (eI (q)), some (eI (r)), some (eI (s)), some (eI (28)), some (eI (32))]) (st' := [eJ (v10), eJ (v7), eJ (v4), eJ (v1), eJ (-1), eJ (1), eJ (0), eJ (0), eR 98]) rfl (b_lsub (by rw [← e11]; exact ev_W_in (by omega) (by omega))) rfl ?_
  refine w_cv (np := 154) (as := [eJ (0), eJ (0), eJ (1), eJ (-1), eJ (v1), eJ (v4), eJ (v7), eJ (v10)]) (lv' := [some (eR 98), some (eJ (0)), none, some (eJ (0)), none, some (eJ (1)), none, some (eJ (-1)), none, some (eJ (v1)), none, some (eJ (v4)), none, some (eJ (v7)), none, some (eJ (v10)), none]) (rest := []) rfl rfl rfl (Nat.ble_eq.mp rfl) rfl rfl rfl hq.1 rfl ?_
  refine t224 hq.1 (show (-8 : Int) ≤ 0 ∧ (0 : Int) ≤ 8 by omega) (show (-8 : Int) ≤ 0 ∧ (0 : Int) ≤ 8 by omega) (show (-8 : Int) ≤ 1 ∧ (1 : Int) ≤ 8 by omega) (show (-8 : Int) ≤ -1 ∧ (-1 : Int) ≤ 8 by omega) (show (-100000 : Int) ≤ v1 ∧ (v1 : Int) ≤ 100000 by omega) (show (-100000 : Int) ≤ v4 ∧ (v4 : Int) ≤ 100000 by omega) (show (-100000 : Int) ≤ v7 ∧ (v7 : Int) ≤ 100000 by omega) (show (-100000 : Int) ≤ v10 ∧ (v10 : Int) ≤ 100000 by omega) ?_
  intro m B G s1 eB eG bB bG
  show ex_fine fg rc rs (d + 4, (265, 154, [some (eR 98), some (eI (2)), some (eI (1)), some (eI (2)), some (eI (p)), some (eI (q)), some (eI (r)), some (eI (s)), some (eI (28)), some (eI (32))], [eI (rSg (2 * B + G) G)]), f :: F, m)
  refine b_ri rfl rfl ?_
  have hB : B = (-1) * q + 1 * r + 1 * s + (-1) := by omega
  have hG : G = 1 * q := by omega
  have hr := rSg_ok (x := 2 * B + G) (b := G) (by omega)
  have e9 : 416020 * (2 * B + G) + 930249 * G = 514229 * q + 832040 * r + 832040 * s + (-832040) := by omega
  rw [e9] at hr
  exact K m _ s1 hr (rSg_v _ _)
theorem t265_2_2 {fg : eG} {rc rs d : Nat} {f : eFr} {F : List eFr} {μ : eM} {p q r s : Int} (hq : tQ μ) (hp : -9999 ≤ p ∧ p ≤ 9999) (hq0 : -9999 ≤ q ∧ q ≤ 9999) (hr : -9999 ≤ r ∧ r ≤ 9999) (hs : -9999 ≤ s ∧ s ≤ 9999) (K : ∀ (μ2 : eM) (u : Int), tS μ μ2 → ((0 ≤ u ↔ 0 ≤ 1346269 * p + 832040 * q + (-832040) * s) ∧ (u ≤ 0 ↔ 1346269 * p + 832040 * q + (-832040) * s ≤ 0)) → (u = 0 ∨ u = 1 ∨ u = -1) → ex_fine fg rc rs (d + 5, (f.1, f.2.1, f.2.2.1, eI u :: f.2.2.2), F, μ2)) : ex_fine fg rc rs (d + 4, (265, 0, [some (eR 98), some (eI (2)), some (eI (2)), some (eI (0)), some (eI (p)), some (eI (q)), some (eI (r)), some (eI (s)), none, none], []), f :: F, μ) := by
  refine w_s (np := 2) (lv' := [some (eR 98), some (eI (2)), some (eI (2)), some (eI (0)), some (eI (p)), some (eI (q)), some (eI (r)), some (eI (s)), none, none]) (st' := [eI (12)]) rfl rfl rfl ?_
  refine w_s (np := 3) (lv' := [some (eR 98), some (eI (2)), some (eI (2)), some (eI (0)), some (eI (p)), some (eI (q)), some (eI (r)), some (eI (s)), none, none]) (st' := [eI (2), eI (12)]) rfl rfl rfl ?_
  refine w_s (np := 4) (lv' := [some (eR 98), some (eI (2)), some (eI (2)), some (eI (0)), some (eI (p)), some (eI (q)), some (eI (r)), some (eI (s)), none, none]) (st' := [eI (24)]) rfl (b_imul rfl) rfl ?_
  refine w_s (np := 5) (lv' := [some (eR 98), some (eI (2)), some (eI (2)), some (eI (0)), some (eI (p)), some (eI (q)), some (eI (r)), some (eI (s)), none, none]) (st' := [eI (4), eI (24)]) rfl rfl rfl ?_
  refine w_s (np := 6) (lv' := [some (eR 98), some (eI (2)), some (eI (2)), some (eI (0)), some (eI (p)), some (eI (q)), some (eI (r)), some (eI (s)), none, none]) (st' := [eI (2), eI (4), eI (24)]) rfl rfl rfl ?_
  refine w_s (np := 7) (lv' := [some (eR 98), some (eI (2)), some (eI (2)), some (eI (0)), some (eI (p)), some (eI (q)), some (eI (r)), some (eI (s)), none, none]) (st' := [eI (8), eI (24)]) rfl (b_imul rfl) rfl ?_
  refine w_s (np := 8) (lv' := [some (eR 98), some (eI (2)), some (eI (2)), some (eI (0)), some (eI (p)), some (eI (q)), some (eI (r)), some (eI (s)), none, none]) (st' := [eI (32)]) rfl (b_iadd rfl) rfl ?_
  refine w_s (np := 10) (lv' := [some (eR 98), some (eI (2)), some (eI (2)), some (eI (0)), some (eI (p)), some (eI (q)), some (eI (r)), some (eI (s)), some (eI (32)), none]) (st' := []) rfl rfl rfl ?_
  refine w_s (np := 12) (lv' := [some (eR 98), some (eI (2)), some (eI (2)), some (eI (0)), some (eI (p)), some (eI (q)), some (eI (r)), some (eI (s)), some (eI (32)), none]) (st' := [eI (12)]) rfl rfl rfl ?_
  refine w_s (np := 13) (lv' := [some (eR 98), some (eI (2)), some (eI (2)), some (eI (0)), some (eI (p)), some (eI (q)), some (eI (r)), some (eI (s)), some (eI (32)), none]) (st' := [eI (2), eI (12)]) rfl rfl rfl ?_
  refine w_s (np := 14) (lv' := [some (eR 98), some (eI (2)), some (eI (2)), some (eI (0)), some (eI (p)), some (eI (q)), some (eI (r)), some (eI (s)), some (eI (32)), none]) (st' := [eI (24)]) rfl (b_imul rfl) rfl ?_
  refine w_s (np := 15) (lv' := [some (eR 98), some (eI (2)), some (eI (2)), some (eI (0)), some (eI (p)), some (eI (q)), some (eI (r)), some (eI (s)), some (eI (32)), none]) (st' := [eI (4), eI (24)]) rfl rfl rfl ?_
  refine w_s (np := 16) (lv' := [some (eR 98), some (eI (2)), some (eI (2)), some (eI (0)), some (eI (p)), some (eI (q)), some (eI (r)), some (eI (s)), some (eI (32)), none]) (st' := [eI (0), eI (4), eI (24)]) rfl rfl rfl ?_
  refine w_s (np := 17) (lv' := [some (eR 98), some (eI (2)), some (eI (2)), some (eI (0)), some (eI (p)), some (eI (q)), some (eI (r)), some (eI (s)), some (eI (32)), none]) (st' := [eI (0), eI (24)]) rfl (b_imul rfl) rfl ?_
  refine w_s (np := 18) (lv' := [some (eR 98), some (eI (2)), some (eI (2)), some (eI (0)), some (eI (p)), some (eI (q)), some (eI (r)), some (eI (s)), some (eI (32)), none]) (st' := [eI (24)]) rfl (b_iadd rfl) rfl ?_
  refine w_s (np := 20) (lv' := [some (eR 98), some (eI (2)), some (eI (2)), some (eI (0)), some (eI (p)), some (eI (q)), some (eI (r)), some (eI (s)), some (eI (32)), some (eI (24))]) (st' := []) rfl rfl rfl ?_
  refine w_s (np := 21) (lv' := [some (eR 98), some (eI (2)), some (eI (2)), some (eI (0)), some (eI (p)), some (eI (q)), some (eI (r)), some (eI (s)), some (eI (32)), some (eI (24))]) (st' := [eR 98]) rfl (s_an rfl (by decide)) rfl ?_
  refine w_s (np := 22) (lv' := [some (eR 98), some (eI (2)), some (eI (2)), some (eI (0)), some (eI (p)), some (eI (q)), some (eI (r)), some (eI (s)), some (eI (32)), some (eI (24))]) (st' := [eR 98, eR 98]) rfl (s_an rfl (by decide)) rfl ?_
  refine w_gf (np := 25) (v := eR 100) rfl rfl hq.1 (by rw [hq.2.1]; rfl) ?_
  refine w_s (np := 27) (lv' := [some (eR 98), some (eI (2)), some (eI (2)), some (eI (0)), some (eI (p)), some (eI (q)), some (eI (r)), some (eI (s)), some (eI (32)), some (eI (24))]) (st' := [eI (24), eR 100, eR 98]) rfl rfl rfl ?_
  refine w_al (np := 28) (v := 0) rfl rfl (t_al (k := 24) hq rfl (by decide) rfl) ?_
  refine w_s (np := 29) (lv' := [some (eR 98), some (eI (2)), some (eI (2)), some (eI (0)), some (eI (p)), some (eI (q)), some (eI (r)), some (eI (s)), some (eI (32)), some (eI (24))]) (st' := [eR 98, eI (0), eR 98]) rfl (s_an rfl (by decide)) rfl ?_
  refine w_gf (np := 32) (v := eR 100) rfl rfl hq.1 (by rw [hq.2.1]; rfl) ?_
  refine w_s (np := 34) (lv' := [some (eR 98), some (eI (2)), some (eI (2)), some (eI (0)), some (eI (p)), some (eI (q)), some (eI (r)), some (eI (s)), some (eI (32)), some (eI (24))]) (st' := [eI (32), eR 100, eI (0), eR 98]) rfl rfl rfl ?_
  refine w_al (np := 35) (v := 0) rfl rfl (t_al (k := 32) hq rfl (by decide) rfl) ?_
  refine w_s (np := 36) (lv' := [some (eR 98), some (eI (2)), some (eI (2)), some (eI (0)), some (eI (p)), some (eI (q)), some (eI (r)), some (eI (s)), some (eI (32)), some (eI (24))]) (st' := [eI (0), eR 98]) rfl (b_isub rfl) rfl ?_
  refine w_s (np := 37) (lv' := [some (eR 98), some (eI (2)), some (eI (2)), some (eI (0)), some (eI (p)), some (eI (q)), some (eI (r)), some (eI (s)), some (eI (32)), some (eI (24))]) (st' := [eJ (0), eR 98]) rfl (b_i2l rfl) rfl ?_
  refine w_s (np := 38) (lv' := [some (eR 98), some (eI (2)), some (eI (2)), some (eI (0)), some (eI (p)), some (eI (q)), some (eI (r)), some (eI (s)), some (eI (32)), some (eI (24))]) (st' := [eR 98, eJ (0), eR 98]) rfl (s_an rfl (by decide)) rfl ?_
  refine w_gf (np := 41) (v := eR 100) rfl rfl hq.1 (by rw [hq.2.1]; rfl) ?_
  refine w_s (np := 43) (lv' := [some (eR 98), some (eI (2)), some (eI (2)), some (eI (0)), some (eI (p)), some (eI (q)), some (eI (r)), some (eI (s)), some (eI (32)), some (eI (24))]) (st' := [eI (24), eR 100, eJ (0), eR 98]) rfl rfl rfl ?_
  refine w_s (np := 44) (lv' := [some (eR 98), some (eI (2)), some (eI (2)), some (eI (0)), some (eI (p)), some (eI (q)), some (eI (r)), some (eI (s)), some (eI (32)), some (eI (24))]) (st' := [eI (1), eI (24), eR 100, eJ (0), eR 98]) rfl rfl rfl ?_
  refine w_s (np := 45) (lv' := [some (eR 98), some (eI (2)), some (eI (2)), some (eI (0)), some (eI (p)), some (eI (q)), some (eI (r)), some (eI (s)), some (eI (32)), some (eI (24))]) (st' := [eI (25), eR 100, eJ (0), eR 98]) rfl (b_iadd rfl) rfl ?_
  refine w_al (np := 46) (v := 0) rfl rfl (t_al (k := 25) hq rfl (by decide) rfl) ?_
  refine w_s (np := 47) (lv' := [some (eR 98), some (eI (2)), some (eI (2)), some (eI (0)), some (eI (p)), some (eI (q)), some (eI (r)), some (eI (s)), some (eI (32)), some (eI (24))]) (st' := [eR 98, eI (0), eJ (0), eR 98]) rfl (s_an rfl (by decide)) rfl ?_
  refine w_gf (np := 50) (v := eR 100) rfl rfl hq.1 (by rw [hq.2.1]; rfl) ?_
  refine w_s (np := 52) (lv' := [some (eR 98), some (eI (2)), some (eI (2)), some (eI (0)), some (eI (p)), some (eI (q)), some (eI (r)), some (eI (s)), some (eI (32)), some (eI (24))]) (st' := [eI (32), eR 100, eI (0), eJ (0), eR 98]) rfl rfl rfl ?_
  refine w_s (np := 53) (lv' := [some (eR 98), some (eI (2)), some (eI (2)), some (eI (0)), some (eI (p)), some (eI (q)), some (eI (r)), some (eI (s)), some (eI (32)), some (eI (24))]) (st' := [eI (1), eI (32), eR 100, eI (0), eJ (0), eR 98]) rfl rfl rfl ?_
  refine w_s (np := 54) (lv' := [some (eR 98), some (eI (2)), some (eI (2)), some (eI (0)), some (eI (p)), some (eI (q)), some (eI (r)), some (eI (s)), some (eI (32)), some (eI (24))]) (st' := [eI (33), eR 100, eI (0), eJ (0), eR 98]) rfl (b_iadd rfl) rfl ?_
  refine w_al (np := 55) (v := 0) rfl rfl (t_al (k := 33) hq rfl (by decide) rfl) ?_
  refine w_s (np := 56) (lv' := [some (eR 98), some (eI (2)), some (eI (2)), some (eI (0)), some (eI (p)), some (eI (q)), some (eI (r)), some (eI (s)), some (eI (32)), some (eI (24))]) (st' := [eI (0), eJ (0), eR 98]) rfl (b_isub rfl) rfl ?_
  refine w_s (np := 57) (lv' := [some (eR 98), some (eI (2)), some (eI (2)), some (eI (0)), some (eI (p)), some (eI (q)), some (eI (r)), some (eI (s)), some (eI (32)), some (eI (24))]) (st' := [eJ (0), eJ (0), eR 98]) rfl (b_i2l rfl) rfl ?_
  refine w_s (np := 58) (lv' := [some (eR 98), some (eI (2)), some (eI (2)), some (eI (0)), some (eI (p)), some (eI (q)), some (eI (r)), some (eI (s)), some (eI (32)), some (eI (24))]) (st' := [eR 98, eJ (0), eJ (0), eR 98]) rfl (s_an rfl (by decide)) rfl ?_
  refine w_gf (np := 61) (v := eR 100) rfl rfl hq.1 (by rw [hq.2.1]; rfl) ?_
  refine w_s (np := 63) (lv' := [some (eR 98), some (eI (2)), some (eI (2)), some (eI (0)), some (eI (p)), some (eI (q)), some (eI (r)), some (eI (s)), some (eI (32)), some (eI (24))]) (st' := [eI (24), eR 100, eJ (0), eJ (0), eR 98]) rfl rfl rfl ?_
  refine w_s (np := 64) (lv' := [some (eR 98), some (eI (2)), some (eI (2)), some (eI (0)), some (eI (p)), some (eI (q)), some (eI (r)), some (eI (s)), some (eI (32)), some (eI (24))]) (st' := [eI (2), eI (24), eR 100, eJ (0), eJ (0), eR 98]) rfl rfl rfl ?_
  refine w_s (np := 65) (lv' := [some (eR 98), some (eI (2)), some (eI (2)), some (eI (0)), some (eI (p)), some (eI (q)), some (eI (r)), some (eI (s)), some (eI (32)), some (eI (24))]) (st' := [eI (26), eR 100, eJ (0), eJ (0), eR 98]) rfl (b_iadd rfl) rfl ?_
  refine w_al (np := 66) (v := 0) rfl rfl (t_al (k := 26) hq rfl (by decide) rfl) ?_
  refine w_s (np := 67) (lv' := [some (eR 98), some (eI (2)), some (eI (2)), some (eI (0)), some (eI (p)), some (eI (q)), some (eI (r)), some (eI (s)), some (eI (32)), some (eI (24))]) (st' := [eR 98, eI (0), eJ (0), eJ (0), eR 98]) rfl (s_an rfl (by decide)) rfl ?_
  refine w_gf (np := 70) (v := eR 100) rfl rfl hq.1 (by rw [hq.2.1]; rfl) ?_
  refine w_s (np := 72) (lv' := [some (eR 98), some (eI (2)), some (eI (2)), some (eI (0)), some (eI (p)), some (eI (q)), some (eI (r)), some (eI (s)), some (eI (32)), some (eI (24))]) (st' := [eI (32), eR 100, eI (0), eJ (0), eJ (0), eR 98]) rfl rfl rfl ?_
  refine w_s (np := 73) (lv' := [some (eR 98), some (eI (2)), some (eI (2)), some (eI (0)), some (eI (p)), some (eI (q)), some (eI (r)), some (eI (s)), some (eI (32)), some (eI (24))]) (st' := [eI (2), eI (32), eR 100, eI (0), eJ (0), eJ (0), eR 98]) rfl rfl rfl ?_
  refine w_s (np := 74) (lv' := [some (eR 98), some (eI (2)), some (eI (2)), some (eI (0)), some (eI (p)), some (eI (q)), some (eI (r)), some (eI (s)), some (eI (32)), some (eI (24))]) (st' := [eI (34), eR 100, eI (0), eJ (0), eJ (0), eR 98]) rfl (b_iadd rfl) rfl ?_
  refine w_al (np := 75) (v := 1) rfl rfl (t_al (k := 34) hq rfl (by decide) rfl) ?_
  refine w_s (np := 76) (lv' := [some (eR 98), some (eI (2)), some (eI (2)), some (eI (0)), some (eI (p)), some (eI (q)), some (eI (r)), some (eI (s)), some (eI (32)), some (eI (24))]) (st' := [eI (-1), eJ (0), eJ (0), eR 98]) rfl (b_isub rfl) rfl ?_
  refine w_s (np := 77) (lv' := [some (eR 98), some (eI (2)), some (eI (2)), some (eI (0)), some (eI (p)), some (eI (q)), some (eI (r)), some (eI (s)), some (eI (32)), some (eI (24))]) (st' := [eJ (-1), eJ (0), eJ (0), eR 98]) rfl (b_i2l rfl) rfl ?_
  refine w_s (np := 78) (lv' := [some (eR 98), some (eI (2)), some (eI (2)), some (eI (0)), some (eI (p)), some (eI (q)), some (eI (r)), some (eI (s)), some (eI (32)), some (eI (24))]) (st' := [eR 98, eJ (-1), eJ (0), eJ (0), eR 98]) rfl (s_an rfl (by decide)) rfl ?_
  refine w_gf (np := 81) (v := eR 100) rfl rfl hq.1 (by rw [hq.2.1]; rfl) ?_
  refine w_s (np := 83) (lv' := [some (eR 98), some (eI (2)), some (eI (2)), some (eI (0)), some (eI (p)), some (eI (q)), some (eI (r)), some (eI (s)), some (eI (32)), some (eI (24))]) (st' := [eI (24), eR 100, eJ (-1), eJ (0), eJ (0), eR 98]) rfl rfl rfl ?_
  refine w_s (np := 84) (lv' := [some (eR 98), some (eI (2)), some (eI (2)), some (eI (0)), some (eI (p)), some (eI (q)), some (eI (r)), some (eI (s)), some (eI (32)), some (eI (24))]) (st' := [eI (3), eI (24), eR 100, eJ (-1), eJ (0), eJ (0), eR 98]) rfl rfl rfl ?_
  refine w_s (np := 85) (lv' := [some (eR 98), some (eI (2)), some (eI (2)), some (eI (0)), some (eI (p)), some (eI (q)), some (eI (r)), some (eI (s)), some (eI (32)), some (eI (24))]) (st' := [eI (27), eR 100, eJ (-1), eJ (0), eJ (0), eR 98]) rfl (b_iadd rfl) rfl ?_
  refine w_al (np := 86) (v := 0) rfl rfl (t_al (k := 27) hq rfl (by decide) rfl) ?_
  refine w_s (np := 87) (lv' := [some (eR 98), some (eI (2)), some (eI (2)), some (eI (0)), some (eI (p)), some (eI (q)), some (eI (r)), some (eI (s)), some (eI (32)), some (eI (24))]) (st' := [eR 98, eI (0), eJ (-1), eJ (0), eJ (0), eR 98]) rfl (s_an rfl (by decide)) rfl ?_
  refine w_gf (np := 90) (v := eR 100) rfl rfl hq.1 (by rw [hq.2.1]; rfl) ?_
  refine w_s (np := 92) (lv' := [some (eR 98), some (eI (2)), some (eI (2)), some (eI (0)), some (eI (p)), some (eI (q)), some (eI (r)), some (eI (s)), some (eI (32)), some (eI (24))]) (st' := [eI (32), eR 100, eI (0), eJ (-1), eJ (0), eJ (0), eR 98]) rfl rfl rfl ?_
  refine w_s (np := 93) (lv' := [some (eR 98), some (eI (2)), some (eI (2)), some (eI (0)), some (eI (p)), some (eI (q)), some (eI (r)), some (eI (s)), some (eI (32)), some (eI (24))]) (st' := [eI (3), eI (32), eR 100, eI (0), eJ (-1), eJ (0), eJ (0), eR 98]) rfl rfl rfl ?_
  refine w_s (np := 94) (lv' := [some (eR 98), some (eI (2)), some (eI (2)), some (eI (0)), some (eI (p)), some (eI (q)), some (eI (r)), some (eI (s)), some (eI (32)), some (eI (24))]) (st' := [eI (35), eR 100, eI (0), eJ (-1), eJ (0), eJ (0), eR 98]) rfl (b_iadd rfl) rfl ?_
  refine w_al (np := 95) (v := 0) rfl rfl (t_al (k := 35) hq rfl (by decide) rfl) ?_
  refine w_s (np := 96) (lv' := [some (eR 98), some (eI (2)), some (eI (2)), some (eI (0)), some (eI (p)), some (eI (q)), some (eI (r)), some (eI (s)), some (eI (32)), some (eI (24))]) (st' := [eI (0), eJ (-1), eJ (0), eJ (0), eR 98]) rfl (b_isub rfl) rfl ?_
  refine w_s (np := 97) (lv' := [some (eR 98), some (eI (2)), some (eI (2)), some (eI (0)), some (eI (p)), some (eI (q)), some (eI (r)), some (eI (s)), some (eI (32)), some (eI (24))]) (st' := [eJ (0), eJ (-1), eJ (0), eJ (0), eR 98]) rfl (b_i2l rfl) rfl ?_
  refine w_s (np := 99) (lv' := [some (eR 98), some (eI (2)), some (eI (2)), some (eI (0)), some (eI (p)), some (eI (q)), some (eI (r)), some (eI (s)), some (eI (32)), some (eI (24))]) (st' := [eI (p), eJ (0), eJ (-1), eJ (0), eJ (0), eR 98]) rfl rfl rfl ?_
  refine w_s (np := 100) (lv' := [some (eR 98), some (eI (2)), some (eI (2)), some (eI (0)), some (eI (p)), some (eI (q)), some (eI (r)), some (eI (s)), some (eI (32)), some (eI (24))]) (st' := [eJ (p), eJ (0), eJ (-1), eJ (0), eJ (0), eR 98]) rfl (b_i2l (ev_w_in (by omega) (by omega))) rfl ?_
  refine w_s (np := 101) (lv' := [some (eR 98), some (eI (2)), some (eI (2)), some (eI (0)), some (eI (p)), some (eI (q)), some (eI (r)), some (eI (s)), some (eI (32)), some (eI (24))]) (st' := [eR 98, eJ (p), eJ (0), eJ (-1), eJ (0), eJ (0), eR 98]) rfl (s_an rfl (by decide)) rfl ?_
  refine w_gf (np := 104) (v := eR 100) rfl rfl hq.1 (by rw [hq.2.1]; rfl) ?_
  refine w_s (np := 106) (lv' := [some (eR 98), some (eI (2)), some (eI (2)), some (eI (0)), some (eI (p)), some (eI (q)), some (eI (r)), some (eI (s)), some (eI (32)), some (eI (24))]) (st' := [eI (32), eR 100, eJ (p), eJ (0), eJ (-1), eJ (0), eJ (0), eR 98]) rfl rfl rfl ?_
  refine w_al (np := 107) (v := 0) rfl rfl (t_al (k := 32) hq rfl (by decide) rfl) ?_
  refine w_s (np := 108) (lv' := [some (eR 98), some (eI (2)), some (eI (2)), some (eI (0)), some (eI (p)), some (eI (q)), some (eI (r)), some (eI (s)), some (eI (32)), some (eI (24))]) (st' := [eJ (0), eJ (p), eJ (0), eJ (-1), eJ (0), eJ (0), eR 98]) rfl (b_i2l rfl) rfl ?_
  obtain ⟨v1, e2⟩ : ∃ v : Int, v = (p) - (0) := ⟨_, rfl⟩
  have b3 : -9999 ≤ v1 ∧ v1 ≤ 9999 := by omega
  refine w_s (np := 109) (lv' := [some (eR 98), some (eI (2)), some (eI (2)), some (eI (0)), some (eI (p)), some (eI (q)), some (eI (r)), some (eI (s)), some (eI (32)), some (eI (24))]) (st' := [eJ (v1), eJ (0), eJ (-1), eJ (0), eJ (0), eR 98]) rfl (b_lsub (by rw [← e2]; exact ev_W_in (by omega) (by omega))) rfl ?_
  refine w_s (np := 111) (lv' := [some (eR 98), some (eI (2)), some (eI (2)), some (eI (0)), some (eI (p)), some (eI (q)), some (eI (r)), some (eI (s)), some (eI (32)), some (eI (24))]) (st' := [eI (q), eJ (v1), eJ (0), eJ (-1), eJ (0), eJ (0), eR 98]) rfl rfl rfl ?_
  refine w_s (np := 112) (lv' := [some (eR 98), some (eI (2)), some (eI (2)), some (eI (0)), some (eI (p)), some (eI (q)), some (eI (r)), some (eI (s)), some (eI (32)), some (eI (24))]) (st' := [eJ (q), eJ (v1), eJ (0), eJ (-1), eJ (0), eJ (0), eR 98]) rfl (b_i2l (ev_w_in (by omega) (by omega))) rfl ?_
  refine w_s (np := 113) (lv' := [some (eR 98), some (eI (2)), some (eI (2)), some (eI (0)), some (eI (p)), some (eI (q)), some (eI (r)), some (eI (s)), some (eI (32)), some (eI (24))]) (st' := [eR 98, eJ (q), eJ (v1), eJ (0), eJ (-1), eJ (0), eJ (0), eR 98]) rfl (s_an rfl (by decide)) rfl ?_
  refine w_gf (np := 116) (v := eR 100) rfl rfl hq.1 (by rw [hq.2.1]; rfl) ?_
  refine w_s (np := 118) (lv' := [some (eR 98), some (eI (2)), some (eI (2)), some (eI (0)), some (eI (p)), some (eI (q)), some (eI (r)), some (eI (s)), some (eI (32)), some (eI (24))]) (st' := [eI (32), eR 100, eJ (q), eJ (v1), eJ (0), eJ (-1), eJ (0), eJ (0), eR 98]) rfl rfl rfl ?_
  refine w_s (np := 119) (lv' := [some (eR 98), some (eI (2)), some (eI (2)), some (eI (0)), some (eI (p)), some (eI (q)), some (eI (r)), some (eI (s)), some (eI (32)), some (eI (24))]) (st' := [eI (1), eI (32), eR 100, eJ (q), eJ (v1), eJ (0), eJ (-1), eJ (0), eJ (0), eR 98]) rfl rfl rfl ?_
  refine w_s (np := 120) (lv' := [some (eR 98), some (eI (2)), some (eI (2)), some (eI (0)), some (eI (p)), some (eI (q)), some (eI (r)), some (eI (s)), some (eI (32)), some (eI (24))]) (st' := [eI (33), eR 100, eJ (q), eJ (v1), eJ (0), eJ (-1), eJ (0), eJ (0), eR 98]) rfl (b_iadd rfl) rfl ?_
  refine w_al (np := 121) (v := 0) rfl rfl (t_al (k := 33) hq rfl (by decide) rfl) ?_
  refine w_s (np := 122) (lv' := [some (eR 98), some (eI (2)), some (eI (2)), some (eI (0)), some (eI (p)), some (eI (q)), some (eI (r)), some (eI (s)), some (eI (32)), some (eI (24))]) (st' := [eJ (0), eJ (q), eJ (v1), eJ (0), eJ (-1), eJ (0), eJ (0), eR 98]) rfl (b_i2l rfl) rfl ?_
  obtain ⟨v4, e5⟩ : ∃ v : Int, v = (q) - (0) := ⟨_, rfl⟩
  have b6 : -9999 ≤ v4 ∧ v4 ≤ 9999 := by omega
  refine w_s (np := 123) (lv' := [some (eR 98), some (eI (2)), some (eI (2)), some (eI (0)), some (eI (p)), some (eI (q)), some (eI (r)), some (eI (s)), some (eI (32)), some (eI (24))]) (st' := [eJ (v4), eJ (v1), eJ (0), eJ (-1), eJ (0), eJ (0), eR 98]) rfl (b_lsub (by rw [← e5]; exact ev_W_in (by omega) (by omega))) rfl ?_
  refine w_s (np := 125) (lv' := [some (eR 98), some (eI (2)), some (eI (2)), some (eI (0)), some (eI (p)), some (eI (q)), some (eI (r)), some (eI (s)), some (eI (32)), some (eI (24))]) (st' := [eI (r), eJ (v4), eJ (v1), eJ (0), eJ (-1), eJ (0), eJ (0), eR 98]) rfl rfl rfl ?_
  refine w_s (np := 126) (lv' := [some (eR 98), some (eI (2)), some (eI (2)), some (eI (0)), some (eI (p)), some (eI (q)), some (eI (r)), some (eI (s)), some (eI (32)), some (eI (24))]) (st' := [eJ (r), eJ (v4), eJ (v1), eJ (0), eJ (-1), eJ (0), eJ (0), eR 98]) rfl (b_i2l (ev_w_in (by omega) (by omega))) rfl ?_
  refine w_s (np := 127) (lv' := [some (eR 98), some (eI (2)), some (eI (2)), some (eI (0)), some (eI (p)), some (eI (q)), some (eI (r)), some (eI (s)), some (eI (32)), some (eI (24))]) (st' := [eR 98, eJ (r), eJ (v4), eJ (v1), eJ (0), eJ (-1), eJ (0), eJ (0), eR 98]) rfl (s_an rfl (by decide)) rfl ?_
  refine w_gf (np := 130) (v := eR 100) rfl rfl hq.1 (by rw [hq.2.1]; rfl) ?_
  refine w_s (np := 132) (lv' := [some (eR 98), some (eI (2)), some (eI (2)), some (eI (0)), some (eI (p)), some (eI (q)), some (eI (r)), some (eI (s)), some (eI (32)), some (eI (24))]) (st' := [eI (32), eR 100, eJ (r), eJ (v4), eJ (v1), eJ (0), eJ (-1), eJ (0), eJ (0), eR 98]) rfl rfl rfl ?_
  refine w_s (np := 133) (lv' := [some (eR 98), some (eI (2)), some (eI (2)), some (eI (0)), some (eI (p)), some (eI (q)), some (eI (r)), some (eI (s)), some (eI (32)), some (eI (24))]) (st' := [eI (2), eI (32), eR 100, eJ (r), eJ (v4), eJ (v1), eJ (0), eJ (-1), eJ (0), eJ (0), eR 98]) rfl rfl rfl ?_
  refine w_s (np := 134) (lv' := [some (eR 98), some (eI (2)), some (eI (2)), some (eI (0)), some (eI (p)), some (eI (q)), some (eI (r)), some (eI (s)), some (eI (32)), some (eI (24))]) (st' := [eI (34), eR 100, eJ (r), eJ (v4), eJ (v1), eJ (0), eJ (-1), eJ (0), eJ (0), eR 98]) rfl (b_iadd rfl) rfl ?_
  refine w_al (np := 135) (v := 1) rfl rfl (t_al (k := 34) hq rfl (by decide) rfl) ?_
  refine w_s (np := 136) (lv' := [some (eR 98), some (eI (2)), some (eI (2)), some (eI (0)), some (eI (p)), some (eI (q)), some (eI (r)), some (eI (s)), some (eI (32)), some (eI (24))]) (st' := [eJ (1), eJ (r), eJ (v4), eJ (v1), eJ (0), eJ (-1), eJ (0), eJ (0), eR 98]) rfl (b_i2l rfl) rfl ?_
  obtain ⟨v7, e8⟩ : ∃ v : Int, v = (r) - (1) := ⟨_, rfl⟩
  have b9 : -10000 ≤ v7 ∧ v7 ≤ 9998 := by omega
  refine w_s (np := 137) (lv' := [some (eR 98), some (eI (2)), some (eI (2)), some (eI (0)), some (eI (p)), some (eI (q)), some (eI (r)), some (eI (s)), some (eI (32)), some (eI (24))]) (st' := [eJ (v7), eJ (v4), eJ (v1), eJ (0), eJ (-1), eJ (0), eJ (0), eR 98]) rfl (b_lsub (by rw [← e8]; exact ev_W_in (by omega) (by omega))) rfl ?_
  refine w_s (np := 139) (lv' := [some (eR 98), some (eI (2)), some (eI (2)), some (eI (0)), some (eI (p)), some (eI (q)), some (eI (r)), some (eI (s)), some (eI (32)), some (eI (24))]) (st' := [eI (s), eJ (v7), eJ (v4), eJ (v1), eJ (0), eJ (-1), eJ (0), eJ (0), eR 98]) rfl rfl rfl ?_
  refine w_s (np := 140) (lv' := [some (eR 98), some (eI (2)), some (eI (2)), some (eI (0)), some (eI (p)), some (eI (q)), some (eI (r)), some (eI (s)), some (eI (32)), some (eI (24))]) (st' := [eJ (s), eJ (v7), eJ (v4), eJ (v1), eJ (0), eJ (-1), eJ (0), eJ (0), eR 98]) rfl (b_i2l (ev_w_in (by omega) (by omega))) rfl ?_
  refine w_s (np := 141) (lv' := [some (eR 98), some (eI (2)), some (eI (2)), some (eI (0)), some (eI (p)), some (eI (q)), some (eI (r)), some (eI (s)), some (eI (32)), some (eI (24))]) (st' := [eR 98, eJ (s), eJ (v7), eJ (v4), eJ (v1), eJ (0), eJ (-1), eJ (0), eJ (0), eR 98]) rfl (s_an rfl (by decide)) rfl ?_
  refine w_gf (np := 144) (v := eR 100) rfl rfl hq.1 (by rw [hq.2.1]; rfl) ?_
  refine w_s (np := 146) (lv' := [some (eR 98), some (eI (2)), some (eI (2)), some (eI (0)), some (eI (p)), some (eI (q)), some (eI (r)), some (eI (s)), some (eI (32)), some (eI (24))]) (st' := [eI (32), eR 100, eJ (s), eJ (v7), eJ (v4), eJ (v1), eJ (0), eJ (-1), eJ (0), eJ (0), eR 98]) rfl rfl rfl ?_
  refine w_s (np := 147) (lv' := [some (eR 98), some (eI (2)), some (eI (2)), some (eI (0)), some (eI (p)), some (eI (q)), some (eI (r)), some (eI (s)), some (eI (32)), some (eI (24))]) (st' := [eI (3), eI (32), eR 100, eJ (s), eJ (v7), eJ (v4), eJ (v1), eJ (0), eJ (-1), eJ (0), eJ (0), eR 98]) rfl rfl rfl ?_
  refine w_s (np := 148) (lv' := [some (eR 98), some (eI (2)), some (eI (2)), some (eI (0)), some (eI (p)), some (eI (q)), some (eI (r)), some (eI (s)), some (eI (32)), some (eI (24))]) (st' := [eI (35), eR 100, eJ (s), eJ (v7), eJ (v4), eJ (v1), eJ (0), eJ (-1), eJ (0), eJ (0), eR 98]) rfl (b_iadd rfl) rfl ?_
  refine w_al (np := 149) (v := 0) rfl rfl (t_al (k := 35) hq rfl (by decide) rfl) ?_
  refine w_s (np := 150) (lv' := [some (eR 98), some (eI (2)), some (eI (2)), some (eI (0)), some (eI (p)), some (eI (q)), some (eI (r)), some (eI (s)), some (eI (32)), some (eI (24))]) (st' := [eJ (0), eJ (s), eJ (v7), eJ (v4), eJ (v1), eJ (0), eJ (-1), eJ (0), eJ (0), eR 98]) rfl (b_i2l rfl) rfl ?_
  obtain ⟨v10, e11⟩ : ∃ v : Int, v = (s) - (0) := ⟨_, rfl⟩
  have b12 : -9999 ≤ v10 ∧ v10 ≤ 9999 := by omega
  refine w_s (np := 151) (lv' := [some (eR 98), some (eI (2)), some (eI (2)), some (eI (0)), some (eI (p)), some (eI (q)), some (eI (r)), some (eI (s)), some (eI (32)), some (eI (24))]) (st' := [eJ (v10), eJ (v7), eJ (v4), eJ (v1), eJ (0), eJ (-1), eJ (0), eJ (0), eR 98]) rfl (b_lsub (by rw [← e11]; exact ev_W_in (by omega) (by omega))) rfl ?_
  refine w_cv (np := 154) (as := [eJ (0), eJ (0), eJ (-1), eJ (0), eJ (v1), eJ (v4), eJ (v7), eJ (v10)]) (lv' := [some (eR 98), some (eJ (0)), none, some (eJ (0)), none, some (eJ (-1)), none, some (eJ (0)), none, some (eJ (v1)), none, some (eJ (v4)), none, some (eJ (v7)), none, some (eJ (v10)), none]) (rest := []) rfl rfl rfl (Nat.ble_eq.mp rfl) rfl rfl rfl hq.1 rfl ?_
  refine t224 hq.1 (show (-8 : Int) ≤ 0 ∧ (0 : Int) ≤ 8 by omega) (show (-8 : Int) ≤ 0 ∧ (0 : Int) ≤ 8 by omega) (show (-8 : Int) ≤ -1 ∧ (-1 : Int) ≤ 8 by omega) (show (-8 : Int) ≤ 0 ∧ (0 : Int) ≤ 8 by omega) (show (-100000 : Int) ≤ v1 ∧ (v1 : Int) ≤ 100000 by omega) (show (-100000 : Int) ≤ v4 ∧ (v4 : Int) ≤ 100000 by omega) (show (-100000 : Int) ≤ v7 ∧ (v7 : Int) ≤ 100000 by omega) (show (-100000 : Int) ≤ v10 ∧ (v10 : Int) ≤ 100000 by omega) ?_
  intro m B G s1 eB eG bB bG
  show ex_fine fg rc rs (d + 4, (265, 154, [some (eR 98), some (eI (2)), some (eI (2)), some (eI (0)), some (eI (p)), some (eI (q)), some (eI (r)), some (eI (s)), some (eI (32)), some (eI (24))], [eI (rSg (2 * B + G) G)]), f :: F, m)
  refine b_ri rfl rfl ?_
  have hB : B = 1 * q + (-1) * s := by omega
  have hG : G = 1 * p := by omega
  have hr := rSg_ok (x := 2 * B + G) (b := G) (by omega)
  have e9 : 416020 * (2 * B + G) + 930249 * G = 1346269 * p + 832040 * q + (-832040) * s := by omega
  rw [e9] at hr
  exact K m _ s1 hr (rSg_v _ _)
theorem t265_3_0 {fg : eG} {rc rs d : Nat} {f : eFr} {F : List eFr} {μ : eM} {p q r s : Int} (hq : tQ μ) (hp : -9999 ≤ p ∧ p ≤ 9999) (hq0 : -9999 ≤ q ∧ q ≤ 9999) (hr : -9999 ≤ r ∧ r ≤ 9999) (hs : -9999 ≤ s ∧ s ≤ 9999) (K : ∀ (μ2 : eM) (u : Int), tS μ μ2 → ((0 ≤ u ↔ 0 ≤ (-1346269) * p + (-1346269) * q + (-832040) * r) ∧ (u ≤ 0 ↔ (-1346269) * p + (-1346269) * q + (-832040) * r ≤ 0)) → (u = 0 ∨ u = 1 ∨ u = -1) → ex_fine fg rc rs (d + 5, (f.1, f.2.1, f.2.2.1, eI u :: f.2.2.2), F, μ2)) : ex_fine fg rc rs (d + 4, (265, 0, [some (eR 98), some (eI (3)), some (eI (0)), some (eI (1)), some (eI (p)), some (eI (q)), some (eI (r)), some (eI (s)), none, none], []), f :: F, μ) := by
  refine w_s (np := 2) (lv' := [some (eR 98), some (eI (3)), some (eI (0)), some (eI (1)), some (eI (p)), some (eI (q)), some (eI (r)), some (eI (s)), none, none]) (st' := [eI (12)]) rfl rfl rfl ?_
  refine w_s (np := 3) (lv' := [some (eR 98), some (eI (3)), some (eI (0)), some (eI (1)), some (eI (p)), some (eI (q)), some (eI (r)), some (eI (s)), none, none]) (st' := [eI (3), eI (12)]) rfl rfl rfl ?_
  refine w_s (np := 4) (lv' := [some (eR 98), some (eI (3)), some (eI (0)), some (eI (1)), some (eI (p)), some (eI (q)), some (eI (r)), some (eI (s)), none, none]) (st' := [eI (36)]) rfl (b_imul rfl) rfl ?_
  refine w_s (np := 5) (lv' := [some (eR 98), some (eI (3)), some (eI (0)), some (eI (1)), some (eI (p)), some (eI (q)), some (eI (r)), some (eI (s)), none, none]) (st' := [eI (4), eI (36)]) rfl rfl rfl ?_
  refine w_s (np := 6) (lv' := [some (eR 98), some (eI (3)), some (eI (0)), some (eI (1)), some (eI (p)), some (eI (q)), some (eI (r)), some (eI (s)), none, none]) (st' := [eI (0), eI (4), eI (36)]) rfl rfl rfl ?_
  refine w_s (np := 7) (lv' := [some (eR 98), some (eI (3)), some (eI (0)), some (eI (1)), some (eI (p)), some (eI (q)), some (eI (r)), some (eI (s)), none, none]) (st' := [eI (0), eI (36)]) rfl (b_imul rfl) rfl ?_
  refine w_s (np := 8) (lv' := [some (eR 98), some (eI (3)), some (eI (0)), some (eI (1)), some (eI (p)), some (eI (q)), some (eI (r)), some (eI (s)), none, none]) (st' := [eI (36)]) rfl (b_iadd rfl) rfl ?_
  refine w_s (np := 10) (lv' := [some (eR 98), some (eI (3)), some (eI (0)), some (eI (1)), some (eI (p)), some (eI (q)), some (eI (r)), some (eI (s)), some (eI (36)), none]) (st' := []) rfl rfl rfl ?_
  refine w_s (np := 12) (lv' := [some (eR 98), some (eI (3)), some (eI (0)), some (eI (1)), some (eI (p)), some (eI (q)), some (eI (r)), some (eI (s)), some (eI (36)), none]) (st' := [eI (12)]) rfl rfl rfl ?_
  refine w_s (np := 13) (lv' := [some (eR 98), some (eI (3)), some (eI (0)), some (eI (1)), some (eI (p)), some (eI (q)), some (eI (r)), some (eI (s)), some (eI (36)), none]) (st' := [eI (3), eI (12)]) rfl rfl rfl ?_
  refine w_s (np := 14) (lv' := [some (eR 98), some (eI (3)), some (eI (0)), some (eI (1)), some (eI (p)), some (eI (q)), some (eI (r)), some (eI (s)), some (eI (36)), none]) (st' := [eI (36)]) rfl (b_imul rfl) rfl ?_
  refine w_s (np := 15) (lv' := [some (eR 98), some (eI (3)), some (eI (0)), some (eI (1)), some (eI (p)), some (eI (q)), some (eI (r)), some (eI (s)), some (eI (36)), none]) (st' := [eI (4), eI (36)]) rfl rfl rfl ?_
  refine w_s (np := 16) (lv' := [some (eR 98), some (eI (3)), some (eI (0)), some (eI (1)), some (eI (p)), some (eI (q)), some (eI (r)), some (eI (s)), some (eI (36)), none]) (st' := [eI (1), eI (4), eI (36)]) rfl rfl rfl ?_
  refine w_s (np := 17) (lv' := [some (eR 98), some (eI (3)), some (eI (0)), some (eI (1)), some (eI (p)), some (eI (q)), some (eI (r)), some (eI (s)), some (eI (36)), none]) (st' := [eI (4), eI (36)]) rfl (b_imul rfl) rfl ?_
  refine w_s (np := 18) (lv' := [some (eR 98), some (eI (3)), some (eI (0)), some (eI (1)), some (eI (p)), some (eI (q)), some (eI (r)), some (eI (s)), some (eI (36)), none]) (st' := [eI (40)]) rfl (b_iadd rfl) rfl ?_
  refine w_s (np := 20) (lv' := [some (eR 98), some (eI (3)), some (eI (0)), some (eI (1)), some (eI (p)), some (eI (q)), some (eI (r)), some (eI (s)), some (eI (36)), some (eI (40))]) (st' := []) rfl rfl rfl ?_
  refine w_s (np := 21) (lv' := [some (eR 98), some (eI (3)), some (eI (0)), some (eI (1)), some (eI (p)), some (eI (q)), some (eI (r)), some (eI (s)), some (eI (36)), some (eI (40))]) (st' := [eR 98]) rfl (s_an rfl (by decide)) rfl ?_
  refine w_s (np := 22) (lv' := [some (eR 98), some (eI (3)), some (eI (0)), some (eI (1)), some (eI (p)), some (eI (q)), some (eI (r)), some (eI (s)), some (eI (36)), some (eI (40))]) (st' := [eR 98, eR 98]) rfl (s_an rfl (by decide)) rfl ?_
  refine w_gf (np := 25) (v := eR 100) rfl rfl hq.1 (by rw [hq.2.1]; rfl) ?_
  refine w_s (np := 27) (lv' := [some (eR 98), some (eI (3)), some (eI (0)), some (eI (1)), some (eI (p)), some (eI (q)), some (eI (r)), some (eI (s)), some (eI (36)), some (eI (40))]) (st' := [eI (40), eR 100, eR 98]) rfl rfl rfl ?_
  refine w_al (np := 28) (v := 0) rfl rfl (t_al (k := 40) hq rfl (by decide) rfl) ?_
  refine w_s (np := 29) (lv' := [some (eR 98), some (eI (3)), some (eI (0)), some (eI (1)), some (eI (p)), some (eI (q)), some (eI (r)), some (eI (s)), some (eI (36)), some (eI (40))]) (st' := [eR 98, eI (0), eR 98]) rfl (s_an rfl (by decide)) rfl ?_
  refine w_gf (np := 32) (v := eR 100) rfl rfl hq.1 (by rw [hq.2.1]; rfl) ?_
  refine w_s (np := 34) (lv' := [some (eR 98), some (eI (3)), some (eI (0)), some (eI (1)), some (eI (p)), some (eI (q)), some (eI (r)), some (eI (s)), some (eI (36)), some (eI (40))]) (st' := [eI (36), eR 100, eI (0), eR 98]) rfl rfl rfl ?_
  refine w_al (np := 35) (v := 0) rfl rfl (t_al (k := 36) hq rfl (by decide) rfl) ?_
  refine w_s (np := 36) (lv' := [some (eR 98), some (eI (3)), some (eI (0)), some (eI (1)), some (eI (p)), some (eI (q)), some (eI (r)), some (eI (s)), some (eI (36)), some (eI (40))]) (st' := [eI (0), eR 98]) rfl (b_isub rfl) rfl ?_
  refine w_s (np := 37) (lv' := [some (eR 98), some (eI (3)), some (eI (0)), some (eI (1)), some (eI (p)), some (eI (q)), some (eI (r)), some (eI (s)), some (eI (36)), some (eI (40))]) (st' := [eJ (0), eR 98]) rfl (b_i2l rfl) rfl ?_
  refine w_s (np := 38) (lv' := [some (eR 98), some (eI (3)), some (eI (0)), some (eI (1)), some (eI (p)), some (eI (q)), some (eI (r)), some (eI (s)), some (eI (36)), some (eI (40))]) (st' := [eR 98, eJ (0), eR 98]) rfl (s_an rfl (by decide)) rfl ?_
  refine w_gf (np := 41) (v := eR 100) rfl rfl hq.1 (by rw [hq.2.1]; rfl) ?_
  refine w_s (np := 43) (lv' := [some (eR 98), some (eI (3)), some (eI (0)), some (eI (1)), some (eI (p)), some (eI (q)), some (eI (r)), some (eI (s)), some (eI (36)), some (eI (40))]) (st' := [eI (40), eR 100, eJ (0), eR 98]) rfl rfl rfl ?_
  refine w_s (np := 44) (lv' := [some (eR 98), some (eI (3)), some (eI (0)), some (eI (1)), some (eI (p)), some (eI (q)), some (eI (r)), some (eI (s)), some (eI (36)), some (eI (40))]) (st' := [eI (1), eI (40), eR 100, eJ (0), eR 98]) rfl rfl rfl ?_
  refine w_s (np := 45) (lv' := [some (eR 98), some (eI (3)), some (eI (0)), some (eI (1)), some (eI (p)), some (eI (q)), some (eI (r)), some (eI (s)), some (eI (36)), some (eI (40))]) (st' := [eI (41), eR 100, eJ (0), eR 98]) rfl (b_iadd rfl) rfl ?_
  refine w_al (np := 46) (v := 0) rfl rfl (t_al (k := 41) hq rfl (by decide) rfl) ?_
  refine w_s (np := 47) (lv' := [some (eR 98), some (eI (3)), some (eI (0)), some (eI (1)), some (eI (p)), some (eI (q)), some (eI (r)), some (eI (s)), some (eI (36)), some (eI (40))]) (st' := [eR 98, eI (0), eJ (0), eR 98]) rfl (s_an rfl (by decide)) rfl ?_
  refine w_gf (np := 50) (v := eR 100) rfl rfl hq.1 (by rw [hq.2.1]; rfl) ?_
  refine w_s (np := 52) (lv' := [some (eR 98), some (eI (3)), some (eI (0)), some (eI (1)), some (eI (p)), some (eI (q)), some (eI (r)), some (eI (s)), some (eI (36)), some (eI (40))]) (st' := [eI (36), eR 100, eI (0), eJ (0), eR 98]) rfl rfl rfl ?_
  refine w_s (np := 53) (lv' := [some (eR 98), some (eI (3)), some (eI (0)), some (eI (1)), some (eI (p)), some (eI (q)), some (eI (r)), some (eI (s)), some (eI (36)), some (eI (40))]) (st' := [eI (1), eI (36), eR 100, eI (0), eJ (0), eR 98]) rfl rfl rfl ?_
  refine w_s (np := 54) (lv' := [some (eR 98), some (eI (3)), some (eI (0)), some (eI (1)), some (eI (p)), some (eI (q)), some (eI (r)), some (eI (s)), some (eI (36)), some (eI (40))]) (st' := [eI (37), eR 100, eI (0), eJ (0), eR 98]) rfl (b_iadd rfl) rfl ?_
  refine w_al (np := 55) (v := 0) rfl rfl (t_al (k := 37) hq rfl (by decide) rfl) ?_
  refine w_s (np := 56) (lv' := [some (eR 98), some (eI (3)), some (eI (0)), some (eI (1)), some (eI (p)), some (eI (q)), some (eI (r)), some (eI (s)), some (eI (36)), some (eI (40))]) (st' := [eI (0), eJ (0), eR 98]) rfl (b_isub rfl) rfl ?_
  refine w_s (np := 57) (lv' := [some (eR 98), some (eI (3)), some (eI (0)), some (eI (1)), some (eI (p)), some (eI (q)), some (eI (r)), some (eI (s)), some (eI (36)), some (eI (40))]) (st' := [eJ (0), eJ (0), eR 98]) rfl (b_i2l rfl) rfl ?_
  refine w_s (np := 58) (lv' := [some (eR 98), some (eI (3)), some (eI (0)), some (eI (1)), some (eI (p)), some (eI (q)), some (eI (r)), some (eI (s)), some (eI (36)), some (eI (40))]) (st' := [eR 98, eJ (0), eJ (0), eR 98]) rfl (s_an rfl (by decide)) rfl ?_
  refine w_gf (np := 61) (v := eR 100) rfl rfl hq.1 (by rw [hq.2.1]; rfl) ?_
  refine w_s (np := 63) (lv' := [some (eR 98), some (eI (3)), some (eI (0)), some (eI (1)), some (eI (p)), some (eI (q)), some (eI (r)), some (eI (s)), some (eI (36)), some (eI (40))]) (st' := [eI (40), eR 100, eJ (0), eJ (0), eR 98]) rfl rfl rfl ?_
  refine w_s (np := 64) (lv' := [some (eR 98), some (eI (3)), some (eI (0)), some (eI (1)), some (eI (p)), some (eI (q)), some (eI (r)), some (eI (s)), some (eI (36)), some (eI (40))]) (st' := [eI (2), eI (40), eR 100, eJ (0), eJ (0), eR 98]) rfl rfl rfl ?_
  refine w_s (np := 65) (lv' := [some (eR 98), some (eI (3)), some (eI (0)), some (eI (1)), some (eI (p)), some (eI (q)), some (eI (r)), some (eI (s)), some (eI (36)), some (eI (40))]) (st' := [eI (42), eR 100, eJ (0), eJ (0), eR 98]) rfl (b_iadd rfl) rfl ?_
  refine w_al (np := 66) (v := 0) rfl rfl (t_al (k := 42) hq rfl (by decide) rfl) ?_
  refine w_s (np := 67) (lv' := [some (eR 98), some (eI (3)), some (eI (0)), some (eI (1)), some (eI (p)), some (eI (q)), some (eI (r)), some (eI (s)), some (eI (36)), some (eI (40))]) (st' := [eR 98, eI (0), eJ (0), eJ (0), eR 98]) rfl (s_an rfl (by decide)) rfl ?_
  refine w_gf (np := 70) (v := eR 100) rfl rfl hq.1 (by rw [hq.2.1]; rfl) ?_
  refine w_s (np := 72) (lv' := [some (eR 98), some (eI (3)), some (eI (0)), some (eI (1)), some (eI (p)), some (eI (q)), some (eI (r)), some (eI (s)), some (eI (36)), some (eI (40))]) (st' := [eI (36), eR 100, eI (0), eJ (0), eJ (0), eR 98]) rfl rfl rfl ?_
  refine w_s (np := 73) (lv' := [some (eR 98), some (eI (3)), some (eI (0)), some (eI (1)), some (eI (p)), some (eI (q)), some (eI (r)), some (eI (s)), some (eI (36)), some (eI (40))]) (st' := [eI (2), eI (36), eR 100, eI (0), eJ (0), eJ (0), eR 98]) rfl rfl rfl ?_
  refine w_s (np := 74) (lv' := [some (eR 98), some (eI (3)), some (eI (0)), some (eI (1)), some (eI (p)), some (eI (q)), some (eI (r)), some (eI (s)), some (eI (36)), some (eI (40))]) (st' := [eI (38), eR 100, eI (0), eJ (0), eJ (0), eR 98]) rfl (b_iadd rfl) rfl ?_
  refine w_al (np := 75) (v := 0) rfl rfl (t_al (k := 38) hq rfl (by decide) rfl) ?_
  refine w_s (np := 76) (lv' := [some (eR 98), some (eI (3)), some (eI (0)), some (eI (1)), some (eI (p)), some (eI (q)), some (eI (r)), some (eI (s)), some (eI (36)), some (eI (40))]) (st' := [eI (0), eJ (0), eJ (0), eR 98]) rfl (b_isub rfl) rfl ?_
  refine w_s (np := 77) (lv' := [some (eR 98), some (eI (3)), some (eI (0)), some (eI (1)), some (eI (p)), some (eI (q)), some (eI (r)), some (eI (s)), some (eI (36)), some (eI (40))]) (st' := [eJ (0), eJ (0), eJ (0), eR 98]) rfl (b_i2l rfl) rfl ?_
  refine w_s (np := 78) (lv' := [some (eR 98), some (eI (3)), some (eI (0)), some (eI (1)), some (eI (p)), some (eI (q)), some (eI (r)), some (eI (s)), some (eI (36)), some (eI (40))]) (st' := [eR 98, eJ (0), eJ (0), eJ (0), eR 98]) rfl (s_an rfl (by decide)) rfl ?_
  refine w_gf (np := 81) (v := eR 100) rfl rfl hq.1 (by rw [hq.2.1]; rfl) ?_
  refine w_s (np := 83) (lv' := [some (eR 98), some (eI (3)), some (eI (0)), some (eI (1)), some (eI (p)), some (eI (q)), some (eI (r)), some (eI (s)), some (eI (36)), some (eI (40))]) (st' := [eI (40), eR 100, eJ (0), eJ (0), eJ (0), eR 98]) rfl rfl rfl ?_
  refine w_s (np := 84) (lv' := [some (eR 98), some (eI (3)), some (eI (0)), some (eI (1)), some (eI (p)), some (eI (q)), some (eI (r)), some (eI (s)), some (eI (36)), some (eI (40))]) (st' := [eI (3), eI (40), eR 100, eJ (0), eJ (0), eJ (0), eR 98]) rfl rfl rfl ?_
  refine w_s (np := 85) (lv' := [some (eR 98), some (eI (3)), some (eI (0)), some (eI (1)), some (eI (p)), some (eI (q)), some (eI (r)), some (eI (s)), some (eI (36)), some (eI (40))]) (st' := [eI (43), eR 100, eJ (0), eJ (0), eJ (0), eR 98]) rfl (b_iadd rfl) rfl ?_
  refine w_al (np := 86) (v := 1) rfl rfl (t_al (k := 43) hq rfl (by decide) rfl) ?_
  refine w_s (np := 87) (lv' := [some (eR 98), some (eI (3)), some (eI (0)), some (eI (1)), some (eI (p)), some (eI (q)), some (eI (r)), some (eI (s)), some (eI (36)), some (eI (40))]) (st' := [eR 98, eI (1), eJ (0), eJ (0), eJ (0), eR 98]) rfl (s_an rfl (by decide)) rfl ?_
  refine w_gf (np := 90) (v := eR 100) rfl rfl hq.1 (by rw [hq.2.1]; rfl) ?_
  refine w_s (np := 92) (lv' := [some (eR 98), some (eI (3)), some (eI (0)), some (eI (1)), some (eI (p)), some (eI (q)), some (eI (r)), some (eI (s)), some (eI (36)), some (eI (40))]) (st' := [eI (36), eR 100, eI (1), eJ (0), eJ (0), eJ (0), eR 98]) rfl rfl rfl ?_
  refine w_s (np := 93) (lv' := [some (eR 98), some (eI (3)), some (eI (0)), some (eI (1)), some (eI (p)), some (eI (q)), some (eI (r)), some (eI (s)), some (eI (36)), some (eI (40))]) (st' := [eI (3), eI (36), eR 100, eI (1), eJ (0), eJ (0), eJ (0), eR 98]) rfl rfl rfl ?_
  refine w_s (np := 94) (lv' := [some (eR 98), some (eI (3)), some (eI (0)), some (eI (1)), some (eI (p)), some (eI (q)), some (eI (r)), some (eI (s)), some (eI (36)), some (eI (40))]) (st' := [eI (39), eR 100, eI (1), eJ (0), eJ (0), eJ (0), eR 98]) rfl (b_iadd rfl) rfl ?_
  refine w_al (np := 95) (v := 0) rfl rfl (t_al (k := 39) hq rfl (by decide) rfl) ?_
  refine w_s (np := 96) (lv' := [some (eR 98), some (eI (3)), some (eI (0)), some (eI (1)), some (eI (p)), some (eI (q)), some (eI (r)), some (eI (s)), some (eI (36)), some (eI (40))]) (st' := [eI (1), eJ (0), eJ (0), eJ (0), eR 98]) rfl (b_isub rfl) rfl ?_
  refine w_s (np := 97) (lv' := [some (eR 98), some (eI (3)), some (eI (0)), some (eI (1)), some (eI (p)), some (eI (q)), some (eI (r)), some (eI (s)), some (eI (36)), some (eI (40))]) (st' := [eJ (1), eJ (0), eJ (0), eJ (0), eR 98]) rfl (b_i2l rfl) rfl ?_
  refine w_s (np := 99) (lv' := [some (eR 98), some (eI (3)), some (eI (0)), some (eI (1)), some (eI (p)), some (eI (q)), some (eI (r)), some (eI (s)), some (eI (36)), some (eI (40))]) (st' := [eI (p), eJ (1), eJ (0), eJ (0), eJ (0), eR 98]) rfl rfl rfl ?_
  refine w_s (np := 100) (lv' := [some (eR 98), some (eI (3)), some (eI (0)), some (eI (1)), some (eI (p)), some (eI (q)), some (eI (r)), some (eI (s)), some (eI (36)), some (eI (40))]) (st' := [eJ (p), eJ (1), eJ (0), eJ (0), eJ (0), eR 98]) rfl (b_i2l (ev_w_in (by omega) (by omega))) rfl ?_
  refine w_s (np := 101) (lv' := [some (eR 98), some (eI (3)), some (eI (0)), some (eI (1)), some (eI (p)), some (eI (q)), some (eI (r)), some (eI (s)), some (eI (36)), some (eI (40))]) (st' := [eR 98, eJ (p), eJ (1), eJ (0), eJ (0), eJ (0), eR 98]) rfl (s_an rfl (by decide)) rfl ?_
  refine w_gf (np := 104) (v := eR 100) rfl rfl hq.1 (by rw [hq.2.1]; rfl) ?_
  refine w_s (np := 106) (lv' := [some (eR 98), some (eI (3)), some (eI (0)), some (eI (1)), some (eI (p)), some (eI (q)), some (eI (r)), some (eI (s)), some (eI (36)), some (eI (40))]) (st' := [eI (36), eR 100, eJ (p), eJ (1), eJ (0), eJ (0), eJ (0), eR 98]) rfl rfl rfl ?_
  refine w_al (np := 107) (v := 0) rfl rfl (t_al (k := 36) hq rfl (by decide) rfl) ?_
  refine w_s (np := 108) (lv' := [some (eR 98), some (eI (3)), some (eI (0)), some (eI (1)), some (eI (p)), some (eI (q)), some (eI (r)), some (eI (s)), some (eI (36)), some (eI (40))]) (st' := [eJ (0), eJ (p), eJ (1), eJ (0), eJ (0), eJ (0), eR 98]) rfl (b_i2l rfl) rfl ?_
  obtain ⟨v1, e2⟩ : ∃ v : Int, v = (p) - (0) := ⟨_, rfl⟩
  have b3 : -9999 ≤ v1 ∧ v1 ≤ 9999 := by omega
  refine w_s (np := 109) (lv' := [some (eR 98), some (eI (3)), some (eI (0)), some (eI (1)), some (eI (p)), some (eI (q)), some (eI (r)), some (eI (s)), some (eI (36)), some (eI (40))]) (st' := [eJ (v1), eJ (1), eJ (0), eJ (0), eJ (0), eR 98]) rfl (b_lsub (by rw [← e2]; exact ev_W_in (by omega) (by omega))) rfl ?_
  refine w_s (np := 111) (lv' := [some (eR 98), some (eI (3)), some (eI (0)), some (eI (1)), some (eI (p)), some (eI (q)), some (eI (r)), some (eI (s)), some (eI (36)), some (eI (40))]) (st' := [eI (q), eJ (v1), eJ (1), eJ (0), eJ (0), eJ (0), eR 98]) rfl rfl rfl ?_
  refine w_s (np := 112) (lv' := [some (eR 98), some (eI (3)), some (eI (0)), some (eI (1)), some (eI (p)), some (eI (q)), some (eI (r)), some (eI (s)), some (eI (36)), some (eI (40))]) (st' := [eJ (q), eJ (v1), eJ (1), eJ (0), eJ (0), eJ (0), eR 98]) rfl (b_i2l (ev_w_in (by omega) (by omega))) rfl ?_
  refine w_s (np := 113) (lv' := [some (eR 98), some (eI (3)), some (eI (0)), some (eI (1)), some (eI (p)), some (eI (q)), some (eI (r)), some (eI (s)), some (eI (36)), some (eI (40))]) (st' := [eR 98, eJ (q), eJ (v1), eJ (1), eJ (0), eJ (0), eJ (0), eR 98]) rfl (s_an rfl (by decide)) rfl ?_
  refine w_gf (np := 116) (v := eR 100) rfl rfl hq.1 (by rw [hq.2.1]; rfl) ?_
  refine w_s (np := 118) (lv' := [some (eR 98), some (eI (3)), some (eI (0)), some (eI (1)), some (eI (p)), some (eI (q)), some (eI (r)), some (eI (s)), some (eI (36)), some (eI (40))]) (st' := [eI (36), eR 100, eJ (q), eJ (v1), eJ (1), eJ (0), eJ (0), eJ (0), eR 98]) rfl rfl rfl ?_
  refine w_s (np := 119) (lv' := [some (eR 98), some (eI (3)), some (eI (0)), some (eI (1)), some (eI (p)), some (eI (q)), some (eI (r)), some (eI (s)), some (eI (36)), some (eI (40))]) (st' := [eI (1), eI (36), eR 100, eJ (q), eJ (v1), eJ (1), eJ (0), eJ (0), eJ (0), eR 98]) rfl rfl rfl ?_
  refine w_s (np := 120) (lv' := [some (eR 98), some (eI (3)), some (eI (0)), some (eI (1)), some (eI (p)), some (eI (q)), some (eI (r)), some (eI (s)), some (eI (36)), some (eI (40))]) (st' := [eI (37), eR 100, eJ (q), eJ (v1), eJ (1), eJ (0), eJ (0), eJ (0), eR 98]) rfl (b_iadd rfl) rfl ?_
  refine w_al (np := 121) (v := 0) rfl rfl (t_al (k := 37) hq rfl (by decide) rfl) ?_
  refine w_s (np := 122) (lv' := [some (eR 98), some (eI (3)), some (eI (0)), some (eI (1)), some (eI (p)), some (eI (q)), some (eI (r)), some (eI (s)), some (eI (36)), some (eI (40))]) (st' := [eJ (0), eJ (q), eJ (v1), eJ (1), eJ (0), eJ (0), eJ (0), eR 98]) rfl (b_i2l rfl) rfl ?_
  obtain ⟨v4, e5⟩ : ∃ v : Int, v = (q) - (0) := ⟨_, rfl⟩
  have b6 : -9999 ≤ v4 ∧ v4 ≤ 9999 := by omega
  refine w_s (np := 123) (lv' := [some (eR 98), some (eI (3)), some (eI (0)), some (eI (1)), some (eI (p)), some (eI (q)), some (eI (r)), some (eI (s)), some (eI (36)), some (eI (40))]) (st' := [eJ (v4), eJ (v1), eJ (1), eJ (0), eJ (0), eJ (0), eR 98]) rfl (b_lsub (by rw [← e5]; exact ev_W_in (by omega) (by omega))) rfl ?_
  refine w_s (np := 125) (lv' := [some (eR 98), some (eI (3)), some (eI (0)), some (eI (1)), some (eI (p)), some (eI (q)), some (eI (r)), some (eI (s)), some (eI (36)), some (eI (40))]) (st' := [eI (r), eJ (v4), eJ (v1), eJ (1), eJ (0), eJ (0), eJ (0), eR 98]) rfl rfl rfl ?_
  refine w_s (np := 126) (lv' := [some (eR 98), some (eI (3)), some (eI (0)), some (eI (1)), some (eI (p)), some (eI (q)), some (eI (r)), some (eI (s)), some (eI (36)), some (eI (40))]) (st' := [eJ (r), eJ (v4), eJ (v1), eJ (1), eJ (0), eJ (0), eJ (0), eR 98]) rfl (b_i2l (ev_w_in (by omega) (by omega))) rfl ?_
  refine w_s (np := 127) (lv' := [some (eR 98), some (eI (3)), some (eI (0)), some (eI (1)), some (eI (p)), some (eI (q)), some (eI (r)), some (eI (s)), some (eI (36)), some (eI (40))]) (st' := [eR 98, eJ (r), eJ (v4), eJ (v1), eJ (1), eJ (0), eJ (0), eJ (0), eR 98]) rfl (s_an rfl (by decide)) rfl ?_
  refine w_gf (np := 130) (v := eR 100) rfl rfl hq.1 (by rw [hq.2.1]; rfl) ?_
  refine w_s (np := 132) (lv' := [some (eR 98), some (eI (3)), some (eI (0)), some (eI (1)), some (eI (p)), some (eI (q)), some (eI (r)), some (eI (s)), some (eI (36)), some (eI (40))]) (st' := [eI (36), eR 100, eJ (r), eJ (v4), eJ (v1), eJ (1), eJ (0), eJ (0), eJ (0), eR 98]) rfl rfl rfl ?_
  refine w_s (np := 133) (lv' := [some (eR 98), some (eI (3)), some (eI (0)), some (eI (1)), some (eI (p)), some (eI (q)), some (eI (r)), some (eI (s)), some (eI (36)), some (eI (40))]) (st' := [eI (2), eI (36), eR 100, eJ (r), eJ (v4), eJ (v1), eJ (1), eJ (0), eJ (0), eJ (0), eR 98]) rfl rfl rfl ?_
  refine w_s (np := 134) (lv' := [some (eR 98), some (eI (3)), some (eI (0)), some (eI (1)), some (eI (p)), some (eI (q)), some (eI (r)), some (eI (s)), some (eI (36)), some (eI (40))]) (st' := [eI (38), eR 100, eJ (r), eJ (v4), eJ (v1), eJ (1), eJ (0), eJ (0), eJ (0), eR 98]) rfl (b_iadd rfl) rfl ?_
  refine w_al (np := 135) (v := 0) rfl rfl (t_al (k := 38) hq rfl (by decide) rfl) ?_
  refine w_s (np := 136) (lv' := [some (eR 98), some (eI (3)), some (eI (0)), some (eI (1)), some (eI (p)), some (eI (q)), some (eI (r)), some (eI (s)), some (eI (36)), some (eI (40))]) (st' := [eJ (0), eJ (r), eJ (v4), eJ (v1), eJ (1), eJ (0), eJ (0), eJ (0), eR 98]) rfl (b_i2l rfl) rfl ?_
  obtain ⟨v7, e8⟩ : ∃ v : Int, v = (r) - (0) := ⟨_, rfl⟩
  have b9 : -9999 ≤ v7 ∧ v7 ≤ 9999 := by omega
  refine w_s (np := 137) (lv' := [some (eR 98), some (eI (3)), some (eI (0)), some (eI (1)), some (eI (p)), some (eI (q)), some (eI (r)), some (eI (s)), some (eI (36)), some (eI (40))]) (st' := [eJ (v7), eJ (v4), eJ (v1), eJ (1), eJ (0), eJ (0), eJ (0), eR 98]) rfl (b_lsub (by rw [← e8]; exact ev_W_in (by omega) (by omega))) rfl ?_
  refine w_s (np := 139) (lv' := [some (eR 98), some (eI (3)), some (eI (0)), some (eI (1)), some (eI (p)), some (eI (q)), some (eI (r)), some (eI (s)), some (eI (36)), some (eI (40))]) (st' := [eI (s), eJ (v7), eJ (v4), eJ (v1), eJ (1), eJ (0), eJ (0), eJ (0), eR 98]) rfl rfl rfl ?_
  refine w_s (np := 140) (lv' := [some (eR 98), some (eI (3)), some (eI (0)), some (eI (1)), some (eI (p)), some (eI (q)), some (eI (r)), some (eI (s)), some (eI (36)), some (eI (40))]) (st' := [eJ (s), eJ (v7), eJ (v4), eJ (v1), eJ (1), eJ (0), eJ (0), eJ (0), eR 98]) rfl (b_i2l (ev_w_in (by omega) (by omega))) rfl ?_
  refine w_s (np := 141) (lv' := [some (eR 98), some (eI (3)), some (eI (0)), some (eI (1)), some (eI (p)), some (eI (q)), some (eI (r)), some (eI (s)), some (eI (36)), some (eI (40))]) (st' := [eR 98, eJ (s), eJ (v7), eJ (v4), eJ (v1), eJ (1), eJ (0), eJ (0), eJ (0), eR 98]) rfl (s_an rfl (by decide)) rfl ?_
  refine w_gf (np := 144) (v := eR 100) rfl rfl hq.1 (by rw [hq.2.1]; rfl) ?_
  refine w_s (np := 146) (lv' := [some (eR 98), some (eI (3)), some (eI (0)), some (eI (1)), some (eI (p)), some (eI (q)), some (eI (r)), some (eI (s)), some (eI (36)), some (eI (40))]) (st' := [eI (36), eR 100, eJ (s), eJ (v7), eJ (v4), eJ (v1), eJ (1), eJ (0), eJ (0), eJ (0), eR 98]) rfl rfl rfl ?_
  refine w_s (np := 147) (lv' := [some (eR 98), some (eI (3)), some (eI (0)), some (eI (1)), some (eI (p)), some (eI (q)), some (eI (r)), some (eI (s)), some (eI (36)), some (eI (40))]) (st' := [eI (3), eI (36), eR 100, eJ (s), eJ (v7), eJ (v4), eJ (v1), eJ (1), eJ (0), eJ (0), eJ (0), eR 98]) rfl rfl rfl ?_
  refine w_s (np := 148) (lv' := [some (eR 98), some (eI (3)), some (eI (0)), some (eI (1)), some (eI (p)), some (eI (q)), some (eI (r)), some (eI (s)), some (eI (36)), some (eI (40))]) (st' := [eI (39), eR 100, eJ (s), eJ (v7), eJ (v4), eJ (v1), eJ (1), eJ (0), eJ (0), eJ (0), eR 98]) rfl (b_iadd rfl) rfl ?_
  refine w_al (np := 149) (v := 0) rfl rfl (t_al (k := 39) hq rfl (by decide) rfl) ?_
  refine w_s (np := 150) (lv' := [some (eR 98), some (eI (3)), some (eI (0)), some (eI (1)), some (eI (p)), some (eI (q)), some (eI (r)), some (eI (s)), some (eI (36)), some (eI (40))]) (st' := [eJ (0), eJ (s), eJ (v7), eJ (v4), eJ (v1), eJ (1), eJ (0), eJ (0), eJ (0), eR 98]) rfl (b_i2l rfl) rfl ?_
  obtain ⟨v10, e11⟩ : ∃ v : Int, v = (s) - (0) := ⟨_, rfl⟩
  have b12 : -9999 ≤ v10 ∧ v10 ≤ 9999 := by omega
  refine w_s (np := 151) (lv' := [some (eR 98), some (eI (3)), some (eI (0)), some (eI (1)), some (eI (p)), some (eI (q)), some (eI (r)), some (eI (s)), some (eI (36)), some (eI (40))]) (st' := [eJ (v10), eJ (v7), eJ (v4), eJ (v1), eJ (1), eJ (0), eJ (0), eJ (0), eR 98]) rfl (b_lsub (by rw [← e11]; exact ev_W_in (by omega) (by omega))) rfl ?_
  refine w_cv (np := 154) (as := [eJ (0), eJ (0), eJ (0), eJ (1), eJ (v1), eJ (v4), eJ (v7), eJ (v10)]) (lv' := [some (eR 98), some (eJ (0)), none, some (eJ (0)), none, some (eJ (0)), none, some (eJ (1)), none, some (eJ (v1)), none, some (eJ (v4)), none, some (eJ (v7)), none, some (eJ (v10)), none]) (rest := []) rfl rfl rfl (Nat.ble_eq.mp rfl) rfl rfl rfl hq.1 rfl ?_
  refine t224 hq.1 (show (-8 : Int) ≤ 0 ∧ (0 : Int) ≤ 8 by omega) (show (-8 : Int) ≤ 0 ∧ (0 : Int) ≤ 8 by omega) (show (-8 : Int) ≤ 0 ∧ (0 : Int) ≤ 8 by omega) (show (-8 : Int) ≤ 1 ∧ (1 : Int) ≤ 8 by omega) (show (-100000 : Int) ≤ v1 ∧ (v1 : Int) ≤ 100000 by omega) (show (-100000 : Int) ≤ v4 ∧ (v4 : Int) ≤ 100000 by omega) (show (-100000 : Int) ≤ v7 ∧ (v7 : Int) ≤ 100000 by omega) (show (-100000 : Int) ≤ v10 ∧ (v10 : Int) ≤ 100000 by omega) ?_
  intro m B G s1 eB eG bB bG
  show ex_fine fg rc rs (d + 4, (265, 154, [some (eR 98), some (eI (3)), some (eI (0)), some (eI (1)), some (eI (p)), some (eI (q)), some (eI (r)), some (eI (s)), some (eI (36)), some (eI (40))], [eI (rSg (2 * B + G) G)]), f :: F, m)
  refine b_ri rfl rfl ?_
  have hB : B = (-1) * r := by omega
  have hG : G = (-1) * p + (-1) * q := by omega
  have hr := rSg_ok (x := 2 * B + G) (b := G) (by omega)
  have e9 : 416020 * (2 * B + G) + 930249 * G = (-1346269) * p + (-1346269) * q + (-832040) * r := by omega
  rw [e9] at hr
  exact K m _ s1 hr (rSg_v _ _)
theorem t265_3_1 {fg : eG} {rc rs d : Nat} {f : eFr} {F : List eFr} {μ : eM} {p q r s : Int} (hq : tQ μ) (hp : -9999 ≤ p ∧ p ≤ 9999) (hq0 : -9999 ≤ q ∧ q ≤ 9999) (hr : -9999 ≤ r ∧ r ≤ 9999) (hs : -9999 ≤ s ∧ s ≤ 9999) (K : ∀ (μ2 : eM) (u : Int), tS μ μ2 → ((0 ≤ u ↔ 0 ≤ 514229 * p + (-514229) * r + (-832040) * s + (832040)) ∧ (u ≤ 0 ↔ 514229 * p + (-514229) * r + (-832040) * s + (832040) ≤ 0)) → (u = 0 ∨ u = 1 ∨ u = -1) → ex_fine fg rc rs (d + 5, (f.1, f.2.1, f.2.2.1, eI u :: f.2.2.2), F, μ2)) : ex_fine fg rc rs (d + 4, (265, 0, [some (eR 98), some (eI (3)), some (eI (1)), some (eI (2)), some (eI (p)), some (eI (q)), some (eI (r)), some (eI (s)), none, none], []), f :: F, μ) := by
  refine w_s (np := 2) (lv' := [some (eR 98), some (eI (3)), some (eI (1)), some (eI (2)), some (eI (p)), some (eI (q)), some (eI (r)), some (eI (s)), none, none]) (st' := [eI (12)]) rfl rfl rfl ?_
  refine w_s (np := 3) (lv' := [some (eR 98), some (eI (3)), some (eI (1)), some (eI (2)), some (eI (p)), some (eI (q)), some (eI (r)), some (eI (s)), none, none]) (st' := [eI (3), eI (12)]) rfl rfl rfl ?_
  refine w_s (np := 4) (lv' := [some (eR 98), some (eI (3)), some (eI (1)), some (eI (2)), some (eI (p)), some (eI (q)), some (eI (r)), some (eI (s)), none, none]) (st' := [eI (36)]) rfl (b_imul rfl) rfl ?_
  refine w_s (np := 5) (lv' := [some (eR 98), some (eI (3)), some (eI (1)), some (eI (2)), some (eI (p)), some (eI (q)), some (eI (r)), some (eI (s)), none, none]) (st' := [eI (4), eI (36)]) rfl rfl rfl ?_
  refine w_s (np := 6) (lv' := [some (eR 98), some (eI (3)), some (eI (1)), some (eI (2)), some (eI (p)), some (eI (q)), some (eI (r)), some (eI (s)), none, none]) (st' := [eI (1), eI (4), eI (36)]) rfl rfl rfl ?_
  refine w_s (np := 7) (lv' := [some (eR 98), some (eI (3)), some (eI (1)), some (eI (2)), some (eI (p)), some (eI (q)), some (eI (r)), some (eI (s)), none, none]) (st' := [eI (4), eI (36)]) rfl (b_imul rfl) rfl ?_
  refine w_s (np := 8) (lv' := [some (eR 98), some (eI (3)), some (eI (1)), some (eI (2)), some (eI (p)), some (eI (q)), some (eI (r)), some (eI (s)), none, none]) (st' := [eI (40)]) rfl (b_iadd rfl) rfl ?_
  refine w_s (np := 10) (lv' := [some (eR 98), some (eI (3)), some (eI (1)), some (eI (2)), some (eI (p)), some (eI (q)), some (eI (r)), some (eI (s)), some (eI (40)), none]) (st' := []) rfl rfl rfl ?_
  refine w_s (np := 12) (lv' := [some (eR 98), some (eI (3)), some (eI (1)), some (eI (2)), some (eI (p)), some (eI (q)), some (eI (r)), some (eI (s)), some (eI (40)), none]) (st' := [eI (12)]) rfl rfl rfl ?_
  refine w_s (np := 13) (lv' := [some (eR 98), some (eI (3)), some (eI (1)), some (eI (2)), some (eI (p)), some (eI (q)), some (eI (r)), some (eI (s)), some (eI (40)), none]) (st' := [eI (3), eI (12)]) rfl rfl rfl ?_
  refine w_s (np := 14) (lv' := [some (eR 98), some (eI (3)), some (eI (1)), some (eI (2)), some (eI (p)), some (eI (q)), some (eI (r)), some (eI (s)), some (eI (40)), none]) (st' := [eI (36)]) rfl (b_imul rfl) rfl ?_
  refine w_s (np := 15) (lv' := [some (eR 98), some (eI (3)), some (eI (1)), some (eI (2)), some (eI (p)), some (eI (q)), some (eI (r)), some (eI (s)), some (eI (40)), none]) (st' := [eI (4), eI (36)]) rfl rfl rfl ?_
  refine w_s (np := 16) (lv' := [some (eR 98), some (eI (3)), some (eI (1)), some (eI (2)), some (eI (p)), some (eI (q)), some (eI (r)), some (eI (s)), some (eI (40)), none]) (st' := [eI (2), eI (4), eI (36)]) rfl rfl rfl ?_
  refine w_s (np := 17) (lv' := [some (eR 98), some (eI (3)), some (eI (1)), some (eI (2)), some (eI (p)), some (eI (q)), some (eI (r)), some (eI (s)), some (eI (40)), none]) (st' := [eI (8), eI (36)]) rfl (b_imul rfl) rfl ?_
  refine w_s (np := 18) (lv' := [some (eR 98), some (eI (3)), some (eI (1)), some (eI (2)), some (eI (p)), some (eI (q)), some (eI (r)), some (eI (s)), some (eI (40)), none]) (st' := [eI (44)]) rfl (b_iadd rfl) rfl ?_
  refine w_s (np := 20) (lv' := [some (eR 98), some (eI (3)), some (eI (1)), some (eI (2)), some (eI (p)), some (eI (q)), some (eI (r)), some (eI (s)), some (eI (40)), some (eI (44))]) (st' := []) rfl rfl rfl ?_
  refine w_s (np := 21) (lv' := [some (eR 98), some (eI (3)), some (eI (1)), some (eI (2)), some (eI (p)), some (eI (q)), some (eI (r)), some (eI (s)), some (eI (40)), some (eI (44))]) (st' := [eR 98]) rfl (s_an rfl (by decide)) rfl ?_
  refine w_s (np := 22) (lv' := [some (eR 98), some (eI (3)), some (eI (1)), some (eI (2)), some (eI (p)), some (eI (q)), some (eI (r)), some (eI (s)), some (eI (40)), some (eI (44))]) (st' := [eR 98, eR 98]) rfl (s_an rfl (by decide)) rfl ?_
  refine w_gf (np := 25) (v := eR 100) rfl rfl hq.1 (by rw [hq.2.1]; rfl) ?_
  refine w_s (np := 27) (lv' := [some (eR 98), some (eI (3)), some (eI (1)), some (eI (2)), some (eI (p)), some (eI (q)), some (eI (r)), some (eI (s)), some (eI (40)), some (eI (44))]) (st' := [eI (44), eR 100, eR 98]) rfl rfl rfl ?_
  refine w_al (np := 28) (v := -1) rfl rfl (t_al (k := 44) hq rfl (by decide) rfl) ?_
  refine w_s (np := 29) (lv' := [some (eR 98), some (eI (3)), some (eI (1)), some (eI (2)), some (eI (p)), some (eI (q)), some (eI (r)), some (eI (s)), some (eI (40)), some (eI (44))]) (st' := [eR 98, eI (-1), eR 98]) rfl (s_an rfl (by decide)) rfl ?_
  refine w_gf (np := 32) (v := eR 100) rfl rfl hq.1 (by rw [hq.2.1]; rfl) ?_
  refine w_s (np := 34) (lv' := [some (eR 98), some (eI (3)), some (eI (1)), some (eI (2)), some (eI (p)), some (eI (q)), some (eI (r)), some (eI (s)), some (eI (40)), some (eI (44))]) (st' := [eI (40), eR 100, eI (-1), eR 98]) rfl rfl rfl ?_
  refine w_al (np := 35) (v := 0) rfl rfl (t_al (k := 40) hq rfl (by decide) rfl) ?_
  refine w_s (np := 36) (lv' := [some (eR 98), some (eI (3)), some (eI (1)), some (eI (2)), some (eI (p)), some (eI (q)), some (eI (r)), some (eI (s)), some (eI (40)), some (eI (44))]) (st' := [eI (-1), eR 98]) rfl (b_isub rfl) rfl ?_
  refine w_s (np := 37) (lv' := [some (eR 98), some (eI (3)), some (eI (1)), some (eI (2)), some (eI (p)), some (eI (q)), some (eI (r)), some (eI (s)), some (eI (40)), some (eI (44))]) (st' := [eJ (-1), eR 98]) rfl (b_i2l rfl) rfl ?_
  refine w_s (np := 38) (lv' := [some (eR 98), some (eI (3)), some (eI (1)), some (eI (2)), some (eI (p)), some (eI (q)), some (eI (r)), some (eI (s)), some (eI (40)), some (eI (44))]) (st' := [eR 98, eJ (-1), eR 98]) rfl (s_an rfl (by decide)) rfl ?_
  refine w_gf (np := 41) (v := eR 100) rfl rfl hq.1 (by rw [hq.2.1]; rfl) ?_
  refine w_s (np := 43) (lv' := [some (eR 98), some (eI (3)), some (eI (1)), some (eI (2)), some (eI (p)), some (eI (q)), some (eI (r)), some (eI (s)), some (eI (40)), some (eI (44))]) (st' := [eI (44), eR 100, eJ (-1), eR 98]) rfl rfl rfl ?_
  refine w_s (np := 44) (lv' := [some (eR 98), some (eI (3)), some (eI (1)), some (eI (2)), some (eI (p)), some (eI (q)), some (eI (r)), some (eI (s)), some (eI (40)), some (eI (44))]) (st' := [eI (1), eI (44), eR 100, eJ (-1), eR 98]) rfl rfl rfl ?_
  refine w_s (np := 45) (lv' := [some (eR 98), some (eI (3)), some (eI (1)), some (eI (2)), some (eI (p)), some (eI (q)), some (eI (r)), some (eI (s)), some (eI (40)), some (eI (44))]) (st' := [eI (45), eR 100, eJ (-1), eR 98]) rfl (b_iadd rfl) rfl ?_
  refine w_al (np := 46) (v := 1) rfl rfl (t_al (k := 45) hq rfl (by decide) rfl) ?_
  refine w_s (np := 47) (lv' := [some (eR 98), some (eI (3)), some (eI (1)), some (eI (2)), some (eI (p)), some (eI (q)), some (eI (r)), some (eI (s)), some (eI (40)), some (eI (44))]) (st' := [eR 98, eI (1), eJ (-1), eR 98]) rfl (s_an rfl (by decide)) rfl ?_
  refine w_gf (np := 50) (v := eR 100) rfl rfl hq.1 (by rw [hq.2.1]; rfl) ?_
  refine w_s (np := 52) (lv' := [some (eR 98), some (eI (3)), some (eI (1)), some (eI (2)), some (eI (p)), some (eI (q)), some (eI (r)), some (eI (s)), some (eI (40)), some (eI (44))]) (st' := [eI (40), eR 100, eI (1), eJ (-1), eR 98]) rfl rfl rfl ?_
  refine w_s (np := 53) (lv' := [some (eR 98), some (eI (3)), some (eI (1)), some (eI (2)), some (eI (p)), some (eI (q)), some (eI (r)), some (eI (s)), some (eI (40)), some (eI (44))]) (st' := [eI (1), eI (40), eR 100, eI (1), eJ (-1), eR 98]) rfl rfl rfl ?_
  refine w_s (np := 54) (lv' := [some (eR 98), some (eI (3)), some (eI (1)), some (eI (2)), some (eI (p)), some (eI (q)), some (eI (r)), some (eI (s)), some (eI (40)), some (eI (44))]) (st' := [eI (41), eR 100, eI (1), eJ (-1), eR 98]) rfl (b_iadd rfl) rfl ?_
  refine w_al (np := 55) (v := 0) rfl rfl (t_al (k := 41) hq rfl (by decide) rfl) ?_
  refine w_s (np := 56) (lv' := [some (eR 98), some (eI (3)), some (eI (1)), some (eI (2)), some (eI (p)), some (eI (q)), some (eI (r)), some (eI (s)), some (eI (40)), some (eI (44))]) (st' := [eI (1), eJ (-1), eR 98]) rfl (b_isub rfl) rfl ?_
  refine w_s (np := 57) (lv' := [some (eR 98), some (eI (3)), some (eI (1)), some (eI (2)), some (eI (p)), some (eI (q)), some (eI (r)), some (eI (s)), some (eI (40)), some (eI (44))]) (st' := [eJ (1), eJ (-1), eR 98]) rfl (b_i2l rfl) rfl ?_
  refine w_s (np := 58) (lv' := [some (eR 98), some (eI (3)), some (eI (1)), some (eI (2)), some (eI (p)), some (eI (q)), some (eI (r)), some (eI (s)), some (eI (40)), some (eI (44))]) (st' := [eR 98, eJ (1), eJ (-1), eR 98]) rfl (s_an rfl (by decide)) rfl ?_
  refine w_gf (np := 61) (v := eR 100) rfl rfl hq.1 (by rw [hq.2.1]; rfl) ?_
  refine w_s (np := 63) (lv' := [some (eR 98), some (eI (3)), some (eI (1)), some (eI (2)), some (eI (p)), some (eI (q)), some (eI (r)), some (eI (s)), some (eI (40)), some (eI (44))]) (st' := [eI (44), eR 100, eJ (1), eJ (-1), eR 98]) rfl rfl rfl ?_
  refine w_s (np := 64) (lv' := [some (eR 98), some (eI (3)), some (eI (1)), some (eI (2)), some (eI (p)), some (eI (q)), some (eI (r)), some (eI (s)), some (eI (40)), some (eI (44))]) (st' := [eI (2), eI (44), eR 100, eJ (1), eJ (-1), eR 98]) rfl rfl rfl ?_
  refine w_s (np := 65) (lv' := [some (eR 98), some (eI (3)), some (eI (1)), some (eI (2)), some (eI (p)), some (eI (q)), some (eI (r)), some (eI (s)), some (eI (40)), some (eI (44))]) (st' := [eI (46), eR 100, eJ (1), eJ (-1), eR 98]) rfl (b_iadd rfl) rfl ?_
  refine w_al (np := 66) (v := -1) rfl rfl (t_al (k := 46) hq rfl (by decide) rfl) ?_
  refine w_s (np := 67) (lv' := [some (eR 98), some (eI (3)), some (eI (1)), some (eI (2)), some (eI (p)), some (eI (q)), some (eI (r)), some (eI (s)), some (eI (40)), some (eI (44))]) (st' := [eR 98, eI (-1), eJ (1), eJ (-1), eR 98]) rfl (s_an rfl (by decide)) rfl ?_
  refine w_gf (np := 70) (v := eR 100) rfl rfl hq.1 (by rw [hq.2.1]; rfl) ?_
  refine w_s (np := 72) (lv' := [some (eR 98), some (eI (3)), some (eI (1)), some (eI (2)), some (eI (p)), some (eI (q)), some (eI (r)), some (eI (s)), some (eI (40)), some (eI (44))]) (st' := [eI (40), eR 100, eI (-1), eJ (1), eJ (-1), eR 98]) rfl rfl rfl ?_
  refine w_s (np := 73) (lv' := [some (eR 98), some (eI (3)), some (eI (1)), some (eI (2)), some (eI (p)), some (eI (q)), some (eI (r)), some (eI (s)), some (eI (40)), some (eI (44))]) (st' := [eI (2), eI (40), eR 100, eI (-1), eJ (1), eJ (-1), eR 98]) rfl rfl rfl ?_
  refine w_s (np := 74) (lv' := [some (eR 98), some (eI (3)), some (eI (1)), some (eI (2)), some (eI (p)), some (eI (q)), some (eI (r)), some (eI (s)), some (eI (40)), some (eI (44))]) (st' := [eI (42), eR 100, eI (-1), eJ (1), eJ (-1), eR 98]) rfl (b_iadd rfl) rfl ?_
  refine w_al (np := 75) (v := 0) rfl rfl (t_al (k := 42) hq rfl (by decide) rfl) ?_
  refine w_s (np := 76) (lv' := [some (eR 98), some (eI (3)), some (eI (1)), some (eI (2)), some (eI (p)), some (eI (q)), some (eI (r)), some (eI (s)), some (eI (40)), some (eI (44))]) (st' := [eI (-1), eJ (1), eJ (-1), eR 98]) rfl (b_isub rfl) rfl ?_
  refine w_s (np := 77) (lv' := [some (eR 98), some (eI (3)), some (eI (1)), some (eI (2)), some (eI (p)), some (eI (q)), some (eI (r)), some (eI (s)), some (eI (40)), some (eI (44))]) (st' := [eJ (-1), eJ (1), eJ (-1), eR 98]) rfl (b_i2l rfl) rfl ?_
  refine w_s (np := 78) (lv' := [some (eR 98), some (eI (3)), some (eI (1)), some (eI (2)), some (eI (p)), some (eI (q)), some (eI (r)), some (eI (s)), some (eI (40)), some (eI (44))]) (st' := [eR 98, eJ (-1), eJ (1), eJ (-1), eR 98]) rfl (s_an rfl (by decide)) rfl ?_
  refine w_gf (np := 81) (v := eR 100) rfl rfl hq.1 (by rw [hq.2.1]; rfl) ?_
  refine w_s (np := 83) (lv' := [some (eR 98), some (eI (3)), some (eI (1)), some (eI (2)), some (eI (p)), some (eI (q)), some (eI (r)), some (eI (s)), some (eI (40)), some (eI (44))]) (st' := [eI (44), eR 100, eJ (-1), eJ (1), eJ (-1), eR 98]) rfl rfl rfl ?_
  refine w_s (np := 84) (lv' := [some (eR 98), some (eI (3)), some (eI (1)), some (eI (2)), some (eI (p)), some (eI (q)), some (eI (r)), some (eI (s)), some (eI (40)), some (eI (44))]) (st' := [eI (3), eI (44), eR 100, eJ (-1), eJ (1), eJ (-1), eR 98]) rfl rfl rfl ?_
  refine w_s (np := 85) (lv' := [some (eR 98), some (eI (3)), some (eI (1)), some (eI (2)), some (eI (p)), some (eI (q)), some (eI (r)), some (eI (s)), some (eI (40)), some (eI (44))]) (st' := [eI (47), eR 100, eJ (-1), eJ (1), eJ (-1), eR 98]) rfl (b_iadd rfl) rfl ?_
  refine w_al (np := 86) (v := 1) rfl rfl (t_al (k := 47) hq rfl (by decide) rfl) ?_
  refine w_s (np := 87) (lv' := [some (eR 98), some (eI (3)), some (eI (1)), some (eI (2)), some (eI (p)), some (eI (q)), some (eI (r)), some (eI (s)), some (eI (40)), some (eI (44))]) (st' := [eR 98, eI (1), eJ (-1), eJ (1), eJ (-1), eR 98]) rfl (s_an rfl (by decide)) rfl ?_
  refine w_gf (np := 90) (v := eR 100) rfl rfl hq.1 (by rw [hq.2.1]; rfl) ?_
  refine w_s (np := 92) (lv' := [some (eR 98), some (eI (3)), some (eI (1)), some (eI (2)), some (eI (p)), some (eI (q)), some (eI (r)), some (eI (s)), some (eI (40)), some (eI (44))]) (st' := [eI (40), eR 100, eI (1), eJ (-1), eJ (1), eJ (-1), eR 98]) rfl rfl rfl ?_
  refine w_s (np := 93) (lv' := [some (eR 98), some (eI (3)), some (eI (1)), some (eI (2)), some (eI (p)), some (eI (q)), some (eI (r)), some (eI (s)), some (eI (40)), some (eI (44))]) (st' := [eI (3), eI (40), eR 100, eI (1), eJ (-1), eJ (1), eJ (-1), eR 98]) rfl rfl rfl ?_
  refine w_s (np := 94) (lv' := [some (eR 98), some (eI (3)), some (eI (1)), some (eI (2)), some (eI (p)), some (eI (q)), some (eI (r)), some (eI (s)), some (eI (40)), some (eI (44))]) (st' := [eI (43), eR 100, eI (1), eJ (-1), eJ (1), eJ (-1), eR 98]) rfl (b_iadd rfl) rfl ?_
  refine w_al (np := 95) (v := 1) rfl rfl (t_al (k := 43) hq rfl (by decide) rfl) ?_
  refine w_s (np := 96) (lv' := [some (eR 98), some (eI (3)), some (eI (1)), some (eI (2)), some (eI (p)), some (eI (q)), some (eI (r)), some (eI (s)), some (eI (40)), some (eI (44))]) (st' := [eI (0), eJ (-1), eJ (1), eJ (-1), eR 98]) rfl (b_isub rfl) rfl ?_
  refine w_s (np := 97) (lv' := [some (eR 98), some (eI (3)), some (eI (1)), some (eI (2)), some (eI (p)), some (eI (q)), some (eI (r)), some (eI (s)), some (eI (40)), some (eI (44))]) (st' := [eJ (0), eJ (-1), eJ (1), eJ (-1), eR 98]) rfl (b_i2l rfl) rfl ?_
  refine w_s (np := 99) (lv' := [some (eR 98), some (eI (3)), some (eI (1)), some (eI (2)), some (eI (p)), some (eI (q)), some (eI (r)), some (eI (s)), some (eI (40)), some (eI (44))]) (st' := [eI (p), eJ (0), eJ (-1), eJ (1), eJ (-1), eR 98]) rfl rfl rfl ?_
  refine w_s (np := 100) (lv' := [some (eR 98), some (eI (3)), some (eI (1)), some (eI (2)), some (eI (p)), some (eI (q)), some (eI (r)), some (eI (s)), some (eI (40)), some (eI (44))]) (st' := [eJ (p), eJ (0), eJ (-1), eJ (1), eJ (-1), eR 98]) rfl (b_i2l (ev_w_in (by omega) (by omega))) rfl ?_
  refine w_s (np := 101) (lv' := [some (eR 98), some (eI (3)), some (eI (1)), some (eI (2)), some (eI (p)), some (eI (q)), some (eI (r)), some (eI (s)), some (eI (40)), some (eI (44))]) (st' := [eR 98, eJ (p), eJ (0), eJ (-1), eJ (1), eJ (-1), eR 98]) rfl (s_an rfl (by decide)) rfl ?_
  refine w_gf (np := 104) (v := eR 100) rfl rfl hq.1 (by rw [hq.2.1]; rfl) ?_
  refine w_s (np := 106) (lv' := [some (eR 98), some (eI (3)), some (eI (1)), some (eI (2)), some (eI (p)), some (eI (q)), some (eI (r)), some (eI (s)), some (eI (40)), some (eI (44))]) (st' := [eI (40), eR 100, eJ (p), eJ (0), eJ (-1), eJ (1), eJ (-1), eR 98]) rfl rfl rfl ?_
  refine w_al (np := 107) (v := 0) rfl rfl (t_al (k := 40) hq rfl (by decide) rfl) ?_
  refine w_s (np := 108) (lv' := [some (eR 98), some (eI (3)), some (eI (1)), some (eI (2)), some (eI (p)), some (eI (q)), some (eI (r)), some (eI (s)), some (eI (40)), some (eI (44))]) (st' := [eJ (0), eJ (p), eJ (0), eJ (-1), eJ (1), eJ (-1), eR 98]) rfl (b_i2l rfl) rfl ?_
  obtain ⟨v1, e2⟩ : ∃ v : Int, v = (p) - (0) := ⟨_, rfl⟩
  have b3 : -9999 ≤ v1 ∧ v1 ≤ 9999 := by omega
  refine w_s (np := 109) (lv' := [some (eR 98), some (eI (3)), some (eI (1)), some (eI (2)), some (eI (p)), some (eI (q)), some (eI (r)), some (eI (s)), some (eI (40)), some (eI (44))]) (st' := [eJ (v1), eJ (0), eJ (-1), eJ (1), eJ (-1), eR 98]) rfl (b_lsub (by rw [← e2]; exact ev_W_in (by omega) (by omega))) rfl ?_
  refine w_s (np := 111) (lv' := [some (eR 98), some (eI (3)), some (eI (1)), some (eI (2)), some (eI (p)), some (eI (q)), some (eI (r)), some (eI (s)), some (eI (40)), some (eI (44))]) (st' := [eI (q), eJ (v1), eJ (0), eJ (-1), eJ (1), eJ (-1), eR 98]) rfl rfl rfl ?_
  refine w_s (np := 112) (lv' := [some (eR 98), some (eI (3)), some (eI (1)), some (eI (2)), some (eI (p)), some (eI (q)), some (eI (r)), some (eI (s)), some (eI (40)), some (eI (44))]) (st' := [eJ (q), eJ (v1), eJ (0), eJ (-1), eJ (1), eJ (-1), eR 98]) rfl (b_i2l (ev_w_in (by omega) (by omega))) rfl ?_
  refine w_s (np := 113) (lv' := [some (eR 98), some (eI (3)), some (eI (1)), some (eI (2)), some (eI (p)), some (eI (q)), some (eI (r)), some (eI (s)), some (eI (40)), some (eI (44))]) (st' := [eR 98, eJ (q), eJ (v1), eJ (0), eJ (-1), eJ (1), eJ (-1), eR 98]) rfl (s_an rfl (by decide)) rfl ?_
  refine w_gf (np := 116) (v := eR 100) rfl rfl hq.1 (by rw [hq.2.1]; rfl) ?_
  refine w_s (np := 118) (lv' := [some (eR 98), some (eI (3)), some (eI (1)), some (eI (2)), some (eI (p)), some (eI (q)), some (eI (r)), some (eI (s)), some (eI (40)), some (eI (44))]) (st' := [eI (40), eR 100, eJ (q), eJ (v1), eJ (0), eJ (-1), eJ (1), eJ (-1), eR 98]) rfl rfl rfl ?_
  refine w_s (np := 119) (lv' := [some (eR 98), some (eI (3)), some (eI (1)), some (eI (2)), some (eI (p)), some (eI (q)), some (eI (r)), some (eI (s)), some (eI (40)), some (eI (44))]) (st' := [eI (1), eI (40), eR 100, eJ (q), eJ (v1), eJ (0), eJ (-1), eJ (1), eJ (-1), eR 98]) rfl rfl rfl ?_
  refine w_s (np := 120) (lv' := [some (eR 98), some (eI (3)), some (eI (1)), some (eI (2)), some (eI (p)), some (eI (q)), some (eI (r)), some (eI (s)), some (eI (40)), some (eI (44))]) (st' := [eI (41), eR 100, eJ (q), eJ (v1), eJ (0), eJ (-1), eJ (1), eJ (-1), eR 98]) rfl (b_iadd rfl) rfl ?_
  refine w_al (np := 121) (v := 0) rfl rfl (t_al (k := 41) hq rfl (by decide) rfl) ?_
  refine w_s (np := 122) (lv' := [some (eR 98), some (eI (3)), some (eI (1)), some (eI (2)), some (eI (p)), some (eI (q)), some (eI (r)), some (eI (s)), some (eI (40)), some (eI (44))]) (st' := [eJ (0), eJ (q), eJ (v1), eJ (0), eJ (-1), eJ (1), eJ (-1), eR 98]) rfl (b_i2l rfl) rfl ?_
  obtain ⟨v4, e5⟩ : ∃ v : Int, v = (q) - (0) := ⟨_, rfl⟩
  have b6 : -9999 ≤ v4 ∧ v4 ≤ 9999 := by omega
  refine w_s (np := 123) (lv' := [some (eR 98), some (eI (3)), some (eI (1)), some (eI (2)), some (eI (p)), some (eI (q)), some (eI (r)), some (eI (s)), some (eI (40)), some (eI (44))]) (st' := [eJ (v4), eJ (v1), eJ (0), eJ (-1), eJ (1), eJ (-1), eR 98]) rfl (b_lsub (by rw [← e5]; exact ev_W_in (by omega) (by omega))) rfl ?_
  refine w_s (np := 125) (lv' := [some (eR 98), some (eI (3)), some (eI (1)), some (eI (2)), some (eI (p)), some (eI (q)), some (eI (r)), some (eI (s)), some (eI (40)), some (eI (44))]) (st' := [eI (r), eJ (v4), eJ (v1), eJ (0), eJ (-1), eJ (1), eJ (-1), eR 98]) rfl rfl rfl ?_
  refine w_s (np := 126) (lv' := [some (eR 98), some (eI (3)), some (eI (1)), some (eI (2)), some (eI (p)), some (eI (q)), some (eI (r)), some (eI (s)), some (eI (40)), some (eI (44))]) (st' := [eJ (r), eJ (v4), eJ (v1), eJ (0), eJ (-1), eJ (1), eJ (-1), eR 98]) rfl (b_i2l (ev_w_in (by omega) (by omega))) rfl ?_
  refine w_s (np := 127) (lv' := [some (eR 98), some (eI (3)), some (eI (1)), some (eI (2)), some (eI (p)), some (eI (q)), some (eI (r)), some (eI (s)), some (eI (40)), some (eI (44))]) (st' := [eR 98, eJ (r), eJ (v4), eJ (v1), eJ (0), eJ (-1), eJ (1), eJ (-1), eR 98]) rfl (s_an rfl (by decide)) rfl ?_
  refine w_gf (np := 130) (v := eR 100) rfl rfl hq.1 (by rw [hq.2.1]; rfl) ?_
  refine w_s (np := 132) (lv' := [some (eR 98), some (eI (3)), some (eI (1)), some (eI (2)), some (eI (p)), some (eI (q)), some (eI (r)), some (eI (s)), some (eI (40)), some (eI (44))]) (st' := [eI (40), eR 100, eJ (r), eJ (v4), eJ (v1), eJ (0), eJ (-1), eJ (1), eJ (-1), eR 98]) rfl rfl rfl ?_
  refine w_s (np := 133) (lv' := [some (eR 98), some (eI (3)), some (eI (1)), some (eI (2)), some (eI (p)), some (eI (q)), some (eI (r)), some (eI (s)), some (eI (40)), some (eI (44))]) (st' := [eI (2), eI (40), eR 100, eJ (r), eJ (v4), eJ (v1), eJ (0), eJ (-1), eJ (1), eJ (-1), eR 98]) rfl rfl rfl ?_
  refine w_s (np := 134) (lv' := [some (eR 98), some (eI (3)), some (eI (1)), some (eI (2)), some (eI (p)), some (eI (q)), some (eI (r)), some (eI (s)), some (eI (40)), some (eI (44))]) (st' := [eI (42), eR 100, eJ (r), eJ (v4), eJ (v1), eJ (0), eJ (-1), eJ (1), eJ (-1), eR 98]) rfl (b_iadd rfl) rfl ?_
  refine w_al (np := 135) (v := 0) rfl rfl (t_al (k := 42) hq rfl (by decide) rfl) ?_
  refine w_s (np := 136) (lv' := [some (eR 98), some (eI (3)), some (eI (1)), some (eI (2)), some (eI (p)), some (eI (q)), some (eI (r)), some (eI (s)), some (eI (40)), some (eI (44))]) (st' := [eJ (0), eJ (r), eJ (v4), eJ (v1), eJ (0), eJ (-1), eJ (1), eJ (-1), eR 98]) rfl (b_i2l rfl) rfl ?_
  obtain ⟨v7, e8⟩ : ∃ v : Int, v = (r) - (0) := ⟨_, rfl⟩
  have b9 : -9999 ≤ v7 ∧ v7 ≤ 9999 := by omega
  refine w_s (np := 137) (lv' := [some (eR 98), some (eI (3)), some (eI (1)), some (eI (2)), some (eI (p)), some (eI (q)), some (eI (r)), some (eI (s)), some (eI (40)), some (eI (44))]) (st' := [eJ (v7), eJ (v4), eJ (v1), eJ (0), eJ (-1), eJ (1), eJ (-1), eR 98]) rfl (b_lsub (by rw [← e8]; exact ev_W_in (by omega) (by omega))) rfl ?_
  refine w_s (np := 139) (lv' := [some (eR 98), some (eI (3)), some (eI (1)), some (eI (2)), some (eI (p)), some (eI (q)), some (eI (r)), some (eI (s)), some (eI (40)), some (eI (44))]) (st' := [eI (s), eJ (v7), eJ (v4), eJ (v1), eJ (0), eJ (-1), eJ (1), eJ (-1), eR 98]) rfl rfl rfl ?_
  refine w_s (np := 140) (lv' := [some (eR 98), some (eI (3)), some (eI (1)), some (eI (2)), some (eI (p)), some (eI (q)), some (eI (r)), some (eI (s)), some (eI (40)), some (eI (44))]) (st' := [eJ (s), eJ (v7), eJ (v4), eJ (v1), eJ (0), eJ (-1), eJ (1), eJ (-1), eR 98]) rfl (b_i2l (ev_w_in (by omega) (by omega))) rfl ?_
  refine w_s (np := 141) (lv' := [some (eR 98), some (eI (3)), some (eI (1)), some (eI (2)), some (eI (p)), some (eI (q)), some (eI (r)), some (eI (s)), some (eI (40)), some (eI (44))]) (st' := [eR 98, eJ (s), eJ (v7), eJ (v4), eJ (v1), eJ (0), eJ (-1), eJ (1), eJ (-1), eR 98]) rfl (s_an rfl (by decide)) rfl ?_
  refine w_gf (np := 144) (v := eR 100) rfl rfl hq.1 (by rw [hq.2.1]; rfl) ?_
  refine w_s (np := 146) (lv' := [some (eR 98), some (eI (3)), some (eI (1)), some (eI (2)), some (eI (p)), some (eI (q)), some (eI (r)), some (eI (s)), some (eI (40)), some (eI (44))]) (st' := [eI (40), eR 100, eJ (s), eJ (v7), eJ (v4), eJ (v1), eJ (0), eJ (-1), eJ (1), eJ (-1), eR 98]) rfl rfl rfl ?_
  refine w_s (np := 147) (lv' := [some (eR 98), some (eI (3)), some (eI (1)), some (eI (2)), some (eI (p)), some (eI (q)), some (eI (r)), some (eI (s)), some (eI (40)), some (eI (44))]) (st' := [eI (3), eI (40), eR 100, eJ (s), eJ (v7), eJ (v4), eJ (v1), eJ (0), eJ (-1), eJ (1), eJ (-1), eR 98]) rfl rfl rfl ?_
  refine w_s (np := 148) (lv' := [some (eR 98), some (eI (3)), some (eI (1)), some (eI (2)), some (eI (p)), some (eI (q)), some (eI (r)), some (eI (s)), some (eI (40)), some (eI (44))]) (st' := [eI (43), eR 100, eJ (s), eJ (v7), eJ (v4), eJ (v1), eJ (0), eJ (-1), eJ (1), eJ (-1), eR 98]) rfl (b_iadd rfl) rfl ?_
  refine w_al (np := 149) (v := 1) rfl rfl (t_al (k := 43) hq rfl (by decide) rfl) ?_
  refine w_s (np := 150) (lv' := [some (eR 98), some (eI (3)), some (eI (1)), some (eI (2)), some (eI (p)), some (eI (q)), some (eI (r)), some (eI (s)), some (eI (40)), some (eI (44))]) (st' := [eJ (1), eJ (s), eJ (v7), eJ (v4), eJ (v1), eJ (0), eJ (-1), eJ (1), eJ (-1), eR 98]) rfl (b_i2l rfl) rfl ?_
  obtain ⟨v10, e11⟩ : ∃ v : Int, v = (s) - (1) := ⟨_, rfl⟩
  have b12 : -10000 ≤ v10 ∧ v10 ≤ 9998 := by omega
  refine w_s (np := 151) (lv' := [some (eR 98), some (eI (3)), some (eI (1)), some (eI (2)), some (eI (p)), some (eI (q)), some (eI (r)), some (eI (s)), some (eI (40)), some (eI (44))]) (st' := [eJ (v10), eJ (v7), eJ (v4), eJ (v1), eJ (0), eJ (-1), eJ (1), eJ (-1), eR 98]) rfl (b_lsub (by rw [← e11]; exact ev_W_in (by omega) (by omega))) rfl ?_
  refine w_cv (np := 154) (as := [eJ (-1), eJ (1), eJ (-1), eJ (0), eJ (v1), eJ (v4), eJ (v7), eJ (v10)]) (lv' := [some (eR 98), some (eJ (-1)), none, some (eJ (1)), none, some (eJ (-1)), none, some (eJ (0)), none, some (eJ (v1)), none, some (eJ (v4)), none, some (eJ (v7)), none, some (eJ (v10)), none]) (rest := []) rfl rfl rfl (Nat.ble_eq.mp rfl) rfl rfl rfl hq.1 rfl ?_
  refine t224 hq.1 (show (-8 : Int) ≤ -1 ∧ (-1 : Int) ≤ 8 by omega) (show (-8 : Int) ≤ 1 ∧ (1 : Int) ≤ 8 by omega) (show (-8 : Int) ≤ -1 ∧ (-1 : Int) ≤ 8 by omega) (show (-8 : Int) ≤ 0 ∧ (0 : Int) ≤ 8 by omega) (show (-100000 : Int) ≤ v1 ∧ (v1 : Int) ≤ 100000 by omega) (show (-100000 : Int) ≤ v4 ∧ (v4 : Int) ≤ 100000 by omega) (show (-100000 : Int) ≤ v7 ∧ (v7 : Int) ≤ 100000 by omega) (show (-100000 : Int) ≤ v10 ∧ (v10 : Int) ≤ 100000 by omega) ?_
  intro m B G s1 eB eG bB bG
  show ex_fine fg rc rs (d + 4, (265, 154, [some (eR 98), some (eI (3)), some (eI (1)), some (eI (2)), some (eI (p)), some (eI (q)), some (eI (r)), some (eI (s)), some (eI (40)), some (eI (44))], [eI (rSg (2 * B + G) G)]), f :: F, m)
  refine b_ri rfl rfl ?_
  have hB : B = (-1) * p + 1 * r + (-1) * s + (1) := by omega
  have hG : G = 1 * p + (-1) * r := by omega
  have hr := rSg_ok (x := 2 * B + G) (b := G) (by omega)
  have e9 : 416020 * (2 * B + G) + 930249 * G = 514229 * p + (-514229) * r + (-832040) * s + (832040) := by omega
  rw [e9] at hr
  exact K m _ s1 hr (rSg_v _ _)
theorem t265_3_2 {fg : eG} {rc rs d : Nat} {f : eFr} {F : List eFr} {μ : eM} {p q r s : Int} (hq : tQ μ) (hp : -9999 ≤ p ∧ p ≤ 9999) (hq0 : -9999 ≤ q ∧ q ≤ 9999) (hr : -9999 ≤ r ∧ r ≤ 9999) (hs : -9999 ≤ s ∧ s ≤ 9999) (K : ∀ (μ2 : eM) (u : Int), tS μ μ2 → ((0 ≤ u ↔ 0 ≤ 832040 * p + 1346269 * q + 1346269 * r + 832040 * s) ∧ (u ≤ 0 ↔ 832040 * p + 1346269 * q + 1346269 * r + 832040 * s ≤ 0)) → (u = 0 ∨ u = 1 ∨ u = -1) → ex_fine fg rc rs (d + 5, (f.1, f.2.1, f.2.2.1, eI u :: f.2.2.2), F, μ2)) : ex_fine fg rc rs (d + 4, (265, 0, [some (eR 98), some (eI (3)), some (eI (2)), some (eI (0)), some (eI (p)), some (eI (q)), some (eI (r)), some (eI (s)), none, none], []), f :: F, μ) := by
  refine w_s (np := 2) (lv' := [some (eR 98), some (eI (3)), some (eI (2)), some (eI (0)), some (eI (p)), some (eI (q)), some (eI (r)), some (eI (s)), none, none]) (st' := [eI (12)]) rfl rfl rfl ?_
  refine w_s (np := 3) (lv' := [some (eR 98), some (eI (3)), some (eI (2)), some (eI (0)), some (eI (p)), some (eI (q)), some (eI (r)), some (eI (s)), none, none]) (st' := [eI (3), eI (12)]) rfl rfl rfl ?_
  refine w_s (np := 4) (lv' := [some (eR 98), some (eI (3)), some (eI (2)), some (eI (0)), some (eI (p)), some (eI (q)), some (eI (r)), some (eI (s)), none, none]) (st' := [eI (36)]) rfl (b_imul rfl) rfl ?_
  refine w_s (np := 5) (lv' := [some (eR 98), some (eI (3)), some (eI (2)), some (eI (0)), some (eI (p)), some (eI (q)), some (eI (r)), some (eI (s)), none, none]) (st' := [eI (4), eI (36)]) rfl rfl rfl ?_
  refine w_s (np := 6) (lv' := [some (eR 98), some (eI (3)), some (eI (2)), some (eI (0)), some (eI (p)), some (eI (q)), some (eI (r)), some (eI (s)), none, none]) (st' := [eI (2), eI (4), eI (36)]) rfl rfl rfl ?_
  refine w_s (np := 7) (lv' := [some (eR 98), some (eI (3)), some (eI (2)), some (eI (0)), some (eI (p)), some (eI (q)), some (eI (r)), some (eI (s)), none, none]) (st' := [eI (8), eI (36)]) rfl (b_imul rfl) rfl ?_
  refine w_s (np := 8) (lv' := [some (eR 98), some (eI (3)), some (eI (2)), some (eI (0)), some (eI (p)), some (eI (q)), some (eI (r)), some (eI (s)), none, none]) (st' := [eI (44)]) rfl (b_iadd rfl) rfl ?_
  refine w_s (np := 10) (lv' := [some (eR 98), some (eI (3)), some (eI (2)), some (eI (0)), some (eI (p)), some (eI (q)), some (eI (r)), some (eI (s)), some (eI (44)), none]) (st' := []) rfl rfl rfl ?_
  refine w_s (np := 12) (lv' := [some (eR 98), some (eI (3)), some (eI (2)), some (eI (0)), some (eI (p)), some (eI (q)), some (eI (r)), some (eI (s)), some (eI (44)), none]) (st' := [eI (12)]) rfl rfl rfl ?_
  refine w_s (np := 13) (lv' := [some (eR 98), some (eI (3)), some (eI (2)), some (eI (0)), some (eI (p)), some (eI (q)), some (eI (r)), some (eI (s)), some (eI (44)), none]) (st' := [eI (3), eI (12)]) rfl rfl rfl ?_
  refine w_s (np := 14) (lv' := [some (eR 98), some (eI (3)), some (eI (2)), some (eI (0)), some (eI (p)), some (eI (q)), some (eI (r)), some (eI (s)), some (eI (44)), none]) (st' := [eI (36)]) rfl (b_imul rfl) rfl ?_
  refine w_s (np := 15) (lv' := [some (eR 98), some (eI (3)), some (eI (2)), some (eI (0)), some (eI (p)), some (eI (q)), some (eI (r)), some (eI (s)), some (eI (44)), none]) (st' := [eI (4), eI (36)]) rfl rfl rfl ?_
  refine w_s (np := 16) (lv' := [some (eR 98), some (eI (3)), some (eI (2)), some (eI (0)), some (eI (p)), some (eI (q)), some (eI (r)), some (eI (s)), some (eI (44)), none]) (st' := [eI (0), eI (4), eI (36)]) rfl rfl rfl ?_
  refine w_s (np := 17) (lv' := [some (eR 98), some (eI (3)), some (eI (2)), some (eI (0)), some (eI (p)), some (eI (q)), some (eI (r)), some (eI (s)), some (eI (44)), none]) (st' := [eI (0), eI (36)]) rfl (b_imul rfl) rfl ?_
  refine w_s (np := 18) (lv' := [some (eR 98), some (eI (3)), some (eI (2)), some (eI (0)), some (eI (p)), some (eI (q)), some (eI (r)), some (eI (s)), some (eI (44)), none]) (st' := [eI (36)]) rfl (b_iadd rfl) rfl ?_
  refine w_s (np := 20) (lv' := [some (eR 98), some (eI (3)), some (eI (2)), some (eI (0)), some (eI (p)), some (eI (q)), some (eI (r)), some (eI (s)), some (eI (44)), some (eI (36))]) (st' := []) rfl rfl rfl ?_
  refine w_s (np := 21) (lv' := [some (eR 98), some (eI (3)), some (eI (2)), some (eI (0)), some (eI (p)), some (eI (q)), some (eI (r)), some (eI (s)), some (eI (44)), some (eI (36))]) (st' := [eR 98]) rfl (s_an rfl (by decide)) rfl ?_
  refine w_s (np := 22) (lv' := [some (eR 98), some (eI (3)), some (eI (2)), some (eI (0)), some (eI (p)), some (eI (q)), some (eI (r)), some (eI (s)), some (eI (44)), some (eI (36))]) (st' := [eR 98, eR 98]) rfl (s_an rfl (by decide)) rfl ?_
  refine w_gf (np := 25) (v := eR 100) rfl rfl hq.1 (by rw [hq.2.1]; rfl) ?_
  refine w_s (np := 27) (lv' := [some (eR 98), some (eI (3)), some (eI (2)), some (eI (0)), some (eI (p)), some (eI (q)), some (eI (r)), some (eI (s)), some (eI (44)), some (eI (36))]) (st' := [eI (36), eR 100, eR 98]) rfl rfl rfl ?_
  refine w_al (np := 28) (v := 0) rfl rfl (t_al (k := 36) hq rfl (by decide) rfl) ?_
  refine w_s (np := 29) (lv' := [some (eR 98), some (eI (3)), some (eI (2)), some (eI (0)), some (eI (p)), some (eI (q)), some (eI (r)), some (eI (s)), some (eI (44)), some (eI (36))]) (st' := [eR 98, eI (0), eR 98]) rfl (s_an rfl (by decide)) rfl ?_
  refine w_gf (np := 32) (v := eR 100) rfl rfl hq.1 (by rw [hq.2.1]; rfl) ?_
  refine w_s (np := 34) (lv' := [some (eR 98), some (eI (3)), some (eI (2)), some (eI (0)), some (eI (p)), some (eI (q)), some (eI (r)), some (eI (s)), some (eI (44)), some (eI (36))]) (st' := [eI (44), eR 100, eI (0), eR 98]) rfl rfl rfl ?_
  refine w_al (np := 35) (v := -1) rfl rfl (t_al (k := 44) hq rfl (by decide) rfl) ?_
  refine w_s (np := 36) (lv' := [some (eR 98), some (eI (3)), some (eI (2)), some (eI (0)), some (eI (p)), some (eI (q)), some (eI (r)), some (eI (s)), some (eI (44)), some (eI (36))]) (st' := [eI (1), eR 98]) rfl (b_isub rfl) rfl ?_
  refine w_s (np := 37) (lv' := [some (eR 98), some (eI (3)), some (eI (2)), some (eI (0)), some (eI (p)), some (eI (q)), some (eI (r)), some (eI (s)), some (eI (44)), some (eI (36))]) (st' := [eJ (1), eR 98]) rfl (b_i2l rfl) rfl ?_
  refine w_s (np := 38) (lv' := [some (eR 98), some (eI (3)), some (eI (2)), some (eI (0)), some (eI (p)), some (eI (q)), some (eI (r)), some (eI (s)), some (eI (44)), some (eI (36))]) (st' := [eR 98, eJ (1), eR 98]) rfl (s_an rfl (by decide)) rfl ?_
  refine w_gf (np := 41) (v := eR 100) rfl rfl hq.1 (by rw [hq.2.1]; rfl) ?_
  refine w_s (np := 43) (lv' := [some (eR 98), some (eI (3)), some (eI (2)), some (eI (0)), some (eI (p)), some (eI (q)), some (eI (r)), some (eI (s)), some (eI (44)), some (eI (36))]) (st' := [eI (36), eR 100, eJ (1), eR 98]) rfl rfl rfl ?_
  refine w_s (np := 44) (lv' := [some (eR 98), some (eI (3)), some (eI (2)), some (eI (0)), some (eI (p)), some (eI (q)), some (eI (r)), some (eI (s)), some (eI (44)), some (eI (36))]) (st' := [eI (1), eI (36), eR 100, eJ (1), eR 98]) rfl rfl rfl ?_
  refine w_s (np := 45) (lv' := [some (eR 98), some (eI (3)), some (eI (2)), some (eI (0)), some (eI (p)), some (eI (q)), some (eI (r)), some (eI (s)), some (eI (44)), some (eI (36))]) (st' := [eI (37), eR 100, eJ (1), eR 98]) rfl (b_iadd rfl) rfl ?_
  refine w_al (np := 46) (v := 0) rfl rfl (t_al (k := 37) hq rfl (by decide) rfl) ?_
  refine w_s (np := 47) (lv' := [some (eR 98), some (eI (3)), some (eI (2)), some (eI (0)), some (eI (p)), some (eI (q)), some (eI (r)), some (eI (s)), some (eI (44)), some (eI (36))]) (st' := [eR 98, eI (0), eJ (1), eR 98]) rfl (s_an rfl (by decide)) rfl ?_
  refine w_gf (np := 50) (v := eR 100) rfl rfl hq.1 (by rw [hq.2.1]; rfl) ?_
  refine w_s (np := 52) (lv' := [some (eR 98), some (eI (3)), some (eI (2)), some (eI (0)), some (eI (p)), some (eI (q)), some (eI (r)), some (eI (s)), some (eI (44)), some (eI (36))]) (st' := [eI (44), eR 100, eI (0), eJ (1), eR 98]) rfl rfl rfl ?_
  refine w_s (np := 53) (lv' := [some (eR 98), some (eI (3)), some (eI (2)), some (eI (0)), some (eI (p)), some (eI (q)), some (eI (r)), some (eI (s)), some (eI (44)), some (eI (36))]) (st' := [eI (1), eI (44), eR 100, eI (0), eJ (1), eR 98]) rfl rfl rfl ?_
  refine w_s (np := 54) (lv' := [some (eR 98), some (eI (3)), some (eI (2)), some (eI (0)), some (eI (p)), some (eI (q)), some (eI (r)), some (eI (s)), some (eI (44)), some (eI (36))]) (st' := [eI (45), eR 100, eI (0), eJ (1), eR 98]) rfl (b_iadd rfl) rfl ?_
  refine w_al (np := 55) (v := 1) rfl rfl (t_al (k := 45) hq rfl (by decide) rfl) ?_
  refine w_s (np := 56) (lv' := [some (eR 98), some (eI (3)), some (eI (2)), some (eI (0)), some (eI (p)), some (eI (q)), some (eI (r)), some (eI (s)), some (eI (44)), some (eI (36))]) (st' := [eI (-1), eJ (1), eR 98]) rfl (b_isub rfl) rfl ?_
  refine w_s (np := 57) (lv' := [some (eR 98), some (eI (3)), some (eI (2)), some (eI (0)), some (eI (p)), some (eI (q)), some (eI (r)), some (eI (s)), some (eI (44)), some (eI (36))]) (st' := [eJ (-1), eJ (1), eR 98]) rfl (b_i2l rfl) rfl ?_
  refine w_s (np := 58) (lv' := [some (eR 98), some (eI (3)), some (eI (2)), some (eI (0)), some (eI (p)), some (eI (q)), some (eI (r)), some (eI (s)), some (eI (44)), some (eI (36))]) (st' := [eR 98, eJ (-1), eJ (1), eR 98]) rfl (s_an rfl (by decide)) rfl ?_
  refine w_gf (np := 61) (v := eR 100) rfl rfl hq.1 (by rw [hq.2.1]; rfl) ?_
  refine w_s (np := 63) (lv' := [some (eR 98), some (eI (3)), some (eI (2)), some (eI (0)), some (eI (p)), some (eI (q)), some (eI (r)), some (eI (s)), some (eI (44)), some (eI (36))]) (st' := [eI (36), eR 100, eJ (-1), eJ (1), eR 98]) rfl rfl rfl ?_
  refine w_s (np := 64) (lv' := [some (eR 98), some (eI (3)), some (eI (2)), some (eI (0)), some (eI (p)), some (eI (q)), some (eI (r)), some (eI (s)), some (eI (44)), some (eI (36))]) (st' := [eI (2), eI (36), eR 100, eJ (-1), eJ (1), eR 98]) rfl rfl rfl ?_
  refine w_s (np := 65) (lv' := [some (eR 98), some (eI (3)), some (eI (2)), some (eI (0)), some (eI (p)), some (eI (q)), some (eI (r)), some (eI (s)), some (eI (44)), some (eI (36))]) (st' := [eI (38), eR 100, eJ (-1), eJ (1), eR 98]) rfl (b_iadd rfl) rfl ?_
  refine w_al (np := 66) (v := 0) rfl rfl (t_al (k := 38) hq rfl (by decide) rfl) ?_
  refine w_s (np := 67) (lv' := [some (eR 98), some (eI (3)), some (eI (2)), some (eI (0)), some (eI (p)), some (eI (q)), some (eI (r)), some (eI (s)), some (eI (44)), some (eI (36))]) (st' := [eR 98, eI (0), eJ (-1), eJ (1), eR 98]) rfl (s_an rfl (by decide)) rfl ?_
  refine w_gf (np := 70) (v := eR 100) rfl rfl hq.1 (by rw [hq.2.1]; rfl) ?_
  refine w_s (np := 72) (lv' := [some (eR 98), some (eI (3)), some (eI (2)), some (eI (0)), some (eI (p)), some (eI (q)), some (eI (r)), some (eI (s)), some (eI (44)), some (eI (36))]) (st' := [eI (44), eR 100, eI (0), eJ (-1), eJ (1), eR 98]) rfl rfl rfl ?_
  refine w_s (np := 73) (lv' := [some (eR 98), some (eI (3)), some (eI (2)), some (eI (0)), some (eI (p)), some (eI (q)), some (eI (r)), some (eI (s)), some (eI (44)), some (eI (36))]) (st' := [eI (2), eI (44), eR 100, eI (0), eJ (-1), eJ (1), eR 98]) rfl rfl rfl ?_
  refine w_s (np := 74) (lv' := [some (eR 98), some (eI (3)), some (eI (2)), some (eI (0)), some (eI (p)), some (eI (q)), some (eI (r)), some (eI (s)), some (eI (44)), some (eI (36))]) (st' := [eI (46), eR 100, eI (0), eJ (-1), eJ (1), eR 98]) rfl (b_iadd rfl) rfl ?_
  refine w_al (np := 75) (v := -1) rfl rfl (t_al (k := 46) hq rfl (by decide) rfl) ?_
  refine w_s (np := 76) (lv' := [some (eR 98), some (eI (3)), some (eI (2)), some (eI (0)), some (eI (p)), some (eI (q)), some (eI (r)), some (eI (s)), some (eI (44)), some (eI (36))]) (st' := [eI (1), eJ (-1), eJ (1), eR 98]) rfl (b_isub rfl) rfl ?_
  refine w_s (np := 77) (lv' := [some (eR 98), some (eI (3)), some (eI (2)), some (eI (0)), some (eI (p)), some (eI (q)), some (eI (r)), some (eI (s)), some (eI (44)), some (eI (36))]) (st' := [eJ (1), eJ (-1), eJ (1), eR 98]) rfl (b_i2l rfl) rfl ?_
  refine w_s (np := 78) (lv' := [some (eR 98), some (eI (3)), some (eI (2)), some (eI (0)), some (eI (p)), some (eI (q)), some (eI (r)), some (eI (s)), some (eI (44)), some (eI (36))]) (st' := [eR 98, eJ (1), eJ (-1), eJ (1), eR 98]) rfl (s_an rfl (by decide)) rfl ?_
  refine w_gf (np := 81) (v := eR 100) rfl rfl hq.1 (by rw [hq.2.1]; rfl) ?_
  refine w_s (np := 83) (lv' := [some (eR 98), some (eI (3)), some (eI (2)), some (eI (0)), some (eI (p)), some (eI (q)), some (eI (r)), some (eI (s)), some (eI (44)), some (eI (36))]) (st' := [eI (36), eR 100, eJ (1), eJ (-1), eJ (1), eR 98]) rfl rfl rfl ?_
  refine w_s (np := 84) (lv' := [some (eR 98), some (eI (3)), some (eI (2)), some (eI (0)), some (eI (p)), some (eI (q)), some (eI (r)), some (eI (s)), some (eI (44)), some (eI (36))]) (st' := [eI (3), eI (36), eR 100, eJ (1), eJ (-1), eJ (1), eR 98]) rfl rfl rfl ?_
  refine w_s (np := 85) (lv' := [some (eR 98), some (eI (3)), some (eI (2)), some (eI (0)), some (eI (p)), some (eI (q)), some (eI (r)), some (eI (s)), some (eI (44)), some (eI (36))]) (st' := [eI (39), eR 100, eJ (1), eJ (-1), eJ (1), eR 98]) rfl (b_iadd rfl) rfl ?_
  refine w_al (np := 86) (v := 0) rfl rfl (t_al (k := 39) hq rfl (by decide) rfl) ?_
  refine w_s (np := 87) (lv' := [some (eR 98), some (eI (3)), some (eI (2)), some (eI (0)), some (eI (p)), some (eI (q)), some (eI (r)), some (eI (s)), some (eI (44)), some (eI (36))]) (st' := [eR 98, eI (0), eJ (1), eJ (-1), eJ (1), eR 98]) rfl (s_an rfl (by decide)) rfl ?_
  refine w_gf (np := 90) (v := eR 100) rfl rfl hq.1 (by rw [hq.2.1]; rfl) ?_
  refine w_s (np := 92) (lv' := [some (eR 98), some (eI (3)), some (eI (2)), some (eI (0)), some (eI (p)), some (eI (q)), some (eI (r)), some (eI (s)), some (eI (44)), some (eI (36))]) (st' := [eI (44), eR 100, eI (0), eJ (1), eJ (-1), eJ (1), eR 98]) rfl rfl rfl ?_
  refine w_s (np := 93) (lv' := [some (eR 98), some (eI (3)), some (eI (2)), some (eI (0)), some (eI (p)), some (eI (q)), some (eI (r)), some (eI (s)), some (eI (44)), some (eI (36))]) (st' := [eI (3), eI (44), eR 100, eI (0), eJ (1), eJ (-1), eJ (1), eR 98]) rfl rfl rfl ?_
  refine w_s (np := 94) (lv' := [some (eR 98), some (eI (3)), some (eI (2)), some (eI (0)), some (eI (p)), some (eI (q)), some (eI (r)), some (eI (s)), some (eI (44)), some (eI (36))]) (st' := [eI (47), eR 100, eI (0), eJ (1), eJ (-1), eJ (1), eR 98]) rfl (b_iadd rfl) rfl ?_
  refine w_al (np := 95) (v := 1) rfl rfl (t_al (k := 47) hq rfl (by decide) rfl) ?_
  refine w_s (np := 96) (lv' := [some (eR 98), some (eI (3)), some (eI (2)), some (eI (0)), some (eI (p)), some (eI (q)), some (eI (r)), some (eI (s)), some (eI (44)), some (eI (36))]) (st' := [eI (-1), eJ (1), eJ (-1), eJ (1), eR 98]) rfl (b_isub rfl) rfl ?_
  refine w_s (np := 97) (lv' := [some (eR 98), some (eI (3)), some (eI (2)), some (eI (0)), some (eI (p)), some (eI (q)), some (eI (r)), some (eI (s)), some (eI (44)), some (eI (36))]) (st' := [eJ (-1), eJ (1), eJ (-1), eJ (1), eR 98]) rfl (b_i2l rfl) rfl ?_
  refine w_s (np := 99) (lv' := [some (eR 98), some (eI (3)), some (eI (2)), some (eI (0)), some (eI (p)), some (eI (q)), some (eI (r)), some (eI (s)), some (eI (44)), some (eI (36))]) (st' := [eI (p), eJ (-1), eJ (1), eJ (-1), eJ (1), eR 98]) rfl rfl rfl ?_
  refine w_s (np := 100) (lv' := [some (eR 98), some (eI (3)), some (eI (2)), some (eI (0)), some (eI (p)), some (eI (q)), some (eI (r)), some (eI (s)), some (eI (44)), some (eI (36))]) (st' := [eJ (p), eJ (-1), eJ (1), eJ (-1), eJ (1), eR 98]) rfl (b_i2l (ev_w_in (by omega) (by omega))) rfl ?_
  refine w_s (np := 101) (lv' := [some (eR 98), some (eI (3)), some (eI (2)), some (eI (0)), some (eI (p)), some (eI (q)), some (eI (r)), some (eI (s)), some (eI (44)), some (eI (36))]) (st' := [eR 98, eJ (p), eJ (-1), eJ (1), eJ (-1), eJ (1), eR 98]) rfl (s_an rfl (by decide)) rfl ?_
  refine w_gf (np := 104) (v := eR 100) rfl rfl hq.1 (by rw [hq.2.1]; rfl) ?_
  refine w_s (np := 106) (lv' := [some (eR 98), some (eI (3)), some (eI (2)), some (eI (0)), some (eI (p)), some (eI (q)), some (eI (r)), some (eI (s)), some (eI (44)), some (eI (36))]) (st' := [eI (44), eR 100, eJ (p), eJ (-1), eJ (1), eJ (-1), eJ (1), eR 98]) rfl rfl rfl ?_
  refine w_al (np := 107) (v := -1) rfl rfl (t_al (k := 44) hq rfl (by decide) rfl) ?_
  refine w_s (np := 108) (lv' := [some (eR 98), some (eI (3)), some (eI (2)), some (eI (0)), some (eI (p)), some (eI (q)), some (eI (r)), some (eI (s)), some (eI (44)), some (eI (36))]) (st' := [eJ (-1), eJ (p), eJ (-1), eJ (1), eJ (-1), eJ (1), eR 98]) rfl (b_i2l rfl) rfl ?_
  obtain ⟨v1, e2⟩ : ∃ v : Int, v = (p) - (-1) := ⟨_, rfl⟩
  have b3 : -9998 ≤ v1 ∧ v1 ≤ 10000 := by omega
  refine w_s (np := 109) (lv' := [some (eR 98), some (eI (3)), some (eI (2)), some (eI (0)), some (eI (p)), some (eI (q)), some (eI (r)), some (eI (s)), some (eI (44)), some (eI (36))]) (st' := [eJ (v1), eJ (-1), eJ (1), eJ (-1), eJ (1), eR 98]) rfl (b_lsub (by rw [← e2]; exact ev_W_in (by omega) (by omega))) rfl ?_
  refine w_s (np := 111) (lv' := [some (eR 98), some (eI (3)), some (eI (2)), some (eI (0)), some (eI (p)), some (eI (q)), some (eI (r)), some (eI (s)), some (eI (44)), some (eI (36))]) (st' := [eI (q), eJ (v1), eJ (-1), eJ (1), eJ (-1), eJ (1), eR 98]) rfl rfl rfl ?_
  refine w_s (np := 112) (lv' := [some (eR 98), some (eI (3)), some (eI (2)), some (eI (0)), some (eI (p)), some (eI (q)), some (eI (r)), some (eI (s)), some (eI (44)), some (eI (36))]) (st' := [eJ (q), eJ (v1), eJ (-1), eJ (1), eJ (-1), eJ (1), eR 98]) rfl (b_i2l (ev_w_in (by omega) (by omega))) rfl ?_
  refine w_s (np := 113) (lv' := [some (eR 98), some (eI (3)), some (eI (2)), some (eI (0)), some (eI (p)), some (eI (q)), some (eI (r)), some (eI (s)), some (eI (44)), some (eI (36))]) (st' := [eR 98, eJ (q), eJ (v1), eJ (-1), eJ (1), eJ (-1), eJ (1), eR 98]) rfl (s_an rfl (by decide)) rfl ?_
  refine w_gf (np := 116) (v := eR 100) rfl rfl hq.1 (by rw [hq.2.1]; rfl) ?_
  refine w_s (np := 118) (lv' := [some (eR 98), some (eI (3)), some (eI (2)), some (eI (0)), some (eI (p)), some (eI (q)), some (eI (r)), some (eI (s)), some (eI (44)), some (eI (36))]) (st' := [eI (44), eR 100, eJ (q), eJ (v1), eJ (-1), eJ (1), eJ (-1), eJ (1), eR 98]) rfl rfl rfl ?_
  refine w_s (np := 119) (lv' := [some (eR 98), some (eI (3)), some (eI (2)), some (eI (0)), some (eI (p)), some (eI (q)), some (eI (r)), some (eI (s)), some (eI (44)), some (eI (36))]) (st' := [eI (1), eI (44), eR 100, eJ (q), eJ (v1), eJ (-1), eJ (1), eJ (-1), eJ (1), eR 98]) rfl rfl rfl ?_
  refine w_s (np := 120) (lv' := [some (eR 98), some (eI (3)), some (eI (2)), some (eI (0)), some (eI (p)), some (eI (q)), some (eI (r)), some (eI (s)), some (eI (44)), some (eI (36))]) (st' := [eI (45), eR 100, eJ (q), eJ (v1), eJ (-1), eJ (1), eJ (-1), eJ (1), eR 98]) rfl (b_iadd rfl) rfl ?_
  refine w_al (np := 121) (v := 1) rfl rfl (t_al (k := 45) hq rfl (by decide) rfl) ?_
  refine w_s (np := 122) (lv' := [some (eR 98), some (eI (3)), some (eI (2)), some (eI (0)), some (eI (p)), some (eI (q)), some (eI (r)), some (eI (s)), some (eI (44)), some (eI (36))]) (st' := [eJ (1), eJ (q), eJ (v1), eJ (-1), eJ (1), eJ (-1), eJ (1), eR 98]) rfl (b_i2l rfl) rfl ?_
  obtain ⟨v4, e5⟩ : ∃ v : Int, v = (q) - (1) := ⟨_, rfl⟩
  have b6 : -10000 ≤ v4 ∧ v4 ≤ 9998 := by omega
  refine w_s (np := 123) (lv' := [some (eR 98), some (eI (3)), some (eI (2)), some (eI (0)), some (eI (p)), some (eI (q)), some (eI (r)), some (eI (s)), some (eI (44)), some (eI (36))]) (st' := [eJ (v4), eJ (v1), eJ (-1), eJ (1), eJ (-1), eJ (1), eR 98]) rfl (b_lsub (by rw [← e5]; exact ev_W_in (by omega) (by omega))) rfl ?_
  refine w_s (np := 125) (lv' := [some (eR 98), some (eI (3)), some (eI (2)), some (eI (0)), some (eI (p)), some (eI (q)), some (eI (r)), some (eI (s)), some (eI (44)), some (eI (36))]) (st' := [eI (r), eJ (v4), eJ (v1), eJ (-1), eJ (1), eJ (-1), eJ (1), eR 98]) rfl rfl rfl ?_
  refine w_s (np := 126) (lv' := [some (eR 98), some (eI (3)), some (eI (2)), some (eI (0)), some (eI (p)), some (eI (q)), some (eI (r)), some (eI (s)), some (eI (44)), some (eI (36))]) (st' := [eJ (r), eJ (v4), eJ (v1), eJ (-1), eJ (1), eJ (-1), eJ (1), eR 98]) rfl (b_i2l (ev_w_in (by omega) (by omega))) rfl ?_
  refine w_s (np := 127) (lv' := [some (eR 98), some (eI (3)), some (eI (2)), some (eI (0)), some (eI (p)), some (eI (q)), some (eI (r)), some (eI (s)), some (eI (44)), some (eI (36))]) (st' := [eR 98, eJ (r), eJ (v4), eJ (v1), eJ (-1), eJ (1), eJ (-1), eJ (1), eR 98]) rfl (s_an rfl (by decide)) rfl ?_
  refine w_gf (np := 130) (v := eR 100) rfl rfl hq.1 (by rw [hq.2.1]; rfl) ?_
  refine w_s (np := 132) (lv' := [some (eR 98), some (eI (3)), some (eI (2)), some (eI (0)), some (eI (p)), some (eI (q)), some (eI (r)), some (eI (s)), some (eI (44)), some (eI (36))]) (st' := [eI (44), eR 100, eJ (r), eJ (v4), eJ (v1), eJ (-1), eJ (1), eJ (-1), eJ (1), eR 98]) rfl rfl rfl ?_
  refine w_s (np := 133) (lv' := [some (eR 98), some (eI (3)), some (eI (2)), some (eI (0)), some (eI (p)), some (eI (q)), some (eI (r)), some (eI (s)), some (eI (44)), some (eI (36))]) (st' := [eI (2), eI (44), eR 100, eJ (r), eJ (v4), eJ (v1), eJ (-1), eJ (1), eJ (-1), eJ (1), eR 98]) rfl rfl rfl ?_
  refine w_s (np := 134) (lv' := [some (eR 98), some (eI (3)), some (eI (2)), some (eI (0)), some (eI (p)), some (eI (q)), some (eI (r)), some (eI (s)), some (eI (44)), some (eI (36))]) (st' := [eI (46), eR 100, eJ (r), eJ (v4), eJ (v1), eJ (-1), eJ (1), eJ (-1), eJ (1), eR 98]) rfl (b_iadd rfl) rfl ?_
  refine w_al (np := 135) (v := -1) rfl rfl (t_al (k := 46) hq rfl (by decide) rfl) ?_
  refine w_s (np := 136) (lv' := [some (eR 98), some (eI (3)), some (eI (2)), some (eI (0)), some (eI (p)), some (eI (q)), some (eI (r)), some (eI (s)), some (eI (44)), some (eI (36))]) (st' := [eJ (-1), eJ (r), eJ (v4), eJ (v1), eJ (-1), eJ (1), eJ (-1), eJ (1), eR 98]) rfl (b_i2l rfl) rfl ?_
  obtain ⟨v7, e8⟩ : ∃ v : Int, v = (r) - (-1) := ⟨_, rfl⟩
  have b9 : -9998 ≤ v7 ∧ v7 ≤ 10000 := by omega
  refine w_s (np := 137) (lv' := [some (eR 98), some (eI (3)), some (eI (2)), some (eI (0)), some (eI (p)), some (eI (q)), some (eI (r)), some (eI (s)), some (eI (44)), some (eI (36))]) (st' := [eJ (v7), eJ (v4), eJ (v1), eJ (-1), eJ (1), eJ (-1), eJ (1), eR 98]) rfl (b_lsub (by rw [← e8]; exact ev_W_in (by omega) (by omega))) rfl ?_
  refine w_s (np := 139) (lv' := [some (eR 98), some (eI (3)), some (eI (2)), some (eI (0)), some (eI (p)), some (eI (q)), some (eI (r)), some (eI (s)), some (eI (44)), some (eI (36))]) (st' := [eI (s), eJ (v7), eJ (v4), eJ (v1), eJ (-1), eJ (1), eJ (-1), eJ (1), eR 98]) rfl rfl rfl ?_
  refine w_s (np := 140) (lv' := [some (eR 98), some (eI (3)), some (eI (2)), some (eI (0)), some (eI (p)), some (eI (q)), some (eI (r)), some (eI (s)), some (eI (44)), some (eI (36))]) (st' := [eJ (s), eJ (v7), eJ (v4), eJ (v1), eJ (-1), eJ (1), eJ (-1), eJ (1), eR 98]) rfl (b_i2l (ev_w_in (by omega) (by omega))) rfl ?_
  refine w_s (np := 141) (lv' := [some (eR 98), some (eI (3)), some (eI (2)), some (eI (0)), some (eI (p)), some (eI (q)), some (eI (r)), some (eI (s)), some (eI (44)), some (eI (36))]) (st' := [eR 98, eJ (s), eJ (v7), eJ (v4), eJ (v1), eJ (-1), eJ (1), eJ (-1), eJ (1), eR 98]) rfl (s_an rfl (by decide)) rfl ?_
  refine w_gf (np := 144) (v := eR 100) rfl rfl hq.1 (by rw [hq.2.1]; rfl) ?_
  refine w_s (np := 146) (lv' := [some (eR 98), some (eI (3)), some (eI (2)), some (eI (0)), some (eI (p)), some (eI (q)), some (eI (r)), some (eI (s)), some (eI (44)), some (eI (36))]) (st' := [eI (44), eR 100, eJ (s), eJ (v7), eJ (v4), eJ (v1), eJ (-1), eJ (1), eJ (-1), eJ (1), eR 98]) rfl rfl rfl ?_
  refine w_s (np := 147) (lv' := [some (eR 98), some (eI (3)), some (eI (2)), some (eI (0)), some (eI (p)), some (eI (q)), some (eI (r)), some (eI (s)), some (eI (44)), some (eI (36))]) (st' := [eI (3), eI (44), eR 100, eJ (s), eJ (v7), eJ (v4), eJ (v1), eJ (-1), eJ (1), eJ (-1), eJ (1), eR 98]) rfl rfl rfl ?_
  refine w_s (np := 148) (lv' := [some (eR 98), some (eI (3)), some (eI (2)), some (eI (0)), some (eI (p)), some (eI (q)), some (eI (r)), some (eI (s)), some (eI (44)), some (eI (36))]) (st' := [eI (47), eR 100, eJ (s), eJ (v7), eJ (v4), eJ (v1), eJ (-1), eJ (1), eJ (-1), eJ (1), eR 98]) rfl (b_iadd rfl) rfl ?_
  refine w_al (np := 149) (v := 1) rfl rfl (t_al (k := 47) hq rfl (by decide) rfl) ?_
  refine w_s (np := 150) (lv' := [some (eR 98), some (eI (3)), some (eI (2)), some (eI (0)), some (eI (p)), some (eI (q)), some (eI (r)), some (eI (s)), some (eI (44)), some (eI (36))]) (st' := [eJ (1), eJ (s), eJ (v7), eJ (v4), eJ (v1), eJ (-1), eJ (1), eJ (-1), eJ (1), eR 98]) rfl (b_i2l rfl) rfl ?_
  obtain ⟨v10, e11⟩ : ∃ v : Int, v = (s) - (1) := ⟨_, rfl⟩
  have b12 : -10000 ≤ v10 ∧ v10 ≤ 9998 := by omega
  refine w_s (np := 151) (lv' := [some (eR 98), some (eI (3)), some (eI (2)), some (eI (0)), some (eI (p)), some (eI (q)), some (eI (r)), some (eI (s)), some (eI (44)), some (eI (36))]) (st' := [eJ (v10), eJ (v7), eJ (v4), eJ (v1), eJ (-1), eJ (1), eJ (-1), eJ (1), eR 98]) rfl (b_lsub (by rw [← e11]; exact ev_W_in (by omega) (by omega))) rfl ?_
  refine w_cv (np := 154) (as := [eJ (1), eJ (-1), eJ (1), eJ (-1), eJ (v1), eJ (v4), eJ (v7), eJ (v10)]) (lv' := [some (eR 98), some (eJ (1)), none, some (eJ (-1)), none, some (eJ (1)), none, some (eJ (-1)), none, some (eJ (v1)), none, some (eJ (v4)), none, some (eJ (v7)), none, some (eJ (v10)), none]) (rest := []) rfl rfl rfl (Nat.ble_eq.mp rfl) rfl rfl rfl hq.1 rfl ?_
  refine t224 hq.1 (show (-8 : Int) ≤ 1 ∧ (1 : Int) ≤ 8 by omega) (show (-8 : Int) ≤ -1 ∧ (-1 : Int) ≤ 8 by omega) (show (-8 : Int) ≤ 1 ∧ (1 : Int) ≤ 8 by omega) (show (-8 : Int) ≤ -1 ∧ (-1 : Int) ≤ 8 by omega) (show (-100000 : Int) ≤ v1 ∧ (v1 : Int) ≤ 100000 by omega) (show (-100000 : Int) ≤ v4 ∧ (v4 : Int) ≤ 100000 by omega) (show (-100000 : Int) ≤ v7 ∧ (v7 : Int) ≤ 100000 by omega) (show (-100000 : Int) ≤ v10 ∧ (v10 : Int) ≤ 100000 by omega) ?_
  intro m B G s1 eB eG bB bG
  show ex_fine fg rc rs (d + 4, (265, 154, [some (eR 98), some (eI (3)), some (eI (2)), some (eI (0)), some (eI (p)), some (eI (q)), some (eI (r)), some (eI (s)), some (eI (44)), some (eI (36))], [eI (rSg (2 * B + G) G)]), f :: F, m)
  refine b_ri rfl rfl ?_
  have hB : B = 1 * p + 1 * s := by omega
  have hG : G = 1 * q + 1 * r := by omega
  have hr := rSg_ok (x := 2 * B + G) (b := G) (by omega)
  have e9 : 416020 * (2 * B + G) + 930249 * G = 832040 * p + 1346269 * q + 1346269 * r + 832040 * s := by omega
  rw [e9] at hr
  exact K m _ s1 hr (rSg_v _ _)
theorem t265_4_0 {fg : eG} {rc rs d : Nat} {f : eFr} {F : List eFr} {μ : eM} {p q r s : Int} (hq : tQ μ) (hp : -9999 ≤ p ∧ p ≤ 9999) (hq0 : -9999 ≤ q ∧ q ≤ 9999) (hr : -9999 ≤ r ∧ r ≤ 9999) (hs : -9999 ≤ s ∧ s ≤ 9999) (K : ∀ (μ2 : eM) (u : Int), tS μ μ2 → ((0 ≤ u ↔ 0 ≤ (-832040) * q + (-1346269) * r + (-1346269) * s) ∧ (u ≤ 0 ↔ (-832040) * q + (-1346269) * r + (-1346269) * s ≤ 0)) → (u = 0 ∨ u = 1 ∨ u = -1) → ex_fine fg rc rs (d + 5, (f.1, f.2.1, f.2.2.1, eI u :: f.2.2.2), F, μ2)) : ex_fine fg rc rs (d + 4, (265, 0, [some (eR 98), some (eI (4)), some (eI (0)), some (eI (1)), some (eI (p)), some (eI (q)), some (eI (r)), some (eI (s)), none, none], []), f :: F, μ) := by
  refine w_s (np := 2) (lv' := [some (eR 98), some (eI (4)), some (eI (0)), some (eI (1)), some (eI (p)), some (eI (q)), some (eI (r)), some (eI (s)), none, none]) (st' := [eI (12)]) rfl rfl rfl ?_
  refine w_s (np := 3) (lv' := [some (eR 98), some (eI (4)), some (eI (0)), some (eI (1)), some (eI (p)), some (eI (q)), some (eI (r)), some (eI (s)), none, none]) (st' := [eI (4), eI (12)]) rfl rfl rfl ?_
  refine w_s (np := 4) (lv' := [some (eR 98), some (eI (4)), some (eI (0)), some (eI (1)), some (eI (p)), some (eI (q)), some (eI (r)), some (eI (s)), none, none]) (st' := [eI (48)]) rfl (b_imul rfl) rfl ?_
  refine w_s (np := 5) (lv' := [some (eR 98), some (eI (4)), some (eI (0)), some (eI (1)), some (eI (p)), some (eI (q)), some (eI (r)), some (eI (s)), none, none]) (st' := [eI (4), eI (48)]) rfl rfl rfl ?_
  refine w_s (np := 6) (lv' := [some (eR 98), some (eI (4)), some (eI (0)), some (eI (1)), some (eI (p)), some (eI (q)), some (eI (r)), some (eI (s)), none, none]) (st' := [eI (0), eI (4), eI (48)]) rfl rfl rfl ?_
  refine w_s (np := 7) (lv' := [some (eR 98), some (eI (4)), some (eI (0)), some (eI (1)), some (eI (p)), some (eI (q)), some (eI (r)), some (eI (s)), none, none]) (st' := [eI (0), eI (48)]) rfl (b_imul rfl) rfl ?_
  refine w_s (np := 8) (lv' := [some (eR 98), some (eI (4)), some (eI (0)), some (eI (1)), some (eI (p)), some (eI (q)), some (eI (r)), some (eI (s)), none, none]) (st' := [eI (48)]) rfl (b_iadd rfl) rfl ?_
  refine w_s (np := 10) (lv' := [some (eR 98), some (eI (4)), some (eI (0)), some (eI (1)), some (eI (p)), some (eI (q)), some (eI (r)), some (eI (s)), some (eI (48)), none]) (st' := []) rfl rfl rfl ?_
  refine w_s (np := 12) (lv' := [some (eR 98), some (eI (4)), some (eI (0)), some (eI (1)), some (eI (p)), some (eI (q)), some (eI (r)), some (eI (s)), some (eI (48)), none]) (st' := [eI (12)]) rfl rfl rfl ?_
  refine w_s (np := 13) (lv' := [some (eR 98), some (eI (4)), some (eI (0)), some (eI (1)), some (eI (p)), some (eI (q)), some (eI (r)), some (eI (s)), some (eI (48)), none]) (st' := [eI (4), eI (12)]) rfl rfl rfl ?_
  refine w_s (np := 14) (lv' := [some (eR 98), some (eI (4)), some (eI (0)), some (eI (1)), some (eI (p)), some (eI (q)), some (eI (r)), some (eI (s)), some (eI (48)), none]) (st' := [eI (48)]) rfl (b_imul rfl) rfl ?_
  refine w_s (np := 15) (lv' := [some (eR 98), some (eI (4)), some (eI (0)), some (eI (1)), some (eI (p)), some (eI (q)), some (eI (r)), some (eI (s)), some (eI (48)), none]) (st' := [eI (4), eI (48)]) rfl rfl rfl ?_
  refine w_s (np := 16) (lv' := [some (eR 98), some (eI (4)), some (eI (0)), some (eI (1)), some (eI (p)), some (eI (q)), some (eI (r)), some (eI (s)), some (eI (48)), none]) (st' := [eI (1), eI (4), eI (48)]) rfl rfl rfl ?_
  refine w_s (np := 17) (lv' := [some (eR 98), some (eI (4)), some (eI (0)), some (eI (1)), some (eI (p)), some (eI (q)), some (eI (r)), some (eI (s)), some (eI (48)), none]) (st' := [eI (4), eI (48)]) rfl (b_imul rfl) rfl ?_
  refine w_s (np := 18) (lv' := [some (eR 98), some (eI (4)), some (eI (0)), some (eI (1)), some (eI (p)), some (eI (q)), some (eI (r)), some (eI (s)), some (eI (48)), none]) (st' := [eI (52)]) rfl (b_iadd rfl) rfl ?_
  refine w_s (np := 20) (lv' := [some (eR 98), some (eI (4)), some (eI (0)), some (eI (1)), some (eI (p)), some (eI (q)), some (eI (r)), some (eI (s)), some (eI (48)), some (eI (52))]) (st' := []) rfl rfl rfl ?_
  refine w_s (np := 21) (lv' := [some (eR 98), some (eI (4)), some (eI (0)), some (eI (1)), some (eI (p)), some (eI (q)), some (eI (r)), some (eI (s)), some (eI (48)), some (eI (52))]) (st' := [eR 98]) rfl (s_an rfl (by decide)) rfl ?_
  refine w_s (np := 22) (lv' := [some (eR 98), some (eI (4)), some (eI (0)), some (eI (1)), some (eI (p)), some (eI (q)), some (eI (r)), some (eI (s)), some (eI (48)), some (eI (52))]) (st' := [eR 98, eR 98]) rfl (s_an rfl (by decide)) rfl ?_
  refine w_gf (np := 25) (v := eR 100) rfl rfl hq.1 (by rw [hq.2.1]; rfl) ?_
  refine w_s (np := 27) (lv' := [some (eR 98), some (eI (4)), some (eI (0)), some (eI (1)), some (eI (p)), some (eI (q)), some (eI (r)), some (eI (s)), some (eI (48)), some (eI (52))]) (st' := [eI (52), eR 100, eR 98]) rfl rfl rfl ?_
  refine w_al (np := 28) (v := -1) rfl rfl (t_al (k := 52) hq rfl (by decide) rfl) ?_
  refine w_s (np := 29) (lv' := [some (eR 98), some (eI (4)), some (eI (0)), some (eI (1)), some (eI (p)), some (eI (q)), some (eI (r)), some (eI (s)), some (eI (48)), some (eI (52))]) (st' := [eR 98, eI (-1), eR 98]) rfl (s_an rfl (by decide)) rfl ?_
  refine w_gf (np := 32) (v := eR 100) rfl rfl hq.1 (by rw [hq.2.1]; rfl) ?_
  refine w_s (np := 34) (lv' := [some (eR 98), some (eI (4)), some (eI (0)), some (eI (1)), some (eI (p)), some (eI (q)), some (eI (r)), some (eI (s)), some (eI (48)), some (eI (52))]) (st' := [eI (48), eR 100, eI (-1), eR 98]) rfl rfl rfl ?_
  refine w_al (np := 35) (v := 0) rfl rfl (t_al (k := 48) hq rfl (by decide) rfl) ?_
  refine w_s (np := 36) (lv' := [some (eR 98), some (eI (4)), some (eI (0)), some (eI (1)), some (eI (p)), some (eI (q)), some (eI (r)), some (eI (s)), some (eI (48)), some (eI (52))]) (st' := [eI (-1), eR 98]) rfl (b_isub rfl) rfl ?_
  refine w_s (np := 37) (lv' := [some (eR 98), some (eI (4)), some (eI (0)), some (eI (1)), some (eI (p)), some (eI (q)), some (eI (r)), some (eI (s)), some (eI (48)), some (eI (52))]) (st' := [eJ (-1), eR 98]) rfl (b_i2l rfl) rfl ?_
  refine w_s (np := 38) (lv' := [some (eR 98), some (eI (4)), some (eI (0)), some (eI (1)), some (eI (p)), some (eI (q)), some (eI (r)), some (eI (s)), some (eI (48)), some (eI (52))]) (st' := [eR 98, eJ (-1), eR 98]) rfl (s_an rfl (by decide)) rfl ?_
  refine w_gf (np := 41) (v := eR 100) rfl rfl hq.1 (by rw [hq.2.1]; rfl) ?_
  refine w_s (np := 43) (lv' := [some (eR 98), some (eI (4)), some (eI (0)), some (eI (1)), some (eI (p)), some (eI (q)), some (eI (r)), some (eI (s)), some (eI (48)), some (eI (52))]) (st' := [eI (52), eR 100, eJ (-1), eR 98]) rfl rfl rfl ?_
  refine w_s (np := 44) (lv' := [some (eR 98), some (eI (4)), some (eI (0)), some (eI (1)), some (eI (p)), some (eI (q)), some (eI (r)), some (eI (s)), some (eI (48)), some (eI (52))]) (st' := [eI (1), eI (52), eR 100, eJ (-1), eR 98]) rfl rfl rfl ?_
  refine w_s (np := 45) (lv' := [some (eR 98), some (eI (4)), some (eI (0)), some (eI (1)), some (eI (p)), some (eI (q)), some (eI (r)), some (eI (s)), some (eI (48)), some (eI (52))]) (st' := [eI (53), eR 100, eJ (-1), eR 98]) rfl (b_iadd rfl) rfl ?_
  refine w_al (np := 46) (v := 0) rfl rfl (t_al (k := 53) hq rfl (by decide) rfl) ?_
  refine w_s (np := 47) (lv' := [some (eR 98), some (eI (4)), some (eI (0)), some (eI (1)), some (eI (p)), some (eI (q)), some (eI (r)), some (eI (s)), some (eI (48)), some (eI (52))]) (st' := [eR 98, eI (0), eJ (-1), eR 98]) rfl (s_an rfl (by decide)) rfl ?_
  refine w_gf (np := 50) (v := eR 100) rfl rfl hq.1 (by rw [hq.2.1]; rfl) ?_
  refine w_s (np := 52) (lv' := [some (eR 98), some (eI (4)), some (eI (0)), some (eI (1)), some (eI (p)), some (eI (q)), some (eI (r)), some (eI (s)), some (eI (48)), some (eI (52))]) (st' := [eI (48), eR 100, eI (0), eJ (-1), eR 98]) rfl rfl rfl ?_
  refine w_s (np := 53) (lv' := [some (eR 98), some (eI (4)), some (eI (0)), some (eI (1)), some (eI (p)), some (eI (q)), some (eI (r)), some (eI (s)), some (eI (48)), some (eI (52))]) (st' := [eI (1), eI (48), eR 100, eI (0), eJ (-1), eR 98]) rfl rfl rfl ?_
  refine w_s (np := 54) (lv' := [some (eR 98), some (eI (4)), some (eI (0)), some (eI (1)), some (eI (p)), some (eI (q)), some (eI (r)), some (eI (s)), some (eI (48)), some (eI (52))]) (st' := [eI (49), eR 100, eI (0), eJ (-1), eR 98]) rfl (b_iadd rfl) rfl ?_
  refine w_al (np := 55) (v := 0) rfl rfl (t_al (k := 49) hq rfl (by decide) rfl) ?_
  refine w_s (np := 56) (lv' := [some (eR 98), some (eI (4)), some (eI (0)), some (eI (1)), some (eI (p)), some (eI (q)), some (eI (r)), some (eI (s)), some (eI (48)), some (eI (52))]) (st' := [eI (0), eJ (-1), eR 98]) rfl (b_isub rfl) rfl ?_
  refine w_s (np := 57) (lv' := [some (eR 98), some (eI (4)), some (eI (0)), some (eI (1)), some (eI (p)), some (eI (q)), some (eI (r)), some (eI (s)), some (eI (48)), some (eI (52))]) (st' := [eJ (0), eJ (-1), eR 98]) rfl (b_i2l rfl) rfl ?_
  refine w_s (np := 58) (lv' := [some (eR 98), some (eI (4)), some (eI (0)), some (eI (1)), some (eI (p)), some (eI (q)), some (eI (r)), some (eI (s)), some (eI (48)), some (eI (52))]) (st' := [eR 98, eJ (0), eJ (-1), eR 98]) rfl (s_an rfl (by decide)) rfl ?_
  refine w_gf (np := 61) (v := eR 100) rfl rfl hq.1 (by rw [hq.2.1]; rfl) ?_
  refine w_s (np := 63) (lv' := [some (eR 98), some (eI (4)), some (eI (0)), some (eI (1)), some (eI (p)), some (eI (q)), some (eI (r)), some (eI (s)), some (eI (48)), some (eI (52))]) (st' := [eI (52), eR 100, eJ (0), eJ (-1), eR 98]) rfl rfl rfl ?_
  refine w_s (np := 64) (lv' := [some (eR 98), some (eI (4)), some (eI (0)), some (eI (1)), some (eI (p)), some (eI (q)), some (eI (r)), some (eI (s)), some (eI (48)), some (eI (52))]) (st' := [eI (2), eI (52), eR 100, eJ (0), eJ (-1), eR 98]) rfl rfl rfl ?_
  refine w_s (np := 65) (lv' := [some (eR 98), some (eI (4)), some (eI (0)), some (eI (1)), some (eI (p)), some (eI (q)), some (eI (r)), some (eI (s)), some (eI (48)), some (eI (52))]) (st' := [eI (54), eR 100, eJ (0), eJ (-1), eR 98]) rfl (b_iadd rfl) rfl ?_
  refine w_al (np := 66) (v := 0) rfl rfl (t_al (k := 54) hq rfl (by decide) rfl) ?_
  refine w_s (np := 67) (lv' := [some (eR 98), some (eI (4)), some (eI (0)), some (eI (1)), some (eI (p)), some (eI (q)), some (eI (r)), some (eI (s)), some (eI (48)), some (eI (52))]) (st' := [eR 98, eI (0), eJ (0), eJ (-1), eR 98]) rfl (s_an rfl (by decide)) rfl ?_
  refine w_gf (np := 70) (v := eR 100) rfl rfl hq.1 (by rw [hq.2.1]; rfl) ?_
  refine w_s (np := 72) (lv' := [some (eR 98), some (eI (4)), some (eI (0)), some (eI (1)), some (eI (p)), some (eI (q)), some (eI (r)), some (eI (s)), some (eI (48)), some (eI (52))]) (st' := [eI (48), eR 100, eI (0), eJ (0), eJ (-1), eR 98]) rfl rfl rfl ?_
  refine w_s (np := 73) (lv' := [some (eR 98), some (eI (4)), some (eI (0)), some (eI (1)), some (eI (p)), some (eI (q)), some (eI (r)), some (eI (s)), some (eI (48)), some (eI (52))]) (st' := [eI (2), eI (48), eR 100, eI (0), eJ (0), eJ (-1), eR 98]) rfl rfl rfl ?_
  refine w_s (np := 74) (lv' := [some (eR 98), some (eI (4)), some (eI (0)), some (eI (1)), some (eI (p)), some (eI (q)), some (eI (r)), some (eI (s)), some (eI (48)), some (eI (52))]) (st' := [eI (50), eR 100, eI (0), eJ (0), eJ (-1), eR 98]) rfl (b_iadd rfl) rfl ?_
  refine w_al (np := 75) (v := 0) rfl rfl (t_al (k := 50) hq rfl (by decide) rfl) ?_
  refine w_s (np := 76) (lv' := [some (eR 98), some (eI (4)), some (eI (0)), some (eI (1)), some (eI (p)), some (eI (q)), some (eI (r)), some (eI (s)), some (eI (48)), some (eI (52))]) (st' := [eI (0), eJ (0), eJ (-1), eR 98]) rfl (b_isub rfl) rfl ?_
  refine w_s (np := 77) (lv' := [some (eR 98), some (eI (4)), some (eI (0)), some (eI (1)), some (eI (p)), some (eI (q)), some (eI (r)), some (eI (s)), some (eI (48)), some (eI (52))]) (st' := [eJ (0), eJ (0), eJ (-1), eR 98]) rfl (b_i2l rfl) rfl ?_
  refine w_s (np := 78) (lv' := [some (eR 98), some (eI (4)), some (eI (0)), some (eI (1)), some (eI (p)), some (eI (q)), some (eI (r)), some (eI (s)), some (eI (48)), some (eI (52))]) (st' := [eR 98, eJ (0), eJ (0), eJ (-1), eR 98]) rfl (s_an rfl (by decide)) rfl ?_
  refine w_gf (np := 81) (v := eR 100) rfl rfl hq.1 (by rw [hq.2.1]; rfl) ?_
  refine w_s (np := 83) (lv' := [some (eR 98), some (eI (4)), some (eI (0)), some (eI (1)), some (eI (p)), some (eI (q)), some (eI (r)), some (eI (s)), some (eI (48)), some (eI (52))]) (st' := [eI (52), eR 100, eJ (0), eJ (0), eJ (-1), eR 98]) rfl rfl rfl ?_
  refine w_s (np := 84) (lv' := [some (eR 98), some (eI (4)), some (eI (0)), some (eI (1)), some (eI (p)), some (eI (q)), some (eI (r)), some (eI (s)), some (eI (48)), some (eI (52))]) (st' := [eI (3), eI (52), eR 100, eJ (0), eJ (0), eJ (-1), eR 98]) rfl rfl rfl ?_
  refine w_s (np := 85) (lv' := [some (eR 98), some (eI (4)), some (eI (0)), some (eI (1)), some (eI (p)), some (eI (q)), some (eI (r)), some (eI (s)), some (eI (48)), some (eI (52))]) (st' := [eI (55), eR 100, eJ (0), eJ (0), eJ (-1), eR 98]) rfl (b_iadd rfl) rfl ?_
  refine w_al (np := 86) (v := 0) rfl rfl (t_al (k := 55) hq rfl (by decide) rfl) ?_
  refine w_s (np := 87) (lv' := [some (eR 98), some (eI (4)), some (eI (0)), some (eI (1)), some (eI (p)), some (eI (q)), some (eI (r)), some (eI (s)), some (eI (48)), some (eI (52))]) (st' := [eR 98, eI (0), eJ (0), eJ (0), eJ (-1), eR 98]) rfl (s_an rfl (by decide)) rfl ?_
  refine w_gf (np := 90) (v := eR 100) rfl rfl hq.1 (by rw [hq.2.1]; rfl) ?_
  refine w_s (np := 92) (lv' := [some (eR 98), some (eI (4)), some (eI (0)), some (eI (1)), some (eI (p)), some (eI (q)), some (eI (r)), some (eI (s)), some (eI (48)), some (eI (52))]) (st' := [eI (48), eR 100, eI (0), eJ (0), eJ (0), eJ (-1), eR 98]) rfl rfl rfl ?_
  refine w_s (np := 93) (lv' := [some (eR 98), some (eI (4)), some (eI (0)), some (eI (1)), some (eI (p)), some (eI (q)), some (eI (r)), some (eI (s)), some (eI (48)), some (eI (52))]) (st' := [eI (3), eI (48), eR 100, eI (0), eJ (0), eJ (0), eJ (-1), eR 98]) rfl rfl rfl ?_
  refine w_s (np := 94) (lv' := [some (eR 98), some (eI (4)), some (eI (0)), some (eI (1)), some (eI (p)), some (eI (q)), some (eI (r)), some (eI (s)), some (eI (48)), some (eI (52))]) (st' := [eI (51), eR 100, eI (0), eJ (0), eJ (0), eJ (-1), eR 98]) rfl (b_iadd rfl) rfl ?_
  refine w_al (np := 95) (v := 0) rfl rfl (t_al (k := 51) hq rfl (by decide) rfl) ?_
  refine w_s (np := 96) (lv' := [some (eR 98), some (eI (4)), some (eI (0)), some (eI (1)), some (eI (p)), some (eI (q)), some (eI (r)), some (eI (s)), some (eI (48)), some (eI (52))]) (st' := [eI (0), eJ (0), eJ (0), eJ (-1), eR 98]) rfl (b_isub rfl) rfl ?_
  refine w_s (np := 97) (lv' := [some (eR 98), some (eI (4)), some (eI (0)), some (eI (1)), some (eI (p)), some (eI (q)), some (eI (r)), some (eI (s)), some (eI (48)), some (eI (52))]) (st' := [eJ (0), eJ (0), eJ (0), eJ (-1), eR 98]) rfl (b_i2l rfl) rfl ?_
  refine w_s (np := 99) (lv' := [some (eR 98), some (eI (4)), some (eI (0)), some (eI (1)), some (eI (p)), some (eI (q)), some (eI (r)), some (eI (s)), some (eI (48)), some (eI (52))]) (st' := [eI (p), eJ (0), eJ (0), eJ (0), eJ (-1), eR 98]) rfl rfl rfl ?_
  refine w_s (np := 100) (lv' := [some (eR 98), some (eI (4)), some (eI (0)), some (eI (1)), some (eI (p)), some (eI (q)), some (eI (r)), some (eI (s)), some (eI (48)), some (eI (52))]) (st' := [eJ (p), eJ (0), eJ (0), eJ (0), eJ (-1), eR 98]) rfl (b_i2l (ev_w_in (by omega) (by omega))) rfl ?_
  refine w_s (np := 101) (lv' := [some (eR 98), some (eI (4)), some (eI (0)), some (eI (1)), some (eI (p)), some (eI (q)), some (eI (r)), some (eI (s)), some (eI (48)), some (eI (52))]) (st' := [eR 98, eJ (p), eJ (0), eJ (0), eJ (0), eJ (-1), eR 98]) rfl (s_an rfl (by decide)) rfl ?_
  refine w_gf (np := 104) (v := eR 100) rfl rfl hq.1 (by rw [hq.2.1]; rfl) ?_
  refine w_s (np := 106) (lv' := [some (eR 98), some (eI (4)), some (eI (0)), some (eI (1)), some (eI (p)), some (eI (q)), some (eI (r)), some (eI (s)), some (eI (48)), some (eI (52))]) (st' := [eI (48), eR 100, eJ (p), eJ (0), eJ (0), eJ (0), eJ (-1), eR 98]) rfl rfl rfl ?_
  refine w_al (np := 107) (v := 0) rfl rfl (t_al (k := 48) hq rfl (by decide) rfl) ?_
  refine w_s (np := 108) (lv' := [some (eR 98), some (eI (4)), some (eI (0)), some (eI (1)), some (eI (p)), some (eI (q)), some (eI (r)), some (eI (s)), some (eI (48)), some (eI (52))]) (st' := [eJ (0), eJ (p), eJ (0), eJ (0), eJ (0), eJ (-1), eR 98]) rfl (b_i2l rfl) rfl ?_
  obtain ⟨v1, e2⟩ : ∃ v : Int, v = (p) - (0) := ⟨_, rfl⟩
  have b3 : -9999 ≤ v1 ∧ v1 ≤ 9999 := by omega
  refine w_s (np := 109) (lv' := [some (eR 98), some (eI (4)), some (eI (0)), some (eI (1)), some (eI (p)), some (eI (q)), some (eI (r)), some (eI (s)), some (eI (48)), some (eI (52))]) (st' := [eJ (v1), eJ (0), eJ (0), eJ (0), eJ (-1), eR 98]) rfl (b_lsub (by rw [← e2]; exact ev_W_in (by omega) (by omega))) rfl ?_
  refine w_s (np := 111) (lv' := [some (eR 98), some (eI (4)), some (eI (0)), some (eI (1)), some (eI (p)), some (eI (q)), some (eI (r)), some (eI (s)), some (eI (48)), some (eI (52))]) (st' := [eI (q), eJ (v1), eJ (0), eJ (0), eJ (0), eJ (-1), eR 98]) rfl rfl rfl ?_
  refine w_s (np := 112) (lv' := [some (eR 98), some (eI (4)), some (eI (0)), some (eI (1)), some (eI (p)), some (eI (q)), some (eI (r)), some (eI (s)), some (eI (48)), some (eI (52))]) (st' := [eJ (q), eJ (v1), eJ (0), eJ (0), eJ (0), eJ (-1), eR 98]) rfl (b_i2l (ev_w_in (by omega) (by omega))) rfl ?_
  refine w_s (np := 113) (lv' := [some (eR 98), some (eI (4)), some (eI (0)), some (eI (1)), some (eI (p)), some (eI (q)), some (eI (r)), some (eI (s)), some (eI (48)), some (eI (52))]) (st' := [eR 98, eJ (q), eJ (v1), eJ (0), eJ (0), eJ (0), eJ (-1), eR 98]) rfl (s_an rfl (by decide)) rfl ?_
  refine w_gf (np := 116) (v := eR 100) rfl rfl hq.1 (by rw [hq.2.1]; rfl) ?_
  refine w_s (np := 118) (lv' := [some (eR 98), some (eI (4)), some (eI (0)), some (eI (1)), some (eI (p)), some (eI (q)), some (eI (r)), some (eI (s)), some (eI (48)), some (eI (52))]) (st' := [eI (48), eR 100, eJ (q), eJ (v1), eJ (0), eJ (0), eJ (0), eJ (-1), eR 98]) rfl rfl rfl ?_
  refine w_s (np := 119) (lv' := [some (eR 98), some (eI (4)), some (eI (0)), some (eI (1)), some (eI (p)), some (eI (q)), some (eI (r)), some (eI (s)), some (eI (48)), some (eI (52))]) (st' := [eI (1), eI (48), eR 100, eJ (q), eJ (v1), eJ (0), eJ (0), eJ (0), eJ (-1), eR 98]) rfl rfl rfl ?_
  refine w_s (np := 120) (lv' := [some (eR 98), some (eI (4)), some (eI (0)), some (eI (1)), some (eI (p)), some (eI (q)), some (eI (r)), some (eI (s)), some (eI (48)), some (eI (52))]) (st' := [eI (49), eR 100, eJ (q), eJ (v1), eJ (0), eJ (0), eJ (0), eJ (-1), eR 98]) rfl (b_iadd rfl) rfl ?_
  refine w_al (np := 121) (v := 0) rfl rfl (t_al (k := 49) hq rfl (by decide) rfl) ?_
  refine w_s (np := 122) (lv' := [some (eR 98), some (eI (4)), some (eI (0)), some (eI (1)), some (eI (p)), some (eI (q)), some (eI (r)), some (eI (s)), some (eI (48)), some (eI (52))]) (st' := [eJ (0), eJ (q), eJ (v1), eJ (0), eJ (0), eJ (0), eJ (-1), eR 98]) rfl (b_i2l rfl) rfl ?_
  obtain ⟨v4, e5⟩ : ∃ v : Int, v = (q) - (0) := ⟨_, rfl⟩
  have b6 : -9999 ≤ v4 ∧ v4 ≤ 9999 := by omega
  refine w_s (np := 123) (lv' := [some (eR 98), some (eI (4)), some (eI (0)), some (eI (1)), some (eI (p)), some (eI (q)), some (eI (r)), some (eI (s)), some (eI (48)), some (eI (52))]) (st' := [eJ (v4), eJ (v1), eJ (0), eJ (0), eJ (0), eJ (-1), eR 98]) rfl (b_lsub (by rw [← e5]; exact ev_W_in (by omega) (by omega))) rfl ?_
  refine w_s (np := 125) (lv' := [some (eR 98), some (eI (4)), some (eI (0)), some (eI (1)), some (eI (p)), some (eI (q)), some (eI (r)), some (eI (s)), some (eI (48)), some (eI (52))]) (st' := [eI (r), eJ (v4), eJ (v1), eJ (0), eJ (0), eJ (0), eJ (-1), eR 98]) rfl rfl rfl ?_
  refine w_s (np := 126) (lv' := [some (eR 98), some (eI (4)), some (eI (0)), some (eI (1)), some (eI (p)), some (eI (q)), some (eI (r)), some (eI (s)), some (eI (48)), some (eI (52))]) (st' := [eJ (r), eJ (v4), eJ (v1), eJ (0), eJ (0), eJ (0), eJ (-1), eR 98]) rfl (b_i2l (ev_w_in (by omega) (by omega))) rfl ?_
  refine w_s (np := 127) (lv' := [some (eR 98), some (eI (4)), some (eI (0)), some (eI (1)), some (eI (p)), some (eI (q)), some (eI (r)), some (eI (s)), some (eI (48)), some (eI (52))]) (st' := [eR 98, eJ (r), eJ (v4), eJ (v1), eJ (0), eJ (0), eJ (0), eJ (-1), eR 98]) rfl (s_an rfl (by decide)) rfl ?_
  refine w_gf (np := 130) (v := eR 100) rfl rfl hq.1 (by rw [hq.2.1]; rfl) ?_
  refine w_s (np := 132) (lv' := [some (eR 98), some (eI (4)), some (eI (0)), some (eI (1)), some (eI (p)), some (eI (q)), some (eI (r)), some (eI (s)), some (eI (48)), some (eI (52))]) (st' := [eI (48), eR 100, eJ (r), eJ (v4), eJ (v1), eJ (0), eJ (0), eJ (0), eJ (-1), eR 98]) rfl rfl rfl ?_
  refine w_s (np := 133) (lv' := [some (eR 98), some (eI (4)), some (eI (0)), some (eI (1)), some (eI (p)), some (eI (q)), some (eI (r)), some (eI (s)), some (eI (48)), some (eI (52))]) (st' := [eI (2), eI (48), eR 100, eJ (r), eJ (v4), eJ (v1), eJ (0), eJ (0), eJ (0), eJ (-1), eR 98]) rfl rfl rfl ?_
  refine w_s (np := 134) (lv' := [some (eR 98), some (eI (4)), some (eI (0)), some (eI (1)), some (eI (p)), some (eI (q)), some (eI (r)), some (eI (s)), some (eI (48)), some (eI (52))]) (st' := [eI (50), eR 100, eJ (r), eJ (v4), eJ (v1), eJ (0), eJ (0), eJ (0), eJ (-1), eR 98]) rfl (b_iadd rfl) rfl ?_
  refine w_al (np := 135) (v := 0) rfl rfl (t_al (k := 50) hq rfl (by decide) rfl) ?_
  refine w_s (np := 136) (lv' := [some (eR 98), some (eI (4)), some (eI (0)), some (eI (1)), some (eI (p)), some (eI (q)), some (eI (r)), some (eI (s)), some (eI (48)), some (eI (52))]) (st' := [eJ (0), eJ (r), eJ (v4), eJ (v1), eJ (0), eJ (0), eJ (0), eJ (-1), eR 98]) rfl (b_i2l rfl) rfl ?_
  obtain ⟨v7, e8⟩ : ∃ v : Int, v = (r) - (0) := ⟨_, rfl⟩
  have b9 : -9999 ≤ v7 ∧ v7 ≤ 9999 := by omega
  refine w_s (np := 137) (lv' := [some (eR 98), some (eI (4)), some (eI (0)), some (eI (1)), some (eI (p)), some (eI (q)), some (eI (r)), some (eI (s)), some (eI (48)), some (eI (52))]) (st' := [eJ (v7), eJ (v4), eJ (v1), eJ (0), eJ (0), eJ (0), eJ (-1), eR 98]) rfl (b_lsub (by rw [← e8]; exact ev_W_in (by omega) (by omega))) rfl ?_
  refine w_s (np := 139) (lv' := [some (eR 98), some (eI (4)), some (eI (0)), some (eI (1)), some (eI (p)), some (eI (q)), some (eI (r)), some (eI (s)), some (eI (48)), some (eI (52))]) (st' := [eI (s), eJ (v7), eJ (v4), eJ (v1), eJ (0), eJ (0), eJ (0), eJ (-1), eR 98]) rfl rfl rfl ?_
  refine w_s (np := 140) (lv' := [some (eR 98), some (eI (4)), some (eI (0)), some (eI (1)), some (eI (p)), some (eI (q)), some (eI (r)), some (eI (s)), some (eI (48)), some (eI (52))]) (st' := [eJ (s), eJ (v7), eJ (v4), eJ (v1), eJ (0), eJ (0), eJ (0), eJ (-1), eR 98]) rfl (b_i2l (ev_w_in (by omega) (by omega))) rfl ?_
  refine w_s (np := 141) (lv' := [some (eR 98), some (eI (4)), some (eI (0)), some (eI (1)), some (eI (p)), some (eI (q)), some (eI (r)), some (eI (s)), some (eI (48)), some (eI (52))]) (st' := [eR 98, eJ (s), eJ (v7), eJ (v4), eJ (v1), eJ (0), eJ (0), eJ (0), eJ (-1), eR 98]) rfl (s_an rfl (by decide)) rfl ?_
  refine w_gf (np := 144) (v := eR 100) rfl rfl hq.1 (by rw [hq.2.1]; rfl) ?_
  refine w_s (np := 146) (lv' := [some (eR 98), some (eI (4)), some (eI (0)), some (eI (1)), some (eI (p)), some (eI (q)), some (eI (r)), some (eI (s)), some (eI (48)), some (eI (52))]) (st' := [eI (48), eR 100, eJ (s), eJ (v7), eJ (v4), eJ (v1), eJ (0), eJ (0), eJ (0), eJ (-1), eR 98]) rfl rfl rfl ?_
  refine w_s (np := 147) (lv' := [some (eR 98), some (eI (4)), some (eI (0)), some (eI (1)), some (eI (p)), some (eI (q)), some (eI (r)), some (eI (s)), some (eI (48)), some (eI (52))]) (st' := [eI (3), eI (48), eR 100, eJ (s), eJ (v7), eJ (v4), eJ (v1), eJ (0), eJ (0), eJ (0), eJ (-1), eR 98]) rfl rfl rfl ?_
  refine w_s (np := 148) (lv' := [some (eR 98), some (eI (4)), some (eI (0)), some (eI (1)), some (eI (p)), some (eI (q)), some (eI (r)), some (eI (s)), some (eI (48)), some (eI (52))]) (st' := [eI (51), eR 100, eJ (s), eJ (v7), eJ (v4), eJ (v1), eJ (0), eJ (0), eJ (0), eJ (-1), eR 98]) rfl (b_iadd rfl) rfl ?_
  refine w_al (np := 149) (v := 0) rfl rfl (t_al (k := 51) hq rfl (by decide) rfl) ?_
  refine w_s (np := 150) (lv' := [some (eR 98), some (eI (4)), some (eI (0)), some (eI (1)), some (eI (p)), some (eI (q)), some (eI (r)), some (eI (s)), some (eI (48)), some (eI (52))]) (st' := [eJ (0), eJ (s), eJ (v7), eJ (v4), eJ (v1), eJ (0), eJ (0), eJ (0), eJ (-1), eR 98]) rfl (b_i2l rfl) rfl ?_
  obtain ⟨v10, e11⟩ : ∃ v : Int, v = (s) - (0) := ⟨_, rfl⟩
  have b12 : -9999 ≤ v10 ∧ v10 ≤ 9999 := by omega
  refine w_s (np := 151) (lv' := [some (eR 98), some (eI (4)), some (eI (0)), some (eI (1)), some (eI (p)), some (eI (q)), some (eI (r)), some (eI (s)), some (eI (48)), some (eI (52))]) (st' := [eJ (v10), eJ (v7), eJ (v4), eJ (v1), eJ (0), eJ (0), eJ (0), eJ (-1), eR 98]) rfl (b_lsub (by rw [← e11]; exact ev_W_in (by omega) (by omega))) rfl ?_
  refine w_cv (np := 154) (as := [eJ (-1), eJ (0), eJ (0), eJ (0), eJ (v1), eJ (v4), eJ (v7), eJ (v10)]) (lv' := [some (eR 98), some (eJ (-1)), none, some (eJ (0)), none, some (eJ (0)), none, some (eJ (0)), none, some (eJ (v1)), none, some (eJ (v4)), none, some (eJ (v7)), none, some (eJ (v10)), none]) (rest := []) rfl rfl rfl (Nat.ble_eq.mp rfl) rfl rfl rfl hq.1 rfl ?_
  refine t224 hq.1 (show (-8 : Int) ≤ -1 ∧ (-1 : Int) ≤ 8 by omega) (show (-8 : Int) ≤ 0 ∧ (0 : Int) ≤ 8 by omega) (show (-8 : Int) ≤ 0 ∧ (0 : Int) ≤ 8 by omega) (show (-8 : Int) ≤ 0 ∧ (0 : Int) ≤ 8 by omega) (show (-100000 : Int) ≤ v1 ∧ (v1 : Int) ≤ 100000 by omega) (show (-100000 : Int) ≤ v4 ∧ (v4 : Int) ≤ 100000 by omega) (show (-100000 : Int) ≤ v7 ∧ (v7 : Int) ≤ 100000 by omega) (show (-100000 : Int) ≤ v10 ∧ (v10 : Int) ≤ 100000 by omega) ?_
  intro m B G s1 eB eG bB bG
  show ex_fine fg rc rs (d + 4, (265, 154, [some (eR 98), some (eI (4)), some (eI (0)), some (eI (1)), some (eI (p)), some (eI (q)), some (eI (r)), some (eI (s)), some (eI (48)), some (eI (52))], [eI (rSg (2 * B + G) G)]), f :: F, m)
  refine b_ri rfl rfl ?_
  have hB : B = (-1) * q := by omega
  have hG : G = (-1) * r + (-1) * s := by omega
  have hr := rSg_ok (x := 2 * B + G) (b := G) (by omega)
  have e9 : 416020 * (2 * B + G) + 930249 * G = (-832040) * q + (-1346269) * r + (-1346269) * s := by omega
  rw [e9] at hr
  exact K m _ s1 hr (rSg_v _ _)
theorem t265_4_1 {fg : eG} {rc rs d : Nat} {f : eFr} {F : List eFr} {μ : eM} {p q r s : Int} (hq : tQ μ) (hp : -9999 ≤ p ∧ p ≤ 9999) (hq0 : -9999 ≤ q ∧ q ≤ 9999) (hr : -9999 ≤ r ∧ r ≤ 9999) (hs : -9999 ≤ s ∧ s ≤ 9999) (K : ∀ (μ2 : eM) (u : Int), tS μ μ2 → ((0 ≤ u ↔ 0 ≤ (-832040) * p + (-514229) * q + 514229 * s + (-832040)) ∧ (u ≤ 0 ↔ (-832040) * p + (-514229) * q + 514229 * s + (-832040) ≤ 0)) → (u = 0 ∨ u = 1 ∨ u = -1) → ex_fine fg rc rs (d + 5, (f.1, f.2.1, f.2.2.1, eI u :: f.2.2.2), F, μ2)) : ex_fine fg rc rs (d + 4, (265, 0, [some (eR 98), some (eI (4)), some (eI (1)), some (eI (2)), some (eI (p)), some (eI (q)), some (eI (r)), some (eI (s)), none, none], []), f :: F, μ) := by
  refine w_s (np := 2) (lv' := [some (eR 98), some (eI (4)), some (eI (1)), some (eI (2)), some (eI (p)), some (eI (q)), some (eI (r)), some (eI (s)), none, none]) (st' := [eI (12)]) rfl rfl rfl ?_
  refine w_s (np := 3) (lv' := [some (eR 98), some (eI (4)), some (eI (1)), some (eI (2)), some (eI (p)), some (eI (q)), some (eI (r)), some (eI (s)), none, none]) (st' := [eI (4), eI (12)]) rfl rfl rfl ?_
  refine w_s (np := 4) (lv' := [some (eR 98), some (eI (4)), some (eI (1)), some (eI (2)), some (eI (p)), some (eI (q)), some (eI (r)), some (eI (s)), none, none]) (st' := [eI (48)]) rfl (b_imul rfl) rfl ?_
  refine w_s (np := 5) (lv' := [some (eR 98), some (eI (4)), some (eI (1)), some (eI (2)), some (eI (p)), some (eI (q)), some (eI (r)), some (eI (s)), none, none]) (st' := [eI (4), eI (48)]) rfl rfl rfl ?_
  refine w_s (np := 6) (lv' := [some (eR 98), some (eI (4)), some (eI (1)), some (eI (2)), some (eI (p)), some (eI (q)), some (eI (r)), some (eI (s)), none, none]) (st' := [eI (1), eI (4), eI (48)]) rfl rfl rfl ?_
  refine w_s (np := 7) (lv' := [some (eR 98), some (eI (4)), some (eI (1)), some (eI (2)), some (eI (p)), some (eI (q)), some (eI (r)), some (eI (s)), none, none]) (st' := [eI (4), eI (48)]) rfl (b_imul rfl) rfl ?_
  refine w_s (np := 8) (lv' := [some (eR 98), some (eI (4)), some (eI (1)), some (eI (2)), some (eI (p)), some (eI (q)), some (eI (r)), some (eI (s)), none, none]) (st' := [eI (52)]) rfl (b_iadd rfl) rfl ?_
  refine w_s (np := 10) (lv' := [some (eR 98), some (eI (4)), some (eI (1)), some (eI (2)), some (eI (p)), some (eI (q)), some (eI (r)), some (eI (s)), some (eI (52)), none]) (st' := []) rfl rfl rfl ?_
  refine w_s (np := 12) (lv' := [some (eR 98), some (eI (4)), some (eI (1)), some (eI (2)), some (eI (p)), some (eI (q)), some (eI (r)), some (eI (s)), some (eI (52)), none]) (st' := [eI (12)]) rfl rfl rfl ?_
  refine w_s (np := 13) (lv' := [some (eR 98), some (eI (4)), some (eI (1)), some (eI (2)), some (eI (p)), some (eI (q)), some (eI (r)), some (eI (s)), some (eI (52)), none]) (st' := [eI (4), eI (12)]) rfl rfl rfl ?_
  refine w_s (np := 14) (lv' := [some (eR 98), some (eI (4)), some (eI (1)), some (eI (2)), some (eI (p)), some (eI (q)), some (eI (r)), some (eI (s)), some (eI (52)), none]) (st' := [eI (48)]) rfl (b_imul rfl) rfl ?_
  refine w_s (np := 15) (lv' := [some (eR 98), some (eI (4)), some (eI (1)), some (eI (2)), some (eI (p)), some (eI (q)), some (eI (r)), some (eI (s)), some (eI (52)), none]) (st' := [eI (4), eI (48)]) rfl rfl rfl ?_
  refine w_s (np := 16) (lv' := [some (eR 98), some (eI (4)), some (eI (1)), some (eI (2)), some (eI (p)), some (eI (q)), some (eI (r)), some (eI (s)), some (eI (52)), none]) (st' := [eI (2), eI (4), eI (48)]) rfl rfl rfl ?_
  refine w_s (np := 17) (lv' := [some (eR 98), some (eI (4)), some (eI (1)), some (eI (2)), some (eI (p)), some (eI (q)), some (eI (r)), some (eI (s)), some (eI (52)), none]) (st' := [eI (8), eI (48)]) rfl (b_imul rfl) rfl ?_
  refine w_s (np := 18) (lv' := [some (eR 98), some (eI (4)), some (eI (1)), some (eI (2)), some (eI (p)), some (eI (q)), some (eI (r)), some (eI (s)), some (eI (52)), none]) (st' := [eI (56)]) rfl (b_iadd rfl) rfl ?_
  refine w_s (np := 20) (lv' := [some (eR 98), some (eI (4)), some (eI (1)), some (eI (2)), some (eI (p)), some (eI (q)), some (eI (r)), some (eI (s)), some (eI (52)), some (eI (56))]) (st' := []) rfl rfl rfl ?_
  refine w_s (np := 21) (lv' := [some (eR 98), some (eI (4)), some (eI (1)), some (eI (2)), some (eI (p)), some (eI (q)), some (eI (r)), some (eI (s)), some (eI (52)), some (eI (56))]) (st' := [eR 98]) rfl (s_an rfl (by decide)) rfl ?_
  refine w_s (np := 22) (lv' := [some (eR 98), some (eI (4)), some (eI (1)), some (eI (2)), some (eI (p)), some (eI (q)), some (eI (r)), some (eI (s)), some (eI (52)), some (eI (56))]) (st' := [eR 98, eR 98]) rfl (s_an rfl (by decide)) rfl ?_
  refine w_gf (np := 25) (v := eR 100) rfl rfl hq.1 (by rw [hq.2.1]; rfl) ?_
  refine w_s (np := 27) (lv' := [some (eR 98), some (eI (4)), some (eI (1)), some (eI (2)), some (eI (p)), some (eI (q)), some (eI (r)), some (eI (s)), some (eI (52)), some (eI (56))]) (st' := [eI (56), eR 100, eR 98]) rfl rfl rfl ?_
  refine w_al (np := 28) (v := -1) rfl rfl (t_al (k := 56) hq rfl (by decide) rfl) ?_
  refine w_s (np := 29) (lv' := [some (eR 98), some (eI (4)), some (eI (1)), some (eI (2)), some (eI (p)), some (eI (q)), some (eI (r)), some (eI (s)), some (eI (52)), some (eI (56))]) (st' := [eR 98, eI (-1), eR 98]) rfl (s_an rfl (by decide)) rfl ?_
  refine w_gf (np := 32) (v := eR 100) rfl rfl hq.1 (by rw [hq.2.1]; rfl) ?_
  refine w_s (np := 34) (lv' := [some (eR 98), some (eI (4)), some (eI (1)), some (eI (2)), some (eI (p)), some (eI (q)), some (eI (r)), some (eI (s)), some (eI (52)), some (eI (56))]) (st' := [eI (52), eR 100, eI (-1), eR 98]) rfl rfl rfl ?_
  refine w_al (np := 35) (v := -1) rfl rfl (t_al (k := 52) hq rfl (by decide) rfl) ?_
  refine w_s (np := 36) (lv' := [some (eR 98), some (eI (4)), some (eI (1)), some (eI (2)), some (eI (p)), some (eI (q)), some (eI (r)), some (eI (s)), some (eI (52)), some (eI (56))]) (st' := [eI (0), eR 98]) rfl (b_isub rfl) rfl ?_
  refine w_s (np := 37) (lv' := [some (eR 98), some (eI (4)), some (eI (1)), some (eI (2)), some (eI (p)), some (eI (q)), some (eI (r)), some (eI (s)), some (eI (52)), some (eI (56))]) (st' := [eJ (0), eR 98]) rfl (b_i2l rfl) rfl ?_
  refine w_s (np := 38) (lv' := [some (eR 98), some (eI (4)), some (eI (1)), some (eI (2)), some (eI (p)), some (eI (q)), some (eI (r)), some (eI (s)), some (eI (52)), some (eI (56))]) (st' := [eR 98, eJ (0), eR 98]) rfl (s_an rfl (by decide)) rfl ?_
  refine w_gf (np := 41) (v := eR 100) rfl rfl hq.1 (by rw [hq.2.1]; rfl) ?_
  refine w_s (np := 43) (lv' := [some (eR 98), some (eI (4)), some (eI (1)), some (eI (2)), some (eI (p)), some (eI (q)), some (eI (r)), some (eI (s)), some (eI (52)), some (eI (56))]) (st' := [eI (56), eR 100, eJ (0), eR 98]) rfl rfl rfl ?_
  refine w_s (np := 44) (lv' := [some (eR 98), some (eI (4)), some (eI (1)), some (eI (2)), some (eI (p)), some (eI (q)), some (eI (r)), some (eI (s)), some (eI (52)), some (eI (56))]) (st' := [eI (1), eI (56), eR 100, eJ (0), eR 98]) rfl rfl rfl ?_
  refine w_s (np := 45) (lv' := [some (eR 98), some (eI (4)), some (eI (1)), some (eI (2)), some (eI (p)), some (eI (q)), some (eI (r)), some (eI (s)), some (eI (52)), some (eI (56))]) (st' := [eI (57), eR 100, eJ (0), eR 98]) rfl (b_iadd rfl) rfl ?_
  refine w_al (np := 46) (v := 1) rfl rfl (t_al (k := 57) hq rfl (by decide) rfl) ?_
  refine w_s (np := 47) (lv' := [some (eR 98), some (eI (4)), some (eI (1)), some (eI (2)), some (eI (p)), some (eI (q)), some (eI (r)), some (eI (s)), some (eI (52)), some (eI (56))]) (st' := [eR 98, eI (1), eJ (0), eR 98]) rfl (s_an rfl (by decide)) rfl ?_
  refine w_gf (np := 50) (v := eR 100) rfl rfl hq.1 (by rw [hq.2.1]; rfl) ?_
  refine w_s (np := 52) (lv' := [some (eR 98), some (eI (4)), some (eI (1)), some (eI (2)), some (eI (p)), some (eI (q)), some (eI (r)), some (eI (s)), some (eI (52)), some (eI (56))]) (st' := [eI (52), eR 100, eI (1), eJ (0), eR 98]) rfl rfl rfl ?_
  refine w_s (np := 53) (lv' := [some (eR 98), some (eI (4)), some (eI (1)), some (eI (2)), some (eI (p)), some (eI (q)), some (eI (r)), some (eI (s)), some (eI (52)), some (eI (56))]) (st' := [eI (1), eI (52), eR 100, eI (1), eJ (0), eR 98]) rfl rfl rfl ?_
  refine w_s (np := 54) (lv' := [some (eR 98), some (eI (4)), some (eI (1)), some (eI (2)), some (eI (p)), some (eI (q)), some (eI (r)), some (eI (s)), some (eI (52)), some (eI (56))]) (st' := [eI (53), eR 100, eI (1), eJ (0), eR 98]) rfl (b_iadd rfl) rfl ?_
  refine w_al (np := 55) (v := 0) rfl rfl (t_al (k := 53) hq rfl (by decide) rfl) ?_
  refine w_s (np := 56) (lv' := [some (eR 98), some (eI (4)), some (eI (1)), some (eI (2)), some (eI (p)), some (eI (q)), some (eI (r)), some (eI (s)), some (eI (52)), some (eI (56))]) (st' := [eI (1), eJ (0), eR 98]) rfl (b_isub rfl) rfl ?_
  refine w_s (np := 57) (lv' := [some (eR 98), some (eI (4)), some (eI (1)), some (eI (2)), some (eI (p)), some (eI (q)), some (eI (r)), some (eI (s)), some (eI (52)), some (eI (56))]) (st' := [eJ (1), eJ (0), eR 98]) rfl (b_i2l rfl) rfl ?_
  refine w_s (np := 58) (lv' := [some (eR 98), some (eI (4)), some (eI (1)), some (eI (2)), some (eI (p)), some (eI (q)), some (eI (r)), some (eI (s)), some (eI (52)), some (eI (56))]) (st' := [eR 98, eJ (1), eJ (0), eR 98]) rfl (s_an rfl (by decide)) rfl ?_
  refine w_gf (np := 61) (v := eR 100) rfl rfl hq.1 (by rw [hq.2.1]; rfl) ?_
  refine w_s (np := 63) (lv' := [some (eR 98), some (eI (4)), some (eI (1)), some (eI (2)), some (eI (p)), some (eI (q)), some (eI (r)), some (eI (s)), some (eI (52)), some (eI (56))]) (st' := [eI (56), eR 100, eJ (1), eJ (0), eR 98]) rfl rfl rfl ?_
  refine w_s (np := 64) (lv' := [some (eR 98), some (eI (4)), some (eI (1)), some (eI (2)), some (eI (p)), some (eI (q)), some (eI (r)), some (eI (s)), some (eI (52)), some (eI (56))]) (st' := [eI (2), eI (56), eR 100, eJ (1), eJ (0), eR 98]) rfl rfl rfl ?_
  refine w_s (np := 65) (lv' := [some (eR 98), some (eI (4)), some (eI (1)), some (eI (2)), some (eI (p)), some (eI (q)), some (eI (r)), some (eI (s)), some (eI (52)), some (eI (56))]) (st' := [eI (58), eR 100, eJ (1), eJ (0), eR 98]) rfl (b_iadd rfl) rfl ?_
  refine w_al (np := 66) (v := -1) rfl rfl (t_al (k := 58) hq rfl (by decide) rfl) ?_
  refine w_s (np := 67) (lv' := [some (eR 98), some (eI (4)), some (eI (1)), some (eI (2)), some (eI (p)), some (eI (q)), some (eI (r)), some (eI (s)), some (eI (52)), some (eI (56))]) (st' := [eR 98, eI (-1), eJ (1), eJ (0), eR 98]) rfl (s_an rfl (by decide)) rfl ?_
  refine w_gf (np := 70) (v := eR 100) rfl rfl hq.1 (by rw [hq.2.1]; rfl) ?_
  refine w_s (np := 72) (lv' := [some (eR 98), some (eI (4)), some (eI (1)), some (eI (2)), some (eI (p)), some (eI (q)), some (eI (r)), some (eI (s)), some (eI (52)), some (eI (56))]) (st' := [eI (52), eR 100, eI (-1), eJ (1), eJ (0), eR 98]) rfl rfl rfl ?_
  refine w_s (np := 73) (lv' := [some (eR 98), some (eI (4)), some (eI (1)), some (eI (2)), some (eI (p)), some (eI (q)), some (eI (r)), some (eI (s)), some (eI (52)), some (eI (56))]) (st' := [eI (2), eI (52), eR 100, eI (-1), eJ (1), eJ (0), eR 98]) rfl rfl rfl ?_
  refine w_s (np := 74) (lv' := [some (eR 98), some (eI (4)), some (eI (1)), some (eI (2)), some (eI (p)), some (eI (q)), some (eI (r)), some (eI (s)), some (eI (52)), some (eI (56))]) (st' := [eI (54), eR 100, eI (-1), eJ (1), eJ (0), eR 98]) rfl (b_iadd rfl) rfl ?_
  refine w_al (np := 75) (v := 0) rfl rfl (t_al (k := 54) hq rfl (by decide) rfl) ?_
  refine w_s (np := 76) (lv' := [some (eR 98), some (eI (4)), some (eI (1)), some (eI (2)), some (eI (p)), some (eI (q)), some (eI (r)), some (eI (s)), some (eI (52)), some (eI (56))]) (st' := [eI (-1), eJ (1), eJ (0), eR 98]) rfl (b_isub rfl) rfl ?_
  refine w_s (np := 77) (lv' := [some (eR 98), some (eI (4)), some (eI (1)), some (eI (2)), some (eI (p)), some (eI (q)), some (eI (r)), some (eI (s)), some (eI (52)), some (eI (56))]) (st' := [eJ (-1), eJ (1), eJ (0), eR 98]) rfl (b_i2l rfl) rfl ?_
  refine w_s (np := 78) (lv' := [some (eR 98), some (eI (4)), some (eI (1)), some (eI (2)), some (eI (p)), some (eI (q)), some (eI (r)), some (eI (s)), some (eI (52)), some (eI (56))]) (st' := [eR 98, eJ (-1), eJ (1), eJ (0), eR 98]) rfl (s_an rfl (by decide)) rfl ?_
  refine w_gf (np := 81) (v := eR 100) rfl rfl hq.1 (by rw [hq.2.1]; rfl) ?_
  refine w_s (np := 83) (lv' := [some (eR 98), some (eI (4)), some (eI (1)), some (eI (2)), some (eI (p)), some (eI (q)), some (eI (r)), some (eI (s)), some (eI (52)), some (eI (56))]) (st' := [eI (56), eR 100, eJ (-1), eJ (1), eJ (0), eR 98]) rfl rfl rfl ?_
  refine w_s (np := 84) (lv' := [some (eR 98), some (eI (4)), some (eI (1)), some (eI (2)), some (eI (p)), some (eI (q)), some (eI (r)), some (eI (s)), some (eI (52)), some (eI (56))]) (st' := [eI (3), eI (56), eR 100, eJ (-1), eJ (1), eJ (0), eR 98]) rfl rfl rfl ?_
  refine w_s (np := 85) (lv' := [some (eR 98), some (eI (4)), some (eI (1)), some (eI (2)), some (eI (p)), some (eI (q)), some (eI (r)), some (eI (s)), some (eI (52)), some (eI (56))]) (st' := [eI (59), eR 100, eJ (-1), eJ (1), eJ (0), eR 98]) rfl (b_iadd rfl) rfl ?_
  refine w_al (np := 86) (v := 1) rfl rfl (t_al (k := 59) hq rfl (by decide) rfl) ?_
  refine w_s (np := 87) (lv' := [some (eR 98), some (eI (4)), some (eI (1)), some (eI (2)), some (eI (p)), some (eI (q)), some (eI (r)), some (eI (s)), some (eI (52)), some (eI (56))]) (st' := [eR 98, eI (1), eJ (-1), eJ (1), eJ (0), eR 98]) rfl (s_an rfl (by decide)) rfl ?_
  refine w_gf (np := 90) (v := eR 100) rfl rfl hq.1 (by rw [hq.2.1]; rfl) ?_
  refine w_s (np := 92) (lv' := [some (eR 98), some (eI (4)), some (eI (1)), some (eI (2)), some (eI (p)), some (eI (q)), some (eI (r)), some (eI (s)), some (eI (52)), some (eI (56))]) (st' := [eI (52), eR 100, eI (1), eJ (-1), eJ (1), eJ (0), eR 98]) rfl rfl rfl ?_
  refine w_s (np := 93) (lv' := [some (eR 98), some (eI (4)), some (eI (1)), some (eI (2)), some (eI (p)), some (eI (q)), some (eI (r)), some (eI (s)), some (eI (52)), some (eI (56))]) (st' := [eI (3), eI (52), eR 100, eI (1), eJ (-1), eJ (1), eJ (0), eR 98]) rfl rfl rfl ?_
  refine w_s (np := 94) (lv' := [some (eR 98), some (eI (4)), some (eI (1)), some (eI (2)), some (eI (p)), some (eI (q)), some (eI (r)), some (eI (s)), some (eI (52)), some (eI (56))]) (st' := [eI (55), eR 100, eI (1), eJ (-1), eJ (1), eJ (0), eR 98]) rfl (b_iadd rfl) rfl ?_
  refine w_al (np := 95) (v := 0) rfl rfl (t_al (k := 55) hq rfl (by decide) rfl) ?_
  refine w_s (np := 96) (lv' := [some (eR 98), some (eI (4)), some (eI (1)), some (eI (2)), some (eI (p)), some (eI (q)), some (eI (r)), some (eI (s)), some (eI (52)), some (eI (56))]) (st' := [eI (1), eJ (-1), eJ (1), eJ (0), eR 98]) rfl (b_isub rfl) rfl ?_
  refine w_s (np := 97) (lv' := [some (eR 98), some (eI (4)), some (eI (1)), some (eI (2)), some (eI (p)), some (eI (q)), some (eI (r)), some (eI (s)), some (eI (52)), some (eI (56))]) (st' := [eJ (1), eJ (-1), eJ (1), eJ (0), eR 98]) rfl (b_i2l rfl) rfl ?_
  refine w_s (np := 99) (lv' := [some (eR 98), some (eI (4)), some (eI (1)), some (eI (2)), some (eI (p)), some (eI (q)), some (eI (r)), some (eI (s)), some (eI (52)), some (eI (56))]) (st' := [eI (p), eJ (1), eJ (-1), eJ (1), eJ (0), eR 98]) rfl rfl rfl ?_
  refine w_s (np := 100) (lv' := [some (eR 98), some (eI (4)), some (eI (1)), some (eI (2)), some (eI (p)), some (eI (q)), some (eI (r)), some (eI (s)), some (eI (52)), some (eI (56))]) (st' := [eJ (p), eJ (1), eJ (-1), eJ (1), eJ (0), eR 98]) rfl (b_i2l (ev_w_in (by omega) (by omega))) rfl ?_
  refine w_s (np := 101) (lv' := [some (eR 98), some (eI (4)), some (eI (1)), some (eI (2)), some (eI (p)), some (eI (q)), some (eI (r)), some (eI (s)), some (eI (52)), some (eI (56))]) (st' := [eR 98, eJ (p), eJ (1), eJ (-1), eJ (1), eJ (0), eR 98]) rfl (s_an rfl (by decide)) rfl ?_
  refine w_gf (np := 104) (v := eR 100) rfl rfl hq.1 (by rw [hq.2.1]; rfl) ?_
  refine w_s (np := 106) (lv' := [some (eR 98), some (eI (4)), some (eI (1)), some (eI (2)), some (eI (p)), some (eI (q)), some (eI (r)), some (eI (s)), some (eI (52)), some (eI (56))]) (st' := [eI (52), eR 100, eJ (p), eJ (1), eJ (-1), eJ (1), eJ (0), eR 98]) rfl rfl rfl ?_
  refine w_al (np := 107) (v := -1) rfl rfl (t_al (k := 52) hq rfl (by decide) rfl) ?_
  refine w_s (np := 108) (lv' := [some (eR 98), some (eI (4)), some (eI (1)), some (eI (2)), some (eI (p)), some (eI (q)), some (eI (r)), some (eI (s)), some (eI (52)), some (eI (56))]) (st' := [eJ (-1), eJ (p), eJ (1), eJ (-1), eJ (1), eJ (0), eR 98]) rfl (b_i2l rfl) rfl ?_
  obtain ⟨v1, e2⟩ : ∃ v : Int, v = (p) - (-1) := ⟨_, rfl⟩
  have b3 : -9998 ≤ v1 ∧ v1 ≤ 10000 := by omega
  refine w_s (np := 109) (lv' := [some (eR 98), some (eI (4)), some (eI (1)), some (eI (2)), some (eI (p)), some (eI (q)), some (eI (r)), some (eI (s)), some (eI (52)), some (eI (56))]) (st' := [eJ (v1), eJ (1), eJ (-1), eJ (1), eJ (0), eR 98]) rfl (b_lsub (by rw [← e2]; exact ev_W_in (by omega) (by omega))) rfl ?_
  refine w_s (np := 111) (lv' := [some (eR 98), some (eI (4)), some (eI (1)), some (eI (2)), some (eI (p)), some (eI (q)), some (eI (r)), some (eI (s)), some (eI (52)), some (eI (56))]) (st' := [eI (q), eJ (v1), eJ (1), eJ (-1), eJ (1), eJ (0), eR 98]) rfl rfl rfl ?_
  refine w_s (np := 112) (lv' := [some (eR 98), some (eI (4)), some (eI (1)), some (eI (2)), some (eI (p)), some (eI (q)), some (eI (r)), some (eI (s)), some (eI (52)), some (eI (56))]) (st' := [eJ (q), eJ (v1), eJ (1), eJ (-1), eJ (1), eJ (0), eR 98]) rfl (b_i2l (ev_w_in (by omega) (by omega))) rfl ?_
  refine w_s (np := 113) (lv' := [some (eR 98), some (eI (4)), some (eI (1)), some (eI (2)), some (eI (p)), some (eI (q)), some (eI (r)), some (eI (s)), some (eI (52)), some (eI (56))]) (st' := [eR 98, eJ (q), eJ (v1), eJ (1), eJ (-1), eJ (1), eJ (0), eR 98]) rfl (s_an rfl (by decide)) rfl ?_
  refine w_gf (np := 116) (v := eR 100) rfl rfl hq.1 (by rw [hq.2.1]; rfl) ?_
  refine w_s (np := 118) (lv' := [some (eR 98), some (eI (4)), some (eI (1)), some (eI (2)), some (eI (p)), some (eI (q)), some (eI (r)), some (eI (s)), some (eI (52)), some (eI (56))]) (st' := [eI (52), eR 100, eJ (q), eJ (v1), eJ (1), eJ (-1), eJ (1), eJ (0), eR 98]) rfl rfl rfl ?_
  refine w_s (np := 119) (lv' := [some (eR 98), some (eI (4)), some (eI (1)), some (eI (2)), some (eI (p)), some (eI (q)), some (eI (r)), some (eI (s)), some (eI (52)), some (eI (56))]) (st' := [eI (1), eI (52), eR 100, eJ (q), eJ (v1), eJ (1), eJ (-1), eJ (1), eJ (0), eR 98]) rfl rfl rfl ?_
  refine w_s (np := 120) (lv' := [some (eR 98), some (eI (4)), some (eI (1)), some (eI (2)), some (eI (p)), some (eI (q)), some (eI (r)), some (eI (s)), some (eI (52)), some (eI (56))]) (st' := [eI (53), eR 100, eJ (q), eJ (v1), eJ (1), eJ (-1), eJ (1), eJ (0), eR 98]) rfl (b_iadd rfl) rfl ?_
  refine w_al (np := 121) (v := 0) rfl rfl (t_al (k := 53) hq rfl (by decide) rfl) ?_
  refine w_s (np := 122) (lv' := [some (eR 98), some (eI (4)), some (eI (1)), some (eI (2)), some (eI (p)), some (eI (q)), some (eI (r)), some (eI (s)), some (eI (52)), some (eI (56))]) (st' := [eJ (0), eJ (q), eJ (v1), eJ (1), eJ (-1), eJ (1), eJ (0), eR 98]) rfl (b_i2l rfl) rfl ?_
  obtain ⟨v4, e5⟩ : ∃ v : Int, v = (q) - (0) := ⟨_, rfl⟩
  have b6 : -9999 ≤ v4 ∧ v4 ≤ 9999 := by omega
  refine w_s (np := 123) (lv' := [some (eR 98), some (eI (4)), some (eI (1)), some (eI (2)), some (eI (p)), some (eI (q)), some (eI (r)), some (eI (s)), some (eI (52)), some (eI (56))]) (st' := [eJ (v4), eJ (v1), eJ (1), eJ (-1), eJ (1), eJ (0), eR 98]) rfl (b_lsub (by rw [← e5]; exact ev_W_in (by omega) (by omega))) rfl ?_
  refine w_s (np := 125) (lv' := [some (eR 98), some (eI (4)), some (eI (1)), some (eI (2)), some (eI (p)), some (eI (q)), some (eI (r)), some (eI (s)), some (eI (52)), some (eI (56))]) (st' := [eI (r), eJ (v4), eJ (v1), eJ (1), eJ (-1), eJ (1), eJ (0), eR 98]) rfl rfl rfl ?_
  refine w_s (np := 126) (lv' := [some (eR 98), some (eI (4)), some (eI (1)), some (eI (2)), some (eI (p)), some (eI (q)), some (eI (r)), some (eI (s)), some (eI (52)), some (eI (56))]) (st' := [eJ (r), eJ (v4), eJ (v1), eJ (1), eJ (-1), eJ (1), eJ (0), eR 98]) rfl (b_i2l (ev_w_in (by omega) (by omega))) rfl ?_
  refine w_s (np := 127) (lv' := [some (eR 98), some (eI (4)), some (eI (1)), some (eI (2)), some (eI (p)), some (eI (q)), some (eI (r)), some (eI (s)), some (eI (52)), some (eI (56))]) (st' := [eR 98, eJ (r), eJ (v4), eJ (v1), eJ (1), eJ (-1), eJ (1), eJ (0), eR 98]) rfl (s_an rfl (by decide)) rfl ?_
  refine w_gf (np := 130) (v := eR 100) rfl rfl hq.1 (by rw [hq.2.1]; rfl) ?_
  refine w_s (np := 132) (lv' := [some (eR 98), some (eI (4)), some (eI (1)), some (eI (2)), some (eI (p)), some (eI (q)), some (eI (r)), some (eI (s)), some (eI (52)), some (eI (56))]) (st' := [eI (52), eR 100, eJ (r), eJ (v4), eJ (v1), eJ (1), eJ (-1), eJ (1), eJ (0), eR 98]) rfl rfl rfl ?_
  refine w_s (np := 133) (lv' := [some (eR 98), some (eI (4)), some (eI (1)), some (eI (2)), some (eI (p)), some (eI (q)), some (eI (r)), some (eI (s)), some (eI (52)), some (eI (56))]) (st' := [eI (2), eI (52), eR 100, eJ (r), eJ (v4), eJ (v1), eJ (1), eJ (-1), eJ (1), eJ (0), eR 98]) rfl rfl rfl ?_
  refine w_s (np := 134) (lv' := [some (eR 98), some (eI (4)), some (eI (1)), some (eI (2)), some (eI (p)), some (eI (q)), some (eI (r)), some (eI (s)), some (eI (52)), some (eI (56))]) (st' := [eI (54), eR 100, eJ (r), eJ (v4), eJ (v1), eJ (1), eJ (-1), eJ (1), eJ (0), eR 98]) rfl (b_iadd rfl) rfl ?_
  refine w_al (np := 135) (v := 0) rfl rfl (t_al (k := 54) hq rfl (by decide) rfl) ?_
  refine w_s (np := 136) (lv' := [some (eR 98), some (eI (4)), some (eI (1)), some (eI (2)), some (eI (p)), some (eI (q)), some (eI (r)), some (eI (s)), some (eI (52)), some (eI (56))]) (st' := [eJ (0), eJ (r), eJ (v4), eJ (v1), eJ (1), eJ (-1), eJ (1), eJ (0), eR 98]) rfl (b_i2l rfl) rfl ?_
  obtain ⟨v7, e8⟩ : ∃ v : Int, v = (r) - (0) := ⟨_, rfl⟩
  have b9 : -9999 ≤ v7 ∧ v7 ≤ 9999 := by omega
  refine w_s (np := 137) (lv' := [some (eR 98), some (eI (4)), some (eI (1)), some (eI (2)), some (eI (p)), some (eI (q)), some (eI (r)), some (eI (s)), some (eI (52)), some (eI (56))]) (st' := [eJ (v7), eJ (v4), eJ (v1), eJ (1), eJ (-1), eJ (1), eJ (0), eR 98]) rfl (b_lsub (by rw [← e8]; exact ev_W_in (by omega) (by omega))) rfl ?_
  refine w_s (np := 139) (lv' := [some (eR 98), some (eI (4)), some (eI (1)), some (eI (2)), some (eI (p)), some (eI (q)), some (eI (r)), some (eI (s)), some (eI (52)), some (eI (56))]) (st' := [eI (s), eJ (v7), eJ (v4), eJ (v1), eJ (1), eJ (-1), eJ (1), eJ (0), eR 98]) rfl rfl rfl ?_
  refine w_s (np := 140) (lv' := [some (eR 98), some (eI (4)), some (eI (1)), some (eI (2)), some (eI (p)), some (eI (q)), some (eI (r)), some (eI (s)), some (eI (52)), some (eI (56))]) (st' := [eJ (s), eJ (v7), eJ (v4), eJ (v1), eJ (1), eJ (-1), eJ (1), eJ (0), eR 98]) rfl (b_i2l (ev_w_in (by omega) (by omega))) rfl ?_
  refine w_s (np := 141) (lv' := [some (eR 98), some (eI (4)), some (eI (1)), some (eI (2)), some (eI (p)), some (eI (q)), some (eI (r)), some (eI (s)), some (eI (52)), some (eI (56))]) (st' := [eR 98, eJ (s), eJ (v7), eJ (v4), eJ (v1), eJ (1), eJ (-1), eJ (1), eJ (0), eR 98]) rfl (s_an rfl (by decide)) rfl ?_
  refine w_gf (np := 144) (v := eR 100) rfl rfl hq.1 (by rw [hq.2.1]; rfl) ?_
  refine w_s (np := 146) (lv' := [some (eR 98), some (eI (4)), some (eI (1)), some (eI (2)), some (eI (p)), some (eI (q)), some (eI (r)), some (eI (s)), some (eI (52)), some (eI (56))]) (st' := [eI (52), eR 100, eJ (s), eJ (v7), eJ (v4), eJ (v1), eJ (1), eJ (-1), eJ (1), eJ (0), eR 98]) rfl rfl rfl ?_
  refine w_s (np := 147) (lv' := [some (eR 98), some (eI (4)), some (eI (1)), some (eI (2)), some (eI (p)), some (eI (q)), some (eI (r)), some (eI (s)), some (eI (52)), some (eI (56))]) (st' := [eI (3), eI (52), eR 100, eJ (s), eJ (v7), eJ (v4), eJ (v1), eJ (1), eJ (-1), eJ (1), eJ (0), eR 98]) rfl rfl rfl ?_
  refine w_s (np := 148) (lv' := [some (eR 98), some (eI (4)), some (eI (1)), some (eI (2)), some (eI (p)), some (eI (q)), some (eI (r)), some (eI (s)), some (eI (52)), some (eI (56))]) (st' := [eI (55), eR 100, eJ (s), eJ (v7), eJ (v4), eJ (v1), eJ (1), eJ (-1), eJ (1), eJ (0), eR 98]) rfl (b_iadd rfl) rfl ?_
  refine w_al (np := 149) (v := 0) rfl rfl (t_al (k := 55) hq rfl (by decide) rfl) ?_
  refine w_s (np := 150) (lv' := [some (eR 98), some (eI (4)), some (eI (1)), some (eI (2)), some (eI (p)), some (eI (q)), some (eI (r)), some (eI (s)), some (eI (52)), some (eI (56))]) (st' := [eJ (0), eJ (s), eJ (v7), eJ (v4), eJ (v1), eJ (1), eJ (-1), eJ (1), eJ (0), eR 98]) rfl (b_i2l rfl) rfl ?_
  obtain ⟨v10, e11⟩ : ∃ v : Int, v = (s) - (0) := ⟨_, rfl⟩
  have b12 : -9999 ≤ v10 ∧ v10 ≤ 9999 := by omega
  refine w_s (np := 151) (lv' := [some (eR 98), some (eI (4)), some (eI (1)), some (eI (2)), some (eI (p)), some (eI (q)), some (eI (r)), some (eI (s)), some (eI (52)), some (eI (56))]) (st' := [eJ (v10), eJ (v7), eJ (v4), eJ (v1), eJ (1), eJ (-1), eJ (1), eJ (0), eR 98]) rfl (b_lsub (by rw [← e11]; exact ev_W_in (by omega) (by omega))) rfl ?_
  refine w_cv (np := 154) (as := [eJ (0), eJ (1), eJ (-1), eJ (1), eJ (v1), eJ (v4), eJ (v7), eJ (v10)]) (lv' := [some (eR 98), some (eJ (0)), none, some (eJ (1)), none, some (eJ (-1)), none, some (eJ (1)), none, some (eJ (v1)), none, some (eJ (v4)), none, some (eJ (v7)), none, some (eJ (v10)), none]) (rest := []) rfl rfl rfl (Nat.ble_eq.mp rfl) rfl rfl rfl hq.1 rfl ?_
  refine t224 hq.1 (show (-8 : Int) ≤ 0 ∧ (0 : Int) ≤ 8 by omega) (show (-8 : Int) ≤ 1 ∧ (1 : Int) ≤ 8 by omega) (show (-8 : Int) ≤ -1 ∧ (-1 : Int) ≤ 8 by omega) (show (-8 : Int) ≤ 1 ∧ (1 : Int) ≤ 8 by omega) (show (-100000 : Int) ≤ v1 ∧ (v1 : Int) ≤ 100000 by omega) (show (-100000 : Int) ≤ v4 ∧ (v4 : Int) ≤ 100000 by omega) (show (-100000 : Int) ≤ v7 ∧ (v7 : Int) ≤ 100000 by omega) (show (-100000 : Int) ≤ v10 ∧ (v10 : Int) ≤ 100000 by omega) ?_
  intro m B G s1 eB eG bB bG
  show ex_fine fg rc rs (d + 4, (265, 154, [some (eR 98), some (eI (4)), some (eI (1)), some (eI (2)), some (eI (p)), some (eI (q)), some (eI (r)), some (eI (s)), some (eI (52)), some (eI (56))], [eI (rSg (2 * B + G) G)]), f :: F, m)
  refine b_ri rfl rfl ?_
  have hB : B = (-1) * p + 1 * q + (-1) * s + (-1) := by omega
  have hG : G = (-1) * q + 1 * s := by omega
  have hr := rSg_ok (x := 2 * B + G) (b := G) (by omega)
  have e9 : 416020 * (2 * B + G) + 930249 * G = (-832040) * p + (-514229) * q + 514229 * s + (-832040) := by omega
  rw [e9] at hr
  exact K m _ s1 hr (rSg_v _ _)
theorem t265_4_2 {fg : eG} {rc rs d : Nat} {f : eFr} {F : List eFr} {μ : eM} {p q r s : Int} (hq : tQ μ) (hp : -9999 ≤ p ∧ p ≤ 9999) (hq0 : -9999 ≤ q ∧ q ≤ 9999) (hr : -9999 ≤ r ∧ r ≤ 9999) (hs : -9999 ≤ s ∧ s ≤ 9999) (K : ∀ (μ2 : eM) (u : Int), tS μ μ2 → ((0 ≤ u ↔ 0 ≤ 832040 * p + 1346269 * q + 1346269 * r + 832040 * s) ∧ (u ≤ 0 ↔ 832040 * p + 1346269 * q + 1346269 * r + 832040 * s ≤ 0)) → (u = 0 ∨ u = 1 ∨ u = -1) → ex_fine fg rc rs (d + 5, (f.1, f.2.1, f.2.2.1, eI u :: f.2.2.2), F, μ2)) : ex_fine fg rc rs (d + 4, (265, 0, [some (eR 98), some (eI (4)), some (eI (2)), some (eI (0)), some (eI (p)), some (eI (q)), some (eI (r)), some (eI (s)), none, none], []), f :: F, μ) := by
  refine w_s (np := 2) (lv' := [some (eR 98), some (eI (4)), some (eI (2)), some (eI (0)), some (eI (p)), some (eI (q)), some (eI (r)), some (eI (s)), none, none]) (st' := [eI (12)]) rfl rfl rfl ?_
  refine w_s (np := 3) (lv' := [some (eR 98), some (eI (4)), some (eI (2)), some (eI (0)), some (eI (p)), some (eI (q)), some (eI (r)), some (eI (s)), none, none]) (st' := [eI (4), eI (12)]) rfl rfl rfl ?_
  refine w_s (np := 4) (lv' := [some (eR 98), some (eI (4)), some (eI (2)), some (eI (0)), some (eI (p)), some (eI (q)), some (eI (r)), some (eI (s)), none, none]) (st' := [eI (48)]) rfl (b_imul rfl) rfl ?_
  refine w_s (np := 5) (lv' := [some (eR 98), some (eI (4)), some (eI (2)), some (eI (0)), some (eI (p)), some (eI (q)), some (eI (r)), some (eI (s)), none, none]) (st' := [eI (4), eI (48)]) rfl rfl rfl ?_
  refine w_s (np := 6) (lv' := [some (eR 98), some (eI (4)), some (eI (2)), some (eI (0)), some (eI (p)), some (eI (q)), some (eI (r)), some (eI (s)), none, none]) (st' := [eI (2), eI (4), eI (48)]) rfl rfl rfl ?_
  refine w_s (np := 7) (lv' := [some (eR 98), some (eI (4)), some (eI (2)), some (eI (0)), some (eI (p)), some (eI (q)), some (eI (r)), some (eI (s)), none, none]) (st' := [eI (8), eI (48)]) rfl (b_imul rfl) rfl ?_
  refine w_s (np := 8) (lv' := [some (eR 98), some (eI (4)), some (eI (2)), some (eI (0)), some (eI (p)), some (eI (q)), some (eI (r)), some (eI (s)), none, none]) (st' := [eI (56)]) rfl (b_iadd rfl) rfl ?_
  refine w_s (np := 10) (lv' := [some (eR 98), some (eI (4)), some (eI (2)), some (eI (0)), some (eI (p)), some (eI (q)), some (eI (r)), some (eI (s)), some (eI (56)), none]) (st' := []) rfl rfl rfl ?_
  refine w_s (np := 12) (lv' := [some (eR 98), some (eI (4)), some (eI (2)), some (eI (0)), some (eI (p)), some (eI (q)), some (eI (r)), some (eI (s)), some (eI (56)), none]) (st' := [eI (12)]) rfl rfl rfl ?_
  refine w_s (np := 13) (lv' := [some (eR 98), some (eI (4)), some (eI (2)), some (eI (0)), some (eI (p)), some (eI (q)), some (eI (r)), some (eI (s)), some (eI (56)), none]) (st' := [eI (4), eI (12)]) rfl rfl rfl ?_
  refine w_s (np := 14) (lv' := [some (eR 98), some (eI (4)), some (eI (2)), some (eI (0)), some (eI (p)), some (eI (q)), some (eI (r)), some (eI (s)), some (eI (56)), none]) (st' := [eI (48)]) rfl (b_imul rfl) rfl ?_
  refine w_s (np := 15) (lv' := [some (eR 98), some (eI (4)), some (eI (2)), some (eI (0)), some (eI (p)), some (eI (q)), some (eI (r)), some (eI (s)), some (eI (56)), none]) (st' := [eI (4), eI (48)]) rfl rfl rfl ?_
  refine w_s (np := 16) (lv' := [some (eR 98), some (eI (4)), some (eI (2)), some (eI (0)), some (eI (p)), some (eI (q)), some (eI (r)), some (eI (s)), some (eI (56)), none]) (st' := [eI (0), eI (4), eI (48)]) rfl rfl rfl ?_
  refine w_s (np := 17) (lv' := [some (eR 98), some (eI (4)), some (eI (2)), some (eI (0)), some (eI (p)), some (eI (q)), some (eI (r)), some (eI (s)), some (eI (56)), none]) (st' := [eI (0), eI (48)]) rfl (b_imul rfl) rfl ?_
  refine w_s (np := 18) (lv' := [some (eR 98), some (eI (4)), some (eI (2)), some (eI (0)), some (eI (p)), some (eI (q)), some (eI (r)), some (eI (s)), some (eI (56)), none]) (st' := [eI (48)]) rfl (b_iadd rfl) rfl ?_
  refine w_s (np := 20) (lv' := [some (eR 98), some (eI (4)), some (eI (2)), some (eI (0)), some (eI (p)), some (eI (q)), some (eI (r)), some (eI (s)), some (eI (56)), some (eI (48))]) (st' := []) rfl rfl rfl ?_
  refine w_s (np := 21) (lv' := [some (eR 98), some (eI (4)), some (eI (2)), some (eI (0)), some (eI (p)), some (eI (q)), some (eI (r)), some (eI (s)), some (eI (56)), some (eI (48))]) (st' := [eR 98]) rfl (s_an rfl (by decide)) rfl ?_
  refine w_s (np := 22) (lv' := [some (eR 98), some (eI (4)), some (eI (2)), some (eI (0)), some (eI (p)), some (eI (q)), some (eI (r)), some (eI (s)), some (eI (56)), some (eI (48))]) (st' := [eR 98, eR 98]) rfl (s_an rfl (by decide)) rfl ?_
  refine w_gf (np := 25) (v := eR 100) rfl rfl hq.1 (by rw [hq.2.1]; rfl) ?_
  refine w_s (np := 27) (lv' := [some (eR 98), some (eI (4)), some (eI (2)), some (eI (0)), some (eI (p)), some (eI (q)), some (eI (r)), some (eI (s)), some (eI (56)), some (eI (48))]) (st' := [eI (48), eR 100, eR 98]) rfl rfl rfl ?_
  refine w_al (np := 28) (v := 0) rfl rfl (t_al (k := 48) hq rfl (by decide) rfl) ?_
  refine w_s (np := 29) (lv' := [some (eR 98), some (eI (4)), some (eI (2)), some (eI (0)), some (eI (p)), some (eI (q)), some (eI (r)), some (eI (s)), some (eI (56)), some (eI (48))]) (st' := [eR 98, eI (0), eR 98]) rfl (s_an rfl (by decide)) rfl ?_
  refine w_gf (np := 32) (v := eR 100) rfl rfl hq.1 (by rw [hq.2.1]; rfl) ?_
  refine w_s (np := 34) (lv' := [some (eR 98), some (eI (4)), some (eI (2)), some (eI (0)), some (eI (p)), some (eI (q)), some (eI (r)), some (eI (s)), some (eI (56)), some (eI (48))]) (st' := [eI (56), eR 100, eI (0), eR 98]) rfl rfl rfl ?_
  refine w_al (np := 35) (v := -1) rfl rfl (t_al (k := 56) hq rfl (by decide) rfl) ?_
  refine w_s (np := 36) (lv' := [some (eR 98), some (eI (4)), some (eI (2)), some (eI (0)), some (eI (p)), some (eI (q)), some (eI (r)), some (eI (s)), some (eI (56)), some (eI (48))]) (st' := [eI (1), eR 98]) rfl (b_isub rfl) rfl ?_
  refine w_s (np := 37) (lv' := [some (eR 98), some (eI (4)), some (eI (2)), some (eI (0)), some (eI (p)), some (eI (q)), some (eI (r)), some (eI (s)), some (eI (56)), some (eI (48))]) (st' := [eJ (1), eR 98]) rfl (b_i2l rfl) rfl ?_
  refine w_s (np := 38) (lv' := [some (eR 98), some (eI (4)), some (eI (2)), some (eI (0)), some (eI (p)), some (eI (q)), some (eI (r)), some (eI (s)), some (eI (56)), some (eI (48))]) (st' := [eR 98, eJ (1), eR 98]) rfl (s_an rfl (by decide)) rfl ?_
  refine w_gf (np := 41) (v := eR 100) rfl rfl hq.1 (by rw [hq.2.1]; rfl) ?_
  refine w_s (np := 43) (lv' := [some (eR 98), some (eI (4)), some (eI (2)), some (eI (0)), some (eI (p)), some (eI (q)), some (eI (r)), some (eI (s)), some (eI (56)), some (eI (48))]) (st' := [eI (48), eR 100, eJ (1), eR 98]) rfl rfl rfl ?_
  refine w_s (np := 44) (lv' := [some (eR 98), some (eI (4)), some (eI (2)), some (eI (0)), some (eI (p)), some (eI (q)), some (eI (r)), some (eI (s)), some (eI (56)), some (eI (48))]) (st' := [eI (1), eI (48), eR 100, eJ (1), eR 98]) rfl rfl rfl ?_
  refine w_s (np := 45) (lv' := [some (eR 98), some (eI (4)), some (eI (2)), some (eI (0)), some (eI (p)), some (eI (q)), some (eI (r)), some (eI (s)), some (eI (56)), some (eI (48))]) (st' := [eI (49), eR 100, eJ (1), eR 98]) rfl (b_iadd rfl) rfl ?_
  refine w_al (np := 46) (v := 0) rfl rfl (t_al (k := 49) hq rfl (by decide) rfl) ?_
  refine w_s (np := 47) (lv' := [some (eR 98), some (eI (4)), some (eI (2)), some (eI (0)), some (eI (p)), some (eI (q)), some (eI (r)), some (eI (s)), some (eI (56)), some (eI (48))]) (st' := [eR 98, eI (0), eJ (1), eR 98]) rfl (s_an rfl (by decide)) rfl ?_
  refine w_gf (np := 50) (v := eR 100) rfl rfl hq.1 (by rw [hq.2.1]; rfl) ?_
  refine w_s (np := 52) (lv' := [some (eR 98), some (eI (4)), some (eI (2)), some (eI (0)), some (eI (p)), some (eI (q)), some (eI (r)), some (eI (s)), some (eI (56)), some (eI (48))]) (st' := [eI (56), eR 100, eI (0), eJ (1), eR 98]) rfl rfl rfl ?_
  refine w_s (np := 53) (lv' := [some (eR 98), some (eI (4)), some (eI (2)), some (eI (0)), some (eI (p)), some (eI (q)), some (eI (r)), some (eI (s)), some (eI (56)), some (eI (48))]) (st' := [eI (1), eI (56), eR 100, eI (0), eJ (1), eR 98]) rfl rfl rfl ?_
  refine w_s (np := 54) (lv' := [some (eR 98), some (eI (4)), some (eI (2)), some (eI (0)), some (eI (p)), some (eI (q)), some (eI (r)), some (eI (s)), some (eI (56)), some (eI (48))]) (st' := [eI (57), eR 100, eI (0), eJ (1), eR 98]) rfl (b_iadd rfl) rfl ?_
  refine w_al (np := 55) (v := 1) rfl rfl (t_al (k := 57) hq rfl (by decide) rfl) ?_
  refine w_s (np := 56) (lv' := [some (eR 98), some (eI (4)), some (eI (2)), some (eI (0)), some (eI (p)), some (eI (q)), some (eI (r)), some (eI (s)), some (eI (56)), some (eI (48))]) (st' := [eI (-1), eJ (1), eR 98]) rfl (b_isub rfl) rfl ?_
  refine w_s (np := 57) (lv' := [some (eR 98), some (eI (4)), some (eI (2)), some (eI (0)), some (eI (p)), some (eI (q)), some (eI (r)), some (eI (s)), some (eI (56)), some (eI (48))]) (st' := [eJ (-1), eJ (1), eR 98]) rfl (b_i2l rfl) rfl ?_
  refine w_s (np := 58) (lv' := [some (eR 98), some (eI (4)), some (eI (2)), some (eI (0)), some (eI (p)), some (eI (q)), some (eI (r)), some (eI (s)), some (eI (56)), some (eI (48))]) (st' := [eR 98, eJ (-1), eJ (1), eR 98]) rfl (s_an rfl (by decide)) rfl ?_
  refine w_gf (np := 61) (v := eR 100) rfl rfl hq.1 (by rw [hq.2.1]; rfl) ?_
  refine w_s (np := 63) (lv' := [some (eR 98), some (eI (4)), some (eI (2)), some (eI (0)), some (eI (p)), some (eI (q)), some (eI (r)), some (eI (s)), some (eI (56)), some (eI (48))]) (st' := [eI (48), eR 100, eJ (-1), eJ (1), eR 98]) rfl rfl rfl ?_
  refine w_s (np := 64) (lv' := [some (eR 98), some (eI (4)), some (eI (2)), some (eI (0)), some (eI (p)), some (eI (q)), some (eI (r)), some (eI (s)), some (eI (56)), some (eI (48))]) (st' := [eI (2), eI (48), eR 100, eJ (-1), eJ (1), eR 98]) rfl rfl rfl ?_
  refine w_s (np := 65) (lv' := [some (eR 98), some (eI (4)), some (eI (2)), some (eI (0)), some (eI (p)), some (eI (q)), some (eI (r)), some (eI (s)), some (eI (56)), some (eI (48))]) (st' := [eI (50), eR 100, eJ (-1), eJ (1), eR 98]) rfl (b_iadd rfl) rfl ?_
  refine w_al (np := 66) (v := 0) rfl rfl (t_al (k := 50) hq rfl (by decide) rfl) ?_
  refine w_s (np := 67) (lv' := [some (eR 98), some (eI (4)), some (eI (2)), some (eI (0)), some (eI (p)), some (eI (q)), some (eI (r)), some (eI (s)), some (eI (56)), some (eI (48))]) (st' := [eR 98, eI (0), eJ (-1), eJ (1), eR 98]) rfl (s_an rfl (by decide)) rfl ?_
  refine w_gf (np := 70) (v := eR 100) rfl rfl hq.1 (by rw [hq.2.1]; rfl) ?_
  refine w_s (np := 72) (lv' := [some (eR 98), some (eI (4)), some (eI (2)), some (eI (0)), some (eI (p)), some (eI (q)), some (eI (r)), some (eI (s)), some (eI (56)), some (eI (48))]) (st' := [eI (56), eR 100, eI (0), eJ (-1), eJ (1), eR 98]) rfl rfl rfl ?_
  refine w_s (np := 73) (lv' := [some (eR 98), some (eI (4)), some (eI (2)), some (eI (0)), some (eI (p)), some (eI (q)), some (eI (r)), some (eI (s)), some (eI (56)), some (eI (48))]) (st' := [eI (2), eI (56), eR 100, eI (0), eJ (-1), eJ (1), eR 98]) rfl rfl rfl ?_
  refine w_s (np := 74) (lv' := [some (eR 98), some (eI (4)), some (eI (2)), some (eI (0)), some (eI (p)), some (eI (q)), some (eI (r)), some (eI (s)), some (eI (56)), some (eI (48))]) (st' := [eI (58), eR 100, eI (0), eJ (-1), eJ (1), eR 98]) rfl (b_iadd rfl) rfl ?_
  refine w_al (np := 75) (v := -1) rfl rfl (t_al (k := 58) hq rfl (by decide) rfl) ?_
  refine w_s (np := 76) (lv' := [some (eR 98), some (eI (4)), some (eI (2)), some (eI (0)), some (eI (p)), some (eI (q)), some (eI (r)), some (eI (s)), some (eI (56)), some (eI (48))]) (st' := [eI (1), eJ (-1), eJ (1), eR 98]) rfl (b_isub rfl) rfl ?_
  refine w_s (np := 77) (lv' := [some (eR 98), some (eI (4)), some (eI (2)), some (eI (0)), some (eI (p)), some (eI (q)), some (eI (r)), some (eI (s)), some (eI (56)), some (eI (48))]) (st' := [eJ (1), eJ (-1), eJ (1), eR 98]) rfl (b_i2l rfl) rfl ?_
  refine w_s (np := 78) (lv' := [some (eR 98), some (eI (4)), some (eI (2)), some (eI (0)), some (eI (p)), some (eI (q)), some (eI (r)), some (eI (s)), some (eI (56)), some (eI (48))]) (st' := [eR 98, eJ (1), eJ (-1), eJ (1), eR 98]) rfl (s_an rfl (by decide)) rfl ?_
  refine w_gf (np := 81) (v := eR 100) rfl rfl hq.1 (by rw [hq.2.1]; rfl) ?_
  refine w_s (np := 83) (lv' := [some (eR 98), some (eI (4)), some (eI (2)), some (eI (0)), some (eI (p)), some (eI (q)), some (eI (r)), some (eI (s)), some (eI (56)), some (eI (48))]) (st' := [eI (48), eR 100, eJ (1), eJ (-1), eJ (1), eR 98]) rfl rfl rfl ?_
  refine w_s (np := 84) (lv' := [some (eR 98), some (eI (4)), some (eI (2)), some (eI (0)), some (eI (p)), some (eI (q)), some (eI (r)), some (eI (s)), some (eI (56)), some (eI (48))]) (st' := [eI (3), eI (48), eR 100, eJ (1), eJ (-1), eJ (1), eR 98]) rfl rfl rfl ?_
  refine w_s (np := 85) (lv' := [some (eR 98), some (eI (4)), some (eI (2)), some (eI (0)), some (eI (p)), some (eI (q)), some (eI (r)), some (eI (s)), some (eI (56)), some (eI (48))]) (st' := [eI (51), eR 100, eJ (1), eJ (-1), eJ (1), eR 98]) rfl (b_iadd rfl) rfl ?_
  refine w_al (np := 86) (v := 0) rfl rfl (t_al (k := 51) hq rfl (by decide) rfl) ?_
  refine w_s (np := 87) (lv' := [some (eR 98), some (eI (4)), some (eI (2)), some (eI (0)), some (eI (p)), some (eI (q)), some (eI (r)), some (eI (s)), some (eI (56)), some (eI (48))]) (st' := [eR 98, eI (0), eJ (1), eJ (-1), eJ (1), eR 98]) rfl (s_an rfl (by decide)) rfl ?_
  refine w_gf (np := 90) (v := eR 100) rfl rfl hq.1 (by rw [hq.2.1]; rfl) ?_
  refine w_s (np := 92) (lv' := [some (eR 98), some (eI (4)), some (eI (2)), some (eI (0)), some (eI (p)), some (eI (q)), some (eI (r)), some (eI (s)), some (eI (56)), some (eI (48))]) (st' := [eI (56), eR 100, eI (0), eJ (1), eJ (-1), eJ (1), eR 98]) rfl rfl rfl ?_
  refine w_s (np := 93) (lv' := [some (eR 98), some (eI (4)), some (eI (2)), some (eI (0)), some (eI (p)), some (eI (q)), some (eI (r)), some (eI (s)), some (eI (56)), some (eI (48))]) (st' := [eI (3), eI (56), eR 100, eI (0), eJ (1), eJ (-1), eJ (1), eR 98]) rfl rfl rfl ?_
  refine w_s (np := 94) (lv' := [some (eR 98), some (eI (4)), some (eI (2)), some (eI (0)), some (eI (p)), some (eI (q)), some (eI (r)), some (eI (s)), some (eI (56)), some (eI (48))]) (st' := [eI (59), eR 100, eI (0), eJ (1), eJ (-1), eJ (1), eR 98]) rfl (b_iadd rfl) rfl ?_
  refine w_al (np := 95) (v := 1) rfl rfl (t_al (k := 59) hq rfl (by decide) rfl) ?_
  refine w_s (np := 96) (lv' := [some (eR 98), some (eI (4)), some (eI (2)), some (eI (0)), some (eI (p)), some (eI (q)), some (eI (r)), some (eI (s)), some (eI (56)), some (eI (48))]) (st' := [eI (-1), eJ (1), eJ (-1), eJ (1), eR 98]) rfl (b_isub rfl) rfl ?_
  refine w_s (np := 97) (lv' := [some (eR 98), some (eI (4)), some (eI (2)), some (eI (0)), some (eI (p)), some (eI (q)), some (eI (r)), some (eI (s)), some (eI (56)), some (eI (48))]) (st' := [eJ (-1), eJ (1), eJ (-1), eJ (1), eR 98]) rfl (b_i2l rfl) rfl ?_
  refine w_s (np := 99) (lv' := [some (eR 98), some (eI (4)), some (eI (2)), some (eI (0)), some (eI (p)), some (eI (q)), some (eI (r)), some (eI (s)), some (eI (56)), some (eI (48))]) (st' := [eI (p), eJ (-1), eJ (1), eJ (-1), eJ (1), eR 98]) rfl rfl rfl ?_
  refine w_s (np := 100) (lv' := [some (eR 98), some (eI (4)), some (eI (2)), some (eI (0)), some (eI (p)), some (eI (q)), some (eI (r)), some (eI (s)), some (eI (56)), some (eI (48))]) (st' := [eJ (p), eJ (-1), eJ (1), eJ (-1), eJ (1), eR 98]) rfl (b_i2l (ev_w_in (by omega) (by omega))) rfl ?_
  refine w_s (np := 101) (lv' := [some (eR 98), some (eI (4)), some (eI (2)), some (eI (0)), some (eI (p)), some (eI (q)), some (eI (r)), some (eI (s)), some (eI (56)), some (eI (48))]) (st' := [eR 98, eJ (p), eJ (-1), eJ (1), eJ (-1), eJ (1), eR 98]) rfl (s_an rfl (by decide)) rfl ?_
  refine w_gf (np := 104) (v := eR 100) rfl rfl hq.1 (by rw [hq.2.1]; rfl) ?_
  refine w_s (np := 106) (lv' := [some (eR 98), some (eI (4)), some (eI (2)), some (eI (0)), some (eI (p)), some (eI (q)), some (eI (r)), some (eI (s)), some (eI (56)), some (eI (48))]) (st' := [eI (56), eR 100, eJ (p), eJ (-1), eJ (1), eJ (-1), eJ (1), eR 98]) rfl rfl rfl ?_
  refine w_al (np := 107) (v := -1) rfl rfl (t_al (k := 56) hq rfl (by decide) rfl) ?_
  refine w_s (np := 108) (lv' := [some (eR 98), some (eI (4)), some (eI (2)), some (eI (0)), some (eI (p)), some (eI (q)), some (eI (r)), some (eI (s)), some (eI (56)), some (eI (48))]) (st' := [eJ (-1), eJ (p), eJ (-1), eJ (1), eJ (-1), eJ (1), eR 98]) rfl (b_i2l rfl) rfl ?_
  obtain ⟨v1, e2⟩ : ∃ v : Int, v = (p) - (-1) := ⟨_, rfl⟩
  have b3 : -9998 ≤ v1 ∧ v1 ≤ 10000 := by omega
  refine w_s (np := 109) (lv' := [some (eR 98), some (eI (4)), some (eI (2)), some (eI (0)), some (eI (p)), some (eI (q)), some (eI (r)), some (eI (s)), some (eI (56)), some (eI (48))]) (st' := [eJ (v1), eJ (-1), eJ (1), eJ (-1), eJ (1), eR 98]) rfl (b_lsub (by rw [← e2]; exact ev_W_in (by omega) (by omega))) rfl ?_
  refine w_s (np := 111) (lv' := [some (eR 98), some (eI (4)), some (eI (2)), some (eI (0)), some (eI (p)), some (eI (q)), some (eI (r)), some (eI (s)), some (eI (56)), some (eI (48))]) (st' := [eI (q), eJ (v1), eJ (-1), eJ (1), eJ (-1), eJ (1), eR 98]) rfl rfl rfl ?_
  refine w_s (np := 112) (lv' := [some (eR 98), some (eI (4)), some (eI (2)), some (eI (0)), some (eI (p)), some (eI (q)), some (eI (r)), some (eI (s)), some (eI (56)), some (eI (48))]) (st' := [eJ (q), eJ (v1), eJ (-1), eJ (1), eJ (-1), eJ (1), eR 98]) rfl (b_i2l (ev_w_in (by omega) (by omega))) rfl ?_
  refine w_s (np := 113) (lv' := [some (eR 98), some (eI (4)), some (eI (2)), some (eI (0)), some (eI (p)), some (eI (q)), some (eI (r)), some (eI (s)), some (eI (56)), some (eI (48))]) (st' := [eR 98, eJ (q), eJ (v1), eJ (-1), eJ (1), eJ (-1), eJ (1), eR 98]) rfl (s_an rfl (by decide)) rfl ?_
  refine w_gf (np := 116) (v := eR 100) rfl rfl hq.1 (by rw [hq.2.1]; rfl) ?_
  refine w_s (np := 118) (lv' := [some (eR 98), some (eI (4)), some (eI (2)), some (eI (0)), some (eI (p)), some (eI (q)), some (eI (r)), some (eI (s)), some (eI (56)), some (eI (48))]) (st' := [eI (56), eR 100, eJ (q), eJ (v1), eJ (-1), eJ (1), eJ (-1), eJ (1), eR 98]) rfl rfl rfl ?_
  refine w_s (np := 119) (lv' := [some (eR 98), some (eI (4)), some (eI (2)), some (eI (0)), some (eI (p)), some (eI (q)), some (eI (r)), some (eI (s)), some (eI (56)), some (eI (48))]) (st' := [eI (1), eI (56), eR 100, eJ (q), eJ (v1), eJ (-1), eJ (1), eJ (-1), eJ (1), eR 98]) rfl rfl rfl ?_
  refine w_s (np := 120) (lv' := [some (eR 98), some (eI (4)), some (eI (2)), some (eI (0)), some (eI (p)), some (eI (q)), some (eI (r)), some (eI (s)), some (eI (56)), some (eI (48))]) (st' := [eI (57), eR 100, eJ (q), eJ (v1), eJ (-1), eJ (1), eJ (-1), eJ (1), eR 98]) rfl (b_iadd rfl) rfl ?_
  refine w_al (np := 121) (v := 1) rfl rfl (t_al (k := 57) hq rfl (by decide) rfl) ?_
  refine w_s (np := 122) (lv' := [some (eR 98), some (eI (4)), some (eI (2)), some (eI (0)), some (eI (p)), some (eI (q)), some (eI (r)), some (eI (s)), some (eI (56)), some (eI (48))]) (st' := [eJ (1), eJ (q), eJ (v1), eJ (-1), eJ (1), eJ (-1), eJ (1), eR 98]) rfl (b_i2l rfl) rfl ?_
  obtain ⟨v4, e5⟩ : ∃ v : Int, v = (q) - (1) := ⟨_, rfl⟩
  have b6 : -10000 ≤ v4 ∧ v4 ≤ 9998 := by omega
  refine w_s (np := 123) (lv' := [some (eR 98), some (eI (4)), some (eI (2)), some (eI (0)), some (eI (p)), some (eI (q)), some (eI (r)), some (eI (s)), some (eI (56)), some (eI (48))]) (st' := [eJ (v4), eJ (v1), eJ (-1), eJ (1), eJ (-1), eJ (1), eR 98]) rfl (b_lsub (by rw [← e5]; exact ev_W_in (by omega) (by omega))) rfl ?_
  refine w_s (np := 125) (lv' := [some (eR 98), some (eI (4)), some (eI (2)), some (eI (0)), some (eI (p)), some (eI (q)), some (eI (r)), some (eI (s)), some (eI (56)), some (eI (48))]) (st' := [eI (r), eJ (v4), eJ (v1), eJ (-1), eJ (1), eJ (-1), eJ (1), eR 98]) rfl rfl rfl ?_
  refine w_s (np := 126) (lv' := [some (eR 98), some (eI (4)), some (eI (2)), some (eI (0)), some (eI (p)), some (eI (q)), some (eI (r)), some (eI (s)), some (eI (56)), some (eI (48))]) (st' := [eJ (r), eJ (v4), eJ (v1), eJ (-1), eJ (1), eJ (-1), eJ (1), eR 98]) rfl (b_i2l (ev_w_in (by omega) (by omega))) rfl ?_
  refine w_s (np := 127) (lv' := [some (eR 98), some (eI (4)), some (eI (2)), some (eI (0)), some (eI (p)), some (eI (q)), some (eI (r)), some (eI (s)), some (eI (56)), some (eI (48))]) (st' := [eR 98, eJ (r), eJ (v4), eJ (v1), eJ (-1), eJ (1), eJ (-1), eJ (1), eR 98]) rfl (s_an rfl (by decide)) rfl ?_
  refine w_gf (np := 130) (v := eR 100) rfl rfl hq.1 (by rw [hq.2.1]; rfl) ?_
  refine w_s (np := 132) (lv' := [some (eR 98), some (eI (4)), some (eI (2)), some (eI (0)), some (eI (p)), some (eI (q)), some (eI (r)), some (eI (s)), some (eI (56)), some (eI (48))]) (st' := [eI (56), eR 100, eJ (r), eJ (v4), eJ (v1), eJ (-1), eJ (1), eJ (-1), eJ (1), eR 98]) rfl rfl rfl ?_
  refine w_s (np := 133) (lv' := [some (eR 98), some (eI (4)), some (eI (2)), some (eI (0)), some (eI (p)), some (eI (q)), some (eI (r)), some (eI (s)), some (eI (56)), some (eI (48))]) (st' := [eI (2), eI (56), eR 100, eJ (r), eJ (v4), eJ (v1), eJ (-1), eJ (1), eJ (-1), eJ (1), eR 98]) rfl rfl rfl ?_
  refine w_s (np := 134) (lv' := [some (eR 98), some (eI (4)), some (eI (2)), some (eI (0)), some (eI (p)), some (eI (q)), some (eI (r)), some (eI (s)), some (eI (56)), some (eI (48))]) (st' := [eI (58), eR 100, eJ (r), eJ (v4), eJ (v1), eJ (-1), eJ (1), eJ (-1), eJ (1), eR 98]) rfl (b_iadd rfl) rfl ?_
  refine w_al (np := 135) (v := -1) rfl rfl (t_al (k := 58) hq rfl (by decide) rfl) ?_
  refine w_s (np := 136) (lv' := [some (eR 98), some (eI (4)), some (eI (2)), some (eI (0)), some (eI (p)), some (eI (q)), some (eI (r)), some (eI (s)), some (eI (56)), some (eI (48))]) (st' := [eJ (-1), eJ (r), eJ (v4), eJ (v1), eJ (-1), eJ (1), eJ (-1), eJ (1), eR 98]) rfl (b_i2l rfl) rfl ?_
  obtain ⟨v7, e8⟩ : ∃ v : Int, v = (r) - (-1) := ⟨_, rfl⟩
  have b9 : -9998 ≤ v7 ∧ v7 ≤ 10000 := by omega
  refine w_s (np := 137) (lv' := [some (eR 98), some (eI (4)), some (eI (2)), some (eI (0)), some (eI (p)), some (eI (q)), some (eI (r)), some (eI (s)), some (eI (56)), some (eI (48))]) (st' := [eJ (v7), eJ (v4), eJ (v1), eJ (-1), eJ (1), eJ (-1), eJ (1), eR 98]) rfl (b_lsub (by rw [← e8]; exact ev_W_in (by omega) (by omega))) rfl ?_
  refine w_s (np := 139) (lv' := [some (eR 98), some (eI (4)), some (eI (2)), some (eI (0)), some (eI (p)), some (eI (q)), some (eI (r)), some (eI (s)), some (eI (56)), some (eI (48))]) (st' := [eI (s), eJ (v7), eJ (v4), eJ (v1), eJ (-1), eJ (1), eJ (-1), eJ (1), eR 98]) rfl rfl rfl ?_
  refine w_s (np := 140) (lv' := [some (eR 98), some (eI (4)), some (eI (2)), some (eI (0)), some (eI (p)), some (eI (q)), some (eI (r)), some (eI (s)), some (eI (56)), some (eI (48))]) (st' := [eJ (s), eJ (v7), eJ (v4), eJ (v1), eJ (-1), eJ (1), eJ (-1), eJ (1), eR 98]) rfl (b_i2l (ev_w_in (by omega) (by omega))) rfl ?_
  refine w_s (np := 141) (lv' := [some (eR 98), some (eI (4)), some (eI (2)), some (eI (0)), some (eI (p)), some (eI (q)), some (eI (r)), some (eI (s)), some (eI (56)), some (eI (48))]) (st' := [eR 98, eJ (s), eJ (v7), eJ (v4), eJ (v1), eJ (-1), eJ (1), eJ (-1), eJ (1), eR 98]) rfl (s_an rfl (by decide)) rfl ?_
  refine w_gf (np := 144) (v := eR 100) rfl rfl hq.1 (by rw [hq.2.1]; rfl) ?_
  refine w_s (np := 146) (lv' := [some (eR 98), some (eI (4)), some (eI (2)), some (eI (0)), some (eI (p)), some (eI (q)), some (eI (r)), some (eI (s)), some (eI (56)), some (eI (48))]) (st' := [eI (56), eR 100, eJ (s), eJ (v7), eJ (v4), eJ (v1), eJ (-1), eJ (1), eJ (-1), eJ (1), eR 98]) rfl rfl rfl ?_
  refine w_s (np := 147) (lv' := [some (eR 98), some (eI (4)), some (eI (2)), some (eI (0)), some (eI (p)), some (eI (q)), some (eI (r)), some (eI (s)), some (eI (56)), some (eI (48))]) (st' := [eI (3), eI (56), eR 100, eJ (s), eJ (v7), eJ (v4), eJ (v1), eJ (-1), eJ (1), eJ (-1), eJ (1), eR 98]) rfl rfl rfl ?_
  refine w_s (np := 148) (lv' := [some (eR 98), some (eI (4)), some (eI (2)), some (eI (0)), some (eI (p)), some (eI (q)), some (eI (r)), some (eI (s)), some (eI (56)), some (eI (48))]) (st' := [eI (59), eR 100, eJ (s), eJ (v7), eJ (v4), eJ (v1), eJ (-1), eJ (1), eJ (-1), eJ (1), eR 98]) rfl (b_iadd rfl) rfl ?_
  refine w_al (np := 149) (v := 1) rfl rfl (t_al (k := 59) hq rfl (by decide) rfl) ?_
  refine w_s (np := 150) (lv' := [some (eR 98), some (eI (4)), some (eI (2)), some (eI (0)), some (eI (p)), some (eI (q)), some (eI (r)), some (eI (s)), some (eI (56)), some (eI (48))]) (st' := [eJ (1), eJ (s), eJ (v7), eJ (v4), eJ (v1), eJ (-1), eJ (1), eJ (-1), eJ (1), eR 98]) rfl (b_i2l rfl) rfl ?_
  obtain ⟨v10, e11⟩ : ∃ v : Int, v = (s) - (1) := ⟨_, rfl⟩
  have b12 : -10000 ≤ v10 ∧ v10 ≤ 9998 := by omega
  refine w_s (np := 151) (lv' := [some (eR 98), some (eI (4)), some (eI (2)), some (eI (0)), some (eI (p)), some (eI (q)), some (eI (r)), some (eI (s)), some (eI (56)), some (eI (48))]) (st' := [eJ (v10), eJ (v7), eJ (v4), eJ (v1), eJ (-1), eJ (1), eJ (-1), eJ (1), eR 98]) rfl (b_lsub (by rw [← e11]; exact ev_W_in (by omega) (by omega))) rfl ?_
  refine w_cv (np := 154) (as := [eJ (1), eJ (-1), eJ (1), eJ (-1), eJ (v1), eJ (v4), eJ (v7), eJ (v10)]) (lv' := [some (eR 98), some (eJ (1)), none, some (eJ (-1)), none, some (eJ (1)), none, some (eJ (-1)), none, some (eJ (v1)), none, some (eJ (v4)), none, some (eJ (v7)), none, some (eJ (v10)), none]) (rest := []) rfl rfl rfl (Nat.ble_eq.mp rfl) rfl rfl rfl hq.1 rfl ?_
  refine t224 hq.1 (show (-8 : Int) ≤ 1 ∧ (1 : Int) ≤ 8 by omega) (show (-8 : Int) ≤ -1 ∧ (-1 : Int) ≤ 8 by omega) (show (-8 : Int) ≤ 1 ∧ (1 : Int) ≤ 8 by omega) (show (-8 : Int) ≤ -1 ∧ (-1 : Int) ≤ 8 by omega) (show (-100000 : Int) ≤ v1 ∧ (v1 : Int) ≤ 100000 by omega) (show (-100000 : Int) ≤ v4 ∧ (v4 : Int) ≤ 100000 by omega) (show (-100000 : Int) ≤ v7 ∧ (v7 : Int) ≤ 100000 by omega) (show (-100000 : Int) ≤ v10 ∧ (v10 : Int) ≤ 100000 by omega) ?_
  intro m B G s1 eB eG bB bG
  show ex_fine fg rc rs (d + 4, (265, 154, [some (eR 98), some (eI (4)), some (eI (2)), some (eI (0)), some (eI (p)), some (eI (q)), some (eI (r)), some (eI (s)), some (eI (56)), some (eI (48))], [eI (rSg (2 * B + G) G)]), f :: F, m)
  refine b_ri rfl rfl ?_
  have hB : B = 1 * p + 1 * s := by omega
  have hG : G = 1 * q + 1 * r := by omega
  have hr := rSg_ok (x := 2 * B + G) (b := G) (by omega)
  have e9 : 416020 * (2 * B + G) + 930249 * G = 832040 * p + 1346269 * q + 1346269 * r + 832040 * s := by omega
  rw [e9] at hr
  exact K m _ s1 hr (rSg_v _ _)
theorem t265_5_0 {fg : eG} {rc rs d : Nat} {f : eFr} {F : List eFr} {μ : eM} {p q r s : Int} (hq : tQ μ) (hp : -9999 ≤ p ∧ p ≤ 9999) (hq0 : -9999 ≤ q ∧ q ≤ 9999) (hr : -9999 ≤ r ∧ r ≤ 9999) (hs : -9999 ≤ s ∧ s ≤ 9999) (K : ∀ (μ2 : eM) (u : Int), tS μ μ2 → ((0 ≤ u ↔ 0 ≤ (-832040) * q + (-1346269) * r + (-1346269) * s) ∧ (u ≤ 0 ↔ (-832040) * q + (-1346269) * r + (-1346269) * s ≤ 0)) → (u = 0 ∨ u = 1 ∨ u = -1) → ex_fine fg rc rs (d + 5, (f.1, f.2.1, f.2.2.1, eI u :: f.2.2.2), F, μ2)) : ex_fine fg rc rs (d + 4, (265, 0, [some (eR 98), some (eI (5)), some (eI (0)), some (eI (1)), some (eI (p)), some (eI (q)), some (eI (r)), some (eI (s)), none, none], []), f :: F, μ) := by
  refine w_s (np := 2) (lv' := [some (eR 98), some (eI (5)), some (eI (0)), some (eI (1)), some (eI (p)), some (eI (q)), some (eI (r)), some (eI (s)), none, none]) (st' := [eI (12)]) rfl rfl rfl ?_
  refine w_s (np := 3) (lv' := [some (eR 98), some (eI (5)), some (eI (0)), some (eI (1)), some (eI (p)), some (eI (q)), some (eI (r)), some (eI (s)), none, none]) (st' := [eI (5), eI (12)]) rfl rfl rfl ?_
  refine w_s (np := 4) (lv' := [some (eR 98), some (eI (5)), some (eI (0)), some (eI (1)), some (eI (p)), some (eI (q)), some (eI (r)), some (eI (s)), none, none]) (st' := [eI (60)]) rfl (b_imul rfl) rfl ?_
  refine w_s (np := 5) (lv' := [some (eR 98), some (eI (5)), some (eI (0)), some (eI (1)), some (eI (p)), some (eI (q)), some (eI (r)), some (eI (s)), none, none]) (st' := [eI (4), eI (60)]) rfl rfl rfl ?_
  refine w_s (np := 6) (lv' := [some (eR 98), some (eI (5)), some (eI (0)), some (eI (1)), some (eI (p)), some (eI (q)), some (eI (r)), some (eI (s)), none, none]) (st' := [eI (0), eI (4), eI (60)]) rfl rfl rfl ?_
  refine w_s (np := 7) (lv' := [some (eR 98), some (eI (5)), some (eI (0)), some (eI (1)), some (eI (p)), some (eI (q)), some (eI (r)), some (eI (s)), none, none]) (st' := [eI (0), eI (60)]) rfl (b_imul rfl) rfl ?_
  refine w_s (np := 8) (lv' := [some (eR 98), some (eI (5)), some (eI (0)), some (eI (1)), some (eI (p)), some (eI (q)), some (eI (r)), some (eI (s)), none, none]) (st' := [eI (60)]) rfl (b_iadd rfl) rfl ?_
  refine w_s (np := 10) (lv' := [some (eR 98), some (eI (5)), some (eI (0)), some (eI (1)), some (eI (p)), some (eI (q)), some (eI (r)), some (eI (s)), some (eI (60)), none]) (st' := []) rfl rfl rfl ?_
  refine w_s (np := 12) (lv' := [some (eR 98), some (eI (5)), some (eI (0)), some (eI (1)), some (eI (p)), some (eI (q)), some (eI (r)), some (eI (s)), some (eI (60)), none]) (st' := [eI (12)]) rfl rfl rfl ?_
  refine w_s (np := 13) (lv' := [some (eR 98), some (eI (5)), some (eI (0)), some (eI (1)), some (eI (p)), some (eI (q)), some (eI (r)), some (eI (s)), some (eI (60)), none]) (st' := [eI (5), eI (12)]) rfl rfl rfl ?_
  refine w_s (np := 14) (lv' := [some (eR 98), some (eI (5)), some (eI (0)), some (eI (1)), some (eI (p)), some (eI (q)), some (eI (r)), some (eI (s)), some (eI (60)), none]) (st' := [eI (60)]) rfl (b_imul rfl) rfl ?_
  refine w_s (np := 15) (lv' := [some (eR 98), some (eI (5)), some (eI (0)), some (eI (1)), some (eI (p)), some (eI (q)), some (eI (r)), some (eI (s)), some (eI (60)), none]) (st' := [eI (4), eI (60)]) rfl rfl rfl ?_
  refine w_s (np := 16) (lv' := [some (eR 98), some (eI (5)), some (eI (0)), some (eI (1)), some (eI (p)), some (eI (q)), some (eI (r)), some (eI (s)), some (eI (60)), none]) (st' := [eI (1), eI (4), eI (60)]) rfl rfl rfl ?_
  refine w_s (np := 17) (lv' := [some (eR 98), some (eI (5)), some (eI (0)), some (eI (1)), some (eI (p)), some (eI (q)), some (eI (r)), some (eI (s)), some (eI (60)), none]) (st' := [eI (4), eI (60)]) rfl (b_imul rfl) rfl ?_
  refine w_s (np := 18) (lv' := [some (eR 98), some (eI (5)), some (eI (0)), some (eI (1)), some (eI (p)), some (eI (q)), some (eI (r)), some (eI (s)), some (eI (60)), none]) (st' := [eI (64)]) rfl (b_iadd rfl) rfl ?_
  refine w_s (np := 20) (lv' := [some (eR 98), some (eI (5)), some (eI (0)), some (eI (1)), some (eI (p)), some (eI (q)), some (eI (r)), some (eI (s)), some (eI (60)), some (eI (64))]) (st' := []) rfl rfl rfl ?_
  refine w_s (np := 21) (lv' := [some (eR 98), some (eI (5)), some (eI (0)), some (eI (1)), some (eI (p)), some (eI (q)), some (eI (r)), some (eI (s)), some (eI (60)), some (eI (64))]) (st' := [eR 98]) rfl (s_an rfl (by decide)) rfl ?_
  refine w_s (np := 22) (lv' := [some (eR 98), some (eI (5)), some (eI (0)), some (eI (1)), some (eI (p)), some (eI (q)), some (eI (r)), some (eI (s)), some (eI (60)), some (eI (64))]) (st' := [eR 98, eR 98]) rfl (s_an rfl (by decide)) rfl ?_
  refine w_gf (np := 25) (v := eR 100) rfl rfl hq.1 (by rw [hq.2.1]; rfl) ?_
  refine w_s (np := 27) (lv' := [some (eR 98), some (eI (5)), some (eI (0)), some (eI (1)), some (eI (p)), some (eI (q)), some (eI (r)), some (eI (s)), some (eI (60)), some (eI (64))]) (st' := [eI (64), eR 100, eR 98]) rfl rfl rfl ?_
  refine w_al (np := 28) (v := -1) rfl rfl (t_al (k := 64) hq rfl (by decide) rfl) ?_
  refine w_s (np := 29) (lv' := [some (eR 98), some (eI (5)), some (eI (0)), some (eI (1)), some (eI (p)), some (eI (q)), some (eI (r)), some (eI (s)), some (eI (60)), some (eI (64))]) (st' := [eR 98, eI (-1), eR 98]) rfl (s_an rfl (by decide)) rfl ?_
  refine w_gf (np := 32) (v := eR 100) rfl rfl hq.1 (by rw [hq.2.1]; rfl) ?_
  refine w_s (np := 34) (lv' := [some (eR 98), some (eI (5)), some (eI (0)), some (eI (1)), some (eI (p)), some (eI (q)), some (eI (r)), some (eI (s)), some (eI (60)), some (eI (64))]) (st' := [eI (60), eR 100, eI (-1), eR 98]) rfl rfl rfl ?_
  refine w_al (np := 35) (v := 0) rfl rfl (t_al (k := 60) hq rfl (by decide) rfl) ?_
  refine w_s (np := 36) (lv' := [some (eR 98), some (eI (5)), some (eI (0)), some (eI (1)), some (eI (p)), some (eI (q)), some (eI (r)), some (eI (s)), some (eI (60)), some (eI (64))]) (st' := [eI (-1), eR 98]) rfl (b_isub rfl) rfl ?_
  refine w_s (np := 37) (lv' := [some (eR 98), some (eI (5)), some (eI (0)), some (eI (1)), some (eI (p)), some (eI (q)), some (eI (r)), some (eI (s)), some (eI (60)), some (eI (64))]) (st' := [eJ (-1), eR 98]) rfl (b_i2l rfl) rfl ?_
  refine w_s (np := 38) (lv' := [some (eR 98), some (eI (5)), some (eI (0)), some (eI (1)), some (eI (p)), some (eI (q)), some (eI (r)), some (eI (s)), some (eI (60)), some (eI (64))]) (st' := [eR 98, eJ (-1), eR 98]) rfl (s_an rfl (by decide)) rfl ?_
  refine w_gf (np := 41) (v := eR 100) rfl rfl hq.1 (by rw [hq.2.1]; rfl) ?_
  refine w_s (np := 43) (lv' := [some (eR 98), some (eI (5)), some (eI (0)), some (eI (1)), some (eI (p)), some (eI (q)), some (eI (r)), some (eI (s)), some (eI (60)), some (eI (64))]) (st' := [eI (64), eR 100, eJ (-1), eR 98]) rfl rfl rfl ?_
  refine w_s (np := 44) (lv' := [some (eR 98), some (eI (5)), some (eI (0)), some (eI (1)), some (eI (p)), some (eI (q)), some (eI (r)), some (eI (s)), some (eI (60)), some (eI (64))]) (st' := [eI (1), eI (64), eR 100, eJ (-1), eR 98]) rfl rfl rfl ?_
  refine w_s (np := 45) (lv' := [some (eR 98), some (eI (5)), some (eI (0)), some (eI (1)), some (eI (p)), some (eI (q)), some (eI (r)), some (eI (s)), some (eI (60)), some (eI (64))]) (st' := [eI (65), eR 100, eJ (-1), eR 98]) rfl (b_iadd rfl) rfl ?_
  refine w_al (np := 46) (v := 0) rfl rfl (t_al (k := 65) hq rfl (by decide) rfl) ?_
  refine w_s (np := 47) (lv' := [some (eR 98), some (eI (5)), some (eI (0)), some (eI (1)), some (eI (p)), some (eI (q)), some (eI (r)), some (eI (s)), some (eI (60)), some (eI (64))]) (st' := [eR 98, eI (0), eJ (-1), eR 98]) rfl (s_an rfl (by decide)) rfl ?_
  refine w_gf (np := 50) (v := eR 100) rfl rfl hq.1 (by rw [hq.2.1]; rfl) ?_
  refine w_s (np := 52) (lv' := [some (eR 98), some (eI (5)), some (eI (0)), some (eI (1)), some (eI (p)), some (eI (q)), some (eI (r)), some (eI (s)), some (eI (60)), some (eI (64))]) (st' := [eI (60), eR 100, eI (0), eJ (-1), eR 98]) rfl rfl rfl ?_
  refine w_s (np := 53) (lv' := [some (eR 98), some (eI (5)), some (eI (0)), some (eI (1)), some (eI (p)), some (eI (q)), some (eI (r)), some (eI (s)), some (eI (60)), some (eI (64))]) (st' := [eI (1), eI (60), eR 100, eI (0), eJ (-1), eR 98]) rfl rfl rfl ?_
  refine w_s (np := 54) (lv' := [some (eR 98), some (eI (5)), some (eI (0)), some (eI (1)), some (eI (p)), some (eI (q)), some (eI (r)), some (eI (s)), some (eI (60)), some (eI (64))]) (st' := [eI (61), eR 100, eI (0), eJ (-1), eR 98]) rfl (b_iadd rfl) rfl ?_
  refine w_al (np := 55) (v := 0) rfl rfl (t_al (k := 61) hq rfl (by decide) rfl) ?_
  refine w_s (np := 56) (lv' := [some (eR 98), some (eI (5)), some (eI (0)), some (eI (1)), some (eI (p)), some (eI (q)), some (eI (r)), some (eI (s)), some (eI (60)), some (eI (64))]) (st' := [eI (0), eJ (-1), eR 98]) rfl (b_isub rfl) rfl ?_
  refine w_s (np := 57) (lv' := [some (eR 98), some (eI (5)), some (eI (0)), some (eI (1)), some (eI (p)), some (eI (q)), some (eI (r)), some (eI (s)), some (eI (60)), some (eI (64))]) (st' := [eJ (0), eJ (-1), eR 98]) rfl (b_i2l rfl) rfl ?_
  refine w_s (np := 58) (lv' := [some (eR 98), some (eI (5)), some (eI (0)), some (eI (1)), some (eI (p)), some (eI (q)), some (eI (r)), some (eI (s)), some (eI (60)), some (eI (64))]) (st' := [eR 98, eJ (0), eJ (-1), eR 98]) rfl (s_an rfl (by decide)) rfl ?_
  refine w_gf (np := 61) (v := eR 100) rfl rfl hq.1 (by rw [hq.2.1]; rfl) ?_
  refine w_s (np := 63) (lv' := [some (eR 98), some (eI (5)), some (eI (0)), some (eI (1)), some (eI (p)), some (eI (q)), some (eI (r)), some (eI (s)), some (eI (60)), some (eI (64))]) (st' := [eI (64), eR 100, eJ (0), eJ (-1), eR 98]) rfl rfl rfl ?_
  refine w_s (np := 64) (lv' := [some (eR 98), some (eI (5)), some (eI (0)), some (eI (1)), some (eI (p)), some (eI (q)), some (eI (r)), some (eI (s)), some (eI (60)), some (eI (64))]) (st' := [eI (2), eI (64), eR 100, eJ (0), eJ (-1), eR 98]) rfl rfl rfl ?_
  refine w_s (np := 65) (lv' := [some (eR 98), some (eI (5)), some (eI (0)), some (eI (1)), some (eI (p)), some (eI (q)), some (eI (r)), some (eI (s)), some (eI (60)), some (eI (64))]) (st' := [eI (66), eR 100, eJ (0), eJ (-1), eR 98]) rfl (b_iadd rfl) rfl ?_
  refine w_al (np := 66) (v := 0) rfl rfl (t_al (k := 66) hq rfl (by decide) rfl) ?_
  refine w_s (np := 67) (lv' := [some (eR 98), some (eI (5)), some (eI (0)), some (eI (1)), some (eI (p)), some (eI (q)), some (eI (r)), some (eI (s)), some (eI (60)), some (eI (64))]) (st' := [eR 98, eI (0), eJ (0), eJ (-1), eR 98]) rfl (s_an rfl (by decide)) rfl ?_
  refine w_gf (np := 70) (v := eR 100) rfl rfl hq.1 (by rw [hq.2.1]; rfl) ?_
  refine w_s (np := 72) (lv' := [some (eR 98), some (eI (5)), some (eI (0)), some (eI (1)), some (eI (p)), some (eI (q)), some (eI (r)), some (eI (s)), some (eI (60)), some (eI (64))]) (st' := [eI (60), eR 100, eI (0), eJ (0), eJ (-1), eR 98]) rfl rfl rfl ?_
  refine w_s (np := 73) (lv' := [some (eR 98), some (eI (5)), some (eI (0)), some (eI (1)), some (eI (p)), some (eI (q)), some (eI (r)), some (eI (s)), some (eI (60)), some (eI (64))]) (st' := [eI (2), eI (60), eR 100, eI (0), eJ (0), eJ (-1), eR 98]) rfl rfl rfl ?_
  refine w_s (np := 74) (lv' := [some (eR 98), some (eI (5)), some (eI (0)), some (eI (1)), some (eI (p)), some (eI (q)), some (eI (r)), some (eI (s)), some (eI (60)), some (eI (64))]) (st' := [eI (62), eR 100, eI (0), eJ (0), eJ (-1), eR 98]) rfl (b_iadd rfl) rfl ?_
  refine w_al (np := 75) (v := 0) rfl rfl (t_al (k := 62) hq rfl (by decide) rfl) ?_
  refine w_s (np := 76) (lv' := [some (eR 98), some (eI (5)), some (eI (0)), some (eI (1)), some (eI (p)), some (eI (q)), some (eI (r)), some (eI (s)), some (eI (60)), some (eI (64))]) (st' := [eI (0), eJ (0), eJ (-1), eR 98]) rfl (b_isub rfl) rfl ?_
  refine w_s (np := 77) (lv' := [some (eR 98), some (eI (5)), some (eI (0)), some (eI (1)), some (eI (p)), some (eI (q)), some (eI (r)), some (eI (s)), some (eI (60)), some (eI (64))]) (st' := [eJ (0), eJ (0), eJ (-1), eR 98]) rfl (b_i2l rfl) rfl ?_
  refine w_s (np := 78) (lv' := [some (eR 98), some (eI (5)), some (eI (0)), some (eI (1)), some (eI (p)), some (eI (q)), some (eI (r)), some (eI (s)), some (eI (60)), some (eI (64))]) (st' := [eR 98, eJ (0), eJ (0), eJ (-1), eR 98]) rfl (s_an rfl (by decide)) rfl ?_
  refine w_gf (np := 81) (v := eR 100) rfl rfl hq.1 (by rw [hq.2.1]; rfl) ?_
  refine w_s (np := 83) (lv' := [some (eR 98), some (eI (5)), some (eI (0)), some (eI (1)), some (eI (p)), some (eI (q)), some (eI (r)), some (eI (s)), some (eI (60)), some (eI (64))]) (st' := [eI (64), eR 100, eJ (0), eJ (0), eJ (-1), eR 98]) rfl rfl rfl ?_
  refine w_s (np := 84) (lv' := [some (eR 98), some (eI (5)), some (eI (0)), some (eI (1)), some (eI (p)), some (eI (q)), some (eI (r)), some (eI (s)), some (eI (60)), some (eI (64))]) (st' := [eI (3), eI (64), eR 100, eJ (0), eJ (0), eJ (-1), eR 98]) rfl rfl rfl ?_
  refine w_s (np := 85) (lv' := [some (eR 98), some (eI (5)), some (eI (0)), some (eI (1)), some (eI (p)), some (eI (q)), some (eI (r)), some (eI (s)), some (eI (60)), some (eI (64))]) (st' := [eI (67), eR 100, eJ (0), eJ (0), eJ (-1), eR 98]) rfl (b_iadd rfl) rfl ?_
  refine w_al (np := 86) (v := 0) rfl rfl (t_al (k := 67) hq rfl (by decide) rfl) ?_
  refine w_s (np := 87) (lv' := [some (eR 98), some (eI (5)), some (eI (0)), some (eI (1)), some (eI (p)), some (eI (q)), some (eI (r)), some (eI (s)), some (eI (60)), some (eI (64))]) (st' := [eR 98, eI (0), eJ (0), eJ (0), eJ (-1), eR 98]) rfl (s_an rfl (by decide)) rfl ?_
  refine w_gf (np := 90) (v := eR 100) rfl rfl hq.1 (by rw [hq.2.1]; rfl) ?_
  refine w_s (np := 92) (lv' := [some (eR 98), some (eI (5)), some (eI (0)), some (eI (1)), some (eI (p)), some (eI (q)), some (eI (r)), some (eI (s)), some (eI (60)), some (eI (64))]) (st' := [eI (60), eR 100, eI (0), eJ (0), eJ (0), eJ (-1), eR 98]) rfl rfl rfl ?_
  refine w_s (np := 93) (lv' := [some (eR 98), some (eI (5)), some (eI (0)), some (eI (1)), some (eI (p)), some (eI (q)), some (eI (r)), some (eI (s)), some (eI (60)), some (eI (64))]) (st' := [eI (3), eI (60), eR 100, eI (0), eJ (0), eJ (0), eJ (-1), eR 98]) rfl rfl rfl ?_
  refine w_s (np := 94) (lv' := [some (eR 98), some (eI (5)), some (eI (0)), some (eI (1)), some (eI (p)), some (eI (q)), some (eI (r)), some (eI (s)), some (eI (60)), some (eI (64))]) (st' := [eI (63), eR 100, eI (0), eJ (0), eJ (0), eJ (-1), eR 98]) rfl (b_iadd rfl) rfl ?_
  refine w_al (np := 95) (v := 0) rfl rfl (t_al (k := 63) hq rfl (by decide) rfl) ?_
  refine w_s (np := 96) (lv' := [some (eR 98), some (eI (5)), some (eI (0)), some (eI (1)), some (eI (p)), some (eI (q)), some (eI (r)), some (eI (s)), some (eI (60)), some (eI (64))]) (st' := [eI (0), eJ (0), eJ (0), eJ (-1), eR 98]) rfl (b_isub rfl) rfl ?_
  refine w_s (np := 97) (lv' := [some (eR 98), some (eI (5)), some (eI (0)), some (eI (1)), some (eI (p)), some (eI (q)), some (eI (r)), some (eI (s)), some (eI (60)), some (eI (64))]) (st' := [eJ (0), eJ (0), eJ (0), eJ (-1), eR 98]) rfl (b_i2l rfl) rfl ?_
  refine w_s (np := 99) (lv' := [some (eR 98), some (eI (5)), some (eI (0)), some (eI (1)), some (eI (p)), some (eI (q)), some (eI (r)), some (eI (s)), some (eI (60)), some (eI (64))]) (st' := [eI (p), eJ (0), eJ (0), eJ (0), eJ (-1), eR 98]) rfl rfl rfl ?_
  refine w_s (np := 100) (lv' := [some (eR 98), some (eI (5)), some (eI (0)), some (eI (1)), some (eI (p)), some (eI (q)), some (eI (r)), some (eI (s)), some (eI (60)), some (eI (64))]) (st' := [eJ (p), eJ (0), eJ (0), eJ (0), eJ (-1), eR 98]) rfl (b_i2l (ev_w_in (by omega) (by omega))) rfl ?_
  refine w_s (np := 101) (lv' := [some (eR 98), some (eI (5)), some (eI (0)), some (eI (1)), some (eI (p)), some (eI (q)), some (eI (r)), some (eI (s)), some (eI (60)), some (eI (64))]) (st' := [eR 98, eJ (p), eJ (0), eJ (0), eJ (0), eJ (-1), eR 98]) rfl (s_an rfl (by decide)) rfl ?_
  refine w_gf (np := 104) (v := eR 100) rfl rfl hq.1 (by rw [hq.2.1]; rfl) ?_
  refine w_s (np := 106) (lv' := [some (eR 98), some (eI (5)), some (eI (0)), some (eI (1)), some (eI (p)), some (eI (q)), some (eI (r)), some (eI (s)), some (eI (60)), some (eI (64))]) (st' := [eI (60), eR 100, eJ (p), eJ (0), eJ (0), eJ (0), eJ (-1), eR 98]) rfl rfl rfl ?_
  refine w_al (np := 107) (v := 0) rfl rfl (t_al (k := 60) hq rfl (by decide) rfl) ?_
  refine w_s (np := 108) (lv' := [some (eR 98), some (eI (5)), some (eI (0)), some (eI (1)), some (eI (p)), some (eI (q)), some (eI (r)), some (eI (s)), some (eI (60)), some (eI (64))]) (st' := [eJ (0), eJ (p), eJ (0), eJ (0), eJ (0), eJ (-1), eR 98]) rfl (b_i2l rfl) rfl ?_
  obtain ⟨v1, e2⟩ : ∃ v : Int, v = (p) - (0) := ⟨_, rfl⟩
  have b3 : -9999 ≤ v1 ∧ v1 ≤ 9999 := by omega
  refine w_s (np := 109) (lv' := [some (eR 98), some (eI (5)), some (eI (0)), some (eI (1)), some (eI (p)), some (eI (q)), some (eI (r)), some (eI (s)), some (eI (60)), some (eI (64))]) (st' := [eJ (v1), eJ (0), eJ (0), eJ (0), eJ (-1), eR 98]) rfl (b_lsub (by rw [← e2]; exact ev_W_in (by omega) (by omega))) rfl ?_
  refine w_s (np := 111) (lv' := [some (eR 98), some (eI (5)), some (eI (0)), some (eI (1)), some (eI (p)), some (eI (q)), some (eI (r)), some (eI (s)), some (eI (60)), some (eI (64))]) (st' := [eI (q), eJ (v1), eJ (0), eJ (0), eJ (0), eJ (-1), eR 98]) rfl rfl rfl ?_
  refine w_s (np := 112) (lv' := [some (eR 98), some (eI (5)), some (eI (0)), some (eI (1)), some (eI (p)), some (eI (q)), some (eI (r)), some (eI (s)), some (eI (60)), some (eI (64))]) (st' := [eJ (q), eJ (v1), eJ (0), eJ (0), eJ (0), eJ (-1), eR 98]) rfl (b_i2l (ev_w_in (by omega) (by omega))) rfl ?_
  refine w_s (np := 113) (lv' := [some (eR 98), some (eI (5)), some (eI (0)), some (eI (1)), some (eI (p)), some (eI (q)), some (eI (r)), some (eI (s)), some (eI (60)), some (eI (64))]) (st' := [eR 98, eJ (q), eJ (v1), eJ (0), eJ (0), eJ (0), eJ (-1), eR 98]) rfl (s_an rfl (by decide)) rfl ?_
  refine w_gf (np := 116) (v := eR 100) rfl rfl hq.1 (by rw [hq.2.1]; rfl) ?_
  refine w_s (np := 118) (lv' := [some (eR 98), some (eI (5)), some (eI (0)), some (eI (1)), some (eI (p)), some (eI (q)), some (eI (r)), some (eI (s)), some (eI (60)), some (eI (64))]) (st' := [eI (60), eR 100, eJ (q), eJ (v1), eJ (0), eJ (0), eJ (0), eJ (-1), eR 98]) rfl rfl rfl ?_
  refine w_s (np := 119) (lv' := [some (eR 98), some (eI (5)), some (eI (0)), some (eI (1)), some (eI (p)), some (eI (q)), some (eI (r)), some (eI (s)), some (eI (60)), some (eI (64))]) (st' := [eI (1), eI (60), eR 100, eJ (q), eJ (v1), eJ (0), eJ (0), eJ (0), eJ (-1), eR 98]) rfl rfl rfl ?_
  refine w_s (np := 120) (lv' := [some (eR 98), some (eI (5)), some (eI (0)), some (eI (1)), some (eI (p)), some (eI (q)), some (eI (r)), some (eI (s)), some (eI (60)), some (eI (64))]) (st' := [eI (61), eR 100, eJ (q), eJ (v1), eJ (0), eJ (0), eJ (0), eJ (-1), eR 98]) rfl (b_iadd rfl) rfl ?_
  refine w_al (np := 121) (v := 0) rfl rfl (t_al (k := 61) hq rfl (by decide) rfl) ?_
  refine w_s (np := 122) (lv' := [some (eR 98), some (eI (5)), some (eI (0)), some (eI (1)), some (eI (p)), some (eI (q)), some (eI (r)), some (eI (s)), some (eI (60)), some (eI (64))]) (st' := [eJ (0), eJ (q), eJ (v1), eJ (0), eJ (0), eJ (0), eJ (-1), eR 98]) rfl (b_i2l rfl) rfl ?_
  obtain ⟨v4, e5⟩ : ∃ v : Int, v = (q) - (0) := ⟨_, rfl⟩
  have b6 : -9999 ≤ v4 ∧ v4 ≤ 9999 := by omega
  refine w_s (np := 123) (lv' := [some (eR 98), some (eI (5)), some (eI (0)), some (eI (1)), some (eI (p)), some (eI (q)), some (eI (r)), some (eI (s)), some (eI (60)), some (eI (64))]) (st' := [eJ (v4), eJ (v1), eJ (0), eJ (0), eJ (0), eJ (-1), eR 98]) rfl (b_lsub (by rw [← e5]; exact ev_W_in (by omega) (by omega))) rfl ?_
  refine w_s (np := 125) (lv' := [some (eR 98), some (eI (5)), some (eI (0)), some (eI (1)), some (eI (p)), some (eI (q)), some (eI (r)), some (eI (s)), some (eI (60)), some (eI (64))]) (st' := [eI (r), eJ (v4), eJ (v1), eJ (0), eJ (0), eJ (0), eJ (-1), eR 98]) rfl rfl rfl ?_
  refine w_s (np := 126) (lv' := [some (eR 98), some (eI (5)), some (eI (0)), some (eI (1)), some (eI (p)), some (eI (q)), some (eI (r)), some (eI (s)), some (eI (60)), some (eI (64))]) (st' := [eJ (r), eJ (v4), eJ (v1), eJ (0), eJ (0), eJ (0), eJ (-1), eR 98]) rfl (b_i2l (ev_w_in (by omega) (by omega))) rfl ?_
  refine w_s (np := 127) (lv' := [some (eR 98), some (eI (5)), some (eI (0)), some (eI (1)), some (eI (p)), some (eI (q)), some (eI (r)), some (eI (s)), some (eI (60)), some (eI (64))]) (st' := [eR 98, eJ (r), eJ (v4), eJ (v1), eJ (0), eJ (0), eJ (0), eJ (-1), eR 98]) rfl (s_an rfl (by decide)) rfl ?_
  refine w_gf (np := 130) (v := eR 100) rfl rfl hq.1 (by rw [hq.2.1]; rfl) ?_
  refine w_s (np := 132) (lv' := [some (eR 98), some (eI (5)), some (eI (0)), some (eI (1)), some (eI (p)), some (eI (q)), some (eI (r)), some (eI (s)), some (eI (60)), some (eI (64))]) (st' := [eI (60), eR 100, eJ (r), eJ (v4), eJ (v1), eJ (0), eJ (0), eJ (0), eJ (-1), eR 98]) rfl rfl rfl ?_
  refine w_s (np := 133) (lv' := [some (eR 98), some (eI (5)), some (eI (0)), some (eI (1)), some (eI (p)), some (eI (q)), some (eI (r)), some (eI (s)), some (eI (60)), some (eI (64))]) (st' := [eI (2), eI (60), eR 100, eJ (r), eJ (v4), eJ (v1), eJ (0), eJ (0), eJ (0), eJ (-1), eR 98]) rfl rfl rfl ?_
  refine w_s (np := 134) (lv' := [some (eR 98), some (eI (5)), some (eI (0)), some (eI (1)), some (eI (p)), some (eI (q)), some (eI (r)), some (eI (s)), some (eI (60)), some (eI (64))]) (st' := [eI (62), eR 100, eJ (r), eJ (v4), eJ (v1), eJ (0), eJ (0), eJ (0), eJ (-1), eR 98]) rfl (b_iadd rfl) rfl ?_
  refine w_al (np := 135) (v := 0) rfl rfl (t_al (k := 62) hq rfl (by decide) rfl) ?_
  refine w_s (np := 136) (lv' := [some (eR 98), some (eI (5)), some (eI (0)), some (eI (1)), some (eI (p)), some (eI (q)), some (eI (r)), some (eI (s)), some (eI (60)), some (eI (64))]) (st' := [eJ (0), eJ (r), eJ (v4), eJ (v1), eJ (0), eJ (0), eJ (0), eJ (-1), eR 98]) rfl (b_i2l rfl) rfl ?_
  obtain ⟨v7, e8⟩ : ∃ v : Int, v = (r) - (0) := ⟨_, rfl⟩
  have b9 : -9999 ≤ v7 ∧ v7 ≤ 9999 := by omega
  refine w_s (np := 137) (lv' := [some (eR 98), some (eI (5)), some (eI (0)), some (eI (1)), some (eI (p)), some (eI (q)), some (eI (r)), some (eI (s)), some (eI (60)), some (eI (64))]) (st' := [eJ (v7), eJ (v4), eJ (v1), eJ (0), eJ (0), eJ (0), eJ (-1), eR 98]) rfl (b_lsub (by rw [← e8]; exact ev_W_in (by omega) (by omega))) rfl ?_
  refine w_s (np := 139) (lv' := [some (eR 98), some (eI (5)), some (eI (0)), some (eI (1)), some (eI (p)), some (eI (q)), some (eI (r)), some (eI (s)), some (eI (60)), some (eI (64))]) (st' := [eI (s), eJ (v7), eJ (v4), eJ (v1), eJ (0), eJ (0), eJ (0), eJ (-1), eR 98]) rfl rfl rfl ?_
  refine w_s (np := 140) (lv' := [some (eR 98), some (eI (5)), some (eI (0)), some (eI (1)), some (eI (p)), some (eI (q)), some (eI (r)), some (eI (s)), some (eI (60)), some (eI (64))]) (st' := [eJ (s), eJ (v7), eJ (v4), eJ (v1), eJ (0), eJ (0), eJ (0), eJ (-1), eR 98]) rfl (b_i2l (ev_w_in (by omega) (by omega))) rfl ?_
  refine w_s (np := 141) (lv' := [some (eR 98), some (eI (5)), some (eI (0)), some (eI (1)), some (eI (p)), some (eI (q)), some (eI (r)), some (eI (s)), some (eI (60)), some (eI (64))]) (st' := [eR 98, eJ (s), eJ (v7), eJ (v4), eJ (v1), eJ (0), eJ (0), eJ (0), eJ (-1), eR 98]) rfl (s_an rfl (by decide)) rfl ?_
  refine w_gf (np := 144) (v := eR 100) rfl rfl hq.1 (by rw [hq.2.1]; rfl) ?_
  refine w_s (np := 146) (lv' := [some (eR 98), some (eI (5)), some (eI (0)), some (eI (1)), some (eI (p)), some (eI (q)), some (eI (r)), some (eI (s)), some (eI (60)), some (eI (64))]) (st' := [eI (60), eR 100, eJ (s), eJ (v7), eJ (v4), eJ (v1), eJ (0), eJ (0), eJ (0), eJ (-1), eR 98]) rfl rfl rfl ?_
  refine w_s (np := 147) (lv' := [some (eR 98), some (eI (5)), some (eI (0)), some (eI (1)), some (eI (p)), some (eI (q)), some (eI (r)), some (eI (s)), some (eI (60)), some (eI (64))]) (st' := [eI (3), eI (60), eR 100, eJ (s), eJ (v7), eJ (v4), eJ (v1), eJ (0), eJ (0), eJ (0), eJ (-1), eR 98]) rfl rfl rfl ?_
  refine w_s (np := 148) (lv' := [some (eR 98), some (eI (5)), some (eI (0)), some (eI (1)), some (eI (p)), some (eI (q)), some (eI (r)), some (eI (s)), some (eI (60)), some (eI (64))]) (st' := [eI (63), eR 100, eJ (s), eJ (v7), eJ (v4), eJ (v1), eJ (0), eJ (0), eJ (0), eJ (-1), eR 98]) rfl (b_iadd rfl) rfl ?_
  refine w_al (np := 149) (v := 0) rfl rfl (t_al (k := 63) hq rfl (by decide) rfl) ?_
  refine w_s (np := 150) (lv' := [some (eR 98), some (eI (5)), some (eI (0)), some (eI (1)), some (eI (p)), some (eI (q)), some (eI (r)), some (eI (s)), some (eI (60)), some (eI (64))]) (st' := [eJ (0), eJ (s), eJ (v7), eJ (v4), eJ (v1), eJ (0), eJ (0), eJ (0), eJ (-1), eR 98]) rfl (b_i2l rfl) rfl ?_
  obtain ⟨v10, e11⟩ : ∃ v : Int, v = (s) - (0) := ⟨_, rfl⟩
  have b12 : -9999 ≤ v10 ∧ v10 ≤ 9999 := by omega
  refine w_s (np := 151) (lv' := [some (eR 98), some (eI (5)), some (eI (0)), some (eI (1)), some (eI (p)), some (eI (q)), some (eI (r)), some (eI (s)), some (eI (60)), some (eI (64))]) (st' := [eJ (v10), eJ (v7), eJ (v4), eJ (v1), eJ (0), eJ (0), eJ (0), eJ (-1), eR 98]) rfl (b_lsub (by rw [← e11]; exact ev_W_in (by omega) (by omega))) rfl ?_
  refine w_cv (np := 154) (as := [eJ (-1), eJ (0), eJ (0), eJ (0), eJ (v1), eJ (v4), eJ (v7), eJ (v10)]) (lv' := [some (eR 98), some (eJ (-1)), none, some (eJ (0)), none, some (eJ (0)), none, some (eJ (0)), none, some (eJ (v1)), none, some (eJ (v4)), none, some (eJ (v7)), none, some (eJ (v10)), none]) (rest := []) rfl rfl rfl (Nat.ble_eq.mp rfl) rfl rfl rfl hq.1 rfl ?_
  refine t224 hq.1 (show (-8 : Int) ≤ -1 ∧ (-1 : Int) ≤ 8 by omega) (show (-8 : Int) ≤ 0 ∧ (0 : Int) ≤ 8 by omega) (show (-8 : Int) ≤ 0 ∧ (0 : Int) ≤ 8 by omega) (show (-8 : Int) ≤ 0 ∧ (0 : Int) ≤ 8 by omega) (show (-100000 : Int) ≤ v1 ∧ (v1 : Int) ≤ 100000 by omega) (show (-100000 : Int) ≤ v4 ∧ (v4 : Int) ≤ 100000 by omega) (show (-100000 : Int) ≤ v7 ∧ (v7 : Int) ≤ 100000 by omega) (show (-100000 : Int) ≤ v10 ∧ (v10 : Int) ≤ 100000 by omega) ?_
  intro m B G s1 eB eG bB bG
  show ex_fine fg rc rs (d + 4, (265, 154, [some (eR 98), some (eI (5)), some (eI (0)), some (eI (1)), some (eI (p)), some (eI (q)), some (eI (r)), some (eI (s)), some (eI (60)), some (eI (64))], [eI (rSg (2 * B + G) G)]), f :: F, m)
  refine b_ri rfl rfl ?_
  have hB : B = (-1) * q := by omega
  have hG : G = (-1) * r + (-1) * s := by omega
  have hr := rSg_ok (x := 2 * B + G) (b := G) (by omega)
  have e9 : 416020 * (2 * B + G) + 930249 * G = (-832040) * q + (-1346269) * r + (-1346269) * s := by omega
  rw [e9] at hr
  exact K m _ s1 hr (rSg_v _ _)
theorem t265_5_1 {fg : eG} {rc rs d : Nat} {f : eFr} {F : List eFr} {μ : eM} {p q r s : Int} (hq : tQ μ) (hp : -9999 ≤ p ∧ p ≤ 9999) (hq0 : -9999 ≤ q ∧ q ≤ 9999) (hr : -9999 ≤ r ∧ r ≤ 9999) (hs : -9999 ≤ s ∧ s ≤ 9999) (K : ∀ (μ2 : eM) (u : Int), tS μ μ2 → ((0 ≤ u ↔ 0 ≤ 832040 * p + 832040 * q + 514229 * r + (832040)) ∧ (u ≤ 0 ↔ 832040 * p + 832040 * q + 514229 * r + (832040) ≤ 0)) → (u = 0 ∨ u = 1 ∨ u = -1) → ex_fine fg rc rs (d + 5, (f.1, f.2.1, f.2.2.1, eI u :: f.2.2.2), F, μ2)) : ex_fine fg rc rs (d + 4, (265, 0, [some (eR 98), some (eI (5)), some (eI (1)), some (eI (2)), some (eI (p)), some (eI (q)), some (eI (r)), some (eI (s)), none, none], []), f :: F, μ) := by
  refine w_s (np := 2) (lv' := [some (eR 98), some (eI (5)), some (eI (1)), some (eI (2)), some (eI (p)), some (eI (q)), some (eI (r)), some (eI (s)), none, none]) (st' := [eI (12)]) rfl rfl rfl ?_
  refine w_s (np := 3) (lv' := [some (eR 98), some (eI (5)), some (eI (1)), some (eI (2)), some (eI (p)), some (eI (q)), some (eI (r)), some (eI (s)), none, none]) (st' := [eI (5), eI (12)]) rfl rfl rfl ?_
  refine w_s (np := 4) (lv' := [some (eR 98), some (eI (5)), some (eI (1)), some (eI (2)), some (eI (p)), some (eI (q)), some (eI (r)), some (eI (s)), none, none]) (st' := [eI (60)]) rfl (b_imul rfl) rfl ?_
  refine w_s (np := 5) (lv' := [some (eR 98), some (eI (5)), some (eI (1)), some (eI (2)), some (eI (p)), some (eI (q)), some (eI (r)), some (eI (s)), none, none]) (st' := [eI (4), eI (60)]) rfl rfl rfl ?_
  refine w_s (np := 6) (lv' := [some (eR 98), some (eI (5)), some (eI (1)), some (eI (2)), some (eI (p)), some (eI (q)), some (eI (r)), some (eI (s)), none, none]) (st' := [eI (1), eI (4), eI (60)]) rfl rfl rfl ?_
  refine w_s (np := 7) (lv' := [some (eR 98), some (eI (5)), some (eI (1)), some (eI (2)), some (eI (p)), some (eI (q)), some (eI (r)), some (eI (s)), none, none]) (st' := [eI (4), eI (60)]) rfl (b_imul rfl) rfl ?_
  refine w_s (np := 8) (lv' := [some (eR 98), some (eI (5)), some (eI (1)), some (eI (2)), some (eI (p)), some (eI (q)), some (eI (r)), some (eI (s)), none, none]) (st' := [eI (64)]) rfl (b_iadd rfl) rfl ?_
  refine w_s (np := 10) (lv' := [some (eR 98), some (eI (5)), some (eI (1)), some (eI (2)), some (eI (p)), some (eI (q)), some (eI (r)), some (eI (s)), some (eI (64)), none]) (st' := []) rfl rfl rfl ?_
  refine w_s (np := 12) (lv' := [some (eR 98), some (eI (5)), some (eI (1)), some (eI (2)), some (eI (p)), some (eI (q)), some (eI (r)), some (eI (s)), some (eI (64)), none]) (st' := [eI (12)]) rfl rfl rfl ?_
  refine w_s (np := 13) (lv' := [some (eR 98), some (eI (5)), some (eI (1)), some (eI (2)), some (eI (p)), some (eI (q)), some (eI (r)), some (eI (s)), some (eI (64)), none]) (st' := [eI (5), eI (12)]) rfl rfl rfl ?_
  refine w_s (np := 14) (lv' := [some (eR 98), some (eI (5)), some (eI (1)), some (eI (2)), some (eI (p)), some (eI (q)), some (eI (r)), some (eI (s)), some (eI (64)), none]) (st' := [eI (60)]) rfl (b_imul rfl) rfl ?_
  refine w_s (np := 15) (lv' := [some (eR 98), some (eI (5)), some (eI (1)), some (eI (2)), some (eI (p)), some (eI (q)), some (eI (r)), some (eI (s)), some (eI (64)), none]) (st' := [eI (4), eI (60)]) rfl rfl rfl ?_
  refine w_s (np := 16) (lv' := [some (eR 98), some (eI (5)), some (eI (1)), some (eI (2)), some (eI (p)), some (eI (q)), some (eI (r)), some (eI (s)), some (eI (64)), none]) (st' := [eI (2), eI (4), eI (60)]) rfl rfl rfl ?_
  refine w_s (np := 17) (lv' := [some (eR 98), some (eI (5)), some (eI (1)), some (eI (2)), some (eI (p)), some (eI (q)), some (eI (r)), some (eI (s)), some (eI (64)), none]) (st' := [eI (8), eI (60)]) rfl (b_imul rfl) rfl ?_
  refine w_s (np := 18) (lv' := [some (eR 98), some (eI (5)), some (eI (1)), some (eI (2)), some (eI (p)), some (eI (q)), some (eI (r)), some (eI (s)), some (eI (64)), none]) (st' := [eI (68)]) rfl (b_iadd rfl) rfl ?_
  refine w_s (np := 20) (lv' := [some (eR 98), some (eI (5)), some (eI (1)), some (eI (2)), some (eI (p)), some (eI (q)), some (eI (r)), some (eI (s)), some (eI (64)), some (eI (68))]) (st' := []) rfl rfl rfl ?_
  refine w_s (np := 21) (lv' := [some (eR 98), some (eI (5)), some (eI (1)), some (eI (2)), some (eI (p)), some (eI (q)), some (eI (r)), some (eI (s)), some (eI (64)), some (eI (68))]) (st' := [eR 98]) rfl (s_an rfl (by decide)) rfl ?_
  refine w_s (np := 22) (lv' := [some (eR 98), some (eI (5)), some (eI (1)), some (eI (2)), some (eI (p)), some (eI (q)), some (eI (r)), some (eI (s)), some (eI (64)), some (eI (68))]) (st' := [eR 98, eR 98]) rfl (s_an rfl (by decide)) rfl ?_
  refine w_gf (np := 25) (v := eR 100) rfl rfl hq.1 (by rw [hq.2.1]; rfl) ?_
  refine w_s (np := 27) (lv' := [some (eR 98), some (eI (5)), some (eI (1)), some (eI (2)), some (eI (p)), some (eI (q)), some (eI (r)), some (eI (s)), some (eI (64)), some (eI (68))]) (st' := [eI (68), eR 100, eR 98]) rfl rfl rfl ?_
  refine w_al (np := 28) (v := 0) rfl rfl (t_al (k := 68) hq rfl (by decide) rfl) ?_
  refine w_s (np := 29) (lv' := [some (eR 98), some (eI (5)), some (eI (1)), some (eI (2)), some (eI (p)), some (eI (q)), some (eI (r)), some (eI (s)), some (eI (64)), some (eI (68))]) (st' := [eR 98, eI (0), eR 98]) rfl (s_an rfl (by decide)) rfl ?_
  refine w_gf (np := 32) (v := eR 100) rfl rfl hq.1 (by rw [hq.2.1]; rfl) ?_
  refine w_s (np := 34) (lv' := [some (eR 98), some (eI (5)), some (eI (1)), some (eI (2)), some (eI (p)), some (eI (q)), some (eI (r)), some (eI (s)), some (eI (64)), some (eI (68))]) (st' := [eI (64), eR 100, eI (0), eR 98]) rfl rfl rfl ?_
  refine w_al (np := 35) (v := -1) rfl rfl (t_al (k := 64) hq rfl (by decide) rfl) ?_
  refine w_s (np := 36) (lv' := [some (eR 98), some (eI (5)), some (eI (1)), some (eI (2)), some (eI (p)), some (eI (q)), some (eI (r)), some (eI (s)), some (eI (64)), some (eI (68))]) (st' := [eI (1), eR 98]) rfl (b_isub rfl) rfl ?_
  refine w_s (np := 37) (lv' := [some (eR 98), some (eI (5)), some (eI (1)), some (eI (2)), some (eI (p)), some (eI (q)), some (eI (r)), some (eI (s)), some (eI (64)), some (eI (68))]) (st' := [eJ (1), eR 98]) rfl (b_i2l rfl) rfl ?_
  refine w_s (np := 38) (lv' := [some (eR 98), some (eI (5)), some (eI (1)), some (eI (2)), some (eI (p)), some (eI (q)), some (eI (r)), some (eI (s)), some (eI (64)), some (eI (68))]) (st' := [eR 98, eJ (1), eR 98]) rfl (s_an rfl (by decide)) rfl ?_
  refine w_gf (np := 41) (v := eR 100) rfl rfl hq.1 (by rw [hq.2.1]; rfl) ?_
  refine w_s (np := 43) (lv' := [some (eR 98), some (eI (5)), some (eI (1)), some (eI (2)), some (eI (p)), some (eI (q)), some (eI (r)), some (eI (s)), some (eI (64)), some (eI (68))]) (st' := [eI (68), eR 100, eJ (1), eR 98]) rfl rfl rfl ?_
  refine w_s (np := 44) (lv' := [some (eR 98), some (eI (5)), some (eI (1)), some (eI (2)), some (eI (p)), some (eI (q)), some (eI (r)), some (eI (s)), some (eI (64)), some (eI (68))]) (st' := [eI (1), eI (68), eR 100, eJ (1), eR 98]) rfl rfl rfl ?_
  refine w_s (np := 45) (lv' := [some (eR 98), some (eI (5)), some (eI (1)), some (eI (2)), some (eI (p)), some (eI (q)), some (eI (r)), some (eI (s)), some (eI (64)), some (eI (68))]) (st' := [eI (69), eR 100, eJ (1), eR 98]) rfl (b_iadd rfl) rfl ?_
  refine w_al (np := 46) (v := -1) rfl rfl (t_al (k := 69) hq rfl (by decide) rfl) ?_
  refine w_s (np := 47) (lv' := [some (eR 98), some (eI (5)), some (eI (1)), some (eI (2)), some (eI (p)), some (eI (q)), some (eI (r)), some (eI (s)), some (eI (64)), some (eI (68))]) (st' := [eR 98, eI (-1), eJ (1), eR 98]) rfl (s_an rfl (by decide)) rfl ?_
  refine w_gf (np := 50) (v := eR 100) rfl rfl hq.1 (by rw [hq.2.1]; rfl) ?_
  refine w_s (np := 52) (lv' := [some (eR 98), some (eI (5)), some (eI (1)), some (eI (2)), some (eI (p)), some (eI (q)), some (eI (r)), some (eI (s)), some (eI (64)), some (eI (68))]) (st' := [eI (64), eR 100, eI (-1), eJ (1), eR 98]) rfl rfl rfl ?_
  refine w_s (np := 53) (lv' := [some (eR 98), some (eI (5)), some (eI (1)), some (eI (2)), some (eI (p)), some (eI (q)), some (eI (r)), some (eI (s)), some (eI (64)), some (eI (68))]) (st' := [eI (1), eI (64), eR 100, eI (-1), eJ (1), eR 98]) rfl rfl rfl ?_
  refine w_s (np := 54) (lv' := [some (eR 98), some (eI (5)), some (eI (1)), some (eI (2)), some (eI (p)), some (eI (q)), some (eI (r)), some (eI (s)), some (eI (64)), some (eI (68))]) (st' := [eI (65), eR 100, eI (-1), eJ (1), eR 98]) rfl (b_iadd rfl) rfl ?_
  refine w_al (np := 55) (v := 0) rfl rfl (t_al (k := 65) hq rfl (by decide) rfl) ?_
  refine w_s (np := 56) (lv' := [some (eR 98), some (eI (5)), some (eI (1)), some (eI (2)), some (eI (p)), some (eI (q)), some (eI (r)), some (eI (s)), some (eI (64)), some (eI (68))]) (st' := [eI (-1), eJ (1), eR 98]) rfl (b_isub rfl) rfl ?_
  refine w_s (np := 57) (lv' := [some (eR 98), some (eI (5)), some (eI (1)), some (eI (2)), some (eI (p)), some (eI (q)), some (eI (r)), some (eI (s)), some (eI (64)), some (eI (68))]) (st' := [eJ (-1), eJ (1), eR 98]) rfl (b_i2l rfl) rfl ?_
  refine w_s (np := 58) (lv' := [some (eR 98), some (eI (5)), some (eI (1)), some (eI (2)), some (eI (p)), some (eI (q)), some (eI (r)), some (eI (s)), some (eI (64)), some (eI (68))]) (st' := [eR 98, eJ (-1), eJ (1), eR 98]) rfl (s_an rfl (by decide)) rfl ?_
  refine w_gf (np := 61) (v := eR 100) rfl rfl hq.1 (by rw [hq.2.1]; rfl) ?_
  refine w_s (np := 63) (lv' := [some (eR 98), some (eI (5)), some (eI (1)), some (eI (2)), some (eI (p)), some (eI (q)), some (eI (r)), some (eI (s)), some (eI (64)), some (eI (68))]) (st' := [eI (68), eR 100, eJ (-1), eJ (1), eR 98]) rfl rfl rfl ?_
  refine w_s (np := 64) (lv' := [some (eR 98), some (eI (5)), some (eI (1)), some (eI (2)), some (eI (p)), some (eI (q)), some (eI (r)), some (eI (s)), some (eI (64)), some (eI (68))]) (st' := [eI (2), eI (68), eR 100, eJ (-1), eJ (1), eR 98]) rfl rfl rfl ?_
  refine w_s (np := 65) (lv' := [some (eR 98), some (eI (5)), some (eI (1)), some (eI (2)), some (eI (p)), some (eI (q)), some (eI (r)), some (eI (s)), some (eI (64)), some (eI (68))]) (st' := [eI (70), eR 100, eJ (-1), eJ (1), eR 98]) rfl (b_iadd rfl) rfl ?_
  refine w_al (np := 66) (v := 0) rfl rfl (t_al (k := 70) hq rfl (by decide) rfl) ?_
  refine w_s (np := 67) (lv' := [some (eR 98), some (eI (5)), some (eI (1)), some (eI (2)), some (eI (p)), some (eI (q)), some (eI (r)), some (eI (s)), some (eI (64)), some (eI (68))]) (st' := [eR 98, eI (0), eJ (-1), eJ (1), eR 98]) rfl (s_an rfl (by decide)) rfl ?_
  refine w_gf (np := 70) (v := eR 100) rfl rfl hq.1 (by rw [hq.2.1]; rfl) ?_
  refine w_s (np := 72) (lv' := [some (eR 98), some (eI (5)), some (eI (1)), some (eI (2)), some (eI (p)), some (eI (q)), some (eI (r)), some (eI (s)), some (eI (64)), some (eI (68))]) (st' := [eI (64), eR 100, eI (0), eJ (-1), eJ (1), eR 98]) rfl rfl rfl ?_
  refine w_s (np := 73) (lv' := [some (eR 98), some (eI (5)), some (eI (1)), some (eI (2)), some (eI (p)), some (eI (q)), some (eI (r)), some (eI (s)), some (eI (64)), some (eI (68))]) (st' := [eI (2), eI (64), eR 100, eI (0), eJ (-1), eJ (1), eR 98]) rfl rfl rfl ?_
  refine w_s (np := 74) (lv' := [some (eR 98), some (eI (5)), some (eI (1)), some (eI (2)), some (eI (p)), some (eI (q)), some (eI (r)), some (eI (s)), some (eI (64)), some (eI (68))]) (st' := [eI (66), eR 100, eI (0), eJ (-1), eJ (1), eR 98]) rfl (b_iadd rfl) rfl ?_
  refine w_al (np := 75) (v := 0) rfl rfl (t_al (k := 66) hq rfl (by decide) rfl) ?_
  refine w_s (np := 76) (lv' := [some (eR 98), some (eI (5)), some (eI (1)), some (eI (2)), some (eI (p)), some (eI (q)), some (eI (r)), some (eI (s)), some (eI (64)), some (eI (68))]) (st' := [eI (0), eJ (-1), eJ (1), eR 98]) rfl (b_isub rfl) rfl ?_
  refine w_s (np := 77) (lv' := [some (eR 98), some (eI (5)), some (eI (1)), some (eI (2)), some (eI (p)), some (eI (q)), some (eI (r)), some (eI (s)), some (eI (64)), some (eI (68))]) (st' := [eJ (0), eJ (-1), eJ (1), eR 98]) rfl (b_i2l rfl) rfl ?_
  refine w_s (np := 78) (lv' := [some (eR 98), some (eI (5)), some (eI (1)), some (eI (2)), some (eI (p)), some (eI (q)), some (eI (r)), some (eI (s)), some (eI (64)), some (eI (68))]) (st' := [eR 98, eJ (0), eJ (-1), eJ (1), eR 98]) rfl (s_an rfl (by decide)) rfl ?_
  refine w_gf (np := 81) (v := eR 100) rfl rfl hq.1 (by rw [hq.2.1]; rfl) ?_
  refine w_s (np := 83) (lv' := [some (eR 98), some (eI (5)), some (eI (1)), some (eI (2)), some (eI (p)), some (eI (q)), some (eI (r)), some (eI (s)), some (eI (64)), some (eI (68))]) (st' := [eI (68), eR 100, eJ (0), eJ (-1), eJ (1), eR 98]) rfl rfl rfl ?_
  refine w_s (np := 84) (lv' := [some (eR 98), some (eI (5)), some (eI (1)), some (eI (2)), some (eI (p)), some (eI (q)), some (eI (r)), some (eI (s)), some (eI (64)), some (eI (68))]) (st' := [eI (3), eI (68), eR 100, eJ (0), eJ (-1), eJ (1), eR 98]) rfl rfl rfl ?_
  refine w_s (np := 85) (lv' := [some (eR 98), some (eI (5)), some (eI (1)), some (eI (2)), some (eI (p)), some (eI (q)), some (eI (r)), some (eI (s)), some (eI (64)), some (eI (68))]) (st' := [eI (71), eR 100, eJ (0), eJ (-1), eJ (1), eR 98]) rfl (b_iadd rfl) rfl ?_
  refine w_al (np := 86) (v := 0) rfl rfl (t_al (k := 71) hq rfl (by decide) rfl) ?_
  refine w_s (np := 87) (lv' := [some (eR 98), some (eI (5)), some (eI (1)), some (eI (2)), some (eI (p)), some (eI (q)), some (eI (r)), some (eI (s)), some (eI (64)), some (eI (68))]) (st' := [eR 98, eI (0), eJ (0), eJ (-1), eJ (1), eR 98]) rfl (s_an rfl (by decide)) rfl ?_
  refine w_gf (np := 90) (v := eR 100) rfl rfl hq.1 (by rw [hq.2.1]; rfl) ?_
  refine w_s (np := 92) (lv' := [some (eR 98), some (eI (5)), some (eI (1)), some (eI (2)), some (eI (p)), some (eI (q)), some (eI (r)), some (eI (s)), some (eI (64)), some (eI (68))]) (st' := [eI (64), eR 100, eI (0), eJ (0), eJ (-1), eJ (1), eR 98]) rfl rfl rfl ?_
  refine w_s (np := 93) (lv' := [some (eR 98), some (eI (5)), some (eI (1)), some (eI (2)), some (eI (p)), some (eI (q)), some (eI (r)), some (eI (s)), some (eI (64)), some (eI (68))]) (st' := [eI (3), eI (64), eR 100, eI (0), eJ (0), eJ (-1), eJ (1), eR 98]) rfl rfl rfl ?_
  refine w_s (np := 94) (lv' := [some (eR 98), some (eI (5)), some (eI (1)), some (eI (2)), some (eI (p)), some (eI (q)), some (eI (r)), some (eI (s)), some (eI (64)), some (eI (68))]) (st' := [eI (67), eR 100, eI (0), eJ (0), eJ (-1), eJ (1), eR 98]) rfl (b_iadd rfl) rfl ?_
  refine w_al (np := 95) (v := 0) rfl rfl (t_al (k := 67) hq rfl (by decide) rfl) ?_
  refine w_s (np := 96) (lv' := [some (eR 98), some (eI (5)), some (eI (1)), some (eI (2)), some (eI (p)), some (eI (q)), some (eI (r)), some (eI (s)), some (eI (64)), some (eI (68))]) (st' := [eI (0), eJ (0), eJ (-1), eJ (1), eR 98]) rfl (b_isub rfl) rfl ?_
  refine w_s (np := 97) (lv' := [some (eR 98), some (eI (5)), some (eI (1)), some (eI (2)), some (eI (p)), some (eI (q)), some (eI (r)), some (eI (s)), some (eI (64)), some (eI (68))]) (st' := [eJ (0), eJ (0), eJ (-1), eJ (1), eR 98]) rfl (b_i2l rfl) rfl ?_
  refine w_s (np := 99) (lv' := [some (eR 98), some (eI (5)), some (eI (1)), some (eI (2)), some (eI (p)), some (eI (q)), some (eI (r)), some (eI (s)), some (eI (64)), some (eI (68))]) (st' := [eI (p), eJ (0), eJ (0), eJ (-1), eJ (1), eR 98]) rfl rfl rfl ?_
  refine w_s (np := 100) (lv' := [some (eR 98), some (eI (5)), some (eI (1)), some (eI (2)), some (eI (p)), some (eI (q)), some (eI (r)), some (eI (s)), some (eI (64)), some (eI (68))]) (st' := [eJ (p), eJ (0), eJ (0), eJ (-1), eJ (1), eR 98]) rfl (b_i2l (ev_w_in (by omega) (by omega))) rfl ?_
  refine w_s (np := 101) (lv' := [some (eR 98), some (eI (5)), some (eI (1)), some (eI (2)), some (eI (p)), some (eI (q)), some (eI (r)), some (eI (s)), some (eI (64)), some (eI (68))]) (st' := [eR 98, eJ (p), eJ (0), eJ (0), eJ (-1), eJ (1), eR 98]) rfl (s_an rfl (by decide)) rfl ?_
  refine w_gf (np := 104) (v := eR 100) rfl rfl hq.1 (by rw [hq.2.1]; rfl) ?_
  refine w_s (np := 106) (lv' := [some (eR 98), some (eI (5)), some (eI (1)), some (eI (2)), some (eI (p)), some (eI (q)), some (eI (r)), some (eI (s)), some (eI (64)), some (eI (68))]) (st' := [eI (64), eR 100, eJ (p), eJ (0), eJ (0), eJ (-1), eJ (1), eR 98]) rfl rfl rfl ?_
  refine w_al (np := 107) (v := -1) rfl rfl (t_al (k := 64) hq rfl (by decide) rfl) ?_
  refine w_s (np := 108) (lv' := [some (eR 98), some (eI (5)), some (eI (1)), some (eI (2)), some (eI (p)), some (eI (q)), some (eI (r)), some (eI (s)), some (eI (64)), some (eI (68))]) (st' := [eJ (-1), eJ (p), eJ (0), eJ (0), eJ (-1), eJ (1), eR 98]) rfl (b_i2l rfl) rfl ?_
  obtain ⟨v1, e2⟩ : ∃ v : Int, v = (p) - (-1) := ⟨_, rfl⟩
  have b3 : -9998 ≤ v1 ∧ v1 ≤ 10000 := by omega
  refine w_s (np := 109) (lv' := [some (eR 98), some (eI (5)), some (eI (1)), some (eI (2)), some (eI (p)), some (eI (q)), some (eI (r)), some (eI (s)), some (eI (64)), some (eI (68))]) (st' := [eJ (v1), eJ (0), eJ (0), eJ (-1), eJ (1), eR 98]) rfl (b_lsub (by rw [← e2]; exact ev_W_in (by omega) (by omega))) rfl ?_
  refine w_s (np := 111) (lv' := [some (eR 98), some (eI (5)), some (eI (1)), some (eI (2)), some (eI (p)), some (eI (q)), some (eI (r)), some (eI (s)), some (eI (64)), some (eI (68))]) (st' := [eI (q), eJ (v1), eJ (0), eJ (0), eJ (-1), eJ (1), eR 98]) rfl rfl rfl ?_
  refine w_s (np := 112) (lv' := [some (eR 98), some (eI (5)), some (eI (1)), some (eI (2)), some (eI (p)), some (eI (q)), some (eI (r)), some (eI (s)), some (eI (64)), some (eI (68))]) (st' := [eJ (q), eJ (v1), eJ (0), eJ (0), eJ (-1), eJ (1), eR 98]) rfl (b_i2l (ev_w_in (by omega) (by omega))) rfl ?_
  refine w_s (np := 113) (lv' := [some (eR 98), some (eI (5)), some (eI (1)), some (eI (2)), some (eI (p)), some (eI (q)), some (eI (r)), some (eI (s)), some (eI (64)), some (eI (68))]) (st' := [eR 98, eJ (q), eJ (v1), eJ (0), eJ (0), eJ (-1), eJ (1), eR 98]) rfl (s_an rfl (by decide)) rfl ?_
  refine w_gf (np := 116) (v := eR 100) rfl rfl hq.1 (by rw [hq.2.1]; rfl) ?_
  refine w_s (np := 118) (lv' := [some (eR 98), some (eI (5)), some (eI (1)), some (eI (2)), some (eI (p)), some (eI (q)), some (eI (r)), some (eI (s)), some (eI (64)), some (eI (68))]) (st' := [eI (64), eR 100, eJ (q), eJ (v1), eJ (0), eJ (0), eJ (-1), eJ (1), eR 98]) rfl rfl rfl ?_
  refine w_s (np := 119) (lv' := [some (eR 98), some (eI (5)), some (eI (1)), some (eI (2)), some (eI (p)), some (eI (q)), some (eI (r)), some (eI (s)), some (eI (64)), some (eI (68))]) (st' := [eI (1), eI (64), eR 100, eJ (q), eJ (v1), eJ (0), eJ (0), eJ (-1), eJ (1), eR 98]) rfl rfl rfl ?_
  refine w_s (np := 120) (lv' := [some (eR 98), some (eI (5)), some (eI (1)), some (eI (2)), some (eI (p)), some (eI (q)), some (eI (r)), some (eI (s)), some (eI (64)), some (eI (68))]) (st' := [eI (65), eR 100, eJ (q), eJ (v1), eJ (0), eJ (0), eJ (-1), eJ (1), eR 98]) rfl (b_iadd rfl) rfl ?_
  refine w_al (np := 121) (v := 0) rfl rfl (t_al (k := 65) hq rfl (by decide) rfl) ?_
  refine w_s (np := 122) (lv' := [some (eR 98), some (eI (5)), some (eI (1)), some (eI (2)), some (eI (p)), some (eI (q)), some (eI (r)), some (eI (s)), some (eI (64)), some (eI (68))]) (st' := [eJ (0), eJ (q), eJ (v1), eJ (0), eJ (0), eJ (-1), eJ (1), eR 98]) rfl (b_i2l rfl) rfl ?_
  obtain ⟨v4, e5⟩ : ∃ v : Int, v = (q) - (0) := ⟨_, rfl⟩
  have b6 : -9999 ≤ v4 ∧ v4 ≤ 9999 := by omega
  refine w_s (np := 123) (lv' := [some (eR 98), some (eI (5)), some (eI (1)), some (eI (2)), some (eI (p)), some (eI (q)), some (eI (r)), some (eI (s)), some (eI (64)), some (eI (68))]) (st' := [eJ (v4), eJ (v1), eJ (0), eJ (0), eJ (-1), eJ (1), eR 98]) rfl (b_lsub (by rw [← e5]; exact ev_W_in (by omega) (by omega))) rfl ?_
  refine w_s (np := 125) (lv' := [some (eR 98), some (eI (5)), some (eI (1)), some (eI (2)), some (eI (p)), some (eI (q)), some (eI (r)), some (eI (s)), some (eI (64)), some (eI (68))]) (st' := [eI (r), eJ (v4), eJ (v1), eJ (0), eJ (0), eJ (-1), eJ (1), eR 98]) rfl rfl rfl ?_
  refine w_s (np := 126) (lv' := [some (eR 98), some (eI (5)), some (eI (1)), some (eI (2)), some (eI (p)), some (eI (q)), some (eI (r)), some (eI (s)), some (eI (64)), some (eI (68))]) (st' := [eJ (r), eJ (v4), eJ (v1), eJ (0), eJ (0), eJ (-1), eJ (1), eR 98]) rfl (b_i2l (ev_w_in (by omega) (by omega))) rfl ?_
  refine w_s (np := 127) (lv' := [some (eR 98), some (eI (5)), some (eI (1)), some (eI (2)), some (eI (p)), some (eI (q)), some (eI (r)), some (eI (s)), some (eI (64)), some (eI (68))]) (st' := [eR 98, eJ (r), eJ (v4), eJ (v1), eJ (0), eJ (0), eJ (-1), eJ (1), eR 98]) rfl (s_an rfl (by decide)) rfl ?_
  refine w_gf (np := 130) (v := eR 100) rfl rfl hq.1 (by rw [hq.2.1]; rfl) ?_
  refine w_s (np := 132) (lv' := [some (eR 98), some (eI (5)), some (eI (1)), some (eI (2)), some (eI (p)), some (eI (q)), some (eI (r)), some (eI (s)), some (eI (64)), some (eI (68))]) (st' := [eI (64), eR 100, eJ (r), eJ (v4), eJ (v1), eJ (0), eJ (0), eJ (-1), eJ (1), eR 98]) rfl rfl rfl ?_
  refine w_s (np := 133) (lv' := [some (eR 98), some (eI (5)), some (eI (1)), some (eI (2)), some (eI (p)), some (eI (q)), some (eI (r)), some (eI (s)), some (eI (64)), some (eI (68))]) (st' := [eI (2), eI (64), eR 100, eJ (r), eJ (v4), eJ (v1), eJ (0), eJ (0), eJ (-1), eJ (1), eR 98]) rfl rfl rfl ?_
  refine w_s (np := 134) (lv' := [some (eR 98), some (eI (5)), some (eI (1)), some (eI (2)), some (eI (p)), some (eI (q)), some (eI (r)), some (eI (s)), some (eI (64)), some (eI (68))]) (st' := [eI (66), eR 100, eJ (r), eJ (v4), eJ (v1), eJ (0), eJ (0), eJ (-1), eJ (1), eR 98]) rfl (b_iadd rfl) rfl ?_
  refine w_al (np := 135) (v := 0) rfl rfl (t_al (k := 66) hq rfl (by decide) rfl) ?_
  refine w_s (np := 136) (lv' := [some (eR 98), some (eI (5)), some (eI (1)), some (eI (2)), some (eI (p)), some (eI (q)), some (eI (r)), some (eI (s)), some (eI (64)), some (eI (68))]) (st' := [eJ (0), eJ (r), eJ (v4), eJ (v1), eJ (0), eJ (0), eJ (-1), eJ (1), eR 98]) rfl (b_i2l rfl) rfl ?_
  obtain ⟨v7, e8⟩ : ∃ v : Int, v = (r) - (0) := ⟨_, rfl⟩
  have b9 : -9999 ≤ v7 ∧ v7 ≤ 9999 := by omega
  refine w_s (np := 137) (lv' := [some (eR 98), some (eI (5)), some (eI (1)), some (eI (2)), some (eI (p)), some (eI (q)), some (eI (r)), some (eI (s)), some (eI (64)), some (eI (68))]) (st' := [eJ (v7), eJ (v4), eJ (v1), eJ (0), eJ (0), eJ (-1), eJ (1), eR 98]) rfl (b_lsub (by rw [← e8]; exact ev_W_in (by omega) (by omega))) rfl ?_
  refine w_s (np := 139) (lv' := [some (eR 98), some (eI (5)), some (eI (1)), some (eI (2)), some (eI (p)), some (eI (q)), some (eI (r)), some (eI (s)), some (eI (64)), some (eI (68))]) (st' := [eI (s), eJ (v7), eJ (v4), eJ (v1), eJ (0), eJ (0), eJ (-1), eJ (1), eR 98]) rfl rfl rfl ?_
  refine w_s (np := 140) (lv' := [some (eR 98), some (eI (5)), some (eI (1)), some (eI (2)), some (eI (p)), some (eI (q)), some (eI (r)), some (eI (s)), some (eI (64)), some (eI (68))]) (st' := [eJ (s), eJ (v7), eJ (v4), eJ (v1), eJ (0), eJ (0), eJ (-1), eJ (1), eR 98]) rfl (b_i2l (ev_w_in (by omega) (by omega))) rfl ?_
  refine w_s (np := 141) (lv' := [some (eR 98), some (eI (5)), some (eI (1)), some (eI (2)), some (eI (p)), some (eI (q)), some (eI (r)), some (eI (s)), some (eI (64)), some (eI (68))]) (st' := [eR 98, eJ (s), eJ (v7), eJ (v4), eJ (v1), eJ (0), eJ (0), eJ (-1), eJ (1), eR 98]) rfl (s_an rfl (by decide)) rfl ?_
  refine w_gf (np := 144) (v := eR 100) rfl rfl hq.1 (by rw [hq.2.1]; rfl) ?_
  refine w_s (np := 146) (lv' := [some (eR 98), some (eI (5)), some (eI (1)), some (eI (2)), some (eI (p)), some (eI (q)), some (eI (r)), some (eI (s)), some (eI (64)), some (eI (68))]) (st' := [eI (64), eR 100, eJ (s), eJ (v7), eJ (v4), eJ (v1), eJ (0), eJ (0), eJ (-1), eJ (1), eR 98]) rfl rfl rfl ?_
  refine w_s (np := 147) (lv' := [some (eR 98), some (eI (5)), some (eI (1)), some (eI (2)), some (eI (p)), some (eI (q)), some (eI (r)), some (eI (s)), some (eI (64)), some (eI (68))]) (st' := [eI (3), eI (64), eR 100, eJ (s), eJ (v7), eJ (v4), eJ (v1), eJ (0), eJ (0), eJ (-1), eJ (1), eR 98]) rfl rfl rfl ?_
  refine w_s (np := 148) (lv' := [some (eR 98), some (eI (5)), some (eI (1)), some (eI (2)), some (eI (p)), some (eI (q)), some (eI (r)), some (eI (s)), some (eI (64)), some (eI (68))]) (st' := [eI (67), eR 100, eJ (s), eJ (v7), eJ (v4), eJ (v1), eJ (0), eJ (0), eJ (-1), eJ (1), eR 98]) rfl (b_iadd rfl) rfl ?_
  refine w_al (np := 149) (v := 0) rfl rfl (t_al (k := 67) hq rfl (by decide) rfl) ?_
  refine w_s (np := 150) (lv' := [some (eR 98), some (eI (5)), some (eI (1)), some (eI (2)), some (eI (p)), some (eI (q)), some (eI (r)), some (eI (s)), some (eI (64)), some (eI (68))]) (st' := [eJ (0), eJ (s), eJ (v7), eJ (v4), eJ (v1), eJ (0), eJ (0), eJ (-1), eJ (1), eR 98]) rfl (b_i2l rfl) rfl ?_
  obtain ⟨v10, e11⟩ : ∃ v : Int, v = (s) - (0) := ⟨_, rfl⟩
  have b12 : -9999 ≤ v10 ∧ v10 ≤ 9999 := by omega
  refine w_s (np := 151) (lv' := [some (eR 98), some (eI (5)), some (eI (1)), some (eI (2)), some (eI (p)), some (eI (q)), some (eI (r)), some (eI (s)), some (eI (64)), some (eI (68))]) (st' := [eJ (v10), eJ (v7), eJ (v4), eJ (v1), eJ (0), eJ (0), eJ (-1), eJ (1), eR 98]) rfl (b_lsub (by rw [← e11]; exact ev_W_in (by omega) (by omega))) rfl ?_
  refine w_cv (np := 154) (as := [eJ (1), eJ (-1), eJ (0), eJ (0), eJ (v1), eJ (v4), eJ (v7), eJ (v10)]) (lv' := [some (eR 98), some (eJ (1)), none, some (eJ (-1)), none, some (eJ (0)), none, some (eJ (0)), none, some (eJ (v1)), none, some (eJ (v4)), none, some (eJ (v7)), none, some (eJ (v10)), none]) (rest := []) rfl rfl rfl (Nat.ble_eq.mp rfl) rfl rfl rfl hq.1 rfl ?_
  refine t224 hq.1 (show (-8 : Int) ≤ 1 ∧ (1 : Int) ≤ 8 by omega) (show (-8 : Int) ≤ -1 ∧ (-1 : Int) ≤ 8 by omega) (show (-8 : Int) ≤ 0 ∧ (0 : Int) ≤ 8 by omega) (show (-8 : Int) ≤ 0 ∧ (0 : Int) ≤ 8 by omega) (show (-100000 : Int) ≤ v1 ∧ (v1 : Int) ≤ 100000 by omega) (show (-100000 : Int) ≤ v4 ∧ (v4 : Int) ≤ 100000 by omega) (show (-100000 : Int) ≤ v7 ∧ (v7 : Int) ≤ 100000 by omega) (show (-100000 : Int) ≤ v10 ∧ (v10 : Int) ≤ 100000 by omega) ?_
  intro m B G s1 eB eG bB bG
  show ex_fine fg rc rs (d + 4, (265, 154, [some (eR 98), some (eI (5)), some (eI (1)), some (eI (2)), some (eI (p)), some (eI (q)), some (eI (r)), some (eI (s)), some (eI (64)), some (eI (68))], [eI (rSg (2 * B + G) G)]), f :: F, m)
  refine b_ri rfl rfl ?_
  have hB : B = 1 * p + 1 * q + (-1) * r + (1) := by omega
  have hG : G = 1 * r := by omega
  have hr := rSg_ok (x := 2 * B + G) (b := G) (by omega)
  have e9 : 416020 * (2 * B + G) + 930249 * G = 832040 * p + 832040 * q + 514229 * r + (832040) := by omega
  rw [e9] at hr
  exact K m _ s1 hr (rSg_v _ _)
theorem t265_5_2 {fg : eG} {rc rs d : Nat} {f : eFr} {F : List eFr} {μ : eM} {p q r s : Int} (hq : tQ μ) (hp : -9999 ≤ p ∧ p ≤ 9999) (hq0 : -9999 ≤ q ∧ q ≤ 9999) (hr : -9999 ≤ r ∧ r ≤ 9999) (hs : -9999 ≤ s ∧ s ≤ 9999) (K : ∀ (μ2 : eM) (u : Int), tS μ μ2 → ((0 ≤ u ↔ 0 ≤ (-832040) * p + 832040 * r + 1346269 * s) ∧ (u ≤ 0 ↔ (-832040) * p + 832040 * r + 1346269 * s ≤ 0)) → (u = 0 ∨ u = 1 ∨ u = -1) → ex_fine fg rc rs (d + 5, (f.1, f.2.1, f.2.2.1, eI u :: f.2.2.2), F, μ2)) : ex_fine fg rc rs (d + 4, (265, 0, [some (eR 98), some (eI (5)), some (eI (2)), some (eI (0)), some (eI (p)), some (eI (q)), some (eI (r)), some (eI (s)), none, none], []), f :: F, μ) := by
  refine w_s (np := 2) (lv' := [some (eR 98), some (eI (5)), some (eI (2)), some (eI (0)), some (eI (p)), some (eI (q)), some (eI (r)), some (eI (s)), none, none]) (st' := [eI (12)]) rfl rfl rfl ?_
  refine w_s (np := 3) (lv' := [some (eR 98), some (eI (5)), some (eI (2)), some (eI (0)), some (eI (p)), some (eI (q)), some (eI (r)), some (eI (s)), none, none]) (st' := [eI (5), eI (12)]) rfl rfl rfl ?_
  refine w_s (np := 4) (lv' := [some (eR 98), some (eI (5)), some (eI (2)), some (eI (0)), some (eI (p)), some (eI (q)), some (eI (r)), some (eI (s)), none, none]) (st' := [eI (60)]) rfl (b_imul rfl) rfl ?_
  refine w_s (np := 5) (lv' := [some (eR 98), some (eI (5)), some (eI (2)), some (eI (0)), some (eI (p)), some (eI (q)), some (eI (r)), some (eI (s)), none, none]) (st' := [eI (4), eI (60)]) rfl rfl rfl ?_
  refine w_s (np := 6) (lv' := [some (eR 98), some (eI (5)), some (eI (2)), some (eI (0)), some (eI (p)), some (eI (q)), some (eI (r)), some (eI (s)), none, none]) (st' := [eI (2), eI (4), eI (60)]) rfl rfl rfl ?_
  refine w_s (np := 7) (lv' := [some (eR 98), some (eI (5)), some (eI (2)), some (eI (0)), some (eI (p)), some (eI (q)), some (eI (r)), some (eI (s)), none, none]) (st' := [eI (8), eI (60)]) rfl (b_imul rfl) rfl ?_
  refine w_s (np := 8) (lv' := [some (eR 98), some (eI (5)), some (eI (2)), some (eI (0)), some (eI (p)), some (eI (q)), some (eI (r)), some (eI (s)), none, none]) (st' := [eI (68)]) rfl (b_iadd rfl) rfl ?_
  refine w_s (np := 10) (lv' := [some (eR 98), some (eI (5)), some (eI (2)), some (eI (0)), some (eI (p)), some (eI (q)), some (eI (r)), some (eI (s)), some (eI (68)), none]) (st' := []) rfl rfl rfl ?_
  refine w_s (np := 12) (lv' := [some (eR 98), some (eI (5)), some (eI (2)), some (eI (0)), some (eI (p)), some (eI (q)), some (eI (r)), some (eI (s)), some (eI (68)), none]) (st' := [eI (12)]) rfl rfl rfl ?_
  refine w_s (np := 13) (lv' := [some (eR 98), some (eI (5)), some (eI (2)), some (eI (0)), some (eI (p)), some (eI (q)), some (eI (r)), some (eI (s)), some (eI (68)), none]) (st' := [eI (5), eI (12)]) rfl rfl rfl ?_
  refine w_s (np := 14) (lv' := [some (eR 98), some (eI (5)), some (eI (2)), some (eI (0)), some (eI (p)), some (eI (q)), some (eI (r)), some (eI (s)), some (eI (68)), none]) (st' := [eI (60)]) rfl (b_imul rfl) rfl ?_
  refine w_s (np := 15) (lv' := [some (eR 98), some (eI (5)), some (eI (2)), some (eI (0)), some (eI (p)), some (eI (q)), some (eI (r)), some (eI (s)), some (eI (68)), none]) (st' := [eI (4), eI (60)]) rfl rfl rfl ?_
  refine w_s (np := 16) (lv' := [some (eR 98), some (eI (5)), some (eI (2)), some (eI (0)), some (eI (p)), some (eI (q)), some (eI (r)), some (eI (s)), some (eI (68)), none]) (st' := [eI (0), eI (4), eI (60)]) rfl rfl rfl ?_
  refine w_s (np := 17) (lv' := [some (eR 98), some (eI (5)), some (eI (2)), some (eI (0)), some (eI (p)), some (eI (q)), some (eI (r)), some (eI (s)), some (eI (68)), none]) (st' := [eI (0), eI (60)]) rfl (b_imul rfl) rfl ?_
  refine w_s (np := 18) (lv' := [some (eR 98), some (eI (5)), some (eI (2)), some (eI (0)), some (eI (p)), some (eI (q)), some (eI (r)), some (eI (s)), some (eI (68)), none]) (st' := [eI (60)]) rfl (b_iadd rfl) rfl ?_
  refine w_s (np := 20) (lv' := [some (eR 98), some (eI (5)), some (eI (2)), some (eI (0)), some (eI (p)), some (eI (q)), some (eI (r)), some (eI (s)), some (eI (68)), some (eI (60))]) (st' := []) rfl rfl rfl ?_
  refine w_s (np := 21) (lv' := [some (eR 98), some (eI (5)), some (eI (2)), some (eI (0)), some (eI (p)), some (eI (q)), some (eI (r)), some (eI (s)), some (eI (68)), some (eI (60))]) (st' := [eR 98]) rfl (s_an rfl (by decide)) rfl ?_
  refine w_s (np := 22) (lv' := [some (eR 98), some (eI (5)), some (eI (2)), some (eI (0)), some (eI (p)), some (eI (q)), some (eI (r)), some (eI (s)), some (eI (68)), some (eI (60))]) (st' := [eR 98, eR 98]) rfl (s_an rfl (by decide)) rfl ?_
  refine w_gf (np := 25) (v := eR 100) rfl rfl hq.1 (by rw [hq.2.1]; rfl) ?_
  refine w_s (np := 27) (lv' := [some (eR 98), some (eI (5)), some (eI (2)), some (eI (0)), some (eI (p)), some (eI (q)), some (eI (r)), some (eI (s)), some (eI (68)), some (eI (60))]) (st' := [eI (60), eR 100, eR 98]) rfl rfl rfl ?_
  refine w_al (np := 28) (v := 0) rfl rfl (t_al (k := 60) hq rfl (by decide) rfl) ?_
  refine w_s (np := 29) (lv' := [some (eR 98), some (eI (5)), some (eI (2)), some (eI (0)), some (eI (p)), some (eI (q)), some (eI (r)), some (eI (s)), some (eI (68)), some (eI (60))]) (st' := [eR 98, eI (0), eR 98]) rfl (s_an rfl (by decide)) rfl ?_
  refine w_gf (np := 32) (v := eR 100) rfl rfl hq.1 (by rw [hq.2.1]; rfl) ?_
  refine w_s (np := 34) (lv' := [some (eR 98), some (eI (5)), some (eI (2)), some (eI (0)), some (eI (p)), some (eI (q)), some (eI (r)), some (eI (s)), some (eI (68)), some (eI (60))]) (st' := [eI (68), eR 100, eI (0), eR 98]) rfl rfl rfl ?_
  refine w_al (np := 35) (v := 0) rfl rfl (t_al (k := 68) hq rfl (by decide) rfl) ?_
  refine w_s (np := 36) (lv' := [some (eR 98), some (eI (5)), some (eI (2)), some (eI (0)), some (eI (p)), some (eI (q)), some (eI (r)), some (eI (s)), some (eI (68)), some (eI (60))]) (st' := [eI (0), eR 98]) rfl (b_isub rfl) rfl ?_
  refine w_s (np := 37) (lv' := [some (eR 98), some (eI (5)), some (eI (2)), some (eI (0)), some (eI (p)), some (eI (q)), some (eI (r)), some (eI (s)), some (eI (68)), some (eI (60))]) (st' := [eJ (0), eR 98]) rfl (b_i2l rfl) rfl ?_
  refine w_s (np := 38) (lv' := [some (eR 98), some (eI (5)), some (eI (2)), some (eI (0)), some (eI (p)), some (eI (q)), some (eI (r)), some (eI (s)), some (eI (68)), some (eI (60))]) (st' := [eR 98, eJ (0), eR 98]) rfl (s_an rfl (by decide)) rfl ?_
  refine w_gf (np := 41) (v := eR 100) rfl rfl hq.1 (by rw [hq.2.1]; rfl) ?_
  refine w_s (np := 43) (lv' := [some (eR 98), some (eI (5)), some (eI (2)), some (eI (0)), some (eI (p)), some (eI (q)), some (eI (r)), some (eI (s)), some (eI (68)), some (eI (60))]) (st' := [eI (60), eR 100, eJ (0), eR 98]) rfl rfl rfl ?_
  refine w_s (np := 44) (lv' := [some (eR 98), some (eI (5)), some (eI (2)), some (eI (0)), some (eI (p)), some (eI (q)), some (eI (r)), some (eI (s)), some (eI (68)), some (eI (60))]) (st' := [eI (1), eI (60), eR 100, eJ (0), eR 98]) rfl rfl rfl ?_
  refine w_s (np := 45) (lv' := [some (eR 98), some (eI (5)), some (eI (2)), some (eI (0)), some (eI (p)), some (eI (q)), some (eI (r)), some (eI (s)), some (eI (68)), some (eI (60))]) (st' := [eI (61), eR 100, eJ (0), eR 98]) rfl (b_iadd rfl) rfl ?_
  refine w_al (np := 46) (v := 0) rfl rfl (t_al (k := 61) hq rfl (by decide) rfl) ?_
  refine w_s (np := 47) (lv' := [some (eR 98), some (eI (5)), some (eI (2)), some (eI (0)), some (eI (p)), some (eI (q)), some (eI (r)), some (eI (s)), some (eI (68)), some (eI (60))]) (st' := [eR 98, eI (0), eJ (0), eR 98]) rfl (s_an rfl (by decide)) rfl ?_
  refine w_gf (np := 50) (v := eR 100) rfl rfl hq.1 (by rw [hq.2.1]; rfl) ?_
  refine w_s (np := 52) (lv' := [some (eR 98), some (eI (5)), some (eI (2)), some (eI (0)), some (eI (p)), some (eI (q)), some (eI (r)), some (eI (s)), some (eI (68)), some (eI (60))]) (st' := [eI (68), eR 100, eI (0), eJ (0), eR 98]) rfl rfl rfl ?_
  refine w_s (np := 53) (lv' := [some (eR 98), some (eI (5)), some (eI (2)), some (eI (0)), some (eI (p)), some (eI (q)), some (eI (r)), some (eI (s)), some (eI (68)), some (eI (60))]) (st' := [eI (1), eI (68), eR 100, eI (0), eJ (0), eR 98]) rfl rfl rfl ?_
  refine w_s (np := 54) (lv' := [some (eR 98), some (eI (5)), some (eI (2)), some (eI (0)), some (eI (p)), some (eI (q)), some (eI (r)), some (eI (s)), some (eI (68)), some (eI (60))]) (st' := [eI (69), eR 100, eI (0), eJ (0), eR 98]) rfl (b_iadd rfl) rfl ?_
  refine w_al (np := 55) (v := -1) rfl rfl (t_al (k := 69) hq rfl (by decide) rfl) ?_
  refine w_s (np := 56) (lv' := [some (eR 98), some (eI (5)), some (eI (2)), some (eI (0)), some (eI (p)), some (eI (q)), some (eI (r)), some (eI (s)), some (eI (68)), some (eI (60))]) (st' := [eI (1), eJ (0), eR 98]) rfl (b_isub rfl) rfl ?_
  refine w_s (np := 57) (lv' := [some (eR 98), some (eI (5)), some (eI (2)), some (eI (0)), some (eI (p)), some (eI (q)), some (eI (r)), some (eI (s)), some (eI (68)), some (eI (60))]) (st' := [eJ (1), eJ (0), eR 98]) rfl (b_i2l rfl) rfl ?_
  refine w_s (np := 58) (lv' := [some (eR 98), some (eI (5)), some (eI (2)), some (eI (0)), some (eI (p)), some (eI (q)), some (eI (r)), some (eI (s)), some (eI (68)), some (eI (60))]) (st' := [eR 98, eJ (1), eJ (0), eR 98]) rfl (s_an rfl (by decide)) rfl ?_
  refine w_gf (np := 61) (v := eR 100) rfl rfl hq.1 (by rw [hq.2.1]; rfl) ?_
  refine w_s (np := 63) (lv' := [some (eR 98), some (eI (5)), some (eI (2)), some (eI (0)), some (eI (p)), some (eI (q)), some (eI (r)), some (eI (s)), some (eI (68)), some (eI (60))]) (st' := [eI (60), eR 100, eJ (1), eJ (0), eR 98]) rfl rfl rfl ?_
  refine w_s (np := 64) (lv' := [some (eR 98), some (eI (5)), some (eI (2)), some (eI (0)), some (eI (p)), some (eI (q)), some (eI (r)), some (eI (s)), some (eI (68)), some (eI (60))]) (st' := [eI (2), eI (60), eR 100, eJ (1), eJ (0), eR 98]) rfl rfl rfl ?_
  refine w_s (np := 65) (lv' := [some (eR 98), some (eI (5)), some (eI (2)), some (eI (0)), some (eI (p)), some (eI (q)), some (eI (r)), some (eI (s)), some (eI (68)), some (eI (60))]) (st' := [eI (62), eR 100, eJ (1), eJ (0), eR 98]) rfl (b_iadd rfl) rfl ?_
  refine w_al (np := 66) (v := 0) rfl rfl (t_al (k := 62) hq rfl (by decide) rfl) ?_
  refine w_s (np := 67) (lv' := [some (eR 98), some (eI (5)), some (eI (2)), some (eI (0)), some (eI (p)), some (eI (q)), some (eI (r)), some (eI (s)), some (eI (68)), some (eI (60))]) (st' := [eR 98, eI (0), eJ (1), eJ (0), eR 98]) rfl (s_an rfl (by decide)) rfl ?_
  refine w_gf (np := 70) (v := eR 100) rfl rfl hq.1 (by rw [hq.2.1]; rfl) ?_
  refine w_s (np := 72) (lv' := [some (eR 98), some (eI (5)), some (eI (2)), some (eI (0)), some (eI (p)), some (eI (q)), some (eI (r)), some (eI (s)), some (eI (68)), some (eI (60))]) (st' := [eI (68), eR 100, eI (0), eJ (1), eJ (0), eR 98]) rfl rfl rfl ?_
  refine w_s (np := 73) (lv' := [some (eR 98), some (eI (5)), some (eI (2)), some (eI (0)), some (eI (p)), some (eI (q)), some (eI (r)), some (eI (s)), some (eI (68)), some (eI (60))]) (st' := [eI (2), eI (68), eR 100, eI (0), eJ (1), eJ (0), eR 98]) rfl rfl rfl ?_
  refine w_s (np := 74) (lv' := [some (eR 98), some (eI (5)), some (eI (2)), some (eI (0)), some (eI (p)), some (eI (q)), some (eI (r)), some (eI (s)), some (eI (68)), some (eI (60))]) (st' := [eI (70), eR 100, eI (0), eJ (1), eJ (0), eR 98]) rfl (b_iadd rfl) rfl ?_
  refine w_al (np := 75) (v := 0) rfl rfl (t_al (k := 70) hq rfl (by decide) rfl) ?_
  refine w_s (np := 76) (lv' := [some (eR 98), some (eI (5)), some (eI (2)), some (eI (0)), some (eI (p)), some (eI (q)), some (eI (r)), some (eI (s)), some (eI (68)), some (eI (60))]) (st' := [eI (0), eJ (1), eJ (0), eR 98]) rfl (b_isub rfl) rfl ?_
  refine w_s (np := 77) (lv' := [some (eR 98), some (eI (5)), some (eI (2)), some (eI (0)), some (eI (p)), some (eI (q)), some (eI (r)), some (eI (s)), some (eI (68)), some (eI (60))]) (st' := [eJ (0), eJ (1), eJ (0), eR 98]) rfl (b_i2l rfl) rfl ?_
  refine w_s (np := 78) (lv' := [some (eR 98), some (eI (5)), some (eI (2)), some (eI (0)), some (eI (p)), some (eI (q)), some (eI (r)), some (eI (s)), some (eI (68)), some (eI (60))]) (st' := [eR 98, eJ (0), eJ (1), eJ (0), eR 98]) rfl (s_an rfl (by decide)) rfl ?_
  refine w_gf (np := 81) (v := eR 100) rfl rfl hq.1 (by rw [hq.2.1]; rfl) ?_
  refine w_s (np := 83) (lv' := [some (eR 98), some (eI (5)), some (eI (2)), some (eI (0)), some (eI (p)), some (eI (q)), some (eI (r)), some (eI (s)), some (eI (68)), some (eI (60))]) (st' := [eI (60), eR 100, eJ (0), eJ (1), eJ (0), eR 98]) rfl rfl rfl ?_
  refine w_s (np := 84) (lv' := [some (eR 98), some (eI (5)), some (eI (2)), some (eI (0)), some (eI (p)), some (eI (q)), some (eI (r)), some (eI (s)), some (eI (68)), some (eI (60))]) (st' := [eI (3), eI (60), eR 100, eJ (0), eJ (1), eJ (0), eR 98]) rfl rfl rfl ?_
  refine w_s (np := 85) (lv' := [some (eR 98), some (eI (5)), some (eI (2)), some (eI (0)), some (eI (p)), some (eI (q)), some (eI (r)), some (eI (s)), some (eI (68)), some (eI (60))]) (st' := [eI (63), eR 100, eJ (0), eJ (1), eJ (0), eR 98]) rfl (b_iadd rfl) rfl ?_
  refine w_al (np := 86) (v := 0) rfl rfl (t_al (k := 63) hq rfl (by decide) rfl) ?_
  refine w_s (np := 87) (lv' := [some (eR 98), some (eI (5)), some (eI (2)), some (eI (0)), some (eI (p)), some (eI (q)), some (eI (r)), some (eI (s)), some (eI (68)), some (eI (60))]) (st' := [eR 98, eI (0), eJ (0), eJ (1), eJ (0), eR 98]) rfl (s_an rfl (by decide)) rfl ?_
  refine w_gf (np := 90) (v := eR 100) rfl rfl hq.1 (by rw [hq.2.1]; rfl) ?_
  refine w_s (np := 92) (lv' := [some (eR 98), some (eI (5)), some (eI (2)), some (eI (0)), some (eI (p)), some (eI (q)), some (eI (r)), some (eI (s)), some (eI (68)), some (eI (60))]) (st' := [eI (68), eR 100, eI (0), eJ (0), eJ (1), eJ (0), eR 98]) rfl rfl rfl ?_
  refine w_s (np := 93) (lv' := [some (eR 98), some (eI (5)), some (eI (2)), some (eI (0)), some (eI (p)), some (eI (q)), some (eI (r)), some (eI (s)), some (eI (68)), some (eI (60))]) (st' := [eI (3), eI (68), eR 100, eI (0), eJ (0), eJ (1), eJ (0), eR 98]) rfl rfl rfl ?_
  refine w_s (np := 94) (lv' := [some (eR 98), some (eI (5)), some (eI (2)), some (eI (0)), some (eI (p)), some (eI (q)), some (eI (r)), some (eI (s)), some (eI (68)), some (eI (60))]) (st' := [eI (71), eR 100, eI (0), eJ (0), eJ (1), eJ (0), eR 98]) rfl (b_iadd rfl) rfl ?_
  refine w_al (np := 95) (v := 0) rfl rfl (t_al (k := 71) hq rfl (by decide) rfl) ?_
  refine w_s (np := 96) (lv' := [some (eR 98), some (eI (5)), some (eI (2)), some (eI (0)), some (eI (p)), some (eI (q)), some (eI (r)), some (eI (s)), some (eI (68)), some (eI (60))]) (st' := [eI (0), eJ (0), eJ (1), eJ (0), eR 98]) rfl (b_isub rfl) rfl ?_
  refine w_s (np := 97) (lv' := [some (eR 98), some (eI (5)), some (eI (2)), some (eI (0)), some (eI (p)), some (eI (q)), some (eI (r)), some (eI (s)), some (eI (68)), some (eI (60))]) (st' := [eJ (0), eJ (0), eJ (1), eJ (0), eR 98]) rfl (b_i2l rfl) rfl ?_
  refine w_s (np := 99) (lv' := [some (eR 98), some (eI (5)), some (eI (2)), some (eI (0)), some (eI (p)), some (eI (q)), some (eI (r)), some (eI (s)), some (eI (68)), some (eI (60))]) (st' := [eI (p), eJ (0), eJ (0), eJ (1), eJ (0), eR 98]) rfl rfl rfl ?_
  refine w_s (np := 100) (lv' := [some (eR 98), some (eI (5)), some (eI (2)), some (eI (0)), some (eI (p)), some (eI (q)), some (eI (r)), some (eI (s)), some (eI (68)), some (eI (60))]) (st' := [eJ (p), eJ (0), eJ (0), eJ (1), eJ (0), eR 98]) rfl (b_i2l (ev_w_in (by omega) (by omega))) rfl ?_
  refine w_s (np := 101) (lv' := [some (eR 98), some (eI (5)), some (eI (2)), some (eI (0)), some (eI (p)), some (eI (q)), some (eI (r)), some (eI (s)), some (eI (68)), some (eI (60))]) (st' := [eR 98, eJ (p), eJ (0), eJ (0), eJ (1), eJ (0), eR 98]) rfl (s_an rfl (by decide)) rfl ?_
  refine w_gf (np := 104) (v := eR 100) rfl rfl hq.1 (by rw [hq.2.1]; rfl) ?_
  refine w_s (np := 106) (lv' := [some (eR 98), some (eI (5)), some (eI (2)), some (eI (0)), some (eI (p)), some (eI (q)), some (eI (r)), some (eI (s)), some (eI (68)), some (eI (60))]) (st' := [eI (68), eR 100, eJ (p), eJ (0), eJ (0), eJ (1), eJ (0), eR 98]) rfl rfl rfl ?_
  refine w_al (np := 107) (v := 0) rfl rfl (t_al (k := 68) hq rfl (by decide) rfl) ?_
  refine w_s (np := 108) (lv' := [some (eR 98), some (eI (5)), some (eI (2)), some (eI (0)), some (eI (p)), some (eI (q)), some (eI (r)), some (eI (s)), some (eI (68)), some (eI (60))]) (st' := [eJ (0), eJ (p), eJ (0), eJ (0), eJ (1), eJ (0), eR 98]) rfl (b_i2l rfl) rfl ?_
  obtain ⟨v1, e2⟩ : ∃ v : Int, v = (p) - (0) := ⟨_, rfl⟩
  have b3 : -9999 ≤ v1 ∧ v1 ≤ 9999 := by omega
  refine w_s (np := 109) (lv' := [some (eR 98), some (eI (5)), some (eI (2)), some (eI (0)), some (eI (p)), some (eI (q)), some (eI (r)), some (eI (s)), some (eI (68)), some (eI (60))]) (st' := [eJ (v1), eJ (0), eJ (0), eJ (1), eJ (0), eR 98]) rfl (b_lsub (by rw [← e2]; exact ev_W_in (by omega) (by omega))) rfl ?_
  refine w_s (np := 111) (lv' := [some (eR 98), some (eI (5)), some (eI (2)), some (eI (0)), some (eI (p)), some (eI (q)), some (eI (r)), some (eI (s)), some (eI (68)), some (eI (60))]) (st' := [eI (q), eJ (v1), eJ (0), eJ (0), eJ (1), eJ (0), eR 98]) rfl rfl rfl ?_
  refine w_s (np := 112) (lv' := [some (eR 98), some (eI (5)), some (eI (2)), some (eI (0)), some (eI (p)), some (eI (q)), some (eI (r)), some (eI (s)), some (eI (68)), some (eI (60))]) (st' := [eJ (q), eJ (v1), eJ (0), eJ (0), eJ (1), eJ (0), eR 98]) rfl (b_i2l (ev_w_in (by omega) (by omega))) rfl ?_
  refine w_s (np := 113) (lv' := [some (eR 98), some (eI (5)), some (eI (2)), some (eI (0)), some (eI (p)), some (eI (q)), some (eI (r)), some (eI (s)), some (eI (68)), some (eI (60))]) (st' := [eR 98, eJ (q), eJ (v1), eJ (0), eJ (0), eJ (1), eJ (0), eR 98]) rfl (s_an rfl (by decide)) rfl ?_
  refine w_gf (np := 116) (v := eR 100) rfl rfl hq.1 (by rw [hq.2.1]; rfl) ?_
  refine w_s (np := 118) (lv' := [some (eR 98), some (eI (5)), some (eI (2)), some (eI (0)), some (eI (p)), some (eI (q)), some (eI (r)), some (eI (s)), some (eI (68)), some (eI (60))]) (st' := [eI (68), eR 100, eJ (q), eJ (v1), eJ (0), eJ (0), eJ (1), eJ (0), eR 98]) rfl rfl rfl ?_
  refine w_s (np := 119) (lv' := [some (eR 98), some (eI (5)), some (eI (2)), some (eI (0)), some (eI (p)), some (eI (q)), some (eI (r)), some (eI (s)), some (eI (68)), some (eI (60))]) (st' := [eI (1), eI (68), eR 100, eJ (q), eJ (v1), eJ (0), eJ (0), eJ (1), eJ (0), eR 98]) rfl rfl rfl ?_
  refine w_s (np := 120) (lv' := [some (eR 98), some (eI (5)), some (eI (2)), some (eI (0)), some (eI (p)), some (eI (q)), some (eI (r)), some (eI (s)), some (eI (68)), some (eI (60))]) (st' := [eI (69), eR 100, eJ (q), eJ (v1), eJ (0), eJ (0), eJ (1), eJ (0), eR 98]) rfl (b_iadd rfl) rfl ?_
  refine w_al (np := 121) (v := -1) rfl rfl (t_al (k := 69) hq rfl (by decide) rfl) ?_
  refine w_s (np := 122) (lv' := [some (eR 98), some (eI (5)), some (eI (2)), some (eI (0)), some (eI (p)), some (eI (q)), some (eI (r)), some (eI (s)), some (eI (68)), some (eI (60))]) (st' := [eJ (-1), eJ (q), eJ (v1), eJ (0), eJ (0), eJ (1), eJ (0), eR 98]) rfl (b_i2l rfl) rfl ?_
  obtain ⟨v4, e5⟩ : ∃ v : Int, v = (q) - (-1) := ⟨_, rfl⟩
  have b6 : -9998 ≤ v4 ∧ v4 ≤ 10000 := by omega
  refine w_s (np := 123) (lv' := [some (eR 98), some (eI (5)), some (eI (2)), some (eI (0)), some (eI (p)), some (eI (q)), some (eI (r)), some (eI (s)), some (eI (68)), some (eI (60))]) (st' := [eJ (v4), eJ (v1), eJ (0), eJ (0), eJ (1), eJ (0), eR 98]) rfl (b_lsub (by rw [← e5]; exact ev_W_in (by omega) (by omega))) rfl ?_
  refine w_s (np := 125) (lv' := [some (eR 98), some (eI (5)), some (eI (2)), some (eI (0)), some (eI (p)), some (eI (q)), some (eI (r)), some (eI (s)), some (eI (68)), some (eI (60))]) (st' := [eI (r), eJ (v4), eJ (v1), eJ (0), eJ (0), eJ (1), eJ (0), eR 98]) rfl rfl rfl ?_
  refine w_s (np := 126) (lv' := [some (eR 98), some (eI (5)), some (eI (2)), some (eI (0)), some (eI (p)), some (eI (q)), some (eI (r)), some (eI (s)), some (eI (68)), some (eI (60))]) (st' := [eJ (r), eJ (v4), eJ (v1), eJ (0), eJ (0), eJ (1), eJ (0), eR 98]) rfl (b_i2l (ev_w_in (by omega) (by omega))) rfl ?_
  refine w_s (np := 127) (lv' := [some (eR 98), some (eI (5)), some (eI (2)), some (eI (0)), some (eI (p)), some (eI (q)), some (eI (r)), some (eI (s)), some (eI (68)), some (eI (60))]) (st' := [eR 98, eJ (r), eJ (v4), eJ (v1), eJ (0), eJ (0), eJ (1), eJ (0), eR 98]) rfl (s_an rfl (by decide)) rfl ?_
  refine w_gf (np := 130) (v := eR 100) rfl rfl hq.1 (by rw [hq.2.1]; rfl) ?_
  refine w_s (np := 132) (lv' := [some (eR 98), some (eI (5)), some (eI (2)), some (eI (0)), some (eI (p)), some (eI (q)), some (eI (r)), some (eI (s)), some (eI (68)), some (eI (60))]) (st' := [eI (68), eR 100, eJ (r), eJ (v4), eJ (v1), eJ (0), eJ (0), eJ (1), eJ (0), eR 98]) rfl rfl rfl ?_
  refine w_s (np := 133) (lv' := [some (eR 98), some (eI (5)), some (eI (2)), some (eI (0)), some (eI (p)), some (eI (q)), some (eI (r)), some (eI (s)), some (eI (68)), some (eI (60))]) (st' := [eI (2), eI (68), eR 100, eJ (r), eJ (v4), eJ (v1), eJ (0), eJ (0), eJ (1), eJ (0), eR 98]) rfl rfl rfl ?_
  refine w_s (np := 134) (lv' := [some (eR 98), some (eI (5)), some (eI (2)), some (eI (0)), some (eI (p)), some (eI (q)), some (eI (r)), some (eI (s)), some (eI (68)), some (eI (60))]) (st' := [eI (70), eR 100, eJ (r), eJ (v4), eJ (v1), eJ (0), eJ (0), eJ (1), eJ (0), eR 98]) rfl (b_iadd rfl) rfl ?_
  refine w_al (np := 135) (v := 0) rfl rfl (t_al (k := 70) hq rfl (by decide) rfl) ?_
  refine w_s (np := 136) (lv' := [some (eR 98), some (eI (5)), some (eI (2)), some (eI (0)), some (eI (p)), some (eI (q)), some (eI (r)), some (eI (s)), some (eI (68)), some (eI (60))]) (st' := [eJ (0), eJ (r), eJ (v4), eJ (v1), eJ (0), eJ (0), eJ (1), eJ (0), eR 98]) rfl (b_i2l rfl) rfl ?_
  obtain ⟨v7, e8⟩ : ∃ v : Int, v = (r) - (0) := ⟨_, rfl⟩
  have b9 : -9999 ≤ v7 ∧ v7 ≤ 9999 := by omega
  refine w_s (np := 137) (lv' := [some (eR 98), some (eI (5)), some (eI (2)), some (eI (0)), some (eI (p)), some (eI (q)), some (eI (r)), some (eI (s)), some (eI (68)), some (eI (60))]) (st' := [eJ (v7), eJ (v4), eJ (v1), eJ (0), eJ (0), eJ (1), eJ (0), eR 98]) rfl (b_lsub (by rw [← e8]; exact ev_W_in (by omega) (by omega))) rfl ?_
  refine w_s (np := 139) (lv' := [some (eR 98), some (eI (5)), some (eI (2)), some (eI (0)), some (eI (p)), some (eI (q)), some (eI (r)), some (eI (s)), some (eI (68)), some (eI (60))]) (st' := [eI (s), eJ (v7), eJ (v4), eJ (v1), eJ (0), eJ (0), eJ (1), eJ (0), eR 98]) rfl rfl rfl ?_
  refine w_s (np := 140) (lv' := [some (eR 98), some (eI (5)), some (eI (2)), some (eI (0)), some (eI (p)), some (eI (q)), some (eI (r)), some (eI (s)), some (eI (68)), some (eI (60))]) (st' := [eJ (s), eJ (v7), eJ (v4), eJ (v1), eJ (0), eJ (0), eJ (1), eJ (0), eR 98]) rfl (b_i2l (ev_w_in (by omega) (by omega))) rfl ?_
  refine w_s (np := 141) (lv' := [some (eR 98), some (eI (5)), some (eI (2)), some (eI (0)), some (eI (p)), some (eI (q)), some (eI (r)), some (eI (s)), some (eI (68)), some (eI (60))]) (st' := [eR 98, eJ (s), eJ (v7), eJ (v4), eJ (v1), eJ (0), eJ (0), eJ (1), eJ (0), eR 98]) rfl (s_an rfl (by decide)) rfl ?_
  refine w_gf (np := 144) (v := eR 100) rfl rfl hq.1 (by rw [hq.2.1]; rfl) ?_
  refine w_s (np := 146) (lv' := [some (eR 98), some (eI (5)), some (eI (2)), some (eI (0)), some (eI (p)), some (eI (q)), some (eI (r)), some (eI (s)), some (eI (68)), some (eI (60))]) (st' := [eI (68), eR 100, eJ (s), eJ (v7), eJ (v4), eJ (v1), eJ (0), eJ (0), eJ (1), eJ (0), eR 98]) rfl rfl rfl ?_
  refine w_s (np := 147) (lv' := [some (eR 98), some (eI (5)), some (eI (2)), some (eI (0)), some (eI (p)), some (eI (q)), some (eI (r)), some (eI (s)), some (eI (68)), some (eI (60))]) (st' := [eI (3), eI (68), eR 100, eJ (s), eJ (v7), eJ (v4), eJ (v1), eJ (0), eJ (0), eJ (1), eJ (0), eR 98]) rfl rfl rfl ?_
  refine w_s (np := 148) (lv' := [some (eR 98), some (eI (5)), some (eI (2)), some (eI (0)), some (eI (p)), some (eI (q)), some (eI (r)), some (eI (s)), some (eI (68)), some (eI (60))]) (st' := [eI (71), eR 100, eJ (s), eJ (v7), eJ (v4), eJ (v1), eJ (0), eJ (0), eJ (1), eJ (0), eR 98]) rfl (b_iadd rfl) rfl ?_
  refine w_al (np := 149) (v := 0) rfl rfl (t_al (k := 71) hq rfl (by decide) rfl) ?_
  refine w_s (np := 150) (lv' := [some (eR 98), some (eI (5)), some (eI (2)), some (eI (0)), some (eI (p)), some (eI (q)), some (eI (r)), some (eI (s)), some (eI (68)), some (eI (60))]) (st' := [eJ (0), eJ (s), eJ (v7), eJ (v4), eJ (v1), eJ (0), eJ (0), eJ (1), eJ (0), eR 98]) rfl (b_i2l rfl) rfl ?_
  obtain ⟨v10, e11⟩ : ∃ v : Int, v = (s) - (0) := ⟨_, rfl⟩
  have b12 : -9999 ≤ v10 ∧ v10 ≤ 9999 := by omega
  refine w_s (np := 151) (lv' := [some (eR 98), some (eI (5)), some (eI (2)), some (eI (0)), some (eI (p)), some (eI (q)), some (eI (r)), some (eI (s)), some (eI (68)), some (eI (60))]) (st' := [eJ (v10), eJ (v7), eJ (v4), eJ (v1), eJ (0), eJ (0), eJ (1), eJ (0), eR 98]) rfl (b_lsub (by rw [← e11]; exact ev_W_in (by omega) (by omega))) rfl ?_
  refine w_cv (np := 154) (as := [eJ (0), eJ (1), eJ (0), eJ (0), eJ (v1), eJ (v4), eJ (v7), eJ (v10)]) (lv' := [some (eR 98), some (eJ (0)), none, some (eJ (1)), none, some (eJ (0)), none, some (eJ (0)), none, some (eJ (v1)), none, some (eJ (v4)), none, some (eJ (v7)), none, some (eJ (v10)), none]) (rest := []) rfl rfl rfl (Nat.ble_eq.mp rfl) rfl rfl rfl hq.1 rfl ?_
  refine t224 hq.1 (show (-8 : Int) ≤ 0 ∧ (0 : Int) ≤ 8 by omega) (show (-8 : Int) ≤ 1 ∧ (1 : Int) ≤ 8 by omega) (show (-8 : Int) ≤ 0 ∧ (0 : Int) ≤ 8 by omega) (show (-8 : Int) ≤ 0 ∧ (0 : Int) ≤ 8 by omega) (show (-100000 : Int) ≤ v1 ∧ (v1 : Int) ≤ 100000 by omega) (show (-100000 : Int) ≤ v4 ∧ (v4 : Int) ≤ 100000 by omega) (show (-100000 : Int) ≤ v7 ∧ (v7 : Int) ≤ 100000 by omega) (show (-100000 : Int) ≤ v10 ∧ (v10 : Int) ≤ 100000 by omega) ?_
  intro m B G s1 eB eG bB bG
  show ex_fine fg rc rs (d + 4, (265, 154, [some (eR 98), some (eI (5)), some (eI (2)), some (eI (0)), some (eI (p)), some (eI (q)), some (eI (r)), some (eI (s)), some (eI (68)), some (eI (60))], [eI (rSg (2 * B + G) G)]), f :: F, m)
  refine b_ri rfl rfl ?_
  have hB : B = (-1) * p + 1 * r := by omega
  have hG : G = 1 * s := by omega
  have hr := rSg_ok (x := 2 * B + G) (b := G) (by omega)
  have e9 : 416020 * (2 * B + G) + 930249 * G = (-832040) * p + 832040 * r + 1346269 * s := by omega
  rw [e9] at hr
  exact K m _ s1 hr (rSg_v _ _)
theorem t265_6_0 {fg : eG} {rc rs d : Nat} {f : eFr} {F : List eFr} {μ : eM} {p q r s : Int} (hq : tQ μ) (hp : -9999 ≤ p ∧ p ≤ 9999) (hq0 : -9999 ≤ q ∧ q ≤ 9999) (hr : -9999 ≤ r ∧ r ≤ 9999) (hs : -9999 ≤ s ∧ s ≤ 9999) (K : ∀ (μ2 : eM) (u : Int), tS μ μ2 → ((0 ≤ u ↔ 0 ≤ 1346269 * p + 832040 * q + (-832040) * s) ∧ (u ≤ 0 ↔ 1346269 * p + 832040 * q + (-832040) * s ≤ 0)) → (u = 0 ∨ u = 1 ∨ u = -1) → ex_fine fg rc rs (d + 5, (f.1, f.2.1, f.2.2.1, eI u :: f.2.2.2), F, μ2)) : ex_fine fg rc rs (d + 4, (265, 0, [some (eR 98), some (eI (6)), some (eI (0)), some (eI (1)), some (eI (p)), some (eI (q)), some (eI (r)), some (eI (s)), none, none], []), f :: F, μ) := by
  refine w_s (np := 2) (lv' := [some (eR 98), some (eI (6)), some (eI (0)), some (eI (1)), some (eI (p)), some (eI (q)), some (eI (r)), some (eI (s)), none, none]) (st' := [eI (12)]) rfl rfl rfl ?_
  refine w_s (np := 3) (lv' := [some (eR 98), some (eI (6)), some (eI (0)), some (eI (1)), some (eI (p)), some (eI (q)), some (eI (r)), some (eI (s)), none, none]) (st' := [eI (6), eI (12)]) rfl rfl rfl ?_
  refine w_s (np := 4) (lv' := [some (eR 98), some (eI (6)), some (eI (0)), some (eI (1)), some (eI (p)), some (eI (q)), some (eI (r)), some (eI (s)), none, none]) (st' := [eI (72)]) rfl (b_imul rfl) rfl ?_
  refine w_s (np := 5) (lv' := [some (eR 98), some (eI (6)), some (eI (0)), some (eI (1)), some (eI (p)), some (eI (q)), some (eI (r)), some (eI (s)), none, none]) (st' := [eI (4), eI (72)]) rfl rfl rfl ?_
  refine w_s (np := 6) (lv' := [some (eR 98), some (eI (6)), some (eI (0)), some (eI (1)), some (eI (p)), some (eI (q)), some (eI (r)), some (eI (s)), none, none]) (st' := [eI (0), eI (4), eI (72)]) rfl rfl rfl ?_
  refine w_s (np := 7) (lv' := [some (eR 98), some (eI (6)), some (eI (0)), some (eI (1)), some (eI (p)), some (eI (q)), some (eI (r)), some (eI (s)), none, none]) (st' := [eI (0), eI (72)]) rfl (b_imul rfl) rfl ?_
  refine w_s (np := 8) (lv' := [some (eR 98), some (eI (6)), some (eI (0)), some (eI (1)), some (eI (p)), some (eI (q)), some (eI (r)), some (eI (s)), none, none]) (st' := [eI (72)]) rfl (b_iadd rfl) rfl ?_
  refine w_s (np := 10) (lv' := [some (eR 98), some (eI (6)), some (eI (0)), some (eI (1)), some (eI (p)), some (eI (q)), some (eI (r)), some (eI (s)), some (eI (72)), none]) (st' := []) rfl rfl rfl ?_
  refine w_s (np := 12) (lv' := [some (eR 98), some (eI (6)), some (eI (0)), some (eI (1)), some (eI (p)), some (eI (q)), some (eI (r)), some (eI (s)), some (eI (72)), none]) (st' := [eI (12)]) rfl rfl rfl ?_
  refine w_s (np := 13) (lv' := [some (eR 98), some (eI (6)), some (eI (0)), some (eI (1)), some (eI (p)), some (eI (q)), some (eI (r)), some (eI (s)), some (eI (72)), none]) (st' := [eI (6), eI (12)]) rfl rfl rfl ?_
  refine w_s (np := 14) (lv' := [some (eR 98), some (eI (6)), some (eI (0)), some (eI (1)), some (eI (p)), some (eI (q)), some (eI (r)), some (eI (s)), some (eI (72)), none]) (st' := [eI (72)]) rfl (b_imul rfl) rfl ?_
  refine w_s (np := 15) (lv' := [some (eR 98), some (eI (6)), some (eI (0)), some (eI (1)), some (eI (p)), some (eI (q)), some (eI (r)), some (eI (s)), some (eI (72)), none]) (st' := [eI (4), eI (72)]) rfl rfl rfl ?_
  refine w_s (np := 16) (lv' := [some (eR 98), some (eI (6)), some (eI (0)), some (eI (1)), some (eI (p)), some (eI (q)), some (eI (r)), some (eI (s)), some (eI (72)), none]) (st' := [eI (1), eI (4), eI (72)]) rfl rfl rfl ?_
  refine w_s (np := 17) (lv' := [some (eR 98), some (eI (6)), some (eI (0)), some (eI (1)), some (eI (p)), some (eI (q)), some (eI (r)), some (eI (s)), some (eI (72)), none]) (st' := [eI (4), eI (72)]) rfl (b_imul rfl) rfl ?_
  refine w_s (np := 18) (lv' := [some (eR 98), some (eI (6)), some (eI (0)), some (eI (1)), some (eI (p)), some (eI (q)), some (eI (r)), some (eI (s)), some (eI (72)), none]) (st' := [eI (76)]) rfl (b_iadd rfl) rfl ?_
  refine w_s (np := 20) (lv' := [some (eR 98), some (eI (6)), some (eI (0)), some (eI (1)), some (eI (p)), some (eI (q)), some (eI (r)), some (eI (s)), some (eI (72)), some (eI (76))]) (st' := []) rfl rfl rfl ?_
  refine w_s (np := 21) (lv' := [some (eR 98), some (eI (6)), some (eI (0)), some (eI (1)), some (eI (p)), some (eI (q)), some (eI (r)), some (eI (s)), some (eI (72)), some (eI (76))]) (st' := [eR 98]) rfl (s_an rfl (by decide)) rfl ?_
  refine w_s (np := 22) (lv' := [some (eR 98), some (eI (6)), some (eI (0)), some (eI (1)), some (eI (p)), some (eI (q)), some (eI (r)), some (eI (s)), some (eI (72)), some (eI (76))]) (st' := [eR 98, eR 98]) rfl (s_an rfl (by decide)) rfl ?_
  refine w_gf (np := 25) (v := eR 100) rfl rfl hq.1 (by rw [hq.2.1]; rfl) ?_
  refine w_s (np := 27) (lv' := [some (eR 98), some (eI (6)), some (eI (0)), some (eI (1)), some (eI (p)), some (eI (q)), some (eI (r)), some (eI (s)), some (eI (72)), some (eI (76))]) (st' := [eI (76), eR 100, eR 98]) rfl rfl rfl ?_
  refine w_al (np := 28) (v := 0) rfl rfl (t_al (k := 76) hq rfl (by decide) rfl) ?_
  refine w_s (np := 29) (lv' := [some (eR 98), some (eI (6)), some (eI (0)), some (eI (1)), some (eI (p)), some (eI (q)), some (eI (r)), some (eI (s)), some (eI (72)), some (eI (76))]) (st' := [eR 98, eI (0), eR 98]) rfl (s_an rfl (by decide)) rfl ?_
  refine w_gf (np := 32) (v := eR 100) rfl rfl hq.1 (by rw [hq.2.1]; rfl) ?_
  refine w_s (np := 34) (lv' := [some (eR 98), some (eI (6)), some (eI (0)), some (eI (1)), some (eI (p)), some (eI (q)), some (eI (r)), some (eI (s)), some (eI (72)), some (eI (76))]) (st' := [eI (72), eR 100, eI (0), eR 98]) rfl rfl rfl ?_
  refine w_al (np := 35) (v := 0) rfl rfl (t_al (k := 72) hq rfl (by decide) rfl) ?_
  refine w_s (np := 36) (lv' := [some (eR 98), some (eI (6)), some (eI (0)), some (eI (1)), some (eI (p)), some (eI (q)), some (eI (r)), some (eI (s)), some (eI (72)), some (eI (76))]) (st' := [eI (0), eR 98]) rfl (b_isub rfl) rfl ?_
  refine w_s (np := 37) (lv' := [some (eR 98), some (eI (6)), some (eI (0)), some (eI (1)), some (eI (p)), some (eI (q)), some (eI (r)), some (eI (s)), some (eI (72)), some (eI (76))]) (st' := [eJ (0), eR 98]) rfl (b_i2l rfl) rfl ?_
  refine w_s (np := 38) (lv' := [some (eR 98), some (eI (6)), some (eI (0)), some (eI (1)), some (eI (p)), some (eI (q)), some (eI (r)), some (eI (s)), some (eI (72)), some (eI (76))]) (st' := [eR 98, eJ (0), eR 98]) rfl (s_an rfl (by decide)) rfl ?_
  refine w_gf (np := 41) (v := eR 100) rfl rfl hq.1 (by rw [hq.2.1]; rfl) ?_
  refine w_s (np := 43) (lv' := [some (eR 98), some (eI (6)), some (eI (0)), some (eI (1)), some (eI (p)), some (eI (q)), some (eI (r)), some (eI (s)), some (eI (72)), some (eI (76))]) (st' := [eI (76), eR 100, eJ (0), eR 98]) rfl rfl rfl ?_
  refine w_s (np := 44) (lv' := [some (eR 98), some (eI (6)), some (eI (0)), some (eI (1)), some (eI (p)), some (eI (q)), some (eI (r)), some (eI (s)), some (eI (72)), some (eI (76))]) (st' := [eI (1), eI (76), eR 100, eJ (0), eR 98]) rfl rfl rfl ?_
  refine w_s (np := 45) (lv' := [some (eR 98), some (eI (6)), some (eI (0)), some (eI (1)), some (eI (p)), some (eI (q)), some (eI (r)), some (eI (s)), some (eI (72)), some (eI (76))]) (st' := [eI (77), eR 100, eJ (0), eR 98]) rfl (b_iadd rfl) rfl ?_
  refine w_al (np := 46) (v := 0) rfl rfl (t_al (k := 77) hq rfl (by decide) rfl) ?_
  refine w_s (np := 47) (lv' := [some (eR 98), some (eI (6)), some (eI (0)), some (eI (1)), some (eI (p)), some (eI (q)), some (eI (r)), some (eI (s)), some (eI (72)), some (eI (76))]) (st' := [eR 98, eI (0), eJ (0), eR 98]) rfl (s_an rfl (by decide)) rfl ?_
  refine w_gf (np := 50) (v := eR 100) rfl rfl hq.1 (by rw [hq.2.1]; rfl) ?_
  refine w_s (np := 52) (lv' := [some (eR 98), some (eI (6)), some (eI (0)), some (eI (1)), some (eI (p)), some (eI (q)), some (eI (r)), some (eI (s)), some (eI (72)), some (eI (76))]) (st' := [eI (72), eR 100, eI (0), eJ (0), eR 98]) rfl rfl rfl ?_
  refine w_s (np := 53) (lv' := [some (eR 98), some (eI (6)), some (eI (0)), some (eI (1)), some (eI (p)), some (eI (q)), some (eI (r)), some (eI (s)), some (eI (72)), some (eI (76))]) (st' := [eI (1), eI (72), eR 100, eI (0), eJ (0), eR 98]) rfl rfl rfl ?_
  refine w_s (np := 54) (lv' := [some (eR 98), some (eI (6)), some (eI (0)), some (eI (1)), some (eI (p)), some (eI (q)), some (eI (r)), some (eI (s)), some (eI (72)), some (eI (76))]) (st' := [eI (73), eR 100, eI (0), eJ (0), eR 98]) rfl (b_iadd rfl) rfl ?_
  refine w_al (np := 55) (v := 0) rfl rfl (t_al (k := 73) hq rfl (by decide) rfl) ?_
  refine w_s (np := 56) (lv' := [some (eR 98), some (eI (6)), some (eI (0)), some (eI (1)), some (eI (p)), some (eI (q)), some (eI (r)), some (eI (s)), some (eI (72)), some (eI (76))]) (st' := [eI (0), eJ (0), eR 98]) rfl (b_isub rfl) rfl ?_
  refine w_s (np := 57) (lv' := [some (eR 98), some (eI (6)), some (eI (0)), some (eI (1)), some (eI (p)), some (eI (q)), some (eI (r)), some (eI (s)), some (eI (72)), some (eI (76))]) (st' := [eJ (0), eJ (0), eR 98]) rfl (b_i2l rfl) rfl ?_
  refine w_s (np := 58) (lv' := [some (eR 98), some (eI (6)), some (eI (0)), some (eI (1)), some (eI (p)), some (eI (q)), some (eI (r)), some (eI (s)), some (eI (72)), some (eI (76))]) (st' := [eR 98, eJ (0), eJ (0), eR 98]) rfl (s_an rfl (by decide)) rfl ?_
  refine w_gf (np := 61) (v := eR 100) rfl rfl hq.1 (by rw [hq.2.1]; rfl) ?_
  refine w_s (np := 63) (lv' := [some (eR 98), some (eI (6)), some (eI (0)), some (eI (1)), some (eI (p)), some (eI (q)), some (eI (r)), some (eI (s)), some (eI (72)), some (eI (76))]) (st' := [eI (76), eR 100, eJ (0), eJ (0), eR 98]) rfl rfl rfl ?_
  refine w_s (np := 64) (lv' := [some (eR 98), some (eI (6)), some (eI (0)), some (eI (1)), some (eI (p)), some (eI (q)), some (eI (r)), some (eI (s)), some (eI (72)), some (eI (76))]) (st' := [eI (2), eI (76), eR 100, eJ (0), eJ (0), eR 98]) rfl rfl rfl ?_
  refine w_s (np := 65) (lv' := [some (eR 98), some (eI (6)), some (eI (0)), some (eI (1)), some (eI (p)), some (eI (q)), some (eI (r)), some (eI (s)), some (eI (72)), some (eI (76))]) (st' := [eI (78), eR 100, eJ (0), eJ (0), eR 98]) rfl (b_iadd rfl) rfl ?_
  refine w_al (np := 66) (v := -1) rfl rfl (t_al (k := 78) hq rfl (by decide) rfl) ?_
  refine w_s (np := 67) (lv' := [some (eR 98), some (eI (6)), some (eI (0)), some (eI (1)), some (eI (p)), some (eI (q)), some (eI (r)), some (eI (s)), some (eI (72)), some (eI (76))]) (st' := [eR 98, eI (-1), eJ (0), eJ (0), eR 98]) rfl (s_an rfl (by decide)) rfl ?_
  refine w_gf (np := 70) (v := eR 100) rfl rfl hq.1 (by rw [hq.2.1]; rfl) ?_
  refine w_s (np := 72) (lv' := [some (eR 98), some (eI (6)), some (eI (0)), some (eI (1)), some (eI (p)), some (eI (q)), some (eI (r)), some (eI (s)), some (eI (72)), some (eI (76))]) (st' := [eI (72), eR 100, eI (-1), eJ (0), eJ (0), eR 98]) rfl rfl rfl ?_
  refine w_s (np := 73) (lv' := [some (eR 98), some (eI (6)), some (eI (0)), some (eI (1)), some (eI (p)), some (eI (q)), some (eI (r)), some (eI (s)), some (eI (72)), some (eI (76))]) (st' := [eI (2), eI (72), eR 100, eI (-1), eJ (0), eJ (0), eR 98]) rfl rfl rfl ?_
  refine w_s (np := 74) (lv' := [some (eR 98), some (eI (6)), some (eI (0)), some (eI (1)), some (eI (p)), some (eI (q)), some (eI (r)), some (eI (s)), some (eI (72)), some (eI (76))]) (st' := [eI (74), eR 100, eI (-1), eJ (0), eJ (0), eR 98]) rfl (b_iadd rfl) rfl ?_
  refine w_al (np := 75) (v := 0) rfl rfl (t_al (k := 74) hq rfl (by decide) rfl) ?_
  refine w_s (np := 76) (lv' := [some (eR 98), some (eI (6)), some (eI (0)), some (eI (1)), some (eI (p)), some (eI (q)), some (eI (r)), some (eI (s)), some (eI (72)), some (eI (76))]) (st' := [eI (-1), eJ (0), eJ (0), eR 98]) rfl (b_isub rfl) rfl ?_
  refine w_s (np := 77) (lv' := [some (eR 98), some (eI (6)), some (eI (0)), some (eI (1)), some (eI (p)), some (eI (q)), some (eI (r)), some (eI (s)), some (eI (72)), some (eI (76))]) (st' := [eJ (-1), eJ (0), eJ (0), eR 98]) rfl (b_i2l rfl) rfl ?_
  refine w_s (np := 78) (lv' := [some (eR 98), some (eI (6)), some (eI (0)), some (eI (1)), some (eI (p)), some (eI (q)), some (eI (r)), some (eI (s)), some (eI (72)), some (eI (76))]) (st' := [eR 98, eJ (-1), eJ (0), eJ (0), eR 98]) rfl (s_an rfl (by decide)) rfl ?_
  refine w_gf (np := 81) (v := eR 100) rfl rfl hq.1 (by rw [hq.2.1]; rfl) ?_
  refine w_s (np := 83) (lv' := [some (eR 98), some (eI (6)), some (eI (0)), some (eI (1)), some (eI (p)), some (eI (q)), some (eI (r)), some (eI (s)), some (eI (72)), some (eI (76))]) (st' := [eI (76), eR 100, eJ (-1), eJ (0), eJ (0), eR 98]) rfl rfl rfl ?_
  refine w_s (np := 84) (lv' := [some (eR 98), some (eI (6)), some (eI (0)), some (eI (1)), some (eI (p)), some (eI (q)), some (eI (r)), some (eI (s)), some (eI (72)), some (eI (76))]) (st' := [eI (3), eI (76), eR 100, eJ (-1), eJ (0), eJ (0), eR 98]) rfl rfl rfl ?_
  refine w_s (np := 85) (lv' := [some (eR 98), some (eI (6)), some (eI (0)), some (eI (1)), some (eI (p)), some (eI (q)), some (eI (r)), some (eI (s)), some (eI (72)), some (eI (76))]) (st' := [eI (79), eR 100, eJ (-1), eJ (0), eJ (0), eR 98]) rfl (b_iadd rfl) rfl ?_
  refine w_al (np := 86) (v := 0) rfl rfl (t_al (k := 79) hq rfl (by decide) rfl) ?_
  refine w_s (np := 87) (lv' := [some (eR 98), some (eI (6)), some (eI (0)), some (eI (1)), some (eI (p)), some (eI (q)), some (eI (r)), some (eI (s)), some (eI (72)), some (eI (76))]) (st' := [eR 98, eI (0), eJ (-1), eJ (0), eJ (0), eR 98]) rfl (s_an rfl (by decide)) rfl ?_
  refine w_gf (np := 90) (v := eR 100) rfl rfl hq.1 (by rw [hq.2.1]; rfl) ?_
  refine w_s (np := 92) (lv' := [some (eR 98), some (eI (6)), some (eI (0)), some (eI (1)), some (eI (p)), some (eI (q)), some (eI (r)), some (eI (s)), some (eI (72)), some (eI (76))]) (st' := [eI (72), eR 100, eI (0), eJ (-1), eJ (0), eJ (0), eR 98]) rfl rfl rfl ?_
  refine w_s (np := 93) (lv' := [some (eR 98), some (eI (6)), some (eI (0)), some (eI (1)), some (eI (p)), some (eI (q)), some (eI (r)), some (eI (s)), some (eI (72)), some (eI (76))]) (st' := [eI (3), eI (72), eR 100, eI (0), eJ (-1), eJ (0), eJ (0), eR 98]) rfl rfl rfl ?_
  refine w_s (np := 94) (lv' := [some (eR 98), some (eI (6)), some (eI (0)), some (eI (1)), some (eI (p)), some (eI (q)), some (eI (r)), some (eI (s)), some (eI (72)), some (eI (76))]) (st' := [eI (75), eR 100, eI (0), eJ (-1), eJ (0), eJ (0), eR 98]) rfl (b_iadd rfl) rfl ?_
  refine w_al (np := 95) (v := 0) rfl rfl (t_al (k := 75) hq rfl (by decide) rfl) ?_
  refine w_s (np := 96) (lv' := [some (eR 98), some (eI (6)), some (eI (0)), some (eI (1)), some (eI (p)), some (eI (q)), some (eI (r)), some (eI (s)), some (eI (72)), some (eI (76))]) (st' := [eI (0), eJ (-1), eJ (0), eJ (0), eR 98]) rfl (b_isub rfl) rfl ?_
  refine w_s (np := 97) (lv' := [some (eR 98), some (eI (6)), some (eI (0)), some (eI (1)), some (eI (p)), some (eI (q)), some (eI (r)), some (eI (s)), some (eI (72)), some (eI (76))]) (st' := [eJ (0), eJ (-1), eJ (0), eJ (0), eR 98]) rfl (b_i2l rfl) rfl ?_
  refine w_s (np := 99) (lv' := [some (eR 98), some (eI (6)), some (eI (0)), some (eI (1)), some (eI (p)), some (eI (q)), some (eI (r)), some (eI (s)), some (eI (72)), some (eI (76))]) (st' := [eI (p), eJ (0), eJ (-1), eJ (0), eJ (0), eR 98]) rfl rfl rfl ?_
  refine w_s (np := 100) (lv' := [some (eR 98), some (eI (6)), some (eI (0)), some (eI (1)), some (eI (p)), some (eI (q)), some (eI (r)), some (eI (s)), some (eI (72)), some (eI (76))]) (st' := [eJ (p), eJ (0), eJ (-1), eJ (0), eJ (0), eR 98]) rfl (b_i2l (ev_w_in (by omega) (by omega))) rfl ?_
  refine w_s (np := 101) (lv' := [some (eR 98), some (eI (6)), some (eI (0)), some (eI (1)), some (eI (p)), some (eI (q)), some (eI (r)), some (eI (s)), some (eI (72)), some (eI (76))]) (st' := [eR 98, eJ (p), eJ (0), eJ (-1), eJ (0), eJ (0), eR 98]) rfl (s_an rfl (by decide)) rfl ?_
  refine w_gf (np := 104) (v := eR 100) rfl rfl hq.1 (by rw [hq.2.1]; rfl) ?_
  refine w_s (np := 106) (lv' := [some (eR 98), some (eI (6)), some (eI (0)), some (eI (1)), some (eI (p)), some (eI (q)), some (eI (r)), some (eI (s)), some (eI (72)), some (eI (76))]) (st' := [eI (72), eR 100, eJ (p), eJ (0), eJ (-1), eJ (0), eJ (0), eR 98]) rfl rfl rfl ?_
  refine w_al (np := 107) (v := 0) rfl rfl (t_al (k := 72) hq rfl (by decide) rfl) ?_
  refine w_s (np := 108) (lv' := [some (eR 98), some (eI (6)), some (eI (0)), some (eI (1)), some (eI (p)), some (eI (q)), some (eI (r)), some (eI (s)), some (eI (72)), some (eI (76))]) (st' := [eJ (0), eJ (p), eJ (0), eJ (-1), eJ (0), eJ (0), eR 98]) rfl (b_i2l rfl) rfl ?_
  obtain ⟨v1, e2⟩ : ∃ v : Int, v = (p) - (0) := ⟨_, rfl⟩
  have b3 : -9999 ≤ v1 ∧ v1 ≤ 9999 := by omega
  refine w_s (np := 109) (lv' := [some (eR 98), some (eI (6)), some (eI (0)), some (eI (1)), some (eI (p)), some (eI (q)), some (eI (r)), some (eI (s)), some (eI (72)), some (eI (76))]) (st' := [eJ (v1), eJ (0), eJ (-1), eJ (0), eJ (0), eR 98]) rfl (b_lsub (by rw [← e2]; exact ev_W_in (by omega) (by omega))) rfl ?_
  refine w_s (np := 111) (lv' := [some (eR 98), some (eI (6)), some (eI (0)), some (eI (1)), some (eI (p)), some (eI (q)), some (eI (r)), some (eI (s)), some (eI (72)), some (eI (76))]) (st' := [eI (q), eJ (v1), eJ (0), eJ (-1), eJ (0), eJ (0), eR 98]) rfl rfl rfl ?_
  refine w_s (np := 112) (lv' := [some (eR 98), some (eI (6)), some (eI (0)), some (eI (1)), some (eI (p)), some (eI (q)), some (eI (r)), some (eI (s)), some (eI (72)), some (eI (76))]) (st' := [eJ (q), eJ (v1), eJ (0), eJ (-1), eJ (0), eJ (0), eR 98]) rfl (b_i2l (ev_w_in (by omega) (by omega))) rfl ?_
  refine w_s (np := 113) (lv' := [some (eR 98), some (eI (6)), some (eI (0)), some (eI (1)), some (eI (p)), some (eI (q)), some (eI (r)), some (eI (s)), some (eI (72)), some (eI (76))]) (st' := [eR 98, eJ (q), eJ (v1), eJ (0), eJ (-1), eJ (0), eJ (0), eR 98]) rfl (s_an rfl (by decide)) rfl ?_
  refine w_gf (np := 116) (v := eR 100) rfl rfl hq.1 (by rw [hq.2.1]; rfl) ?_
  refine w_s (np := 118) (lv' := [some (eR 98), some (eI (6)), some (eI (0)), some (eI (1)), some (eI (p)), some (eI (q)), some (eI (r)), some (eI (s)), some (eI (72)), some (eI (76))]) (st' := [eI (72), eR 100, eJ (q), eJ (v1), eJ (0), eJ (-1), eJ (0), eJ (0), eR 98]) rfl rfl rfl ?_
  refine w_s (np := 119) (lv' := [some (eR 98), some (eI (6)), some (eI (0)), some (eI (1)), some (eI (p)), some (eI (q)), some (eI (r)), some (eI (s)), some (eI (72)), some (eI (76))]) (st' := [eI (1), eI (72), eR 100, eJ (q), eJ (v1), eJ (0), eJ (-1), eJ (0), eJ (0), eR 98]) rfl rfl rfl ?_
  refine w_s (np := 120) (lv' := [some (eR 98), some (eI (6)), some (eI (0)), some (eI (1)), some (eI (p)), some (eI (q)), some (eI (r)), some (eI (s)), some (eI (72)), some (eI (76))]) (st' := [eI (73), eR 100, eJ (q), eJ (v1), eJ (0), eJ (-1), eJ (0), eJ (0), eR 98]) rfl (b_iadd rfl) rfl ?_
  refine w_al (np := 121) (v := 0) rfl rfl (t_al (k := 73) hq rfl (by decide) rfl) ?_
  refine w_s (np := 122) (lv' := [some (eR 98), some (eI (6)), some (eI (0)), some (eI (1)), some (eI (p)), some (eI (q)), some (eI (r)), some (eI (s)), some (eI (72)), some (eI (76))]) (st' := [eJ (0), eJ (q), eJ (v1), eJ (0), eJ (-1), eJ (0), eJ (0), eR 98]) rfl (b_i2l rfl) rfl ?_
  obtain ⟨v4, e5⟩ : ∃ v : Int, v = (q) - (0) := ⟨_, rfl⟩
  have b6 : -9999 ≤ v4 ∧ v4 ≤ 9999 := by omega
  refine w_s (np := 123) (lv' := [some (eR 98), some (eI (6)), some (eI (0)), some (eI (1)), some (eI (p)), some (eI (q)), some (eI (r)), some (eI (s)), some (eI (72)), some (eI (76))]) (st' := [eJ (v4), eJ (v1), eJ (0), eJ (-1), eJ (0), eJ (0), eR 98]) rfl (b_lsub (by rw [← e5]; exact ev_W_in (by omega) (by omega))) rfl ?_
  refine w_s (np := 125) (lv' := [some (eR 98), some (eI (6)), some (eI (0)), some (eI (1)), some (eI (p)), some (eI (q)), some (eI (r)), some (eI (s)), some (eI (72)), some (eI (76))]) (st' := [eI (r), eJ (v4), eJ (v1), eJ (0), eJ (-1), eJ (0), eJ (0), eR 98]) rfl rfl rfl ?_
  refine w_s (np := 126) (lv' := [some (eR 98), some (eI (6)), some (eI (0)), some (eI (1)), some (eI (p)), some (eI (q)), some (eI (r)), some (eI (s)), some (eI (72)), some (eI (76))]) (st' := [eJ (r), eJ (v4), eJ (v1), eJ (0), eJ (-1), eJ (0), eJ (0), eR 98]) rfl (b_i2l (ev_w_in (by omega) (by omega))) rfl ?_
  refine w_s (np := 127) (lv' := [some (eR 98), some (eI (6)), some (eI (0)), some (eI (1)), some (eI (p)), some (eI (q)), some (eI (r)), some (eI (s)), some (eI (72)), some (eI (76))]) (st' := [eR 98, eJ (r), eJ (v4), eJ (v1), eJ (0), eJ (-1), eJ (0), eJ (0), eR 98]) rfl (s_an rfl (by decide)) rfl ?_
  refine w_gf (np := 130) (v := eR 100) rfl rfl hq.1 (by rw [hq.2.1]; rfl) ?_
  refine w_s (np := 132) (lv' := [some (eR 98), some (eI (6)), some (eI (0)), some (eI (1)), some (eI (p)), some (eI (q)), some (eI (r)), some (eI (s)), some (eI (72)), some (eI (76))]) (st' := [eI (72), eR 100, eJ (r), eJ (v4), eJ (v1), eJ (0), eJ (-1), eJ (0), eJ (0), eR 98]) rfl rfl rfl ?_
  refine w_s (np := 133) (lv' := [some (eR 98), some (eI (6)), some (eI (0)), some (eI (1)), some (eI (p)), some (eI (q)), some (eI (r)), some (eI (s)), some (eI (72)), some (eI (76))]) (st' := [eI (2), eI (72), eR 100, eJ (r), eJ (v4), eJ (v1), eJ (0), eJ (-1), eJ (0), eJ (0), eR 98]) rfl rfl rfl ?_
  refine w_s (np := 134) (lv' := [some (eR 98), some (eI (6)), some (eI (0)), some (eI (1)), some (eI (p)), some (eI (q)), some (eI (r)), some (eI (s)), some (eI (72)), some (eI (76))]) (st' := [eI (74), eR 100, eJ (r), eJ (v4), eJ (v1), eJ (0), eJ (-1), eJ (0), eJ (0), eR 98]) rfl (b_iadd rfl) rfl ?_
  refine w_al (np := 135) (v := 0) rfl rfl (t_al (k := 74) hq rfl (by decide) rfl) ?_
  refine w_s (np := 136) (lv' := [some (eR 98), some (eI (6)), some (eI (0)), some (eI (1)), some (eI (p)), some (eI (q)), some (eI (r)), some (eI (s)), some (eI (72)), some (eI (76))]) (st' := [eJ (0), eJ (r), eJ (v4), eJ (v1), eJ (0), eJ (-1), eJ (0), eJ (0), eR 98]) rfl (b_i2l rfl) rfl ?_
  obtain ⟨v7, e8⟩ : ∃ v : Int, v = (r) - (0) := ⟨_, rfl⟩
  have b9 : -9999 ≤ v7 ∧ v7 ≤ 9999 := by omega
  refine w_s (np := 137) (lv' := [some (eR 98), some (eI (6)), some (eI (0)), some (eI (1)), some (eI (p)), some (eI (q)), some (eI (r)), some (eI (s)), some (eI (72)), some (eI (76))]) (st' := [eJ (v7), eJ (v4), eJ (v1), eJ (0), eJ (-1), eJ (0), eJ (0), eR 98]) rfl (b_lsub (by rw [← e8]; exact ev_W_in (by omega) (by omega))) rfl ?_
  refine w_s (np := 139) (lv' := [some (eR 98), some (eI (6)), some (eI (0)), some (eI (1)), some (eI (p)), some (eI (q)), some (eI (r)), some (eI (s)), some (eI (72)), some (eI (76))]) (st' := [eI (s), eJ (v7), eJ (v4), eJ (v1), eJ (0), eJ (-1), eJ (0), eJ (0), eR 98]) rfl rfl rfl ?_
  refine w_s (np := 140) (lv' := [some (eR 98), some (eI (6)), some (eI (0)), some (eI (1)), some (eI (p)), some (eI (q)), some (eI (r)), some (eI (s)), some (eI (72)), some (eI (76))]) (st' := [eJ (s), eJ (v7), eJ (v4), eJ (v1), eJ (0), eJ (-1), eJ (0), eJ (0), eR 98]) rfl (b_i2l (ev_w_in (by omega) (by omega))) rfl ?_
  refine w_s (np := 141) (lv' := [some (eR 98), some (eI (6)), some (eI (0)), some (eI (1)), some (eI (p)), some (eI (q)), some (eI (r)), some (eI (s)), some (eI (72)), some (eI (76))]) (st' := [eR 98, eJ (s), eJ (v7), eJ (v4), eJ (v1), eJ (0), eJ (-1), eJ (0), eJ (0), eR 98]) rfl (s_an rfl (by decide)) rfl ?_
  refine w_gf (np := 144) (v := eR 100) rfl rfl hq.1 (by rw [hq.2.1]; rfl) ?_
  refine w_s (np := 146) (lv' := [some (eR 98), some (eI (6)), some (eI (0)), some (eI (1)), some (eI (p)), some (eI (q)), some (eI (r)), some (eI (s)), some (eI (72)), some (eI (76))]) (st' := [eI (72), eR 100, eJ (s), eJ (v7), eJ (v4), eJ (v1), eJ (0), eJ (-1), eJ (0), eJ (0), eR 98]) rfl rfl rfl ?_
  refine w_s (np := 147) (lv' := [some (eR 98), some (eI (6)), some (eI (0)), some (eI (1)), some (eI (p)), some (eI (q)), some (eI (r)), some (eI (s)), some (eI (72)), some (eI (76))]) (st' := [eI (3), eI (72), eR 100, eJ (s), eJ (v7), eJ (v4), eJ (v1), eJ (0), eJ (-1), eJ (0), eJ (0), eR 98]) rfl rfl rfl ?_
  refine w_s (np := 148) (lv' := [some (eR 98), some (eI (6)), some (eI (0)), some (eI (1)), some (eI (p)), some (eI (q)), some (eI (r)), some (eI (s)), some (eI (72)), some (eI (76))]) (st' := [eI (75), eR 100, eJ (s), eJ (v7), eJ (v4), eJ (v1), eJ (0), eJ (-1), eJ (0), eJ (0), eR 98]) rfl (b_iadd rfl) rfl ?_
  refine w_al (np := 149) (v := 0) rfl rfl (t_al (k := 75) hq rfl (by decide) rfl) ?_
  refine w_s (np := 150) (lv' := [some (eR 98), some (eI (6)), some (eI (0)), some (eI (1)), some (eI (p)), some (eI (q)), some (eI (r)), some (eI (s)), some (eI (72)), some (eI (76))]) (st' := [eJ (0), eJ (s), eJ (v7), eJ (v4), eJ (v1), eJ (0), eJ (-1), eJ (0), eJ (0), eR 98]) rfl (b_i2l rfl) rfl ?_
  obtain ⟨v10, e11⟩ : ∃ v : Int, v = (s) - (0) := ⟨_, rfl⟩
  have b12 : -9999 ≤ v10 ∧ v10 ≤ 9999 := by omega
  refine w_s (np := 151) (lv' := [some (eR 98), some (eI (6)), some (eI (0)), some (eI (1)), some (eI (p)), some (eI (q)), some (eI (r)), some (eI (s)), some (eI (72)), some (eI (76))]) (st' := [eJ (v10), eJ (v7), eJ (v4), eJ (v1), eJ (0), eJ (-1), eJ (0), eJ (0), eR 98]) rfl (b_lsub (by rw [← e11]; exact ev_W_in (by omega) (by omega))) rfl ?_
  refine w_cv (np := 154) (as := [eJ (0), eJ (0), eJ (-1), eJ (0), eJ (v1), eJ (v4), eJ (v7), eJ (v10)]) (lv' := [some (eR 98), some (eJ (0)), none, some (eJ (0)), none, some (eJ (-1)), none, some (eJ (0)), none, some (eJ (v1)), none, some (eJ (v4)), none, some (eJ (v7)), none, some (eJ (v10)), none]) (rest := []) rfl rfl rfl (Nat.ble_eq.mp rfl) rfl rfl rfl hq.1 rfl ?_
  refine t224 hq.1 (show (-8 : Int) ≤ 0 ∧ (0 : Int) ≤ 8 by omega) (show (-8 : Int) ≤ 0 ∧ (0 : Int) ≤ 8 by omega) (show (-8 : Int) ≤ -1 ∧ (-1 : Int) ≤ 8 by omega) (show (-8 : Int) ≤ 0 ∧ (0 : Int) ≤ 8 by omega) (show (-100000 : Int) ≤ v1 ∧ (v1 : Int) ≤ 100000 by omega) (show (-100000 : Int) ≤ v4 ∧ (v4 : Int) ≤ 100000 by omega) (show (-100000 : Int) ≤ v7 ∧ (v7 : Int) ≤ 100000 by omega) (show (-100000 : Int) ≤ v10 ∧ (v10 : Int) ≤ 100000 by omega) ?_
  intro m B G s1 eB eG bB bG
  show ex_fine fg rc rs (d + 4, (265, 154, [some (eR 98), some (eI (6)), some (eI (0)), some (eI (1)), some (eI (p)), some (eI (q)), some (eI (r)), some (eI (s)), some (eI (72)), some (eI (76))], [eI (rSg (2 * B + G) G)]), f :: F, m)
  refine b_ri rfl rfl ?_
  have hB : B = 1 * q + (-1) * s := by omega
  have hG : G = 1 * p := by omega
  have hr := rSg_ok (x := 2 * B + G) (b := G) (by omega)
  have e9 : 416020 * (2 * B + G) + 930249 * G = 1346269 * p + 832040 * q + (-832040) * s := by omega
  rw [e9] at hr
  exact K m _ s1 hr (rSg_v _ _)
theorem t265_6_1 {fg : eG} {rc rs d : Nat} {f : eFr} {F : List eFr} {μ : eM} {p q r s : Int} (hq : tQ μ) (hp : -9999 ≤ p ∧ p ≤ 9999) (hq0 : -9999 ≤ q ∧ q ≤ 9999) (hr : -9999 ≤ r ∧ r ≤ 9999) (hs : -9999 ≤ s ∧ s ≤ 9999) (K : ∀ (μ2 : eM) (u : Int), tS μ μ2 → ((0 ≤ u ↔ 0 ≤ (-514229) * p + (-832040) * q + (-832040) * r + (-514229) * s + (-832040)) ∧ (u ≤ 0 ↔ (-514229) * p + (-832040) * q + (-832040) * r + (-514229) * s + (-832040) ≤ 0)) → (u = 0 ∨ u = 1 ∨ u = -1) → ex_fine fg rc rs (d + 5, (f.1, f.2.1, f.2.2.1, eI u :: f.2.2.2), F, μ2)) : ex_fine fg rc rs (d + 4, (265, 0, [some (eR 98), some (eI (6)), some (eI (1)), some (eI (2)), some (eI (p)), some (eI (q)), some (eI (r)), some (eI (s)), none, none], []), f :: F, μ) := by
  refine w_s (np := 2) (lv' := [some (eR 98), some (eI (6)), some (eI (1)), some (eI (2)), some (eI (p)), some (eI (q)), some (eI (r)), some (eI (s)), none, none]) (st' := [eI (12)]) rfl rfl rfl ?_
  refine w_s (np := 3) (lv' := [some (eR 98), some (eI (6)), some (eI (1)), some (eI (2)), some (eI (p)), some (eI (q)), some (eI (r)), some (eI (s)), none, none]) (st' := [eI (6), eI (12)]) rfl rfl rfl ?_
  refine w_s (np := 4) (lv' := [some (eR 98), some (eI (6)), some (eI (1)), some (eI (2)), some (eI (p)), some (eI (q)), some (eI (r)), some (eI (s)), none, none]) (st' := [eI (72)]) rfl (b_imul rfl) rfl ?_
  refine w_s (np := 5) (lv' := [some (eR 98), some (eI (6)), some (eI (1)), some (eI (2)), some (eI (p)), some (eI (q)), some (eI (r)), some (eI (s)), none, none]) (st' := [eI (4), eI (72)]) rfl rfl rfl ?_
  refine w_s (np := 6) (lv' := [some (eR 98), some (eI (6)), some (eI (1)), some (eI (2)), some (eI (p)), some (eI (q)), some (eI (r)), some (eI (s)), none, none]) (st' := [eI (1), eI (4), eI (72)]) rfl rfl rfl ?_
  refine w_s (np := 7) (lv' := [some (eR 98), some (eI (6)), some (eI (1)), some (eI (2)), some (eI (p)), some (eI (q)), some (eI (r)), some (eI (s)), none, none]) (st' := [eI (4), eI (72)]) rfl (b_imul rfl) rfl ?_
  refine w_s (np := 8) (lv' := [some (eR 98), some (eI (6)), some (eI (1)), some (eI (2)), some (eI (p)), some (eI (q)), some (eI (r)), some (eI (s)), none, none]) (st' := [eI (76)]) rfl (b_iadd rfl) rfl ?_
  refine w_s (np := 10) (lv' := [some (eR 98), some (eI (6)), some (eI (1)), some (eI (2)), some (eI (p)), some (eI (q)), some (eI (r)), some (eI (s)), some (eI (76)), none]) (st' := []) rfl rfl rfl ?_
  refine w_s (np := 12) (lv' := [some (eR 98), some (eI (6)), some (eI (1)), some (eI (2)), some (eI (p)), some (eI (q)), some (eI (r)), some (eI (s)), some (eI (76)), none]) (st' := [eI (12)]) rfl rfl rfl ?_
  refine w_s (np := 13) (lv' := [some (eR 98), some (eI (6)), some (eI (1)), some (eI (2)), some (eI (p)), some (eI (q)), some (eI (r)), some (eI (s)), some (eI (76)), none]) (st' := [eI (6), eI (12)]) rfl rfl rfl ?_
  refine w_s (np := 14) (lv' := [some (eR 98), some (eI (6)), some (eI (1)), some (eI (2)), some (eI (p)), some (eI (q)), some (eI (r)), some (eI (s)), some (eI (76)), none]) (st' := [eI (72)]) rfl (b_imul rfl) rfl ?_
  refine w_s (np := 15) (lv' := [some (eR 98), some (eI (6)), some (eI (1)), some (eI (2)), some (eI (p)), some (eI (q)), some (eI (r)), some (eI (s)), some (eI (76)), none]) (st' := [eI (4), eI (72)]) rfl rfl rfl ?_
  refine w_s (np := 16) (lv' := [some (eR 98), some (eI (6)), some (eI (1)), some (eI (2)), some (eI (p)), some (eI (q)), some (eI (r)), some (eI (s)), some (eI (76)), none]) (st' := [eI (2), eI (4), eI (72)]) rfl rfl rfl ?_
  refine w_s (np := 17) (lv' := [some (eR 98), some (eI (6)), some (eI (1)), some (eI (2)), some (eI (p)), some (eI (q)), some (eI (r)), some (eI (s)), some (eI (76)), none]) (st' := [eI (8), eI (72)]) rfl (b_imul rfl) rfl ?_
  refine w_s (np := 18) (lv' := [some (eR 98), some (eI (6)), some (eI (1)), some (eI (2)), some (eI (p)), some (eI (q)), some (eI (r)), some (eI (s)), some (eI (76)), none]) (st' := [eI (80)]) rfl (b_iadd rfl) rfl ?_
  refine w_s (np := 20) (lv' := [some (eR 98), some (eI (6)), some (eI (1)), some (eI (2)), some (eI (p)), some (eI (q)), some (eI (r)), some (eI (s)), some (eI (76)), some (eI (80))]) (st' := []) rfl rfl rfl ?_
  refine w_s (np := 21) (lv' := [some (eR 98), some (eI (6)), some (eI (1)), some (eI (2)), some (eI (p)), some (eI (q)), some (eI (r)), some (eI (s)), some (eI (76)), some (eI (80))]) (st' := [eR 98]) rfl (s_an rfl (by decide)) rfl ?_
  refine w_s (np := 22) (lv' := [some (eR 98), some (eI (6)), some (eI (1)), some (eI (2)), some (eI (p)), some (eI (q)), some (eI (r)), some (eI (s)), some (eI (76)), some (eI (80))]) (st' := [eR 98, eR 98]) rfl (s_an rfl (by decide)) rfl ?_
  refine w_gf (np := 25) (v := eR 100) rfl rfl hq.1 (by rw [hq.2.1]; rfl) ?_
  refine w_s (np := 27) (lv' := [some (eR 98), some (eI (6)), some (eI (1)), some (eI (2)), some (eI (p)), some (eI (q)), some (eI (r)), some (eI (s)), some (eI (76)), some (eI (80))]) (st' := [eI (80), eR 100, eR 98]) rfl rfl rfl ?_
  refine w_al (np := 28) (v := 0) rfl rfl (t_al (k := 80) hq rfl (by decide) rfl) ?_
  refine w_s (np := 29) (lv' := [some (eR 98), some (eI (6)), some (eI (1)), some (eI (2)), some (eI (p)), some (eI (q)), some (eI (r)), some (eI (s)), some (eI (76)), some (eI (80))]) (st' := [eR 98, eI (0), eR 98]) rfl (s_an rfl (by decide)) rfl ?_
  refine w_gf (np := 32) (v := eR 100) rfl rfl hq.1 (by rw [hq.2.1]; rfl) ?_
  refine w_s (np := 34) (lv' := [some (eR 98), some (eI (6)), some (eI (1)), some (eI (2)), some (eI (p)), some (eI (q)), some (eI (r)), some (eI (s)), some (eI (76)), some (eI (80))]) (st' := [eI (76), eR 100, eI (0), eR 98]) rfl rfl rfl ?_
  refine w_al (np := 35) (v := 0) rfl rfl (t_al (k := 76) hq rfl (by decide) rfl) ?_
  refine w_s (np := 36) (lv' := [some (eR 98), some (eI (6)), some (eI (1)), some (eI (2)), some (eI (p)), some (eI (q)), some (eI (r)), some (eI (s)), some (eI (76)), some (eI (80))]) (st' := [eI (0), eR 98]) rfl (b_isub rfl) rfl ?_
  refine w_s (np := 37) (lv' := [some (eR 98), some (eI (6)), some (eI (1)), some (eI (2)), some (eI (p)), some (eI (q)), some (eI (r)), some (eI (s)), some (eI (76)), some (eI (80))]) (st' := [eJ (0), eR 98]) rfl (b_i2l rfl) rfl ?_
  refine w_s (np := 38) (lv' := [some (eR 98), some (eI (6)), some (eI (1)), some (eI (2)), some (eI (p)), some (eI (q)), some (eI (r)), some (eI (s)), some (eI (76)), some (eI (80))]) (st' := [eR 98, eJ (0), eR 98]) rfl (s_an rfl (by decide)) rfl ?_
  refine w_gf (np := 41) (v := eR 100) rfl rfl hq.1 (by rw [hq.2.1]; rfl) ?_
  refine w_s (np := 43) (lv' := [some (eR 98), some (eI (6)), some (eI (1)), some (eI (2)), some (eI (p)), some (eI (q)), some (eI (r)), some (eI (s)), some (eI (76)), some (eI (80))]) (st' := [eI (80), eR 100, eJ (0), eR 98]) rfl rfl rfl ?_
  refine w_s (np := 44) (lv' := [some (eR 98), some (eI (6)), some (eI (1)), some (eI (2)), some (eI (p)), some (eI (q)), some (eI (r)), some (eI (s)), some (eI (76)), some (eI (80))]) (st' := [eI (1), eI (80), eR 100, eJ (0), eR 98]) rfl rfl rfl ?_
  refine w_s (np := 45) (lv' := [some (eR 98), some (eI (6)), some (eI (1)), some (eI (2)), some (eI (p)), some (eI (q)), some (eI (r)), some (eI (s)), some (eI (76)), some (eI (80))]) (st' := [eI (81), eR 100, eJ (0), eR 98]) rfl (b_iadd rfl) rfl ?_
  refine w_al (np := 46) (v := -1) rfl rfl (t_al (k := 81) hq rfl (by decide) rfl) ?_
  refine w_s (np := 47) (lv' := [some (eR 98), some (eI (6)), some (eI (1)), some (eI (2)), some (eI (p)), some (eI (q)), some (eI (r)), some (eI (s)), some (eI (76)), some (eI (80))]) (st' := [eR 98, eI (-1), eJ (0), eR 98]) rfl (s_an rfl (by decide)) rfl ?_
  refine w_gf (np := 50) (v := eR 100) rfl rfl hq.1 (by rw [hq.2.1]; rfl) ?_
  refine w_s (np := 52) (lv' := [some (eR 98), some (eI (6)), some (eI (1)), some (eI (2)), some (eI (p)), some (eI (q)), some (eI (r)), some (eI (s)), some (eI (76)), some (eI (80))]) (st' := [eI (76), eR 100, eI (-1), eJ (0), eR 98]) rfl rfl rfl ?_
  refine w_s (np := 53) (lv' := [some (eR 98), some (eI (6)), some (eI (1)), some (eI (2)), some (eI (p)), some (eI (q)), some (eI (r)), some (eI (s)), some (eI (76)), some (eI (80))]) (st' := [eI (1), eI (76), eR 100, eI (-1), eJ (0), eR 98]) rfl rfl rfl ?_
  refine w_s (np := 54) (lv' := [some (eR 98), some (eI (6)), some (eI (1)), some (eI (2)), some (eI (p)), some (eI (q)), some (eI (r)), some (eI (s)), some (eI (76)), some (eI (80))]) (st' := [eI (77), eR 100, eI (-1), eJ (0), eR 98]) rfl (b_iadd rfl) rfl ?_
  refine w_al (np := 55) (v := 0) rfl rfl (t_al (k := 77) hq rfl (by decide) rfl) ?_
  refine w_s (np := 56) (lv' := [some (eR 98), some (eI (6)), some (eI (1)), some (eI (2)), some (eI (p)), some (eI (q)), some (eI (r)), some (eI (s)), some (eI (76)), some (eI (80))]) (st' := [eI (-1), eJ (0), eR 98]) rfl (b_isub rfl) rfl ?_
  refine w_s (np := 57) (lv' := [some (eR 98), some (eI (6)), some (eI (1)), some (eI (2)), some (eI (p)), some (eI (q)), some (eI (r)), some (eI (s)), some (eI (76)), some (eI (80))]) (st' := [eJ (-1), eJ (0), eR 98]) rfl (b_i2l rfl) rfl ?_
  refine w_s (np := 58) (lv' := [some (eR 98), some (eI (6)), some (eI (1)), some (eI (2)), some (eI (p)), some (eI (q)), some (eI (r)), some (eI (s)), some (eI (76)), some (eI (80))]) (st' := [eR 98, eJ (-1), eJ (0), eR 98]) rfl (s_an rfl (by decide)) rfl ?_
  refine w_gf (np := 61) (v := eR 100) rfl rfl hq.1 (by rw [hq.2.1]; rfl) ?_
  refine w_s (np := 63) (lv' := [some (eR 98), some (eI (6)), some (eI (1)), some (eI (2)), some (eI (p)), some (eI (q)), some (eI (r)), some (eI (s)), some (eI (76)), some (eI (80))]) (st' := [eI (80), eR 100, eJ (-1), eJ (0), eR 98]) rfl rfl rfl ?_
  refine w_s (np := 64) (lv' := [some (eR 98), some (eI (6)), some (eI (1)), some (eI (2)), some (eI (p)), some (eI (q)), some (eI (r)), some (eI (s)), some (eI (76)), some (eI (80))]) (st' := [eI (2), eI (80), eR 100, eJ (-1), eJ (0), eR 98]) rfl rfl rfl ?_
  refine w_s (np := 65) (lv' := [some (eR 98), some (eI (6)), some (eI (1)), some (eI (2)), some (eI (p)), some (eI (q)), some (eI (r)), some (eI (s)), some (eI (76)), some (eI (80))]) (st' := [eI (82), eR 100, eJ (-1), eJ (0), eR 98]) rfl (b_iadd rfl) rfl ?_
  refine w_al (np := 66) (v := 0) rfl rfl (t_al (k := 82) hq rfl (by decide) rfl) ?_
  refine w_s (np := 67) (lv' := [some (eR 98), some (eI (6)), some (eI (1)), some (eI (2)), some (eI (p)), some (eI (q)), some (eI (r)), some (eI (s)), some (eI (76)), some (eI (80))]) (st' := [eR 98, eI (0), eJ (-1), eJ (0), eR 98]) rfl (s_an rfl (by decide)) rfl ?_
  refine w_gf (np := 70) (v := eR 100) rfl rfl hq.1 (by rw [hq.2.1]; rfl) ?_
  refine w_s (np := 72) (lv' := [some (eR 98), some (eI (6)), some (eI (1)), some (eI (2)), some (eI (p)), some (eI (q)), some (eI (r)), some (eI (s)), some (eI (76)), some (eI (80))]) (st' := [eI (76), eR 100, eI (0), eJ (-1), eJ (0), eR 98]) rfl rfl rfl ?_
  refine w_s (np := 73) (lv' := [some (eR 98), some (eI (6)), some (eI (1)), some (eI (2)), some (eI (p)), some (eI (q)), some (eI (r)), some (eI (s)), some (eI (76)), some (eI (80))]) (st' := [eI (2), eI (76), eR 100, eI (0), eJ (-1), eJ (0), eR 98]) rfl rfl rfl ?_
  refine w_s (np := 74) (lv' := [some (eR 98), some (eI (6)), some (eI (1)), some (eI (2)), some (eI (p)), some (eI (q)), some (eI (r)), some (eI (s)), some (eI (76)), some (eI (80))]) (st' := [eI (78), eR 100, eI (0), eJ (-1), eJ (0), eR 98]) rfl (b_iadd rfl) rfl ?_
  refine w_al (np := 75) (v := -1) rfl rfl (t_al (k := 78) hq rfl (by decide) rfl) ?_
  refine w_s (np := 76) (lv' := [some (eR 98), some (eI (6)), some (eI (1)), some (eI (2)), some (eI (p)), some (eI (q)), some (eI (r)), some (eI (s)), some (eI (76)), some (eI (80))]) (st' := [eI (1), eJ (-1), eJ (0), eR 98]) rfl (b_isub rfl) rfl ?_
  refine w_s (np := 77) (lv' := [some (eR 98), some (eI (6)), some (eI (1)), some (eI (2)), some (eI (p)), some (eI (q)), some (eI (r)), some (eI (s)), some (eI (76)), some (eI (80))]) (st' := [eJ (1), eJ (-1), eJ (0), eR 98]) rfl (b_i2l rfl) rfl ?_
  refine w_s (np := 78) (lv' := [some (eR 98), some (eI (6)), some (eI (1)), some (eI (2)), some (eI (p)), some (eI (q)), some (eI (r)), some (eI (s)), some (eI (76)), some (eI (80))]) (st' := [eR 98, eJ (1), eJ (-1), eJ (0), eR 98]) rfl (s_an rfl (by decide)) rfl ?_
  refine w_gf (np := 81) (v := eR 100) rfl rfl hq.1 (by rw [hq.2.1]; rfl) ?_
  refine w_s (np := 83) (lv' := [some (eR 98), some (eI (6)), some (eI (1)), some (eI (2)), some (eI (p)), some (eI (q)), some (eI (r)), some (eI (s)), some (eI (76)), some (eI (80))]) (st' := [eI (80), eR 100, eJ (1), eJ (-1), eJ (0), eR 98]) rfl rfl rfl ?_
  refine w_s (np := 84) (lv' := [some (eR 98), some (eI (6)), some (eI (1)), some (eI (2)), some (eI (p)), some (eI (q)), some (eI (r)), some (eI (s)), some (eI (76)), some (eI (80))]) (st' := [eI (3), eI (80), eR 100, eJ (1), eJ (-1), eJ (0), eR 98]) rfl rfl rfl ?_
  refine w_s (np := 85) (lv' := [some (eR 98), some (eI (6)), some (eI (1)), some (eI (2)), some (eI (p)), some (eI (q)), some (eI (r)), some (eI (s)), some (eI (76)), some (eI (80))]) (st' := [eI (83), eR 100, eJ (1), eJ (-1), eJ (0), eR 98]) rfl (b_iadd rfl) rfl ?_
  refine w_al (np := 86) (v := 0) rfl rfl (t_al (k := 83) hq rfl (by decide) rfl) ?_
  refine w_s (np := 87) (lv' := [some (eR 98), some (eI (6)), some (eI (1)), some (eI (2)), some (eI (p)), some (eI (q)), some (eI (r)), some (eI (s)), some (eI (76)), some (eI (80))]) (st' := [eR 98, eI (0), eJ (1), eJ (-1), eJ (0), eR 98]) rfl (s_an rfl (by decide)) rfl ?_
  refine w_gf (np := 90) (v := eR 100) rfl rfl hq.1 (by rw [hq.2.1]; rfl) ?_
  refine w_s (np := 92) (lv' := [some (eR 98), some (eI (6)), some (eI (1)), some (eI (2)), some (eI (p)), some (eI (q)), some (eI (r)), some (eI (s)), some (eI (76)), some (eI (80))]) (st' := [eI (76), eR 100, eI (0), eJ (1), eJ (-1), eJ (0), eR 98]) rfl rfl rfl ?_
  refine w_s (np := 93) (lv' := [some (eR 98), some (eI (6)), some (eI (1)), some (eI (2)), some (eI (p)), some (eI (q)), some (eI (r)), some (eI (s)), some (eI (76)), some (eI (80))]) (st' := [eI (3), eI (76), eR 100, eI (0), eJ (1), eJ (-1), eJ (0), eR 98]) rfl rfl rfl ?_
  refine w_s (np := 94) (lv' := [some (eR 98), some (eI (6)), some (eI (1)), some (eI (2)), some (eI (p)), some (eI (q)), some (eI (r)), some (eI (s)), some (eI (76)), some (eI (80))]) (st' := [eI (79), eR 100, eI (0), eJ (1), eJ (-1), eJ (0), eR 98]) rfl (b_iadd rfl) rfl ?_
  refine w_al (np := 95) (v := 0) rfl rfl (t_al (k := 79) hq rfl (by decide) rfl) ?_
  refine w_s (np := 96) (lv' := [some (eR 98), some (eI (6)), some (eI (1)), some (eI (2)), some (eI (p)), some (eI (q)), some (eI (r)), some (eI (s)), some (eI (76)), some (eI (80))]) (st' := [eI (0), eJ (1), eJ (-1), eJ (0), eR 98]) rfl (b_isub rfl) rfl ?_
  refine w_s (np := 97) (lv' := [some (eR 98), some (eI (6)), some (eI (1)), some (eI (2)), some (eI (p)), some (eI (q)), some (eI (r)), some (eI (s)), some (eI (76)), some (eI (80))]) (st' := [eJ (0), eJ (1), eJ (-1), eJ (0), eR 98]) rfl (b_i2l rfl) rfl ?_
  refine w_s (np := 99) (lv' := [some (eR 98), some (eI (6)), some (eI (1)), some (eI (2)), some (eI (p)), some (eI (q)), some (eI (r)), some (eI (s)), some (eI (76)), some (eI (80))]) (st' := [eI (p), eJ (0), eJ (1), eJ (-1), eJ (0), eR 98]) rfl rfl rfl ?_
  refine w_s (np := 100) (lv' := [some (eR 98), some (eI (6)), some (eI (1)), some (eI (2)), some (eI (p)), some (eI (q)), some (eI (r)), some (eI (s)), some (eI (76)), some (eI (80))]) (st' := [eJ (p), eJ (0), eJ (1), eJ (-1), eJ (0), eR 98]) rfl (b_i2l (ev_w_in (by omega) (by omega))) rfl ?_
  refine w_s (np := 101) (lv' := [some (eR 98), some (eI (6)), some (eI (1)), some (eI (2)), some (eI (p)), some (eI (q)), some (eI (r)), some (eI (s)), some (eI (76)), some (eI (80))]) (st' := [eR 98, eJ (p), eJ (0), eJ (1), eJ (-1), eJ (0), eR 98]) rfl (s_an rfl (by decide)) rfl ?_
  refine w_gf (np := 104) (v := eR 100) rfl rfl hq.1 (by rw [hq.2.1]; rfl) ?_
  refine w_s (np := 106) (lv' := [some (eR 98), some (eI (6)), some (eI (1)), some (eI (2)), some (eI (p)), some (eI (q)), some (eI (r)), some (eI (s)), some (eI (76)), some (eI (80))]) (st' := [eI (76), eR 100, eJ (p), eJ (0), eJ (1), eJ (-1), eJ (0), eR 98]) rfl rfl rfl ?_
  refine w_al (np := 107) (v := 0) rfl rfl (t_al (k := 76) hq rfl (by decide) rfl) ?_
  refine w_s (np := 108) (lv' := [some (eR 98), some (eI (6)), some (eI (1)), some (eI (2)), some (eI (p)), some (eI (q)), some (eI (r)), some (eI (s)), some (eI (76)), some (eI (80))]) (st' := [eJ (0), eJ (p), eJ (0), eJ (1), eJ (-1), eJ (0), eR 98]) rfl (b_i2l rfl) rfl ?_
  obtain ⟨v1, e2⟩ : ∃ v : Int, v = (p) - (0) := ⟨_, rfl⟩
  have b3 : -9999 ≤ v1 ∧ v1 ≤ 9999 := by omega
  refine w_s (np := 109) (lv' := [some (eR 98), some (eI (6)), some (eI (1)), some (eI (2)), some (eI (p)), some (eI (q)), some (eI (r)), some (eI (s)), some (eI (76)), some (eI (80))]) (st' := [eJ (v1), eJ (0), eJ (1), eJ (-1), eJ (0), eR 98]) rfl (b_lsub (by rw [← e2]; exact ev_W_in (by omega) (by omega))) rfl ?_
  refine w_s (np := 111) (lv' := [some (eR 98), some (eI (6)), some (eI (1)), some (eI (2)), some (eI (p)), some (eI (q)), some (eI (r)), some (eI (s)), some (eI (76)), some (eI (80))]) (st' := [eI (q), eJ (v1), eJ (0), eJ (1), eJ (-1), eJ (0), eR 98]) rfl rfl rfl ?_
  refine w_s (np := 112) (lv' := [some (eR 98), some (eI (6)), some (eI (1)), some (eI (2)), some (eI (p)), some (eI (q)), some (eI (r)), some (eI (s)), some (eI (76)), some (eI (80))]) (st' := [eJ (q), eJ (v1), eJ (0), eJ (1), eJ (-1), eJ (0), eR 98]) rfl (b_i2l (ev_w_in (by omega) (by omega))) rfl ?_
  refine w_s (np := 113) (lv' := [some (eR 98), some (eI (6)), some (eI (1)), some (eI (2)), some (eI (p)), some (eI (q)), some (eI (r)), some (eI (s)), some (eI (76)), some (eI (80))]) (st' := [eR 98, eJ (q), eJ (v1), eJ (0), eJ (1), eJ (-1), eJ (0), eR 98]) rfl (s_an rfl (by decide)) rfl ?_
  refine w_gf (np := 116) (v := eR 100) rfl rfl hq.1 (by rw [hq.2.1]; rfl) ?_
  refine w_s (np := 118) (lv' := [some (eR 98), some (eI (6)), some (eI (1)), some (eI (2)), some (eI (p)), some (eI (q)), some (eI (r)), some (eI (s)), some (eI (76)), some (eI (80))]) (st' := [eI (76), eR 100, eJ (q), eJ (v1), eJ (0), eJ (1), eJ (-1), eJ (0), eR 98]) rfl rfl rfl ?_
  refine w_s (np := 119) (lv' := [some (eR 98), some (eI (6)), some (eI (1)), some (eI (2)), some (eI (p)), some (eI (q)), some (eI (r)), some (eI (s)), some (eI (76)), some (eI (80))]) (st' := [eI (1), eI (76), eR 100, eJ (q), eJ (v1), eJ (0), eJ (1), eJ (-1), eJ (0), eR 98]) rfl rfl rfl ?_
  refine w_s (np := 120) (lv' := [some (eR 98), some (eI (6)), some (eI (1)), some (eI (2)), some (eI (p)), some (eI (q)), some (eI (r)), some (eI (s)), some (eI (76)), some (eI (80))]) (st' := [eI (77), eR 100, eJ (q), eJ (v1), eJ (0), eJ (1), eJ (-1), eJ (0), eR 98]) rfl (b_iadd rfl) rfl ?_
  refine w_al (np := 121) (v := 0) rfl rfl (t_al (k := 77) hq rfl (by decide) rfl) ?_
  refine w_s (np := 122) (lv' := [some (eR 98), some (eI (6)), some (eI (1)), some (eI (2)), some (eI (p)), some (eI (q)), some (eI (r)), some (eI (s)), some (eI (76)), some (eI (80))]) (st' := [eJ (0), eJ (q), eJ (v1), eJ (0), eJ (1), eJ (-1), eJ (0), eR 98]) rfl (b_i2l rfl) rfl ?_
  obtain ⟨v4, e5⟩ : ∃ v : Int, v = (q) - (0) := ⟨_, rfl⟩
  have b6 : -9999 ≤ v4 ∧ v4 ≤ 9999 := by omega
  refine w_s (np := 123) (lv' := [some (eR 98), some (eI (6)), some (eI (1)), some (eI (2)), some (eI (p)), some (eI (q)), some (eI (r)), some (eI (s)), some (eI (76)), some (eI (80))]) (st' := [eJ (v4), eJ (v1), eJ (0), eJ (1), eJ (-1), eJ (0), eR 98]) rfl (b_lsub (by rw [← e5]; exact ev_W_in (by omega) (by omega))) rfl ?_
  refine w_s (np := 125) (lv' := [some (eR 98), some (eI (6)), some (eI (1)), some (eI (2)), some (eI (p)), some (eI (q)), some (eI (r)), some (eI (s)), some (eI (76)), some (eI (80))]) (st' := [eI (r), eJ (v4), eJ (v1), eJ (0), eJ (1), eJ (-1), eJ (0), eR 98]) rfl rfl rfl ?_
  refine w_s (np := 126) (lv' := [some (eR 98), some (eI (6)), some (eI (1)), some (eI (2)), some (eI (p)), some (eI (q)), some (eI (r)), some (eI (s)), some (eI (76)), some (eI (80))]) (st' := [eJ (r), eJ (v4), eJ (v1), eJ (0), eJ (1), eJ (-1), eJ (0), eR 98]) rfl (b_i2l (ev_w_in (by omega) (by omega))) rfl ?_
  refine w_s (np := 127) (lv' := [some (eR 98), some (eI (6)), some (eI (1)), some (eI (2)), some (eI (p)), some (eI (q)), some (eI (r)), some (eI (s)), some (eI (76)), some (eI (80))]) (st' := [eR 98, eJ (r), eJ (v4), eJ (v1), eJ (0), eJ (1), eJ (-1), eJ (0), eR 98]) rfl (s_an rfl (by decide)) rfl ?_
  refine w_gf (np := 130) (v := eR 100) rfl rfl hq.1 (by rw [hq.2.1]; rfl) ?_
  refine w_s (np := 132) (lv' := [some (eR 98), some (eI (6)), some (eI (1)), some (eI (2)), some (eI (p)), some (eI (q)), some (eI (r)), some (eI (s)), some (eI (76)), some (eI (80))]) (st' := [eI (76), eR 100, eJ (r), eJ (v4), eJ (v1), eJ (0), eJ (1), eJ (-1), eJ (0), eR 98]) rfl rfl rfl ?_
  refine w_s (np := 133) (lv' := [some (eR 98), some (eI (6)), some (eI (1)), some (eI (2)), some (eI (p)), some (eI (q)), some (eI (r)), some (eI (s)), some (eI (76)), some (eI (80))]) (st' := [eI (2), eI (76), eR 100, eJ (r), eJ (v4), eJ (v1), eJ (0), eJ (1), eJ (-1), eJ (0), eR 98]) rfl rfl rfl ?_
  refine w_s (np := 134) (lv' := [some (eR 98), some (eI (6)), some (eI (1)), some (eI (2)), some (eI (p)), some (eI (q)), some (eI (r)), some (eI (s)), some (eI (76)), some (eI (80))]) (st' := [eI (78), eR 100, eJ (r), eJ (v4), eJ (v1), eJ (0), eJ (1), eJ (-1), eJ (0), eR 98]) rfl (b_iadd rfl) rfl ?_
  refine w_al (np := 135) (v := -1) rfl rfl (t_al (k := 78) hq rfl (by decide) rfl) ?_
  refine w_s (np := 136) (lv' := [some (eR 98), some (eI (6)), some (eI (1)), some (eI (2)), some (eI (p)), some (eI (q)), some (eI (r)), some (eI (s)), some (eI (76)), some (eI (80))]) (st' := [eJ (-1), eJ (r), eJ (v4), eJ (v1), eJ (0), eJ (1), eJ (-1), eJ (0), eR 98]) rfl (b_i2l rfl) rfl ?_
  obtain ⟨v7, e8⟩ : ∃ v : Int, v = (r) - (-1) := ⟨_, rfl⟩
  have b9 : -9998 ≤ v7 ∧ v7 ≤ 10000 := by omega
  refine w_s (np := 137) (lv' := [some (eR 98), some (eI (6)), some (eI (1)), some (eI (2)), some (eI (p)), some (eI (q)), some (eI (r)), some (eI (s)), some (eI (76)), some (eI (80))]) (st' := [eJ (v7), eJ (v4), eJ (v1), eJ (0), eJ (1), eJ (-1), eJ (0), eR 98]) rfl (b_lsub (by rw [← e8]; exact ev_W_in (by omega) (by omega))) rfl ?_
  refine w_s (np := 139) (lv' := [some (eR 98), some (eI (6)), some (eI (1)), some (eI (2)), some (eI (p)), some (eI (q)), some (eI (r)), some (eI (s)), some (eI (76)), some (eI (80))]) (st' := [eI (s), eJ (v7), eJ (v4), eJ (v1), eJ (0), eJ (1), eJ (-1), eJ (0), eR 98]) rfl rfl rfl ?_
  refine w_s (np := 140) (lv' := [some (eR 98), some (eI (6)), some (eI (1)), some (eI (2)), some (eI (p)), some (eI (q)), some (eI (r)), some (eI (s)), some (eI (76)), some (eI (80))]) (st' := [eJ (s), eJ (v7), eJ (v4), eJ (v1), eJ (0), eJ (1), eJ (-1), eJ (0), eR 98]) rfl (b_i2l (ev_w_in (by omega) (by omega))) rfl ?_
  refine w_s (np := 141) (lv' := [some (eR 98), some (eI (6)), some (eI (1)), some (eI (2)), some (eI (p)), some (eI (q)), some (eI (r)), some (eI (s)), some (eI (76)), some (eI (80))]) (st' := [eR 98, eJ (s), eJ (v7), eJ (v4), eJ (v1), eJ (0), eJ (1), eJ (-1), eJ (0), eR 98]) rfl (s_an rfl (by decide)) rfl ?_
  refine w_gf (np := 144) (v := eR 100) rfl rfl hq.1 (by rw [hq.2.1]; rfl) ?_
  refine w_s (np := 146) (lv' := [some (eR 98), some (eI (6)), some (eI (1)), some (eI (2)), some (eI (p)), some (eI (q)), some (eI (r)), some (eI (s)), some (eI (76)), some (eI (80))]) (st' := [eI (76), eR 100, eJ (s), eJ (v7), eJ (v4), eJ (v1), eJ (0), eJ (1), eJ (-1), eJ (0), eR 98]) rfl rfl rfl ?_
  refine w_s (np := 147) (lv' := [some (eR 98), some (eI (6)), some (eI (1)), some (eI (2)), some (eI (p)), some (eI (q)), some (eI (r)), some (eI (s)), some (eI (76)), some (eI (80))]) (st' := [eI (3), eI (76), eR 100, eJ (s), eJ (v7), eJ (v4), eJ (v1), eJ (0), eJ (1), eJ (-1), eJ (0), eR 98]) rfl rfl rfl ?_
  refine w_s (np := 148) (lv' := [some (eR 98), some (eI (6)), some (eI (1)), some (eI (2)), some (eI (p)), some (eI (q)), some (eI (r)), some (eI (s)), some (eI (76)), some (eI (80))]) (st' := [eI (79), eR 100, eJ (s), eJ (v7), eJ (v4), eJ (v1), eJ (0), eJ (1), eJ (-1), eJ (0), eR 98]) rfl (b_iadd rfl) rfl ?_
  refine w_al (np := 149) (v := 0) rfl rfl (t_al (k := 79) hq rfl (by decide) rfl) ?_
  refine w_s (np := 150) (lv' := [some (eR 98), some (eI (6)), some (eI (1)), some (eI (2)), some (eI (p)), some (eI (q)), some (eI (r)), some (eI (s)), some (eI (76)), some (eI (80))]) (st' := [eJ (0), eJ (s), eJ (v7), eJ (v4), eJ (v1), eJ (0), eJ (1), eJ (-1), eJ (0), eR 98]) rfl (b_i2l rfl) rfl ?_
  obtain ⟨v10, e11⟩ : ∃ v : Int, v = (s) - (0) := ⟨_, rfl⟩
  have b12 : -9999 ≤ v10 ∧ v10 ≤ 9999 := by omega
  refine w_s (np := 151) (lv' := [some (eR 98), some (eI (6)), some (eI (1)), some (eI (2)), some (eI (p)), some (eI (q)), some (eI (r)), some (eI (s)), some (eI (76)), some (eI (80))]) (st' := [eJ (v10), eJ (v7), eJ (v4), eJ (v1), eJ (0), eJ (1), eJ (-1), eJ (0), eR 98]) rfl (b_lsub (by rw [← e11]; exact ev_W_in (by omega) (by omega))) rfl ?_
  refine w_cv (np := 154) (as := [eJ (0), eJ (-1), eJ (1), eJ (0), eJ (v1), eJ (v4), eJ (v7), eJ (v10)]) (lv' := [some (eR 98), some (eJ (0)), none, some (eJ (-1)), none, some (eJ (1)), none, some (eJ (0)), none, some (eJ (v1)), none, some (eJ (v4)), none, some (eJ (v7)), none, some (eJ (v10)), none]) (rest := []) rfl rfl rfl (Nat.ble_eq.mp rfl) rfl rfl rfl hq.1 rfl ?_
  refine t224 hq.1 (show (-8 : Int) ≤ 0 ∧ (0 : Int) ≤ 8 by omega) (show (-8 : Int) ≤ -1 ∧ (-1 : Int) ≤ 8 by omega) (show (-8 : Int) ≤ 1 ∧ (1 : Int) ≤ 8 by omega) (show (-8 : Int) ≤ 0 ∧ (0 : Int) ≤ 8 by omega) (show (-100000 : Int) ≤ v1 ∧ (v1 : Int) ≤ 100000 by omega) (show (-100000 : Int) ≤ v4 ∧ (v4 : Int) ≤ 100000 by omega) (show (-100000 : Int) ≤ v7 ∧ (v7 : Int) ≤ 100000 by omega) (show (-100000 : Int) ≤ v10 ∧ (v10 : Int) ≤ 100000 by omega) ?_
  intro m B G s1 eB eG bB bG
  show ex_fine fg rc rs (d + 4, (265, 154, [some (eR 98), some (eI (6)), some (eI (1)), some (eI (2)), some (eI (p)), some (eI (q)), some (eI (r)), some (eI (s)), some (eI (76)), some (eI (80))], [eI (rSg (2 * B + G) G)]), f :: F, m)
  refine b_ri rfl rfl ?_
  have hB : B = 1 * p + (-1) * q + (-1) * r + 1 * s + (-1) := by omega
  have hG : G = (-1) * p + (-1) * s := by omega
  have hr := rSg_ok (x := 2 * B + G) (b := G) (by omega)
  have e9 : 416020 * (2 * B + G) + 930249 * G = (-514229) * p + (-832040) * q + (-832040) * r + (-514229) * s + (-832040) := by omega
  rw [e9] at hr
  exact K m _ s1 hr (rSg_v _ _)
theorem t265_6_2 {fg : eG} {rc rs d : Nat} {f : eFr} {F : List eFr} {μ : eM} {p q r s : Int} (hq : tQ μ) (hp : -9999 ≤ p ∧ p ≤ 9999) (hq0 : -9999 ≤ q ∧ q ≤ 9999) (hr : -9999 ≤ r ∧ r ≤ 9999) (hs : -9999 ≤ s ∧ s ≤ 9999) (K : ∀ (μ2 : eM) (u : Int), tS μ μ2 → ((0 ≤ u ↔ 0 ≤ (-832040) * p + 832040 * r + 1346269 * s) ∧ (u ≤ 0 ↔ (-832040) * p + 832040 * r + 1346269 * s ≤ 0)) → (u = 0 ∨ u = 1 ∨ u = -1) → ex_fine fg rc rs (d + 5, (f.1, f.2.1, f.2.2.1, eI u :: f.2.2.2), F, μ2)) : ex_fine fg rc rs (d + 4, (265, 0, [some (eR 98), some (eI (6)), some (eI (2)), some (eI (0)), some (eI (p)), some (eI (q)), some (eI (r)), some (eI (s)), none, none], []), f :: F, μ) := by
  refine w_s (np := 2) (lv' := [some (eR 98), some (eI (6)), some (eI (2)), some (eI (0)), some (eI (p)), some (eI (q)), some (eI (r)), some (eI (s)), none, none]) (st' := [eI (12)]) rfl rfl rfl ?_
  refine w_s (np := 3) (lv' := [some (eR 98), some (eI (6)), some (eI (2)), some (eI (0)), some (eI (p)), some (eI (q)), some (eI (r)), some (eI (s)), none, none]) (st' := [eI (6), eI (12)]) rfl rfl rfl ?_
  refine w_s (np := 4) (lv' := [some (eR 98), some (eI (6)), some (eI (2)), some (eI (0)), some (eI (p)), some (eI (q)), some (eI (r)), some (eI (s)), none, none]) (st' := [eI (72)]) rfl (b_imul rfl) rfl ?_
  refine w_s (np := 5) (lv' := [some (eR 98), some (eI (6)), some (eI (2)), some (eI (0)), some (eI (p)), some (eI (q)), some (eI (r)), some (eI (s)), none, none]) (st' := [eI (4), eI (72)]) rfl rfl rfl ?_
  refine w_s (np := 6) (lv' := [some (eR 98), some (eI (6)), some (eI (2)), some (eI (0)), some (eI (p)), some (eI (q)), some (eI (r)), some (eI (s)), none, none]) (st' := [eI (2), eI (4), eI (72)]) rfl rfl rfl ?_
  refine w_s (np := 7) (lv' := [some (eR 98), some (eI (6)), some (eI (2)), some (eI (0)), some (eI (p)), some (eI (q)), some (eI (r)), some (eI (s)), none, none]) (st' := [eI (8), eI (72)]) rfl (b_imul rfl) rfl ?_
  refine w_s (np := 8) (lv' := [some (eR 98), some (eI (6)), some (eI (2)), some (eI (0)), some (eI (p)), some (eI (q)), some (eI (r)), some (eI (s)), none, none]) (st' := [eI (80)]) rfl (b_iadd rfl) rfl ?_
  refine w_s (np := 10) (lv' := [some (eR 98), some (eI (6)), some (eI (2)), some (eI (0)), some (eI (p)), some (eI (q)), some (eI (r)), some (eI (s)), some (eI (80)), none]) (st' := []) rfl rfl rfl ?_
  refine w_s (np := 12) (lv' := [some (eR 98), some (eI (6)), some (eI (2)), some (eI (0)), some (eI (p)), some (eI (q)), some (eI (r)), some (eI (s)), some (eI (80)), none]) (st' := [eI (12)]) rfl rfl rfl ?_
  refine w_s (np := 13) (lv' := [some (eR 98), some (eI (6)), some (eI (2)), some (eI (0)), some (eI (p)), some (eI (q)), some (eI (r)), some (eI (s)), some (eI (80)), none]) (st' := [eI (6), eI (12)]) rfl rfl rfl ?_
  refine w_s (np := 14) (lv' := [some (eR 98), some (eI (6)), some (eI (2)), some (eI (0)), some (eI (p)), some (eI (q)), some (eI (r)), some (eI (s)), some (eI (80)), none]) (st' := [eI (72)]) rfl (b_imul rfl) rfl ?_
  refine w_s (np := 15) (lv' := [some (eR 98), some (eI (6)), some (eI (2)), some (eI (0)), some (eI (p)), some (eI (q)), some (eI (r)), some (eI (s)), some (eI (80)), none]) (st' := [eI (4), eI (72)]) rfl rfl rfl ?_
  refine w_s (np := 16) (lv' := [some (eR 98), some (eI (6)), some (eI (2)), some (eI (0)), some (eI (p)), some (eI (q)), some (eI (r)), some (eI (s)), some (eI (80)), none]) (st' := [eI (0), eI (4), eI (72)]) rfl rfl rfl ?_
  refine w_s (np := 17) (lv' := [some (eR 98), some (eI (6)), some (eI (2)), some (eI (0)), some (eI (p)), some (eI (q)), some (eI (r)), some (eI (s)), some (eI (80)), none]) (st' := [eI (0), eI (72)]) rfl (b_imul rfl) rfl ?_
  refine w_s (np := 18) (lv' := [some (eR 98), some (eI (6)), some (eI (2)), some (eI (0)), some (eI (p)), some (eI (q)), some (eI (r)), some (eI (s)), some (eI (80)), none]) (st' := [eI (72)]) rfl (b_iadd rfl) rfl ?_
  refine w_s (np := 20) (lv' := [some (eR 98), some (eI (6)), some (eI (2)), some (eI (0)), some (eI (p)), some (eI (q)), some (eI (r)), some (eI (s)), some (eI (80)), some (eI (72))]) (st' := []) rfl rfl rfl ?_
  refine w_s (np := 21) (lv' := [some (eR 98), some (eI (6)), some (eI (2)), some (eI (0)), some (eI (p)), some (eI (q)), some (eI (r)), some (eI (s)), some (eI (80)), some (eI (72))]) (st' := [eR 98]) rfl (s_an rfl (by decide)) rfl ?_
  refine w_s (np := 22) (lv' := [some (eR 98), some (eI (6)), some (eI (2)), some (eI (0)), some (eI (p)), some (eI (q)), some (eI (r)), some (eI (s)), some (eI (80)), some (eI (72))]) (st' := [eR 98, eR 98]) rfl (s_an rfl (by decide)) rfl ?_
  refine w_gf (np := 25) (v := eR 100) rfl rfl hq.1 (by rw [hq.2.1]; rfl) ?_
  refine w_s (np := 27) (lv' := [some (eR 98), some (eI (6)), some (eI (2)), some (eI (0)), some (eI (p)), some (eI (q)), some (eI (r)), some (eI (s)), some (eI (80)), some (eI (72))]) (st' := [eI (72), eR 100, eR 98]) rfl rfl rfl ?_
  refine w_al (np := 28) (v := 0) rfl rfl (t_al (k := 72) hq rfl (by decide) rfl) ?_
  refine w_s (np := 29) (lv' := [some (eR 98), some (eI (6)), some (eI (2)), some (eI (0)), some (eI (p)), some (eI (q)), some (eI (r)), some (eI (s)), some (eI (80)), some (eI (72))]) (st' := [eR 98, eI (0), eR 98]) rfl (s_an rfl (by decide)) rfl ?_
  refine w_gf (np := 32) (v := eR 100) rfl rfl hq.1 (by rw [hq.2.1]; rfl) ?_
  refine w_s (np := 34) (lv' := [some (eR 98), some (eI (6)), some (eI (2)), some (eI (0)), some (eI (p)), some (eI (q)), some (eI (r)), some (eI (s)), some (eI (80)), some (eI (72))]) (st' := [eI (80), eR 100, eI (0), eR 98]) rfl rfl rfl ?_
  refine w_al (np := 35) (v := 0) rfl rfl (t_al (k := 80) hq rfl (by decide) rfl) ?_
  refine w_s (np := 36) (lv' := [some (eR 98), some (eI (6)), some (eI (2)), some (eI (0)), some (eI (p)), some (eI (q)), some (eI (r)), some (eI (s)), some (eI (80)), some (eI (72))]) (st' := [eI (0), eR 98]) rfl (b_isub rfl) rfl ?_
  refine w_s (np := 37) (lv' := [some (eR 98), some (eI (6)), some (eI (2)), some (eI (0)), some (eI (p)), some (eI (q)), some (eI (r)), some (eI (s)), some (eI (80)), some (eI (72))]) (st' := [eJ (0), eR 98]) rfl (b_i2l rfl) rfl ?_
  refine w_s (np := 38) (lv' := [some (eR 98), some (eI (6)), some (eI (2)), some (eI (0)), some (eI (p)), some (eI (q)), some (eI (r)), some (eI (s)), some (eI (80)), some (eI (72))]) (st' := [eR 98, eJ (0), eR 98]) rfl (s_an rfl (by decide)) rfl ?_
  refine w_gf (np := 41) (v := eR 100) rfl rfl hq.1 (by rw [hq.2.1]; rfl) ?_
  refine w_s (np := 43) (lv' := [some (eR 98), some (eI (6)), some (eI (2)), some (eI (0)), some (eI (p)), some (eI (q)), some (eI (r)), some (eI (s)), some (eI (80)), some (eI (72))]) (st' := [eI (72), eR 100, eJ (0), eR 98]) rfl rfl rfl ?_
  refine w_s (np := 44) (lv' := [some (eR 98), some (eI (6)), some (eI (2)), some (eI (0)), some (eI (p)), some (eI (q)), some (eI (r)), some (eI (s)), some (eI (80)), some (eI (72))]) (st' := [eI (1), eI (72), eR 100, eJ (0), eR 98]) rfl rfl rfl ?_
  refine w_s (np := 45) (lv' := [some (eR 98), some (eI (6)), some (eI (2)), some (eI (0)), some (eI (p)), some (eI (q)), some (eI (r)), some (eI (s)), some (eI (80)), some (eI (72))]) (st' := [eI (73), eR 100, eJ (0), eR 98]) rfl (b_iadd rfl) rfl ?_
  refine w_al (np := 46) (v := 0) rfl rfl (t_al (k := 73) hq rfl (by decide) rfl) ?_
  refine w_s (np := 47) (lv' := [some (eR 98), some (eI (6)), some (eI (2)), some (eI (0)), some (eI (p)), some (eI (q)), some (eI (r)), some (eI (s)), some (eI (80)), some (eI (72))]) (st' := [eR 98, eI (0), eJ (0), eR 98]) rfl (s_an rfl (by decide)) rfl ?_
  refine w_gf (np := 50) (v := eR 100) rfl rfl hq.1 (by rw [hq.2.1]; rfl) ?_
  refine w_s (np := 52) (lv' := [some (eR 98), some (eI (6)), some (eI (2)), some (eI (0)), some (eI (p)), some (eI (q)), some (eI (r)), some (eI (s)), some (eI (80)), some (eI (72))]) (st' := [eI (80), eR 100, eI (0), eJ (0), eR 98]) rfl rfl rfl ?_
  refine w_s (np := 53) (lv' := [some (eR 98), some (eI (6)), some (eI (2)), some (eI (0)), some (eI (p)), some (eI (q)), some (eI (r)), some (eI (s)), some (eI (80)), some (eI (72))]) (st' := [eI (1), eI (80), eR 100, eI (0), eJ (0), eR 98]) rfl rfl rfl ?_
  refine w_s (np := 54) (lv' := [some (eR 98), some (eI (6)), some (eI (2)), some (eI (0)), some (eI (p)), some (eI (q)), some (eI (r)), some (eI (s)), some (eI (80)), some (eI (72))]) (st' := [eI (81), eR 100, eI (0), eJ (0), eR 98]) rfl (b_iadd rfl) rfl ?_
  refine w_al (np := 55) (v := -1) rfl rfl (t_al (k := 81) hq rfl (by decide) rfl) ?_
  refine w_s (np := 56) (lv' := [some (eR 98), some (eI (6)), some (eI (2)), some (eI (0)), some (eI (p)), some (eI (q)), some (eI (r)), some (eI (s)), some (eI (80)), some (eI (72))]) (st' := [eI (1), eJ (0), eR 98]) rfl (b_isub rfl) rfl ?_
  refine w_s (np := 57) (lv' := [some (eR 98), some (eI (6)), some (eI (2)), some (eI (0)), some (eI (p)), some (eI (q)), some (eI (r)), some (eI (s)), some (eI (80)), some (eI (72))]) (st' := [eJ (1), eJ (0), eR 98]) rfl (b_i2l rfl) rfl ?_
  refine w_s (np := 58) (lv' := [some (eR 98), some (eI (6)), some (eI (2)), some (eI (0)), some (eI (p)), some (eI (q)), some (eI (r)), some (eI (s)), some (eI (80)), some (eI (72))]) (st' := [eR 98, eJ (1), eJ (0), eR 98]) rfl (s_an rfl (by decide)) rfl ?_
  refine w_gf (np := 61) (v := eR 100) rfl rfl hq.1 (by rw [hq.2.1]; rfl) ?_
  refine w_s (np := 63) (lv' := [some (eR 98), some (eI (6)), some (eI (2)), some (eI (0)), some (eI (p)), some (eI (q)), some (eI (r)), some (eI (s)), some (eI (80)), some (eI (72))]) (st' := [eI (72), eR 100, eJ (1), eJ (0), eR 98]) rfl rfl rfl ?_
  refine w_s (np := 64) (lv' := [some (eR 98), some (eI (6)), some (eI (2)), some (eI (0)), some (eI (p)), some (eI (q)), some (eI (r)), some (eI (s)), some (eI (80)), some (eI (72))]) (st' := [eI (2), eI (72), eR 100, eJ (1), eJ (0), eR 98]) rfl rfl rfl ?_
  refine w_s (np := 65) (lv' := [some (eR 98), some (eI (6)), some (eI (2)), some (eI (0)), some (eI (p)), some (eI (q)), some (eI (r)), some (eI (s)), some (eI (80)), some (eI (72))]) (st' := [eI (74), eR 100, eJ (1), eJ (0), eR 98]) rfl (b_iadd rfl) rfl ?_
  refine w_al (np := 66) (v := 0) rfl rfl (t_al (k := 74) hq rfl (by decide) rfl) ?_
  refine w_s (np := 67) (lv' := [some (eR 98), some (eI (6)), some (eI (2)), some (eI (0)), some (eI (p)), some (eI (q)), some (eI (r)), some (eI (s)), some (eI (80)), some (eI (72))]) (st' := [eR 98, eI (0), eJ (1), eJ (0), eR 98]) rfl (s_an rfl (by decide)) rfl ?_
  refine w_gf (np := 70) (v := eR 100) rfl rfl hq.1 (by rw [hq.2.1]; rfl) ?_
  refine w_s (np := 72) (lv' := [some (eR 98), some (eI (6)), some (eI (2)), some (eI (0)), some (eI (p)), some (eI (q)), some (eI (r)), some (eI (s)), some (eI (80)), some (eI (72))]) (st' := [eI (80), eR 100, eI (0), eJ (1), eJ (0), eR 98]) rfl rfl rfl ?_
  refine w_s (np := 73) (lv' := [some (eR 98), some (eI (6)), some (eI (2)), some (eI (0)), some (eI (p)), some (eI (q)), some (eI (r)), some (eI (s)), some (eI (80)), some (eI (72))]) (st' := [eI (2), eI (80), eR 100, eI (0), eJ (1), eJ (0), eR 98]) rfl rfl rfl ?_
  refine w_s (np := 74) (lv' := [some (eR 98), some (eI (6)), some (eI (2)), some (eI (0)), some (eI (p)), some (eI (q)), some (eI (r)), some (eI (s)), some (eI (80)), some (eI (72))]) (st' := [eI (82), eR 100, eI (0), eJ (1), eJ (0), eR 98]) rfl (b_iadd rfl) rfl ?_
  refine w_al (np := 75) (v := 0) rfl rfl (t_al (k := 82) hq rfl (by decide) rfl) ?_
  refine w_s (np := 76) (lv' := [some (eR 98), some (eI (6)), some (eI (2)), some (eI (0)), some (eI (p)), some (eI (q)), some (eI (r)), some (eI (s)), some (eI (80)), some (eI (72))]) (st' := [eI (0), eJ (1), eJ (0), eR 98]) rfl (b_isub rfl) rfl ?_
  refine w_s (np := 77) (lv' := [some (eR 98), some (eI (6)), some (eI (2)), some (eI (0)), some (eI (p)), some (eI (q)), some (eI (r)), some (eI (s)), some (eI (80)), some (eI (72))]) (st' := [eJ (0), eJ (1), eJ (0), eR 98]) rfl (b_i2l rfl) rfl ?_
  refine w_s (np := 78) (lv' := [some (eR 98), some (eI (6)), some (eI (2)), some (eI (0)), some (eI (p)), some (eI (q)), some (eI (r)), some (eI (s)), some (eI (80)), some (eI (72))]) (st' := [eR 98, eJ (0), eJ (1), eJ (0), eR 98]) rfl (s_an rfl (by decide)) rfl ?_
  refine w_gf (np := 81) (v := eR 100) rfl rfl hq.1 (by rw [hq.2.1]; rfl) ?_
  refine w_s (np := 83) (lv' := [some (eR 98), some (eI (6)), some (eI (2)), some (eI (0)), some (eI (p)), some (eI (q)), some (eI (r)), some (eI (s)), some (eI (80)), some (eI (72))]) (st' := [eI (72), eR 100, eJ (0), eJ (1), eJ (0), eR 98]) rfl rfl rfl ?_
  refine w_s (np := 84) (lv' := [some (eR 98), some (eI (6)), some (eI (2)), some (eI (0)), some (eI (p)), some (eI (q)), some (eI (r)), some (eI (s)), some (eI (80)), some (eI (72))]) (st' := [eI (3), eI (72), eR 100, eJ (0), eJ (1), eJ (0), eR 98]) rfl rfl rfl ?_
  refine w_s (np := 85) (lv' := [some (eR 98), some (eI (6)), some (eI (2)), some (eI (0)), some (eI (p)), some (eI (q)), some (eI (r)), some (eI (s)), some (eI (80)), some (eI (72))]) (st' := [eI (75), eR 100, eJ (0), eJ (1), eJ (0), eR 98]) rfl (b_iadd rfl) rfl ?_
  refine w_al (np := 86) (v := 0) rfl rfl (t_al (k := 75) hq rfl (by decide) rfl) ?_
  refine w_s (np := 87) (lv' := [some (eR 98), some (eI (6)), some (eI (2)), some (eI (0)), some (eI (p)), some (eI (q)), some (eI (r)), some (eI (s)), some (eI (80)), some (eI (72))]) (st' := [eR 98, eI (0), eJ (0), eJ (1), eJ (0), eR 98]) rfl (s_an rfl (by decide)) rfl ?_
  refine w_gf (np := 90) (v := eR 100) rfl rfl hq.1 (by rw [hq.2.1]; rfl) ?_
  refine w_s (np := 92) (lv' := [some (eR 98), some (eI (6)), some (eI (2)), some (eI (0)), some (eI (p)), some (eI (q)), some (eI (r)), some (eI (s)), some (eI (80)), some (eI (72))]) (st' := [eI (80), eR 100, eI (0), eJ (0), eJ (1), eJ (0), eR 98]) rfl rfl rfl ?_
  refine w_s (np := 93) (lv' := [some (eR 98), some (eI (6)), some (eI (2)), some (eI (0)), some (eI (p)), some (eI (q)), some (eI (r)), some (eI (s)), some (eI (80)), some (eI (72))]) (st' := [eI (3), eI (80), eR 100, eI (0), eJ (0), eJ (1), eJ (0), eR 98]) rfl rfl rfl ?_
  refine w_s (np := 94) (lv' := [some (eR 98), some (eI (6)), some (eI (2)), some (eI (0)), some (eI (p)), some (eI (q)), some (eI (r)), some (eI (s)), some (eI (80)), some (eI (72))]) (st' := [eI (83), eR 100, eI (0), eJ (0), eJ (1), eJ (0), eR 98]) rfl (b_iadd rfl) rfl ?_
  refine w_al (np := 95) (v := 0) rfl rfl (t_al (k := 83) hq rfl (by decide) rfl) ?_
  refine w_s (np := 96) (lv' := [some (eR 98), some (eI (6)), some (eI (2)), some (eI (0)), some (eI (p)), some (eI (q)), some (eI (r)), some (eI (s)), some (eI (80)), some (eI (72))]) (st' := [eI (0), eJ (0), eJ (1), eJ (0), eR 98]) rfl (b_isub rfl) rfl ?_
  refine w_s (np := 97) (lv' := [some (eR 98), some (eI (6)), some (eI (2)), some (eI (0)), some (eI (p)), some (eI (q)), some (eI (r)), some (eI (s)), some (eI (80)), some (eI (72))]) (st' := [eJ (0), eJ (0), eJ (1), eJ (0), eR 98]) rfl (b_i2l rfl) rfl ?_
  refine w_s (np := 99) (lv' := [some (eR 98), some (eI (6)), some (eI (2)), some (eI (0)), some (eI (p)), some (eI (q)), some (eI (r)), some (eI (s)), some (eI (80)), some (eI (72))]) (st' := [eI (p), eJ (0), eJ (0), eJ (1), eJ (0), eR 98]) rfl rfl rfl ?_
  refine w_s (np := 100) (lv' := [some (eR 98), some (eI (6)), some (eI (2)), some (eI (0)), some (eI (p)), some (eI (q)), some (eI (r)), some (eI (s)), some (eI (80)), some (eI (72))]) (st' := [eJ (p), eJ (0), eJ (0), eJ (1), eJ (0), eR 98]) rfl (b_i2l (ev_w_in (by omega) (by omega))) rfl ?_
  refine w_s (np := 101) (lv' := [some (eR 98), some (eI (6)), some (eI (2)), some (eI (0)), some (eI (p)), some (eI (q)), some (eI (r)), some (eI (s)), some (eI (80)), some (eI (72))]) (st' := [eR 98, eJ (p), eJ (0), eJ (0), eJ (1), eJ (0), eR 98]) rfl (s_an rfl (by decide)) rfl ?_
  refine w_gf (np := 104) (v := eR 100) rfl rfl hq.1 (by rw [hq.2.1]; rfl) ?_
  refine w_s (np := 106) (lv' := [some (eR 98), some (eI (6)), some (eI (2)), some (eI (0)), some (eI (p)), some (eI (q)), some (eI (r)), some (eI (s)), some (eI (80)), some (eI (72))]) (st' := [eI (80), eR 100, eJ (p), eJ (0), eJ (0), eJ (1), eJ (0), eR 98]) rfl rfl rfl ?_
  refine w_al (np := 107) (v := 0) rfl rfl (t_al (k := 80) hq rfl (by decide) rfl) ?_
  refine w_s (np := 108) (lv' := [some (eR 98), some (eI (6)), some (eI (2)), some (eI (0)), some (eI (p)), some (eI (q)), some (eI (r)), some (eI (s)), some (eI (80)), some (eI (72))]) (st' := [eJ (0), eJ (p), eJ (0), eJ (0), eJ (1), eJ (0), eR 98]) rfl (b_i2l rfl) rfl ?_
  obtain ⟨v1, e2⟩ : ∃ v : Int, v = (p) - (0) := ⟨_, rfl⟩
  have b3 : -9999 ≤ v1 ∧ v1 ≤ 9999 := by omega
  refine w_s (np := 109) (lv' := [some (eR 98), some (eI (6)), some (eI (2)), some (eI (0)), some (eI (p)), some (eI (q)), some (eI (r)), some (eI (s)), some (eI (80)), some (eI (72))]) (st' := [eJ (v1), eJ (0), eJ (0), eJ (1), eJ (0), eR 98]) rfl (b_lsub (by rw [← e2]; exact ev_W_in (by omega) (by omega))) rfl ?_
  refine w_s (np := 111) (lv' := [some (eR 98), some (eI (6)), some (eI (2)), some (eI (0)), some (eI (p)), some (eI (q)), some (eI (r)), some (eI (s)), some (eI (80)), some (eI (72))]) (st' := [eI (q), eJ (v1), eJ (0), eJ (0), eJ (1), eJ (0), eR 98]) rfl rfl rfl ?_
  refine w_s (np := 112) (lv' := [some (eR 98), some (eI (6)), some (eI (2)), some (eI (0)), some (eI (p)), some (eI (q)), some (eI (r)), some (eI (s)), some (eI (80)), some (eI (72))]) (st' := [eJ (q), eJ (v1), eJ (0), eJ (0), eJ (1), eJ (0), eR 98]) rfl (b_i2l (ev_w_in (by omega) (by omega))) rfl ?_
  refine w_s (np := 113) (lv' := [some (eR 98), some (eI (6)), some (eI (2)), some (eI (0)), some (eI (p)), some (eI (q)), some (eI (r)), some (eI (s)), some (eI (80)), some (eI (72))]) (st' := [eR 98, eJ (q), eJ (v1), eJ (0), eJ (0), eJ (1), eJ (0), eR 98]) rfl (s_an rfl (by decide)) rfl ?_
  refine w_gf (np := 116) (v := eR 100) rfl rfl hq.1 (by rw [hq.2.1]; rfl) ?_
  refine w_s (np := 118) (lv' := [some (eR 98), some (eI (6)), some (eI (2)), some (eI (0)), some (eI (p)), some (eI (q)), some (eI (r)), some (eI (s)), some (eI (80)), some (eI (72))]) (st' := [eI (80), eR 100, eJ (q), eJ (v1), eJ (0), eJ (0), eJ (1), eJ (0), eR 98]) rfl rfl rfl ?_
  refine w_s (np := 119) (lv' := [some (eR 98), some (eI (6)), some (eI (2)), some (eI (0)), some (eI (p)), some (eI (q)), some (eI (r)), some (eI (s)), some (eI (80)), some (eI (72))]) (st' := [eI (1), eI (80), eR 100, eJ (q), eJ (v1), eJ (0), eJ (0), eJ (1), eJ (0), eR 98]) rfl rfl rfl ?_
  refine w_s (np := 120) (lv' := [some (eR 98), some (eI (6)), some (eI (2)), some (eI (0)), some (eI (p)), some (eI (q)), some (eI (r)), some (eI (s)), some (eI (80)), some (eI (72))]) (st' := [eI (81), eR 100, eJ (q), eJ (v1), eJ (0), eJ (0), eJ (1), eJ (0), eR 98]) rfl (b_iadd rfl) rfl ?_
  refine w_al (np := 121) (v := -1) rfl rfl (t_al (k := 81) hq rfl (by decide) rfl) ?_
  refine w_s (np := 122) (lv' := [some (eR 98), some (eI (6)), some (eI (2)), some (eI (0)), some (eI (p)), some (eI (q)), some (eI (r)), some (eI (s)), some (eI (80)), some (eI (72))]) (st' := [eJ (-1), eJ (q), eJ (v1), eJ (0), eJ (0), eJ (1), eJ (0), eR 98]) rfl (b_i2l rfl) rfl ?_
  obtain ⟨v4, e5⟩ : ∃ v : Int, v = (q) - (-1) := ⟨_, rfl⟩
  have b6 : -9998 ≤ v4 ∧ v4 ≤ 10000 := by omega
  refine w_s (np := 123) (lv' := [some (eR 98), some (eI (6)), some (eI (2)), some (eI (0)), some (eI (p)), some (eI (q)), some (eI (r)), some (eI (s)), some (eI (80)), some (eI (72))]) (st' := [eJ (v4), eJ (v1), eJ (0), eJ (0), eJ (1), eJ (0), eR 98]) rfl (b_lsub (by rw [← e5]; exact ev_W_in (by omega) (by omega))) rfl ?_
  refine w_s (np := 125) (lv' := [some (eR 98), some (eI (6)), some (eI (2)), some (eI (0)), some (eI (p)), some (eI (q)), some (eI (r)), some (eI (s)), some (eI (80)), some (eI (72))]) (st' := [eI (r), eJ (v4), eJ (v1), eJ (0), eJ (0), eJ (1), eJ (0), eR 98]) rfl rfl rfl ?_
  refine w_s (np := 126) (lv' := [some (eR 98), some (eI (6)), some (eI (2)), some (eI (0)), some (eI (p)), some (eI (q)), some (eI (r)), some (eI (s)), some (eI (80)), some (eI (72))]) (st' := [eJ (r), eJ (v4), eJ (v1), eJ (0), eJ (0), eJ (1), eJ (0), eR 98]) rfl (b_i2l (ev_w_in (by omega) (by omega))) rfl ?_
  refine w_s (np := 127) (lv' := [some (eR 98), some (eI (6)), some (eI (2)), some (eI (0)), some (eI (p)), some (eI (q)), some (eI (r)), some (eI (s)), some (eI (80)), some (eI (72))]) (st' := [eR 98, eJ (r), eJ (v4), eJ (v1), eJ (0), eJ (0), eJ (1), eJ (0), eR 98]) rfl (s_an rfl (by decide)) rfl ?_
  refine w_gf (np := 130) (v := eR 100) rfl rfl hq.1 (by rw [hq.2.1]; rfl) ?_
  refine w_s (np := 132) (lv' := [some (eR 98), some (eI (6)), some (eI (2)), some (eI (0)), some (eI (p)), some (eI (q)), some (eI (r)), some (eI (s)), some (eI (80)), some (eI (72))]) (st' := [eI (80), eR 100, eJ (r), eJ (v4), eJ (v1), eJ (0), eJ (0), eJ (1), eJ (0), eR 98]) rfl rfl rfl ?_
  refine w_s (np := 133) (lv' := [some (eR 98), some (eI (6)), some (eI (2)), some (eI (0)), some (eI (p)), some (eI (q)), some (eI (r)), some (eI (s)), some (eI (80)), some (eI (72))]) (st' := [eI (2), eI (80), eR 100, eJ (r), eJ (v4), eJ (v1), eJ (0), eJ (0), eJ (1), eJ (0), eR 98]) rfl rfl rfl ?_
  refine w_s (np := 134) (lv' := [some (eR 98), some (eI (6)), some (eI (2)), some (eI (0)), some (eI (p)), some (eI (q)), some (eI (r)), some (eI (s)), some (eI (80)), some (eI (72))]) (st' := [eI (82), eR 100, eJ (r), eJ (v4), eJ (v1), eJ (0), eJ (0), eJ (1), eJ (0), eR 98]) rfl (b_iadd rfl) rfl ?_
  refine w_al (np := 135) (v := 0) rfl rfl (t_al (k := 82) hq rfl (by decide) rfl) ?_
  refine w_s (np := 136) (lv' := [some (eR 98), some (eI (6)), some (eI (2)), some (eI (0)), some (eI (p)), some (eI (q)), some (eI (r)), some (eI (s)), some (eI (80)), some (eI (72))]) (st' := [eJ (0), eJ (r), eJ (v4), eJ (v1), eJ (0), eJ (0), eJ (1), eJ (0), eR 98]) rfl (b_i2l rfl) rfl ?_
  obtain ⟨v7, e8⟩ : ∃ v : Int, v = (r) - (0) := ⟨_, rfl⟩
  have b9 : -9999 ≤ v7 ∧ v7 ≤ 9999 := by omega
  refine w_s (np := 137) (lv' := [some (eR 98), some (eI (6)), some (eI (2)), some (eI (0)), some (eI (p)), some (eI (q)), some (eI (r)), some (eI (s)), some (eI (80)), some (eI (72))]) (st' := [eJ (v7), eJ (v4), eJ (v1), eJ (0), eJ (0), eJ (1), eJ (0), eR 98]) rfl (b_lsub (by rw [← e8]; exact ev_W_in (by omega) (by omega))) rfl ?_
  refine w_s (np := 139) (lv' := [some (eR 98), some (eI (6)), some (eI (2)), some (eI (0)), some (eI (p)), some (eI (q)), some (eI (r)), some (eI (s)), some (eI (80)), some (eI (72))]) (st' := [eI (s), eJ (v7), eJ (v4), eJ (v1), eJ (0), eJ (0), eJ (1), eJ (0), eR 98]) rfl rfl rfl ?_
  refine w_s (np := 140) (lv' := [some (eR 98), some (eI (6)), some (eI (2)), some (eI (0)), some (eI (p)), some (eI (q)), some (eI (r)), some (eI (s)), some (eI (80)), some (eI (72))]) (st' := [eJ (s), eJ (v7), eJ (v4), eJ (v1), eJ (0), eJ (0), eJ (1), eJ (0), eR 98]) rfl (b_i2l (ev_w_in (by omega) (by omega))) rfl ?_
  refine w_s (np := 141) (lv' := [some (eR 98), some (eI (6)), some (eI (2)), some (eI (0)), some (eI (p)), some (eI (q)), some (eI (r)), some (eI (s)), some (eI (80)), some (eI (72))]) (st' := [eR 98, eJ (s), eJ (v7), eJ (v4), eJ (v1), eJ (0), eJ (0), eJ (1), eJ (0), eR 98]) rfl (s_an rfl (by decide)) rfl ?_
  refine w_gf (np := 144) (v := eR 100) rfl rfl hq.1 (by rw [hq.2.1]; rfl) ?_
  refine w_s (np := 146) (lv' := [some (eR 98), some (eI (6)), some (eI (2)), some (eI (0)), some (eI (p)), some (eI (q)), some (eI (r)), some (eI (s)), some (eI (80)), some (eI (72))]) (st' := [eI (80), eR 100, eJ (s), eJ (v7), eJ (v4), eJ (v1), eJ (0), eJ (0), eJ (1), eJ (0), eR 98]) rfl rfl rfl ?_
  refine w_s (np := 147) (lv' := [some (eR 98), some (eI (6)), some (eI (2)), some (eI (0)), some (eI (p)), some (eI (q)), some (eI (r)), some (eI (s)), some (eI (80)), some (eI (72))]) (st' := [eI (3), eI (80), eR 100, eJ (s), eJ (v7), eJ (v4), eJ (v1), eJ (0), eJ (0), eJ (1), eJ (0), eR 98]) rfl rfl rfl ?_
  refine w_s (np := 148) (lv' := [some (eR 98), some (eI (6)), some (eI (2)), some (eI (0)), some (eI (p)), some (eI (q)), some (eI (r)), some (eI (s)), some (eI (80)), some (eI (72))]) (st' := [eI (83), eR 100, eJ (s), eJ (v7), eJ (v4), eJ (v1), eJ (0), eJ (0), eJ (1), eJ (0), eR 98]) rfl (b_iadd rfl) rfl ?_
  refine w_al (np := 149) (v := 0) rfl rfl (t_al (k := 83) hq rfl (by decide) rfl) ?_
  refine w_s (np := 150) (lv' := [some (eR 98), some (eI (6)), some (eI (2)), some (eI (0)), some (eI (p)), some (eI (q)), some (eI (r)), some (eI (s)), some (eI (80)), some (eI (72))]) (st' := [eJ (0), eJ (s), eJ (v7), eJ (v4), eJ (v1), eJ (0), eJ (0), eJ (1), eJ (0), eR 98]) rfl (b_i2l rfl) rfl ?_
  obtain ⟨v10, e11⟩ : ∃ v : Int, v = (s) - (0) := ⟨_, rfl⟩
  have b12 : -9999 ≤ v10 ∧ v10 ≤ 9999 := by omega
  refine w_s (np := 151) (lv' := [some (eR 98), some (eI (6)), some (eI (2)), some (eI (0)), some (eI (p)), some (eI (q)), some (eI (r)), some (eI (s)), some (eI (80)), some (eI (72))]) (st' := [eJ (v10), eJ (v7), eJ (v4), eJ (v1), eJ (0), eJ (0), eJ (1), eJ (0), eR 98]) rfl (b_lsub (by rw [← e11]; exact ev_W_in (by omega) (by omega))) rfl ?_
  refine w_cv (np := 154) (as := [eJ (0), eJ (1), eJ (0), eJ (0), eJ (v1), eJ (v4), eJ (v7), eJ (v10)]) (lv' := [some (eR 98), some (eJ (0)), none, some (eJ (1)), none, some (eJ (0)), none, some (eJ (0)), none, some (eJ (v1)), none, some (eJ (v4)), none, some (eJ (v7)), none, some (eJ (v10)), none]) (rest := []) rfl rfl rfl (Nat.ble_eq.mp rfl) rfl rfl rfl hq.1 rfl ?_
  refine t224 hq.1 (show (-8 : Int) ≤ 0 ∧ (0 : Int) ≤ 8 by omega) (show (-8 : Int) ≤ 1 ∧ (1 : Int) ≤ 8 by omega) (show (-8 : Int) ≤ 0 ∧ (0 : Int) ≤ 8 by omega) (show (-8 : Int) ≤ 0 ∧ (0 : Int) ≤ 8 by omega) (show (-100000 : Int) ≤ v1 ∧ (v1 : Int) ≤ 100000 by omega) (show (-100000 : Int) ≤ v4 ∧ (v4 : Int) ≤ 100000 by omega) (show (-100000 : Int) ≤ v7 ∧ (v7 : Int) ≤ 100000 by omega) (show (-100000 : Int) ≤ v10 ∧ (v10 : Int) ≤ 100000 by omega) ?_
  intro m B G s1 eB eG bB bG
  show ex_fine fg rc rs (d + 4, (265, 154, [some (eR 98), some (eI (6)), some (eI (2)), some (eI (0)), some (eI (p)), some (eI (q)), some (eI (r)), some (eI (s)), some (eI (80)), some (eI (72))], [eI (rSg (2 * B + G) G)]), f :: F, m)
  refine b_ri rfl rfl ?_
  have hB : B = (-1) * p + 1 * r := by omega
  have hG : G = 1 * s := by omega
  have hr := rSg_ok (x := 2 * B + G) (b := G) (by omega)
  have e9 : 416020 * (2 * B + G) + 930249 * G = (-832040) * p + 832040 * r + 1346269 * s := by omega
  rw [e9] at hr
  exact K m _ s1 hr (rSg_v _ _)
theorem t265_7_0 {fg : eG} {rc rs d : Nat} {f : eFr} {F : List eFr} {μ : eM} {p q r s : Int} (hq : tQ μ) (hp : -9999 ≤ p ∧ p ≤ 9999) (hq0 : -9999 ≤ q ∧ q ≤ 9999) (hr : -9999 ≤ r ∧ r ≤ 9999) (hs : -9999 ≤ s ∧ s ≤ 9999) (K : ∀ (μ2 : eM) (u : Int), tS μ μ2 → ((0 ≤ u ↔ 0 ≤ 1346269 * p + 832040 * q + (-832040) * s) ∧ (u ≤ 0 ↔ 1346269 * p + 832040 * q + (-832040) * s ≤ 0)) → (u = 0 ∨ u = 1 ∨ u = -1) → ex_fine fg rc rs (d + 5, (f.1, f.2.1, f.2.2.1, eI u :: f.2.2.2), F, μ2)) : ex_fine fg rc rs (d + 4, (265, 0, [some (eR 98), some (eI (7)), some (eI (0)), some (eI (1)), some (eI (p)), some (eI (q)), some (eI (r)), some (eI (s)), none, none], []), f :: F, μ) := by
  refine w_s (np := 2) (lv' := [some (eR 98), some (eI (7)), some (eI (0)), some (eI (1)), some (eI (p)), some (eI (q)), some (eI (r)), some (eI (s)), none, none]) (st' := [eI (12)]) rfl rfl rfl ?_
  refine w_s (np := 3) (lv' := [some (eR 98), some (eI (7)), some (eI (0)), some (eI (1)), some (eI (p)), some (eI (q)), some (eI (r)), some (eI (s)), none, none]) (st' := [eI (7), eI (12)]) rfl rfl rfl ?_
  refine w_s (np := 4) (lv' := [some (eR 98), some (eI (7)), some (eI (0)), some (eI (1)), some (eI (p)), some (eI (q)), some (eI (r)), some (eI (s)), none, none]) (st' := [eI (84)]) rfl (b_imul rfl) rfl ?_
  refine w_s (np := 5) (lv' := [some (eR 98), some (eI (7)), some (eI (0)), some (eI (1)), some (eI (p)), some (eI (q)), some (eI (r)), some (eI (s)), none, none]) (st' := [eI (4), eI (84)]) rfl rfl rfl ?_
  refine w_s (np := 6) (lv' := [some (eR 98), some (eI (7)), some (eI (0)), some (eI (1)), some (eI (p)), some (eI (q)), some (eI (r)), some (eI (s)), none, none]) (st' := [eI (0), eI (4), eI (84)]) rfl rfl rfl ?_
  refine w_s (np := 7) (lv' := [some (eR 98), some (eI (7)), some (eI (0)), some (eI (1)), some (eI (p)), some (eI (q)), some (eI (r)), some (eI (s)), none, none]) (st' := [eI (0), eI (84)]) rfl (b_imul rfl) rfl ?_
  refine w_s (np := 8) (lv' := [some (eR 98), some (eI (7)), some (eI (0)), some (eI (1)), some (eI (p)), some (eI (q)), some (eI (r)), some (eI (s)), none, none]) (st' := [eI (84)]) rfl (b_iadd rfl) rfl ?_
  refine w_s (np := 10) (lv' := [some (eR 98), some (eI (7)), some (eI (0)), some (eI (1)), some (eI (p)), some (eI (q)), some (eI (r)), some (eI (s)), some (eI (84)), none]) (st' := []) rfl rfl rfl ?_
  refine w_s (np := 12) (lv' := [some (eR 98), some (eI (7)), some (eI (0)), some (eI (1)), some (eI (p)), some (eI (q)), some (eI (r)), some (eI (s)), some (eI (84)), none]) (st' := [eI (12)]) rfl rfl rfl ?_
  refine w_s (np := 13) (lv' := [some (eR 98), some (eI (7)), some (eI (0)), some (eI (1)), some (eI (p)), some (eI (q)), some (eI (r)), some (eI (s)), some (eI (84)), none]) (st' := [eI (7), eI (12)]) rfl rfl rfl ?_
  refine w_s (np := 14) (lv' := [some (eR 98), some (eI (7)), some (eI (0)), some (eI (1)), some (eI (p)), some (eI (q)), some (eI (r)), some (eI (s)), some (eI (84)), none]) (st' := [eI (84)]) rfl (b_imul rfl) rfl ?_
  refine w_s (np := 15) (lv' := [some (eR 98), some (eI (7)), some (eI (0)), some (eI (1)), some (eI (p)), some (eI (q)), some (eI (r)), some (eI (s)), some (eI (84)), none]) (st' := [eI (4), eI (84)]) rfl rfl rfl ?_
  refine w_s (np := 16) (lv' := [some (eR 98), some (eI (7)), some (eI (0)), some (eI (1)), some (eI (p)), some (eI (q)), some (eI (r)), some (eI (s)), some (eI (84)), none]) (st' := [eI (1), eI (4), eI (84)]) rfl rfl rfl ?_
  refine w_s (np := 17) (lv' := [some (eR 98), some (eI (7)), some (eI (0)), some (eI (1)), some (eI (p)), some (eI (q)), some (eI (r)), some (eI (s)), some (eI (84)), none]) (st' := [eI (4), eI (84)]) rfl (b_imul rfl) rfl ?_
  refine w_s (np := 18) (lv' := [some (eR 98), some (eI (7)), some (eI (0)), some (eI (1)), some (eI (p)), some (eI (q)), some (eI (r)), some (eI (s)), some (eI (84)), none]) (st' := [eI (88)]) rfl (b_iadd rfl) rfl ?_
  refine w_s (np := 20) (lv' := [some (eR 98), some (eI (7)), some (eI (0)), some (eI (1)), some (eI (p)), some (eI (q)), some (eI (r)), some (eI (s)), some (eI (84)), some (eI (88))]) (st' := []) rfl rfl rfl ?_
  refine w_s (np := 21) (lv' := [some (eR 98), some (eI (7)), some (eI (0)), some (eI (1)), some (eI (p)), some (eI (q)), some (eI (r)), some (eI (s)), some (eI (84)), some (eI (88))]) (st' := [eR 98]) rfl (s_an rfl (by decide)) rfl ?_
  refine w_s (np := 22) (lv' := [some (eR 98), some (eI (7)), some (eI (0)), some (eI (1)), some (eI (p)), some (eI (q)), some (eI (r)), some (eI (s)), some (eI (84)), some (eI (88))]) (st' := [eR 98, eR 98]) rfl (s_an rfl (by decide)) rfl ?_
  refine w_gf (np := 25) (v := eR 100) rfl rfl hq.1 (by rw [hq.2.1]; rfl) ?_
  refine w_s (np := 27) (lv' := [some (eR 98), some (eI (7)), some (eI (0)), some (eI (1)), some (eI (p)), some (eI (q)), some (eI (r)), some (eI (s)), some (eI (84)), some (eI (88))]) (st' := [eI (88), eR 100, eR 98]) rfl rfl rfl ?_
  refine w_al (np := 28) (v := 0) rfl rfl (t_al (k := 88) hq rfl (by decide) rfl) ?_
  refine w_s (np := 29) (lv' := [some (eR 98), some (eI (7)), some (eI (0)), some (eI (1)), some (eI (p)), some (eI (q)), some (eI (r)), some (eI (s)), some (eI (84)), some (eI (88))]) (st' := [eR 98, eI (0), eR 98]) rfl (s_an rfl (by decide)) rfl ?_
  refine w_gf (np := 32) (v := eR 100) rfl rfl hq.1 (by rw [hq.2.1]; rfl) ?_
  refine w_s (np := 34) (lv' := [some (eR 98), some (eI (7)), some (eI (0)), some (eI (1)), some (eI (p)), some (eI (q)), some (eI (r)), some (eI (s)), some (eI (84)), some (eI (88))]) (st' := [eI (84), eR 100, eI (0), eR 98]) rfl rfl rfl ?_
  refine w_al (np := 35) (v := 0) rfl rfl (t_al (k := 84) hq rfl (by decide) rfl) ?_
  refine w_s (np := 36) (lv' := [some (eR 98), some (eI (7)), some (eI (0)), some (eI (1)), some (eI (p)), some (eI (q)), some (eI (r)), some (eI (s)), some (eI (84)), some (eI (88))]) (st' := [eI (0), eR 98]) rfl (b_isub rfl) rfl ?_
  refine w_s (np := 37) (lv' := [some (eR 98), some (eI (7)), some (eI (0)), some (eI (1)), some (eI (p)), some (eI (q)), some (eI (r)), some (eI (s)), some (eI (84)), some (eI (88))]) (st' := [eJ (0), eR 98]) rfl (b_i2l rfl) rfl ?_
  refine w_s (np := 38) (lv' := [some (eR 98), some (eI (7)), some (eI (0)), some (eI (1)), some (eI (p)), some (eI (q)), some (eI (r)), some (eI (s)), some (eI (84)), some (eI (88))]) (st' := [eR 98, eJ (0), eR 98]) rfl (s_an rfl (by decide)) rfl ?_
  refine w_gf (np := 41) (v := eR 100) rfl rfl hq.1 (by rw [hq.2.1]; rfl) ?_
  refine w_s (np := 43) (lv' := [some (eR 98), some (eI (7)), some (eI (0)), some (eI (1)), some (eI (p)), some (eI (q)), some (eI (r)), some (eI (s)), some (eI (84)), some (eI (88))]) (st' := [eI (88), eR 100, eJ (0), eR 98]) rfl rfl rfl ?_
  refine w_s (np := 44) (lv' := [some (eR 98), some (eI (7)), some (eI (0)), some (eI (1)), some (eI (p)), some (eI (q)), some (eI (r)), some (eI (s)), some (eI (84)), some (eI (88))]) (st' := [eI (1), eI (88), eR 100, eJ (0), eR 98]) rfl rfl rfl ?_
  refine w_s (np := 45) (lv' := [some (eR 98), some (eI (7)), some (eI (0)), some (eI (1)), some (eI (p)), some (eI (q)), some (eI (r)), some (eI (s)), some (eI (84)), some (eI (88))]) (st' := [eI (89), eR 100, eJ (0), eR 98]) rfl (b_iadd rfl) rfl ?_
  refine w_al (np := 46) (v := 0) rfl rfl (t_al (k := 89) hq rfl (by decide) rfl) ?_
  refine w_s (np := 47) (lv' := [some (eR 98), some (eI (7)), some (eI (0)), some (eI (1)), some (eI (p)), some (eI (q)), some (eI (r)), some (eI (s)), some (eI (84)), some (eI (88))]) (st' := [eR 98, eI (0), eJ (0), eR 98]) rfl (s_an rfl (by decide)) rfl ?_
  refine w_gf (np := 50) (v := eR 100) rfl rfl hq.1 (by rw [hq.2.1]; rfl) ?_
  refine w_s (np := 52) (lv' := [some (eR 98), some (eI (7)), some (eI (0)), some (eI (1)), some (eI (p)), some (eI (q)), some (eI (r)), some (eI (s)), some (eI (84)), some (eI (88))]) (st' := [eI (84), eR 100, eI (0), eJ (0), eR 98]) rfl rfl rfl ?_
  refine w_s (np := 53) (lv' := [some (eR 98), some (eI (7)), some (eI (0)), some (eI (1)), some (eI (p)), some (eI (q)), some (eI (r)), some (eI (s)), some (eI (84)), some (eI (88))]) (st' := [eI (1), eI (84), eR 100, eI (0), eJ (0), eR 98]) rfl rfl rfl ?_
  refine w_s (np := 54) (lv' := [some (eR 98), some (eI (7)), some (eI (0)), some (eI (1)), some (eI (p)), some (eI (q)), some (eI (r)), some (eI (s)), some (eI (84)), some (eI (88))]) (st' := [eI (85), eR 100, eI (0), eJ (0), eR 98]) rfl (b_iadd rfl) rfl ?_
  refine w_al (np := 55) (v := 0) rfl rfl (t_al (k := 85) hq rfl (by decide) rfl) ?_
  refine w_s (np := 56) (lv' := [some (eR 98), some (eI (7)), some (eI (0)), some (eI (1)), some (eI (p)), some (eI (q)), some (eI (r)), some (eI (s)), some (eI (84)), some (eI (88))]) (st' := [eI (0), eJ (0), eR 98]) rfl (b_isub rfl) rfl ?_
  refine w_s (np := 57) (lv' := [some (eR 98), some (eI (7)), some (eI (0)), some (eI (1)), some (eI (p)), some (eI (q)), some (eI (r)), some (eI (s)), some (eI (84)), some (eI (88))]) (st' := [eJ (0), eJ (0), eR 98]) rfl (b_i2l rfl) rfl ?_
  refine w_s (np := 58) (lv' := [some (eR 98), some (eI (7)), some (eI (0)), some (eI (1)), some (eI (p)), some (eI (q)), some (eI (r)), some (eI (s)), some (eI (84)), some (eI (88))]) (st' := [eR 98, eJ (0), eJ (0), eR 98]) rfl (s_an rfl (by decide)) rfl ?_
  refine w_gf (np := 61) (v := eR 100) rfl rfl hq.1 (by rw [hq.2.1]; rfl) ?_
  refine w_s (np := 63) (lv' := [some (eR 98), some (eI (7)), some (eI (0)), some (eI (1)), some (eI (p)), some (eI (q)), some (eI (r)), some (eI (s)), some (eI (84)), some (eI (88))]) (st' := [eI (88), eR 100, eJ (0), eJ (0), eR 98]) rfl rfl rfl ?_
  refine w_s (np := 64) (lv' := [some (eR 98), some (eI (7)), some (eI (0)), some (eI (1)), some (eI (p)), some (eI (q)), some (eI (r)), some (eI (s)), some (eI (84)), some (eI (88))]) (st' := [eI (2), eI (88), eR 100, eJ (0), eJ (0), eR 98]) rfl rfl rfl ?_
  refine w_s (np := 65) (lv' := [some (eR 98), some (eI (7)), some (eI (0)), some (eI (1)), some (eI (p)), some (eI (q)), some (eI (r)), some (eI (s)), some (eI (84)), some (eI (88))]) (st' := [eI (90), eR 100, eJ (0), eJ (0), eR 98]) rfl (b_iadd rfl) rfl ?_
  refine w_al (np := 66) (v := -1) rfl rfl (t_al (k := 90) hq rfl (by decide) rfl) ?_
  refine w_s (np := 67) (lv' := [some (eR 98), some (eI (7)), some (eI (0)), some (eI (1)), some (eI (p)), some (eI (q)), some (eI (r)), some (eI (s)), some (eI (84)), some (eI (88))]) (st' := [eR 98, eI (-1), eJ (0), eJ (0), eR 98]) rfl (s_an rfl (by decide)) rfl ?_
  refine w_gf (np := 70) (v := eR 100) rfl rfl hq.1 (by rw [hq.2.1]; rfl) ?_
  refine w_s (np := 72) (lv' := [some (eR 98), some (eI (7)), some (eI (0)), some (eI (1)), some (eI (p)), some (eI (q)), some (eI (r)), some (eI (s)), some (eI (84)), some (eI (88))]) (st' := [eI (84), eR 100, eI (-1), eJ (0), eJ (0), eR 98]) rfl rfl rfl ?_
  refine w_s (np := 73) (lv' := [some (eR 98), some (eI (7)), some (eI (0)), some (eI (1)), some (eI (p)), some (eI (q)), some (eI (r)), some (eI (s)), some (eI (84)), some (eI (88))]) (st' := [eI (2), eI (84), eR 100, eI (-1), eJ (0), eJ (0), eR 98]) rfl rfl rfl ?_
  refine w_s (np := 74) (lv' := [some (eR 98), some (eI (7)), some (eI (0)), some (eI (1)), some (eI (p)), some (eI (q)), some (eI (r)), some (eI (s)), some (eI (84)), some (eI (88))]) (st' := [eI (86), eR 100, eI (-1), eJ (0), eJ (0), eR 98]) rfl (b_iadd rfl) rfl ?_
  refine w_al (np := 75) (v := 0) rfl rfl (t_al (k := 86) hq rfl (by decide) rfl) ?_
  refine w_s (np := 76) (lv' := [some (eR 98), some (eI (7)), some (eI (0)), some (eI (1)), some (eI (p)), some (eI (q)), some (eI (r)), some (eI (s)), some (eI (84)), some (eI (88))]) (st' := [eI (-1), eJ (0), eJ (0), eR 98]) rfl (b_isub rfl) rfl ?_
  refine w_s (np := 77) (lv' := [some (eR 98), some (eI (7)), some (eI (0)), some (eI (1)), some (eI (p)), some (eI (q)), some (eI (r)), some (eI (s)), some (eI (84)), some (eI (88))]) (st' := [eJ (-1), eJ (0), eJ (0), eR 98]) rfl (b_i2l rfl) rfl ?_
  refine w_s (np := 78) (lv' := [some (eR 98), some (eI (7)), some (eI (0)), some (eI (1)), some (eI (p)), some (eI (q)), some (eI (r)), some (eI (s)), some (eI (84)), some (eI (88))]) (st' := [eR 98, eJ (-1), eJ (0), eJ (0), eR 98]) rfl (s_an rfl (by decide)) rfl ?_
  refine w_gf (np := 81) (v := eR 100) rfl rfl hq.1 (by rw [hq.2.1]; rfl) ?_
  refine w_s (np := 83) (lv' := [some (eR 98), some (eI (7)), some (eI (0)), some (eI (1)), some (eI (p)), some (eI (q)), some (eI (r)), some (eI (s)), some (eI (84)), some (eI (88))]) (st' := [eI (88), eR 100, eJ (-1), eJ (0), eJ (0), eR 98]) rfl rfl rfl ?_
  refine w_s (np := 84) (lv' := [some (eR 98), some (eI (7)), some (eI (0)), some (eI (1)), some (eI (p)), some (eI (q)), some (eI (r)), some (eI (s)), some (eI (84)), some (eI (88))]) (st' := [eI (3), eI (88), eR 100, eJ (-1), eJ (0), eJ (0), eR 98]) rfl rfl rfl ?_
  refine w_s (np := 85) (lv' := [some (eR 98), some (eI (7)), some (eI (0)), some (eI (1)), some (eI (p)), some (eI (q)), some (eI (r)), some (eI (s)), some (eI (84)), some (eI (88))]) (st' := [eI (91), eR 100, eJ (-1), eJ (0), eJ (0), eR 98]) rfl (b_iadd rfl) rfl ?_
  refine w_al (np := 86) (v := 0) rfl rfl (t_al (k := 91) hq rfl (by decide) rfl) ?_
  refine w_s (np := 87) (lv' := [some (eR 98), some (eI (7)), some (eI (0)), some (eI (1)), some (eI (p)), some (eI (q)), some (eI (r)), some (eI (s)), some (eI (84)), some (eI (88))]) (st' := [eR 98, eI (0), eJ (-1), eJ (0), eJ (0), eR 98]) rfl (s_an rfl (by decide)) rfl ?_
  refine w_gf (np := 90) (v := eR 100) rfl rfl hq.1 (by rw [hq.2.1]; rfl) ?_
  refine w_s (np := 92) (lv' := [some (eR 98), some (eI (7)), some (eI (0)), some (eI (1)), some (eI (p)), some (eI (q)), some (eI (r)), some (eI (s)), some (eI (84)), some (eI (88))]) (st' := [eI (84), eR 100, eI (0), eJ (-1), eJ (0), eJ (0), eR 98]) rfl rfl rfl ?_
  refine w_s (np := 93) (lv' := [some (eR 98), some (eI (7)), some (eI (0)), some (eI (1)), some (eI (p)), some (eI (q)), some (eI (r)), some (eI (s)), some (eI (84)), some (eI (88))]) (st' := [eI (3), eI (84), eR 100, eI (0), eJ (-1), eJ (0), eJ (0), eR 98]) rfl rfl rfl ?_
  refine w_s (np := 94) (lv' := [some (eR 98), some (eI (7)), some (eI (0)), some (eI (1)), some (eI (p)), some (eI (q)), some (eI (r)), some (eI (s)), some (eI (84)), some (eI (88))]) (st' := [eI (87), eR 100, eI (0), eJ (-1), eJ (0), eJ (0), eR 98]) rfl (b_iadd rfl) rfl ?_
  refine w_al (np := 95) (v := 0) rfl rfl (t_al (k := 87) hq rfl (by decide) rfl) ?_
  refine w_s (np := 96) (lv' := [some (eR 98), some (eI (7)), some (eI (0)), some (eI (1)), some (eI (p)), some (eI (q)), some (eI (r)), some (eI (s)), some (eI (84)), some (eI (88))]) (st' := [eI (0), eJ (-1), eJ (0), eJ (0), eR 98]) rfl (b_isub rfl) rfl ?_
  refine w_s (np := 97) (lv' := [some (eR 98), some (eI (7)), some (eI (0)), some (eI (1)), some (eI (p)), some (eI (q)), some (eI (r)), some (eI (s)), some (eI (84)), some (eI (88))]) (st' := [eJ (0), eJ (-1), eJ (0), eJ (0), eR 98]) rfl (b_i2l rfl) rfl ?_
  refine w_s (np := 99) (lv' := [some (eR 98), some (eI (7)), some (eI (0)), some (eI (1)), some (eI (p)), some (eI (q)), some (eI (r)), some (eI (s)), some (eI (84)), some (eI (88))]) (st' := [eI (p), eJ (0), eJ (-1), eJ (0), eJ (0), eR 98]) rfl rfl rfl ?_
  refine w_s (np := 100) (lv' := [some (eR 98), some (eI (7)), some (eI (0)), some (eI (1)), some (eI (p)), some (eI (q)), some (eI (r)), some (eI (s)), some (eI (84)), some (eI (88))]) (st' := [eJ (p), eJ (0), eJ (-1), eJ (0), eJ (0), eR 98]) rfl (b_i2l (ev_w_in (by omega) (by omega))) rfl ?_
  refine w_s (np := 101) (lv' := [some (eR 98), some (eI (7)), some (eI (0)), some (eI (1)), some (eI (p)), some (eI (q)), some (eI (r)), some (eI (s)), some (eI (84)), some (eI (88))]) (st' := [eR 98, eJ (p), eJ (0), eJ (-1), eJ (0), eJ (0), eR 98]) rfl (s_an rfl (by decide)) rfl ?_
  refine w_gf (np := 104) (v := eR 100) rfl rfl hq.1 (by rw [hq.2.1]; rfl) ?_
  refine w_s (np := 106) (lv' := [some (eR 98), some (eI (7)), some (eI (0)), some (eI (1)), some (eI (p)), some (eI (q)), some (eI (r)), some (eI (s)), some (eI (84)), some (eI (88))]) (st' := [eI (84), eR 100, eJ (p), eJ (0), eJ (-1), eJ (0), eJ (0), eR 98]) rfl rfl rfl ?_
  refine w_al (np := 107) (v := 0) rfl rfl (t_al (k := 84) hq rfl (by decide) rfl) ?_
  refine w_s (np := 108) (lv' := [some (eR 98), some (eI (7)), some (eI (0)), some (eI (1)), some (eI (p)), some (eI (q)), some (eI (r)), some (eI (s)), some (eI (84)), some (eI (88))]) (st' := [eJ (0), eJ (p), eJ (0), eJ (-1), eJ (0), eJ (0), eR 98]) rfl (b_i2l rfl) rfl ?_
  obtain ⟨v1, e2⟩ : ∃ v : Int, v = (p) - (0) := ⟨_, rfl⟩
  have b3 : -9999 ≤ v1 ∧ v1 ≤ 9999 := by omega
  refine w_s (np := 109) (lv' := [some (eR 98), some (eI (7)), some (eI (0)), some (eI (1)), some (eI (p)), some (eI (q)), some (eI (r)), some (eI (s)), some (eI (84)), some (eI (88))]) (st' := [eJ (v1), eJ (0), eJ (-1), eJ (0), eJ (0), eR 98]) rfl (b_lsub (by rw [← e2]; exact ev_W_in (by omega) (by omega))) rfl ?_
  refine w_s (np := 111) (lv' := [some (eR 98), some (eI (7)), some (eI (0)), some (eI (1)), some (eI (p)), some (eI (q)), some (eI (r)), some (eI (s)), some (eI (84)), some (eI (88))]) (st' := [eI (q), eJ (v1), eJ (0), eJ (-1), eJ (0), eJ (0), eR 98]) rfl rfl rfl ?_
  refine w_s (np := 112) (lv' := [some (eR 98), some (eI (7)), some (eI (0)), some (eI (1)), some (eI (p)), some (eI (q)), some (eI (r)), some (eI (s)), some (eI (84)), some (eI (88))]) (st' := [eJ (q), eJ (v1), eJ (0), eJ (-1), eJ (0), eJ (0), eR 98]) rfl (b_i2l (ev_w_in (by omega) (by omega))) rfl ?_
  refine w_s (np := 113) (lv' := [some (eR 98), some (eI (7)), some (eI (0)), some (eI (1)), some (eI (p)), some (eI (q)), some (eI (r)), some (eI (s)), some (eI (84)), some (eI (88))]) (st' := [eR 98, eJ (q), eJ (v1), eJ (0), eJ (-1), eJ (0), eJ (0), eR 98]) rfl (s_an rfl (by decide)) rfl ?_
  refine w_gf (np := 116) (v := eR 100) rfl rfl hq.1 (by rw [hq.2.1]; rfl) ?_
  refine w_s (np := 118) (lv' := [some (eR 98), some (eI (7)), some (eI (0)), some (eI (1)), some (eI (p)), some (eI (q)), some (eI (r)), some (eI (s)), some (eI (84)), some (eI (88))]) (st' := [eI (84), eR 100, eJ (q), eJ (v1), eJ (0), eJ (-1), eJ (0), eJ (0), eR 98]) rfl rfl rfl ?_
  refine w_s (np := 119) (lv' := [some (eR 98), some (eI (7)), some (eI (0)), some (eI (1)), some (eI (p)), some (eI (q)), some (eI (r)), some (eI (s)), some (eI (84)), some (eI (88))]) (st' := [eI (1), eI (84), eR 100, eJ (q), eJ (v1), eJ (0), eJ (-1), eJ (0), eJ (0), eR 98]) rfl rfl rfl ?_
  refine w_s (np := 120) (lv' := [some (eR 98), some (eI (7)), some (eI (0)), some (eI (1)), some (eI (p)), some (eI (q)), some (eI (r)), some (eI (s)), some (eI (84)), some (eI (88))]) (st' := [eI (85), eR 100, eJ (q), eJ (v1), eJ (0), eJ (-1), eJ (0), eJ (0), eR 98]) rfl (b_iadd rfl) rfl ?_
  refine w_al (np := 121) (v := 0) rfl rfl (t_al (k := 85) hq rfl (by decide) rfl) ?_
  refine w_s (np := 122) (lv' := [some (eR 98), some (eI (7)), some (eI (0)), some (eI (1)), some (eI (p)), some (eI (q)), some (eI (r)), some (eI (s)), some (eI (84)), some (eI (88))]) (st' := [eJ (0), eJ (q), eJ (v1), eJ (0), eJ (-1), eJ (0), eJ (0), eR 98]) rfl (b_i2l rfl) rfl ?_
  obtain ⟨v4, e5⟩ : ∃ v : Int, v = (q) - (0) := ⟨_, rfl⟩
  have b6 : -9999 ≤ v4 ∧ v4 ≤ 9999 := by omega
  refine w_s (np := 123) (lv' := [some (eR 98), some (eI (7)), some (eI (0)), some (eI (1)), some (eI (p)), some (eI (q)), some (eI (r)), some (eI (s)), some (eI (84)), some (eI (88))]) (st' := [eJ (v4), eJ (v1), eJ (0), eJ (-1), eJ (0), eJ (0), eR 98]) rfl (b_lsub (by rw [← e5]; exact ev_W_in (by omega) (by omega))) rfl ?_
  refine w_s (np := 125) (lv' := [some (eR 98), some (eI (7)), some (eI (0)), some (eI (1)), some (eI (p)), some (eI (q)), some (eI (r)), some (eI (s)), some (eI (84)), some (eI (88))]) (st' := [eI (r), eJ (v4), eJ (v1), eJ (0), eJ (-1), eJ (0), eJ (0), eR 98]) rfl rfl rfl ?_
  refine w_s (np := 126) (lv' := [some (eR 98), some (eI (7)), some (eI (0)), some (eI (1)), some (eI (p)), some (eI (q)), some (eI (r)), some (eI (s)), some (eI (84)), some (eI (88))]) (st' := [eJ (r), eJ (v4), eJ (v1), eJ (0), eJ (-1), eJ (0), eJ (0), eR 98]) rfl (b_i2l (ev_w_in (by omega) (by omega))) rfl ?_
  refine w_s (np := 127) (lv' := [some (eR 98), some (eI (7)), some (eI (0)), some (eI (1)), some (eI (p)), some (eI (q)), some (eI (r)), some (eI (s)), some (eI (84)), some (eI (88))]) (st' := [eR 98, eJ (r), eJ (v4), eJ (v1), eJ (0), eJ (-1), eJ (0), eJ (0), eR 98]) rfl (s_an rfl (by decide)) rfl ?_
  refine w_gf (np := 130) (v := eR 100) rfl rfl hq.1 (by rw [hq.2.1]; rfl) ?_
  refine w_s (np := 132) (lv' := [some (eR 98), some (eI (7)), some (eI (0)), some (eI (1)), some (eI (p)), some (eI (q)), some (eI (r)), some (eI (s)), some (eI (84)), some (eI (88))]) (st' := [eI (84), eR 100, eJ (r), eJ (v4), eJ (v1), eJ (0), eJ (-1), eJ (0), eJ (0), eR 98]) rfl rfl rfl ?_
  refine w_s (np := 133) (lv' := [some (eR 98), some (eI (7)), some (eI (0)), some (eI (1)), some (eI (p)), some (eI (q)), some (eI (r)), some (eI (s)), some (eI (84)), some (eI (88))]) (st' := [eI (2), eI (84), eR 100, eJ (r), eJ (v4), eJ (v1), eJ (0), eJ (-1), eJ (0), eJ (0), eR 98]) rfl rfl rfl ?_
  refine w_s (np := 134) (lv' := [some (eR 98), some (eI (7)), some (eI (0)), some (eI (1)), some (eI (p)), some (eI (q)), some (eI (r)), some (eI (s)), some (eI (84)), some (eI (88))]) (st' := [eI (86), eR 100, eJ (r), eJ (v4), eJ (v1), eJ (0), eJ (-1), eJ (0), eJ (0), eR 98]) rfl (b_iadd rfl) rfl ?_
  refine w_al (np := 135) (v := 0) rfl rfl (t_al (k := 86) hq rfl (by decide) rfl) ?_
  refine w_s (np := 136) (lv' := [some (eR 98), some (eI (7)), some (eI (0)), some (eI (1)), some (eI (p)), some (eI (q)), some (eI (r)), some (eI (s)), some (eI (84)), some (eI (88))]) (st' := [eJ (0), eJ (r), eJ (v4), eJ (v1), eJ (0), eJ (-1), eJ (0), eJ (0), eR 98]) rfl (b_i2l rfl) rfl ?_
  obtain ⟨v7, e8⟩ : ∃ v : Int, v = (r) - (0) := ⟨_, rfl⟩
  have b9 : -9999 ≤ v7 ∧ v7 ≤ 9999 := by omega
  refine w_s (np := 137) (lv' := [some (eR 98), some (eI (7)), some (eI (0)), some (eI (1)), some (eI (p)), some (eI (q)), some (eI (r)), some (eI (s)), some (eI (84)), some (eI (88))]) (st' := [eJ (v7), eJ (v4), eJ (v1), eJ (0), eJ (-1), eJ (0), eJ (0), eR 98]) rfl (b_lsub (by rw [← e8]; exact ev_W_in (by omega) (by omega))) rfl ?_
  refine w_s (np := 139) (lv' := [some (eR 98), some (eI (7)), some (eI (0)), some (eI (1)), some (eI (p)), some (eI (q)), some (eI (r)), some (eI (s)), some (eI (84)), some (eI (88))]) (st' := [eI (s), eJ (v7), eJ (v4), eJ (v1), eJ (0), eJ (-1), eJ (0), eJ (0), eR 98]) rfl rfl rfl ?_
  refine w_s (np := 140) (lv' := [some (eR 98), some (eI (7)), some (eI (0)), some (eI (1)), some (eI (p)), some (eI (q)), some (eI (r)), some (eI (s)), some (eI (84)), some (eI (88))]) (st' := [eJ (s), eJ (v7), eJ (v4), eJ (v1), eJ (0), eJ (-1), eJ (0), eJ (0), eR 98]) rfl (b_i2l (ev_w_in (by omega) (by omega))) rfl ?_
  refine w_s (np := 141) (lv' := [some (eR 98), some (eI (7)), some (eI (0)), some (eI (1)), some (eI (p)), some (eI (q)), some (eI (r)), some (eI (s)), some (eI (84)), some (eI (88))]) (st' := [eR 98, eJ (s), eJ (v7), eJ (v4), eJ (v1), eJ (0), eJ (-1), eJ (0), eJ (0), eR 98]) rfl (s_an rfl (by decide)) rfl ?_
  refine w_gf (np := 144) (v := eR 100) rfl rfl hq.1 (by rw [hq.2.1]; rfl) ?_
  refine w_s (np := 146) (lv' := [some (eR 98), some (eI (7)), some (eI (0)), some (eI (1)), some (eI (p)), some (eI (q)), some (eI (r)), some (eI (s)), some (eI (84)), some (eI (88))]) (st' := [eI (84), eR 100, eJ (s), eJ (v7), eJ (v4), eJ (v1), eJ (0), eJ (-1), eJ (0), eJ (0), eR 98]) rfl rfl rfl ?_
  refine w_s (np := 147) (lv' := [some (eR 98), some (eI (7)), some (eI (0)), some (eI (1)), some (eI (p)), some (eI (q)), some (eI (r)), some (eI (s)), some (eI (84)), some (eI (88))]) (st' := [eI (3), eI (84), eR 100, eJ (s), eJ (v7), eJ (v4), eJ (v1), eJ (0), eJ (-1), eJ (0), eJ (0), eR 98]) rfl rfl rfl ?_
  refine w_s (np := 148) (lv' := [some (eR 98), some (eI (7)), some (eI (0)), some (eI (1)), some (eI (p)), some (eI (q)), some (eI (r)), some (eI (s)), some (eI (84)), some (eI (88))]) (st' := [eI (87), eR 100, eJ (s), eJ (v7), eJ (v4), eJ (v1), eJ (0), eJ (-1), eJ (0), eJ (0), eR 98]) rfl (b_iadd rfl) rfl ?_
  refine w_al (np := 149) (v := 0) rfl rfl (t_al (k := 87) hq rfl (by decide) rfl) ?_
  refine w_s (np := 150) (lv' := [some (eR 98), some (eI (7)), some (eI (0)), some (eI (1)), some (eI (p)), some (eI (q)), some (eI (r)), some (eI (s)), some (eI (84)), some (eI (88))]) (st' := [eJ (0), eJ (s), eJ (v7), eJ (v4), eJ (v1), eJ (0), eJ (-1), eJ (0), eJ (0), eR 98]) rfl (b_i2l rfl) rfl ?_
  obtain ⟨v10, e11⟩ : ∃ v : Int, v = (s) - (0) := ⟨_, rfl⟩
  have b12 : -9999 ≤ v10 ∧ v10 ≤ 9999 := by omega
  refine w_s (np := 151) (lv' := [some (eR 98), some (eI (7)), some (eI (0)), some (eI (1)), some (eI (p)), some (eI (q)), some (eI (r)), some (eI (s)), some (eI (84)), some (eI (88))]) (st' := [eJ (v10), eJ (v7), eJ (v4), eJ (v1), eJ (0), eJ (-1), eJ (0), eJ (0), eR 98]) rfl (b_lsub (by rw [← e11]; exact ev_W_in (by omega) (by omega))) rfl ?_
  refine w_cv (np := 154) (as := [eJ (0), eJ (0), eJ (-1), eJ (0), eJ (v1), eJ (v4), eJ (v7), eJ (v10)]) (lv' := [some (eR 98), some (eJ (0)), none, some (eJ (0)), none, some (eJ (-1)), none, some (eJ (0)), none, some (eJ (v1)), none, some (eJ (v4)), none, some (eJ (v7)), none, some (eJ (v10)), none]) (rest := []) rfl rfl rfl (Nat.ble_eq.mp rfl) rfl rfl rfl hq.1 rfl ?_
  refine t224 hq.1 (show (-8 : Int) ≤ 0 ∧ (0 : Int) ≤ 8 by omega) (show (-8 : Int) ≤ 0 ∧ (0 : Int) ≤ 8 by omega) (show (-8 : Int) ≤ -1 ∧ (-1 : Int) ≤ 8 by omega) (show (-8 : Int) ≤ 0 ∧ (0 : Int) ≤ 8 by omega) (show (-100000 : Int) ≤ v1 ∧ (v1 : Int) ≤ 100000 by omega) (show (-100000 : Int) ≤ v4 ∧ (v4 : Int) ≤ 100000 by omega) (show (-100000 : Int) ≤ v7 ∧ (v7 : Int) ≤ 100000 by omega) (show (-100000 : Int) ≤ v10 ∧ (v10 : Int) ≤ 100000 by omega) ?_
  intro m B G s1 eB eG bB bG
  show ex_fine fg rc rs (d + 4, (265, 154, [some (eR 98), some (eI (7)), some (eI (0)), some (eI (1)), some (eI (p)), some (eI (q)), some (eI (r)), some (eI (s)), some (eI (84)), some (eI (88))], [eI (rSg (2 * B + G) G)]), f :: F, m)
  refine b_ri rfl rfl ?_
  have hB : B = 1 * q + (-1) * s := by omega
  have hG : G = 1 * p := by omega
  have hr := rSg_ok (x := 2 * B + G) (b := G) (by omega)
  have e9 : 416020 * (2 * B + G) + 930249 * G = 1346269 * p + 832040 * q + (-832040) * s := by omega
  rw [e9] at hr
  exact K m _ s1 hr (rSg_v _ _)
theorem t265_7_1 {fg : eG} {rc rs d : Nat} {f : eFr} {F : List eFr} {μ : eM} {p q r s : Int} (hq : tQ μ) (hp : -9999 ≤ p ∧ p ≤ 9999) (hq0 : -9999 ≤ q ∧ q ≤ 9999) (hr : -9999 ≤ r ∧ r ≤ 9999) (hs : -9999 ≤ s ∧ s ≤ 9999) (K : ∀ (μ2 : eM) (u : Int), tS μ μ2 → ((0 ≤ u ↔ 0 ≤ 514229 * q + 832040 * r + 832040 * s + (832040)) ∧ (u ≤ 0 ↔ 514229 * q + 832040 * r + 832040 * s + (832040) ≤ 0)) → (u = 0 ∨ u = 1 ∨ u = -1) → ex_fine fg rc rs (d + 5, (f.1, f.2.1, f.2.2.1, eI u :: f.2.2.2), F, μ2)) : ex_fine fg rc rs (d + 4, (265, 0, [some (eR 98), some (eI (7)), some (eI (1)), some (eI (2)), some (eI (p)), some (eI (q)), some (eI (r)), some (eI (s)), none, none], []), f :: F, μ) := by
  refine w_s (np := 2) (lv' := [some (eR 98), some (eI (7)), some (eI (1)), some (eI (2)), some (eI (p)), some (eI (q)), some (eI (r)), some (eI (s)), none, none]) (st' := [eI (12)]) rfl rfl rfl ?_
  refine w_s (np := 3) (lv' := [some (eR 98), some (eI (7)), some (eI (1)), some (eI (2)), some (eI (p)), some (eI (q)), some (eI (r)), some (eI (s)), none, none]) (st' := [eI (7), eI (12)]) rfl rfl rfl ?_
  refine w_s (np := 4) (lv' := [some (eR 98), some (eI (7)), some (eI (1)), some (eI (2)), some (eI (p)), some (eI (q)), some (eI (r)), some (eI (s)), none, none]) (st' := [eI (84)]) rfl (b_imul rfl) rfl ?_
  refine w_s (np := 5) (lv' := [some (eR 98), some (eI (7)), some (eI (1)), some (eI (2)), some (eI (p)), some (eI (q)), some (eI (r)), some (eI (s)), none, none]) (st' := [eI (4), eI (84)]) rfl rfl rfl ?_
  refine w_s (np := 6) (lv' := [some (eR 98), some (eI (7)), some (eI (1)), some (eI (2)), some (eI (p)), some (eI (q)), some (eI (r)), some (eI (s)), none, none]) (st' := [eI (1), eI (4), eI (84)]) rfl rfl rfl ?_
  refine w_s (np := 7) (lv' := [some (eR 98), some (eI (7)), some (eI (1)), some (eI (2)), some (eI (p)), some (eI (q)), some (eI (r)), some (eI (s)), none, none]) (st' := [eI (4), eI (84)]) rfl (b_imul rfl) rfl ?_
  refine w_s (np := 8) (lv' := [some (eR 98), some (eI (7)), some (eI (1)), some (eI (2)), some (eI (p)), some (eI (q)), some (eI (r)), some (eI (s)), none, none]) (st' := [eI (88)]) rfl (b_iadd rfl) rfl ?_
  refine w_s (np := 10) (lv' := [some (eR 98), some (eI (7)), some (eI (1)), some (eI (2)), some (eI (p)), some (eI (q)), some (eI (r)), some (eI (s)), some (eI (88)), none]) (st' := []) rfl rfl rfl ?_
  refine w_s (np := 12) (lv' := [some (eR 98), some (eI (7)), some (eI (1)), some (eI (2)), some (eI (p)), some (eI (q)), some (eI (r)), some (eI (s)), some (eI (88)), none]) (st' := [eI (12)]) rfl rfl rfl ?_
  refine w_s (np := 13) (lv' := [some (eR 98), some (eI (7)), some (eI (1)), some (eI (2)), some (eI (p)), some (eI (q)), some (eI (r)), some (eI (s)), some (eI (88)), none]) (st' := [eI (7), eI (12)]) rfl rfl rfl ?_
  refine w_s (np := 14) (lv' := [some (eR 98), some (eI (7)), some (eI (1)), some (eI (2)), some (eI (p)), some (eI (q)), some (eI (r)), some (eI (s)), some (eI (88)), none]) (st' := [eI (84)]) rfl (b_imul rfl) rfl ?_
  refine w_s (np := 15) (lv' := [some (eR 98), some (eI (7)), some (eI (1)), some (eI (2)), some (eI (p)), some (eI (q)), some (eI (r)), some (eI (s)), some (eI (88)), none]) (st' := [eI (4), eI (84)]) rfl rfl rfl ?_
  refine w_s (np := 16) (lv' := [some (eR 98), some (eI (7)), some (eI (1)), some (eI (2)), some (eI (p)), some (eI (q)), some (eI (r)), some (eI (s)), some (eI (88)), none]) (st' := [eI (2), eI (4), eI (84)]) rfl rfl rfl ?_
  refine w_s (np := 17) (lv' := [some (eR 98), some (eI (7)), some (eI (1)), some (eI (2)), some (eI (p)), some (eI (q)), some (eI (r)), some (eI (s)), some (eI (88)), none]) (st' := [eI (8), eI (84)]) rfl (b_imul rfl) rfl ?_
  refine w_s (np := 18) (lv' := [some (eR 98), some (eI (7)), some (eI (1)), some (eI (2)), some (eI (p)), some (eI (q)), some (eI (r)), some (eI (s)), some (eI (88)), none]) (st' := [eI (92)]) rfl (b_iadd rfl) rfl ?_
  refine w_s (np := 20) (lv' := [some (eR 98), some (eI (7)), some (eI (1)), some (eI (2)), some (eI (p)), some (eI (q)), some (eI (r)), some (eI (s)), some (eI (88)), some (eI (92))]) (st' := []) rfl rfl rfl ?_
  refine w_s (np := 21) (lv' := [some (eR 98), some (eI (7)), some (eI (1)), some (eI (2)), some (eI (p)), some (eI (q)), some (eI (r)), some (eI (s)), some (eI (88)), some (eI (92))]) (st' := [eR 98]) rfl (s_an rfl (by decide)) rfl ?_
  refine w_s (np := 22) (lv' := [some (eR 98), some (eI (7)), some (eI (1)), some (eI (2)), some (eI (p)), some (eI (q)), some (eI (r)), some (eI (s)), some (eI (88)), some (eI (92))]) (st' := [eR 98, eR 98]) rfl (s_an rfl (by decide)) rfl ?_
  refine w_gf (np := 25) (v := eR 100) rfl rfl hq.1 (by rw [hq.2.1]; rfl) ?_
  refine w_s (np := 27) (lv' := [some (eR 98), some (eI (7)), some (eI (1)), some (eI (2)), some (eI (p)), some (eI (q)), some (eI (r)), some (eI (s)), some (eI (88)), some (eI (92))]) (st' := [eI (92), eR 100, eR 98]) rfl rfl rfl ?_
  refine w_al (np := 28) (v := 0) rfl rfl (t_al (k := 92) hq rfl (by decide) rfl) ?_
  refine w_s (np := 29) (lv' := [some (eR 98), some (eI (7)), some (eI (1)), some (eI (2)), some (eI (p)), some (eI (q)), some (eI (r)), some (eI (s)), some (eI (88)), some (eI (92))]) (st' := [eR 98, eI (0), eR 98]) rfl (s_an rfl (by decide)) rfl ?_
  refine w_gf (np := 32) (v := eR 100) rfl rfl hq.1 (by rw [hq.2.1]; rfl) ?_
  refine w_s (np := 34) (lv' := [some (eR 98), some (eI (7)), some (eI (1)), some (eI (2)), some (eI (p)), some (eI (q)), some (eI (r)), some (eI (s)), some (eI (88)), some (eI (92))]) (st' := [eI (88), eR 100, eI (0), eR 98]) rfl rfl rfl ?_
  refine w_al (np := 35) (v := 0) rfl rfl (t_al (k := 88) hq rfl (by decide) rfl) ?_
  refine w_s (np := 36) (lv' := [some (eR 98), some (eI (7)), some (eI (1)), some (eI (2)), some (eI (p)), some (eI (q)), some (eI (r)), some (eI (s)), some (eI (88)), some (eI (92))]) (st' := [eI (0), eR 98]) rfl (b_isub rfl) rfl ?_
  refine w_s (np := 37) (lv' := [some (eR 98), some (eI (7)), some (eI (1)), some (eI (2)), some (eI (p)), some (eI (q)), some (eI (r)), some (eI (s)), some (eI (88)), some (eI (92))]) (st' := [eJ (0), eR 98]) rfl (b_i2l rfl) rfl ?_
  refine w_s (np := 38) (lv' := [some (eR 98), some (eI (7)), some (eI (1)), some (eI (2)), some (eI (p)), some (eI (q)), some (eI (r)), some (eI (s)), some (eI (88)), some (eI (92))]) (st' := [eR 98, eJ (0), eR 98]) rfl (s_an rfl (by decide)) rfl ?_
  refine w_gf (np := 41) (v := eR 100) rfl rfl hq.1 (by rw [hq.2.1]; rfl) ?_
  refine w_s (np := 43) (lv' := [some (eR 98), some (eI (7)), some (eI (1)), some (eI (2)), some (eI (p)), some (eI (q)), some (eI (r)), some (eI (s)), some (eI (88)), some (eI (92))]) (st' := [eI (92), eR 100, eJ (0), eR 98]) rfl rfl rfl ?_
  refine w_s (np := 44) (lv' := [some (eR 98), some (eI (7)), some (eI (1)), some (eI (2)), some (eI (p)), some (eI (q)), some (eI (r)), some (eI (s)), some (eI (88)), some (eI (92))]) (st' := [eI (1), eI (92), eR 100, eJ (0), eR 98]) rfl rfl rfl ?_
  refine w_s (np := 45) (lv' := [some (eR 98), some (eI (7)), some (eI (1)), some (eI (2)), some (eI (p)), some (eI (q)), some (eI (r)), some (eI (s)), some (eI (88)), some (eI (92))]) (st' := [eI (93), eR 100, eJ (0), eR 98]) rfl (b_iadd rfl) rfl ?_
  refine w_al (np := 46) (v := 0) rfl rfl (t_al (k := 93) hq rfl (by decide) rfl) ?_
  refine w_s (np := 47) (lv' := [some (eR 98), some (eI (7)), some (eI (1)), some (eI (2)), some (eI (p)), some (eI (q)), some (eI (r)), some (eI (s)), some (eI (88)), some (eI (92))]) (st' := [eR 98, eI (0), eJ (0), eR 98]) rfl (s_an rfl (by decide)) rfl ?_
  refine w_gf (np := 50) (v := eR 100) rfl rfl hq.1 (by rw [hq.2.1]; rfl) ?_
  refine w_s (np := 52) (lv' := [some (eR 98), some (eI (7)), some (eI (1)), some (eI (2)), some (eI (p)), some (eI (q)), some (eI (r)), some (eI (s)), some (eI (88)), some (eI (92))]) (st' := [eI (88), eR 100, eI (0), eJ (0), eR 98]) rfl rfl rfl ?_
  refine w_s (np := 53) (lv' := [some (eR 98), some (eI (7)), some (eI (1)), some (eI (2)), some (eI (p)), some (eI (q)), some (eI (r)), some (eI (s)), some (eI (88)), some (eI (92))]) (st' := [eI (1), eI (88), eR 100, eI (0), eJ (0), eR 98]) rfl rfl rfl ?_
  refine w_s (np := 54) (lv' := [some (eR 98), some (eI (7)), some (eI (1)), some (eI (2)), some (eI (p)), some (eI (q)), some (eI (r)), some (eI (s)), some (eI (88)), some (eI (92))]) (st' := [eI (89), eR 100, eI (0), eJ (0), eR 98]) rfl (b_iadd rfl) rfl ?_
  refine w_al (np := 55) (v := 0) rfl rfl (t_al (k := 89) hq rfl (by decide) rfl) ?_
  refine w_s (np := 56) (lv' := [some (eR 98), some (eI (7)), some (eI (1)), some (eI (2)), some (eI (p)), some (eI (q)), some (eI (r)), some (eI (s)), some (eI (88)), some (eI (92))]) (st' := [eI (0), eJ (0), eR 98]) rfl (b_isub rfl) rfl ?_
  refine w_s (np := 57) (lv' := [some (eR 98), some (eI (7)), some (eI (1)), some (eI (2)), some (eI (p)), some (eI (q)), some (eI (r)), some (eI (s)), some (eI (88)), some (eI (92))]) (st' := [eJ (0), eJ (0), eR 98]) rfl (b_i2l rfl) rfl ?_
  refine w_s (np := 58) (lv' := [some (eR 98), some (eI (7)), some (eI (1)), some (eI (2)), some (eI (p)), some (eI (q)), some (eI (r)), some (eI (s)), some (eI (88)), some (eI (92))]) (st' := [eR 98, eJ (0), eJ (0), eR 98]) rfl (s_an rfl (by decide)) rfl ?_
  refine w_gf (np := 61) (v := eR 100) rfl rfl hq.1 (by rw [hq.2.1]; rfl) ?_
  refine w_s (np := 63) (lv' := [some (eR 98), some (eI (7)), some (eI (1)), some (eI (2)), some (eI (p)), some (eI (q)), some (eI (r)), some (eI (s)), some (eI (88)), some (eI (92))]) (st' := [eI (92), eR 100, eJ (0), eJ (0), eR 98]) rfl rfl rfl ?_
  refine w_s (np := 64) (lv' := [some (eR 98), some (eI (7)), some (eI (1)), some (eI (2)), some (eI (p)), some (eI (q)), some (eI (r)), some (eI (s)), some (eI (88)), some (eI (92))]) (st' := [eI (2), eI (92), eR 100, eJ (0), eJ (0), eR 98]) rfl rfl rfl ?_
  refine w_s (np := 65) (lv' := [some (eR 98), some (eI (7)), some (eI (1)), some (eI (2)), some (eI (p)), some (eI (q)), some (eI (r)), some (eI (s)), some (eI (88)), some (eI (92))]) (st' := [eI (94), eR 100, eJ (0), eJ (0), eR 98]) rfl (b_iadd rfl) rfl ?_
  refine w_al (np := 66) (v := 0) rfl rfl (t_al (k := 94) hq rfl (by decide) rfl) ?_
  refine w_s (np := 67) (lv' := [some (eR 98), some (eI (7)), some (eI (1)), some (eI (2)), some (eI (p)), some (eI (q)), some (eI (r)), some (eI (s)), some (eI (88)), some (eI (92))]) (st' := [eR 98, eI (0), eJ (0), eJ (0), eR 98]) rfl (s_an rfl (by decide)) rfl ?_
  refine w_gf (np := 70) (v := eR 100) rfl rfl hq.1 (by rw [hq.2.1]; rfl) ?_
  refine w_s (np := 72) (lv' := [some (eR 98), some (eI (7)), some (eI (1)), some (eI (2)), some (eI (p)), some (eI (q)), some (eI (r)), some (eI (s)), some (eI (88)), some (eI (92))]) (st' := [eI (88), eR 100, eI (0), eJ (0), eJ (0), eR 98]) rfl rfl rfl ?_
  refine w_s (np := 73) (lv' := [some (eR 98), some (eI (7)), some (eI (1)), some (eI (2)), some (eI (p)), some (eI (q)), some (eI (r)), some (eI (s)), some (eI (88)), some (eI (92))]) (st' := [eI (2), eI (88), eR 100, eI (0), eJ (0), eJ (0), eR 98]) rfl rfl rfl ?_
  refine w_s (np := 74) (lv' := [some (eR 98), some (eI (7)), some (eI (1)), some (eI (2)), some (eI (p)), some (eI (q)), some (eI (r)), some (eI (s)), some (eI (88)), some (eI (92))]) (st' := [eI (90), eR 100, eI (0), eJ (0), eJ (0), eR 98]) rfl (b_iadd rfl) rfl ?_
  refine w_al (np := 75) (v := -1) rfl rfl (t_al (k := 90) hq rfl (by decide) rfl) ?_
  refine w_s (np := 76) (lv' := [some (eR 98), some (eI (7)), some (eI (1)), some (eI (2)), some (eI (p)), some (eI (q)), some (eI (r)), some (eI (s)), some (eI (88)), some (eI (92))]) (st' := [eI (1), eJ (0), eJ (0), eR 98]) rfl (b_isub rfl) rfl ?_
  refine w_s (np := 77) (lv' := [some (eR 98), some (eI (7)), some (eI (1)), some (eI (2)), some (eI (p)), some (eI (q)), some (eI (r)), some (eI (s)), some (eI (88)), some (eI (92))]) (st' := [eJ (1), eJ (0), eJ (0), eR 98]) rfl (b_i2l rfl) rfl ?_
  refine w_s (np := 78) (lv' := [some (eR 98), some (eI (7)), some (eI (1)), some (eI (2)), some (eI (p)), some (eI (q)), some (eI (r)), some (eI (s)), some (eI (88)), some (eI (92))]) (st' := [eR 98, eJ (1), eJ (0), eJ (0), eR 98]) rfl (s_an rfl (by decide)) rfl ?_
  refine w_gf (np := 81) (v := eR 100) rfl rfl hq.1 (by rw [hq.2.1]; rfl) ?_
  refine w_s (np := 83) (lv' := [some (eR 98), some (eI (7)), some (eI (1)), some (eI (2)), some (eI (p)), some (eI (q)), some (eI (r)), some (eI (s)), some (eI (88)), some (eI (92))]) (st' := [eI (92), eR 100, eJ (1), eJ (0), eJ (0), eR 98]) rfl rfl rfl ?_
  refine w_s (np := 84) (lv' := [some (eR 98), some (eI (7)), some (eI (1)), some (eI (2)), some (eI (p)), some (eI (q)), some (eI (r)), some (eI (s)), some (eI (88)), some (eI (92))]) (st' := [eI (3), eI (92), eR 100, eJ (1), eJ (0), eJ (0), eR 98]) rfl rfl rfl ?_
  refine w_s (np := 85) (lv' := [some (eR 98), some (eI (7)), some (eI (1)), some (eI (2)), some (eI (p)), some (eI (q)), some (eI (r)), some (eI (s)), some (eI (88)), some (eI (92))]) (st' := [eI (95), eR 100, eJ (1), eJ (0), eJ (0), eR 98]) rfl (b_iadd rfl) rfl ?_
  refine w_al (np := 86) (v := -1) rfl rfl (t_al (k := 95) hq rfl (by decide) rfl) ?_
  refine w_s (np := 87) (lv' := [some (eR 98), some (eI (7)), some (eI (1)), some (eI (2)), some (eI (p)), some (eI (q)), some (eI (r)), some (eI (s)), some (eI (88)), some (eI (92))]) (st' := [eR 98, eI (-1), eJ (1), eJ (0), eJ (0), eR 98]) rfl (s_an rfl (by decide)) rfl ?_
  refine w_gf (np := 90) (v := eR 100) rfl rfl hq.1 (by rw [hq.2.1]; rfl) ?_
  refine w_s (np := 92) (lv' := [some (eR 98), some (eI (7)), some (eI (1)), some (eI (2)), some (eI (p)), some (eI (q)), some (eI (r)), some (eI (s)), some (eI (88)), some (eI (92))]) (st' := [eI (88), eR 100, eI (-1), eJ (1), eJ (0), eJ (0), eR 98]) rfl rfl rfl ?_
  refine w_s (np := 93) (lv' := [some (eR 98), some (eI (7)), some (eI (1)), some (eI (2)), some (eI (p)), some (eI (q)), some (eI (r)), some (eI (s)), some (eI (88)), some (eI (92))]) (st' := [eI (3), eI (88), eR 100, eI (-1), eJ (1), eJ (0), eJ (0), eR 98]) rfl rfl rfl ?_
  refine w_s (np := 94) (lv' := [some (eR 98), some (eI (7)), some (eI (1)), some (eI (2)), some (eI (p)), some (eI (q)), some (eI (r)), some (eI (s)), some (eI (88)), some (eI (92))]) (st' := [eI (91), eR 100, eI (-1), eJ (1), eJ (0), eJ (0), eR 98]) rfl (b_iadd rfl) rfl ?_
  refine w_al (np := 95) (v := 0) rfl rfl (t_al (k := 91) hq rfl (by decide) rfl) ?_
  refine w_s (np := 96) (lv' := [some (eR 98), some (eI (7)), some (eI (1)), some (eI (2)), some (eI (p)), some (eI (q)), some (eI (r)), some (eI (s)), some (eI (88)), some (eI (92))]) (st' := [eI (-1), eJ (1), eJ (0), eJ (0), eR 98]) rfl (b_isub rfl) rfl ?_
  refine w_s (np := 97) (lv' := [some (eR 98), some (eI (7)), some (eI (1)), some (eI (2)), some (eI (p)), some (eI (q)), some (eI (r)), some (eI (s)), some (eI (88)), some (eI (92))]) (st' := [eJ (-1), eJ (1), eJ (0), eJ (0), eR 98]) rfl (b_i2l rfl) rfl ?_
  refine w_s (np := 99) (lv' := [some (eR 98), some (eI (7)), some (eI (1)), some (eI (2)), some (eI (p)), some (eI (q)), some (eI (r)), some (eI (s)), some (eI (88)), some (eI (92))]) (st' := [eI (p), eJ (-1), eJ (1), eJ (0), eJ (0), eR 98]) rfl rfl rfl ?_
  refine w_s (np := 100) (lv' := [some (eR 98), some (eI (7)), some (eI (1)), some (eI (2)), some (eI (p)), some (eI (q)), some (eI (r)), some (eI (s)), some (eI (88)), some (eI (92))]) (st' := [eJ (p), eJ (-1), eJ (1), eJ (0), eJ (0), eR 98]) rfl (b_i2l (ev_w_in (by omega) (by omega))) rfl ?_
  refine w_s (np := 101) (lv' := [some (eR 98), some (eI (7)), some (eI (1)), some (eI (2)), some (eI (p)), some (eI (q)), some (eI (r)), some (eI (s)), some (eI (88)), some (eI (92))]) (st' := [eR 98, eJ (p), eJ (-1), eJ (1), eJ (0), eJ (0), eR 98]) rfl (s_an rfl (by decide)) rfl ?_
  refine w_gf (np := 104) (v := eR 100) rfl rfl hq.1 (by rw [hq.2.1]; rfl) ?_
  refine w_s (np := 106) (lv' := [some (eR 98), some (eI (7)), some (eI (1)), some (eI (2)), some (eI (p)), some (eI (q)), some (eI (r)), some (eI (s)), some (eI (88)), some (eI (92))]) (st' := [eI (88), eR 100, eJ (p), eJ (-1), eJ (1), eJ (0), eJ (0), eR 98]) rfl rfl rfl ?_
  refine w_al (np := 107) (v := 0) rfl rfl (t_al (k := 88) hq rfl (by decide) rfl) ?_
  refine w_s (np := 108) (lv' := [some (eR 98), some (eI (7)), some (eI (1)), some (eI (2)), some (eI (p)), some (eI (q)), some (eI (r)), some (eI (s)), some (eI (88)), some (eI (92))]) (st' := [eJ (0), eJ (p), eJ (-1), eJ (1), eJ (0), eJ (0), eR 98]) rfl (b_i2l rfl) rfl ?_
  obtain ⟨v1, e2⟩ : ∃ v : Int, v = (p) - (0) := ⟨_, rfl⟩
  have b3 : -9999 ≤ v1 ∧ v1 ≤ 9999 := by omega
  refine w_s (np := 109) (lv' := [some (eR 98), some (eI (7)), some (eI (1)), some (eI (2)), some (eI (p)), some (eI (q)), some (eI (r)), some (eI (s)), some (eI (88)), some (eI (92))]) (st' := [eJ (v1), eJ (-1), eJ (1), eJ (0), eJ (0), eR 98]) rfl (b_lsub (by rw [← e2]; exact ev_W_in (by omega) (by omega))) rfl ?_
  refine w_s (np := 111) (lv' := [some (eR 98), some (eI (7)), some (eI (1)), some (eI (2)), some (eI (p)), some (eI (q)), some (eI (r)), some (eI (s)), some (eI (88)), some (eI (92))]) (st' := [eI (q), eJ (v1), eJ (-1), eJ (1), eJ (0), eJ (0), eR 98]) rfl rfl rfl ?_
  refine w_s (np := 112) (lv' := [some (eR 98), some (eI (7)), some (eI (1)), some (eI (2)), some (eI (p)), some (eI (q)), some (eI (r)), some (eI (s)), some (eI (88)), some (eI (92))]) (st' := [eJ (q), eJ (v1), eJ (-1), eJ (1), eJ (0), eJ (0), eR 98]) rfl (b_i2l (ev_w_in (by omega) (by omega))) rfl ?_
  refine w_s (np := 113) (lv' := [some (eR 98), some (eI (7)), some (eI (1)), some (eI (2)), some (eI (p)), some (eI (q)), some (eI (r)), some (eI (s)), some (eI (88)), some (eI (92))]) (st' := [eR 98, eJ (q), eJ (v1), eJ (-1), eJ (1), eJ (0), eJ (0), eR 98]) rfl (s_an rfl (by decide)) rfl ?_
  refine w_gf (np := 116) (v := eR 100) rfl rfl hq.1 (by rw [hq.2.1]; rfl) ?_
  refine w_s (np := 118) (lv' := [some (eR 98), some (eI (7)), some (eI (1)), some (eI (2)), some (eI (p)), some (eI (q)), some (eI (r)), some (eI (s)), some (eI (88)), some (eI (92))]) (st' := [eI (88), eR 100, eJ (q), eJ (v1), eJ (-1), eJ (1), eJ (0), eJ (0), eR 98]) rfl rfl rfl ?_
  refine w_s (np := 119) (lv' := [some (eR 98), some (eI (7)), some (eI (1)), some (eI (2)), some (eI (p)), some (eI (q)), some (eI (r)), some (eI (s)), some (eI (88)), some (eI (92))]) (st' := [eI (1), eI (88), eR 100, eJ (q), eJ (v1), eJ (-1), eJ (1), eJ (0), eJ (0), eR 98]) rfl rfl rfl ?_
  refine w_s (np := 120) (lv' := [some (eR 98), some (eI (7)), some (eI (1)), some (eI (2)), some (eI (p)), some (eI (q)), some (eI (r)), some (eI (s)), some (eI (88)), some (eI (92))]) (st' := [eI (89), eR 100, eJ (q), eJ (v1), eJ (-1), eJ (1), eJ (0), eJ (0), eR 98]) rfl (b_iadd rfl) rfl ?_
  refine w_al (np := 121) (v := 0) rfl rfl (t_al (k := 89) hq rfl (by decide) rfl) ?_
  refine w_s (np := 122) (lv' := [some (eR 98), some (eI (7)), some (eI (1)), some (eI (2)), some (eI (p)), some (eI (q)), some (eI (r)), some (eI (s)), some (eI (88)), some (eI (92))]) (st' := [eJ (0), eJ (q), eJ (v1), eJ (-1), eJ (1), eJ (0), eJ (0), eR 98]) rfl (b_i2l rfl) rfl ?_
  obtain ⟨v4, e5⟩ : ∃ v : Int, v = (q) - (0) := ⟨_, rfl⟩
  have b6 : -9999 ≤ v4 ∧ v4 ≤ 9999 := by omega
  refine w_s (np := 123) (lv' := [some (eR 98), some (eI (7)), some (eI (1)), some (eI (2)), some (eI (p)), some (eI (q)), some (eI (r)), some (eI (s)), some (eI (88)), some (eI (92))]) (st' := [eJ (v4), eJ (v1), eJ (-1), eJ (1), eJ (0), eJ (0), eR 98]) rfl (b_lsub (by rw [← e5]; exact ev_W_in (by omega) (by omega))) rfl ?_
  refine w_s (np := 125) (lv' := [some (eR 98), some (eI (7)), some (eI (1)), some (eI (2)), some (eI (p)), some (eI (q)), some (eI (r)), some (eI (s)), some (eI (88)), some (eI (92))]) (st' := [eI (r), eJ (v4), eJ (v1), eJ (-1), eJ (1), eJ (0), eJ (0), eR 98]) rfl rfl rfl ?_
  refine w_s (np := 126) (lv' := [some (eR 98), some (eI (7)), some (eI (1)), some (eI (2)), some (eI (p)), some (eI (q)), some (eI (r)), some (eI (s)), some (eI (88)), some (eI (92))]) (st' := [eJ (r), eJ (v4), eJ (v1), eJ (-1), eJ (1), eJ (0), eJ (0), eR 98]) rfl (b_i2l (ev_w_in (by omega) (by omega))) rfl ?_
  refine w_s (np := 127) (lv' := [some (eR 98), some (eI (7)), some (eI (1)), some (eI (2)), some (eI (p)), some (eI (q)), some (eI (r)), some (eI (s)), some (eI (88)), some (eI (92))]) (st' := [eR 98, eJ (r), eJ (v4), eJ (v1), eJ (-1), eJ (1), eJ (0), eJ (0), eR 98]) rfl (s_an rfl (by decide)) rfl ?_
  refine w_gf (np := 130) (v := eR 100) rfl rfl hq.1 (by rw [hq.2.1]; rfl) ?_
  refine w_s (np := 132) (lv' := [some (eR 98), some (eI (7)), some (eI (1)), some (eI (2)), some (eI (p)), some (eI (q)), some (eI (r)), some (eI (s)), some (eI (88)), some (eI (92))]) (st' := [eI (88), eR 100, eJ (r), eJ (v4), eJ (v1), eJ (-1), eJ (1), eJ (0), eJ (0), eR 98]) rfl rfl rfl ?_
  refine w_s (np := 133) (lv' := [some (eR 98), some (eI (7)), some (eI (1)), some (eI (2)), some (eI (p)), some (eI (q)), some (eI (r)), some (eI (s)), some (eI (88)), some (eI (92))]) (st' := [eI (2), eI (88), eR 100, eJ (r), eJ (v4), eJ (v1), eJ (-1), eJ (1), eJ (0), eJ (0), eR 98]) rfl rfl rfl ?_
  refine w_s (np := 134) (lv' := [some (eR 98), some (eI (7)), some (eI (1)), some (eI (2)), some (eI (p)), some (eI (q)), some (eI (r)), some (eI (s)), some (eI (88)), some (eI (92))]) (st' := [eI (90), eR 100, eJ (r), eJ (v4), eJ (v1), eJ (-1), eJ (1), eJ (0), eJ (0), eR 98]) rfl (b_iadd rfl) rfl ?_
  refine w_al (np := 135) (v := -1) rfl rfl (t_al (k := 90) hq rfl (by decide) rfl) ?_
  refine w_s (np := 136) (lv' := [some (eR 98), some (eI (7)), some (eI (1)), some (eI (2)), some (eI (p)), some (eI (q)), some (eI (r)), some (eI (s)), some (eI (88)), some (eI (92))]) (st' := [eJ (-1), eJ (r), eJ (v4), eJ (v1), eJ (-1), eJ (1), eJ (0), eJ (0), eR 98]) rfl (b_i2l rfl) rfl ?_
  obtain ⟨v7, e8⟩ : ∃ v : Int, v = (r) - (-1) := ⟨_, rfl⟩
  have b9 : -9998 ≤ v7 ∧ v7 ≤ 10000 := by omega
  refine w_s (np := 137) (lv' := [some (eR 98), some (eI (7)), some (eI (1)), some (eI (2)), some (eI (p)), some (eI (q)), some (eI (r)), some (eI (s)), some (eI (88)), some (eI (92))]) (st' := [eJ (v7), eJ (v4), eJ (v1), eJ (-1), eJ (1), eJ (0), eJ (0), eR 98]) rfl (b_lsub (by rw [← e8]; exact ev_W_in (by omega) (by omega))) rfl ?_
  refine w_s (np := 139) (lv' := [some (eR 98), some (eI (7)), some (eI (1)), some (eI (2)), some (eI (p)), some (eI (q)), some (eI (r)), some (eI (s)), some (eI (88)), some (eI (92))]) (st' := [eI (s), eJ (v7), eJ (v4), eJ (v1), eJ (-1), eJ (1), eJ (0), eJ (0), eR 98]) rfl rfl rfl ?_
  refine w_s (np := 140) (lv' := [some (eR 98), some (eI (7)), some (eI (1)), some (eI (2)), some (eI (p)), some (eI (q)), some (eI (r)), some (eI (s)), some (eI (88)), some (eI (92))]) (st' := [eJ (s), eJ (v7), eJ (v4), eJ (v1), eJ (-1), eJ (1), eJ (0), eJ (0), eR 98]) rfl (b_i2l (ev_w_in (by omega) (by omega))) rfl ?_
  refine w_s (np := 141) (lv' := [some (eR 98), some (eI (7)), some (eI (1)), some (eI (2)), some (eI (p)), some (eI (q)), some (eI (r)), some (eI (s)), some (eI (88)), some (eI (92))]) (st' := [eR 98, eJ (s), eJ (v7), eJ (v4), eJ (v1), eJ (-1), eJ (1), eJ (0), eJ (0), eR 98]) rfl (s_an rfl (by decide)) rfl ?_
  refine w_gf (np := 144) (v := eR 100) rfl rfl hq.1 (by rw [hq.2.1]; rfl) ?_
  refine w_s (np := 146) (lv' := [some (eR 98), some (eI (7)), some (eI (1)), some (eI (2)), some (eI (p)), some (eI (q)), some (eI (r)), some (eI (s)), some (eI (88)), some (eI (92))]) (st' := [eI (88), eR 100, eJ (s), eJ (v7), eJ (v4), eJ (v1), eJ (-1), eJ (1), eJ (0), eJ (0), eR 98]) rfl rfl rfl ?_
  refine w_s (np := 147) (lv' := [some (eR 98), some (eI (7)), some (eI (1)), some (eI (2)), some (eI (p)), some (eI (q)), some (eI (r)), some (eI (s)), some (eI (88)), some (eI (92))]) (st' := [eI (3), eI (88), eR 100, eJ (s), eJ (v7), eJ (v4), eJ (v1), eJ (-1), eJ (1), eJ (0), eJ (0), eR 98]) rfl rfl rfl ?_
  refine w_s (np := 148) (lv' := [some (eR 98), some (eI (7)), some (eI (1)), some (eI (2)), some (eI (p)), some (eI (q)), some (eI (r)), some (eI (s)), some (eI (88)), some (eI (92))]) (st' := [eI (91), eR 100, eJ (s), eJ (v7), eJ (v4), eJ (v1), eJ (-1), eJ (1), eJ (0), eJ (0), eR 98]) rfl (b_iadd rfl) rfl ?_
  refine w_al (np := 149) (v := 0) rfl rfl (t_al (k := 91) hq rfl (by decide) rfl) ?_
  refine w_s (np := 150) (lv' := [some (eR 98), some (eI (7)), some (eI (1)), some (eI (2)), some (eI (p)), some (eI (q)), some (eI (r)), some (eI (s)), some (eI (88)), some (eI (92))]) (st' := [eJ (0), eJ (s), eJ (v7), eJ (v4), eJ (v1), eJ (-1), eJ (1), eJ (0), eJ (0), eR 98]) rfl (b_i2l rfl) rfl ?_
  obtain ⟨v10, e11⟩ : ∃ v : Int, v = (s) - (0) := ⟨_, rfl⟩
  have b12 : -9999 ≤ v10 ∧ v10 ≤ 9999 := by omega
  refine w_s (np := 151) (lv' := [some (eR 98), some (eI (7)), some (eI (1)), some (eI (2)), some (eI (p)), some (eI (q)), some (eI (r)), some (eI (s)), some (eI (88)), some (eI (92))]) (st' := [eJ (v10), eJ (v7), eJ (v4), eJ (v1), eJ (-1), eJ (1), eJ (0), eJ (0), eR 98]) rfl (b_lsub (by rw [← e11]; exact ev_W_in (by omega) (by omega))) rfl ?_
  refine w_cv (np := 154) (as := [eJ (0), eJ (0), eJ (1), eJ (-1), eJ (v1), eJ (v4), eJ (v7), eJ (v10)]) (lv' := [some (eR 98), some (eJ (0)), none, some (eJ (0)), none, some (eJ (1)), none, some (eJ (-1)), none, some (eJ (v1)), none, some (eJ (v4)), none, some (eJ (v7)), none, some (eJ (v10)), none]) (rest := []) rfl rfl rfl (Nat.ble_eq.mp rfl) rfl rfl rfl hq.1 rfl ?_
  refine t224 hq.1 (show (-8 : Int) ≤ 0 ∧ (0 : Int) ≤ 8 by omega) (show (-8 : Int) ≤ 0 ∧ (0 : Int) ≤ 8 by omega) (show (-8 : Int) ≤ 1 ∧ (1 : Int) ≤ 8 by omega) (show (-8 : Int) ≤ -1 ∧ (-1 : Int) ≤ 8 by omega) (show (-100000 : Int) ≤ v1 ∧ (v1 : Int) ≤ 100000 by omega) (show (-100000 : Int) ≤ v4 ∧ (v4 : Int) ≤ 100000 by omega) (show (-100000 : Int) ≤ v7 ∧ (v7 : Int) ≤ 100000 by omega) (show (-100000 : Int) ≤ v10 ∧ (v10 : Int) ≤ 100000 by omega) ?_
  intro m B G s1 eB eG bB bG
  show ex_fine fg rc rs (d + 4, (265, 154, [some (eR 98), some (eI (7)), some (eI (1)), some (eI (2)), some (eI (p)), some (eI (q)), some (eI (r)), some (eI (s)), some (eI (88)), some (eI (92))], [eI (rSg (2 * B + G) G)]), f :: F, m)
  refine b_ri rfl rfl ?_
  have hB : B = (-1) * q + 1 * r + 1 * s + (1) := by omega
  have hG : G = 1 * q := by omega
  have hr := rSg_ok (x := 2 * B + G) (b := G) (by omega)
  have e9 : 416020 * (2 * B + G) + 930249 * G = 514229 * q + 832040 * r + 832040 * s + (832040) := by omega
  rw [e9] at hr
  exact K m _ s1 hr (rSg_v _ _)
theorem t265_7_2 {fg : eG} {rc rs d : Nat} {f : eFr} {F : List eFr} {μ : eM} {p q r s : Int} (hq : tQ μ) (hp : -9999 ≤ p ∧ p ≤ 9999) (hq0 : -9999 ≤ q ∧ q ≤ 9999) (hr : -9999 ≤ r ∧ r ≤ 9999) (hs : -9999 ≤ s ∧ s ≤ 9999) (K : ∀ (μ2 : eM) (u : Int), tS μ μ2 → ((0 ≤ u ↔ 0 ≤ (-1346269) * p + (-1346269) * q + (-832040) * r) ∧ (u ≤ 0 ↔ (-1346269) * p + (-1346269) * q + (-832040) * r ≤ 0)) → (u = 0 ∨ u = 1 ∨ u = -1) → ex_fine fg rc rs (d + 5, (f.1, f.2.1, f.2.2.1, eI u :: f.2.2.2), F, μ2)) : ex_fine fg rc rs (d + 4, (265, 0, [some (eR 98), some (eI (7)), some (eI (2)), some (eI (0)), some (eI (p)), some (eI (q)), some (eI (r)), some (eI (s)), none, none], []), f :: F, μ) := by
  refine w_s (np := 2) (lv' := [some (eR 98), some (eI (7)), some (eI (2)), some (eI (0)), some (eI (p)), some (eI (q)), some (eI (r)), some (eI (s)), none, none]) (st' := [eI (12)]) rfl rfl rfl ?_
  refine w_s (np := 3) (lv' := [some (eR 98), some (eI (7)), some (eI (2)), some (eI (0)), some (eI (p)), some (eI (q)), some (eI (r)), some (eI (s)), none, none]) (st' := [eI (7), eI (12)]) rfl rfl rfl ?_
  refine w_s (np := 4) (lv' := [some (eR 98), some (eI (7)), some (eI (2)), some (eI (0)), some (eI (p)), some (eI (q)), some (eI (r)), some (eI (s)), none, none]) (st' := [eI (84)]) rfl (b_imul rfl) rfl ?_
  refine w_s (np := 5) (lv' := [some (eR 98), some (eI (7)), some (eI (2)), some (eI (0)), some (eI (p)), some (eI (q)), some (eI (r)), some (eI (s)), none, none]) (st' := [eI (4), eI (84)]) rfl rfl rfl ?_
  refine w_s (np := 6) (lv' := [some (eR 98), some (eI (7)), some (eI (2)), some (eI (0)), some (eI (p)), some (eI (q)), some (eI (r)), some (eI (s)), none, none]) (st' := [eI (2), eI (4), eI (84)]) rfl rfl rfl ?_
  refine w_s (np := 7) (lv' := [some (eR 98), some (eI (7)), some (eI (2)), some (eI (0)), some (eI (p)), some (eI (q)), some (eI (r)), some (eI (s)), none, none]) (st' := [eI (8), eI (84)]) rfl (b_imul rfl) rfl ?_
  refine w_s (np := 8) (lv' := [some (eR 98), some (eI (7)), some (eI (2)), some (eI (0)), some (eI (p)), some (eI (q)), some (eI (r)), some (eI (s)), none, none]) (st' := [eI (92)]) rfl (b_iadd rfl) rfl ?_
  refine w_s (np := 10) (lv' := [some (eR 98), some (eI (7)), some (eI (2)), some (eI (0)), some (eI (p)), some (eI (q)), some (eI (r)), some (eI (s)), some (eI (92)), none]) (st' := []) rfl rfl rfl ?_
  refine w_s (np := 12) (lv' := [some (eR 98), some (eI (7)), some (eI (2)), some (eI (0)), some (eI (p)), some (eI (q)), some (eI (r)), some (eI (s)), some (eI (92)), none]) (st' := [eI (12)]) rfl rfl rfl ?_
  refine w_s (np := 13) (lv' := [some (eR 98), some (eI (7)), some (eI (2)), some (eI (0)), some (eI (p)), some (eI (q)), some (eI (r)), some (eI (s)), some (eI (92)), none]) (st' := [eI (7), eI (12)]) rfl rfl rfl ?_
  refine w_s (np := 14) (lv' := [some (eR 98), some (eI (7)), some (eI (2)), some (eI (0)), some (eI (p)), some (eI (q)), some (eI (r)), some (eI (s)), some (eI (92)), none]) (st' := [eI (84)]) rfl (b_imul rfl) rfl ?_
  refine w_s (np := 15) (lv' := [some (eR 98), some (eI (7)), some (eI (2)), some (eI (0)), some (eI (p)), some (eI (q)), some (eI (r)), some (eI (s)), some (eI (92)), none]) (st' := [eI (4), eI (84)]) rfl rfl rfl ?_
  refine w_s (np := 16) (lv' := [some (eR 98), some (eI (7)), some (eI (2)), some (eI (0)), some (eI (p)), some (eI (q)), some (eI (r)), some (eI (s)), some (eI (92)), none]) (st' := [eI (0), eI (4), eI (84)]) rfl rfl rfl ?_
  refine w_s (np := 17) (lv' := [some (eR 98), some (eI (7)), some (eI (2)), some (eI (0)), some (eI (p)), some (eI (q)), some (eI (r)), some (eI (s)), some (eI (92)), none]) (st' := [eI (0), eI (84)]) rfl (b_imul rfl) rfl ?_
  refine w_s (np := 18) (lv' := [some (eR 98), some (eI (7)), some (eI (2)), some (eI (0)), some (eI (p)), some (eI (q)), some (eI (r)), some (eI (s)), some (eI (92)), none]) (st' := [eI (84)]) rfl (b_iadd rfl) rfl ?_
  refine w_s (np := 20) (lv' := [some (eR 98), some (eI (7)), some (eI (2)), some (eI (0)), some (eI (p)), some (eI (q)), some (eI (r)), some (eI (s)), some (eI (92)), some (eI (84))]) (st' := []) rfl rfl rfl ?_
  refine w_s (np := 21) (lv' := [some (eR 98), some (eI (7)), some (eI (2)), some (eI (0)), some (eI (p)), some (eI (q)), some (eI (r)), some (eI (s)), some (eI (92)), some (eI (84))]) (st' := [eR 98]) rfl (s_an rfl (by decide)) rfl ?_
  refine w_s (np := 22) (lv' := [some (eR 98), some (eI (7)), some (eI (2)), some (eI (0)), some (eI (p)), some (eI (q)), some (eI (r)), some (eI (s)), some (eI (92)), some (eI (84))]) (st' := [eR 98, eR 98]) rfl (s_an rfl (by decide)) rfl ?_
  refine w_gf (np := 25) (v := eR 100) rfl rfl hq.1 (by rw [hq.2.1]; rfl) ?_
  refine w_s (np := 27) (lv' := [some (eR 98), some (eI (7)), some (eI (2)), some (eI (0)), some (eI (p)), some (eI (q)), some (eI (r)), some (eI (s)), some (eI (92)), some (eI (84))]) (st' := [eI (84), eR 100, eR 98]) rfl rfl rfl ?_
  refine w_al (np := 28) (v := 0) rfl rfl (t_al (k := 84) hq rfl (by decide) rfl) ?_
  refine w_s (np := 29) (lv' := [some (eR 98), some (eI (7)), some (eI (2)), some (eI (0)), some (eI (p)), some (eI (q)), some (eI (r)), some (eI (s)), some (eI (92)), some (eI (84))]) (st' := [eR 98, eI (0), eR 98]) rfl (s_an rfl (by decide)) rfl ?_
  refine w_gf (np := 32) (v := eR 100) rfl rfl hq.1 (by rw [hq.2.1]; rfl) ?_
  refine w_s (np := 34) (lv' := [some (eR 98), some (eI (7)), some (eI (2)), some (eI (0)), some (eI (p)), some (eI (q)), some (eI (r)), some (eI (s)), some (eI (92)), some (eI (84))]) (st' := [eI (92), eR 100, eI (0), eR 98]) rfl rfl rfl ?_
  refine w_al (np := 35) (v := 0) rfl rfl (t_al (k := 92) hq rfl (by decide) rfl) ?_
  refine w_s (np := 36) (lv' := [some (eR 98), some (eI (7)), some (eI (2)), some (eI (0)), some (eI (p)), some (eI (q)), some (eI (r)), some (eI (s)), some (eI (92)), some (eI (84))]) (st' := [eI (0), eR 98]) rfl (b_isub rfl) rfl ?_
  refine w_s (np := 37) (lv' := [some (eR 98), some (eI (7)), some (eI (2)), some (eI (0)), some (eI (p)), some (eI (q)), some (eI (r)), some (eI (s)), some (eI (92)), some (eI (84))]) (st' := [eJ (0), eR 98]) rfl (b_i2l rfl) rfl ?_
  refine w_s (np := 38) (lv' := [some (eR 98), some (eI (7)), some (eI (2)), some (eI (0)), some (eI (p)), some (eI (q)), some (eI (r)), some (eI (s)), some (eI (92)), some (eI (84))]) (st' := [eR 98, eJ (0), eR 98]) rfl (s_an rfl (by decide)) rfl ?_
  refine w_gf (np := 41) (v := eR 100) rfl rfl hq.1 (by rw [hq.2.1]; rfl) ?_
  refine w_s (np := 43) (lv' := [some (eR 98), some (eI (7)), some (eI (2)), some (eI (0)), some (eI (p)), some (eI (q)), some (eI (r)), some (eI (s)), some (eI (92)), some (eI (84))]) (st' := [eI (84), eR 100, eJ (0), eR 98]) rfl rfl rfl ?_
  refine w_s (np := 44) (lv' := [some (eR 98), some (eI (7)), some (eI (2)), some (eI (0)), some (eI (p)), some (eI (q)), some (eI (r)), some (eI (s)), some (eI (92)), some (eI (84))]) (st' := [eI (1), eI (84), eR 100, eJ (0), eR 98]) rfl rfl rfl ?_
  refine w_s (np := 45) (lv' := [some (eR 98), some (eI (7)), some (eI (2)), some (eI (0)), some (eI (p)), some (eI (q)), some (eI (r)), some (eI (s)), some (eI (92)), some (eI (84))]) (st' := [eI (85), eR 100, eJ (0), eR 98]) rfl (b_iadd rfl) rfl ?_
  refine w_al (np := 46) (v := 0) rfl rfl (t_al (k := 85) hq rfl (by decide) rfl) ?_
  refine w_s (np := 47) (lv' := [some (eR 98), some (eI (7)), some (eI (2)), some (eI (0)), some (eI (p)), some (eI (q)), some (eI (r)), some (eI (s)), some (eI (92)), some (eI (84))]) (st' := [eR 98, eI (0), eJ (0), eR 98]) rfl (s_an rfl (by decide)) rfl ?_
  refine w_gf (np := 50) (v := eR 100) rfl rfl hq.1 (by rw [hq.2.1]; rfl) ?_
  refine w_s (np := 52) (lv' := [some (eR 98), some (eI (7)), some (eI (2)), some (eI (0)), some (eI (p)), some (eI (q)), some (eI (r)), some (eI (s)), some (eI (92)), some (eI (84))]) (st' := [eI (92), eR 100, eI (0), eJ (0), eR 98]) rfl rfl rfl ?_
  refine w_s (np := 53) (lv' := [some (eR 98), some (eI (7)), some (eI (2)), some (eI (0)), some (eI (p)), some (eI (q)), some (eI (r)), some (eI (s)), some (eI (92)), some (eI (84))]) (st' := [eI (1), eI (92), eR 100, eI (0), eJ (0), eR 98]) rfl rfl rfl ?_
  refine w_s (np := 54) (lv' := [some (eR 98), some (eI (7)), some (eI (2)), some (eI (0)), some (eI (p)), some (eI (q)), some (eI (r)), some (eI (s)), some (eI (92)), some (eI (84))]) (st' := [eI (93), eR 100, eI (0), eJ (0), eR 98]) rfl (b_iadd rfl) rfl ?_
  refine w_al (np := 55) (v := 0) rfl rfl (t_al (k := 93) hq rfl (by decide) rfl) ?_
  refine w_s (np := 56) (lv' := [some (eR 98), some (eI (7)), some (eI (2)), some (eI (0)), some (eI (p)), some (eI (q)), some (eI (r)), some (eI (s)), some (eI (92)), some (eI (84))]) (st' := [eI (0), eJ (0), eR 98]) rfl (b_isub rfl) rfl ?_
  refine w_s (np := 57) (lv' := [some (eR 98), some (eI (7)), some (eI (2)), some (eI (0)), some (eI (p)), some (eI (q)), some (eI (r)), some (eI (s)), some (eI (92)), some (eI (84))]) (st' := [eJ (0), eJ (0), eR 98]) rfl (b_i2l rfl) rfl ?_
  refine w_s (np := 58) (lv' := [some (eR 98), some (eI (7)), some (eI (2)), some (eI (0)), some (eI (p)), some (eI (q)), some (eI (r)), some (eI (s)), some (eI (92)), some (eI (84))]) (st' := [eR 98, eJ (0), eJ (0), eR 98]) rfl (s_an rfl (by decide)) rfl ?_
  refine w_gf (np := 61) (v := eR 100) rfl rfl hq.1 (by rw [hq.2.1]; rfl) ?_
  refine w_s (np := 63) (lv' := [some (eR 98), some (eI (7)), some (eI (2)), some (eI (0)), some (eI (p)), some (eI (q)), some (eI (r)), some (eI (s)), some (eI (92)), some (eI (84))]) (st' := [eI (84), eR 100, eJ (0), eJ (0), eR 98]) rfl rfl rfl ?_
  refine w_s (np := 64) (lv' := [some (eR 98), some (eI (7)), some (eI (2)), some (eI (0)), some (eI (p)), some (eI (q)), some (eI (r)), some (eI (s)), some (eI (92)), some (eI (84))]) (st' := [eI (2), eI (84), eR 100, eJ (0), eJ (0), eR 98]) rfl rfl rfl ?_
  refine w_s (np := 65) (lv' := [some (eR 98), some (eI (7)), some (eI (2)), some (eI (0)), some (eI (p)), some (eI (q)), some (eI (r)), some (eI (s)), some (eI (92)), some (eI (84))]) (st' := [eI (86), eR 100, eJ (0), eJ (0), eR 98]) rfl (b_iadd rfl) rfl ?_
  refine w_al (np := 66) (v := 0) rfl rfl (t_al (k := 86) hq rfl (by decide) rfl) ?_
  refine w_s (np := 67) (lv' := [some (eR 98), some (eI (7)), some (eI (2)), some (eI (0)), some (eI (p)), some (eI (q)), some (eI (r)), some (eI (s)), some (eI (92)), some (eI (84))]) (st' := [eR 98, eI (0), eJ (0), eJ (0), eR 98]) rfl (s_an rfl (by decide)) rfl ?_
  refine w_gf (np := 70) (v := eR 100) rfl rfl hq.1 (by rw [hq.2.1]; rfl) ?_
  refine w_s (np := 72) (lv' := [some (eR 98), some (eI (7)), some (eI (2)), some (eI (0)), some (eI (p)), some (eI (q)), some (eI (r)), some (eI (s)), some (eI (92)), some (eI (84))]) (st' := [eI (92), eR 100, eI (0), eJ (0), eJ (0), eR 98]) rfl rfl rfl ?_
  refine w_s (np := 73) (lv' := [some (eR 98), some (eI (7)), some (eI (2)), some (eI (0)), some (eI (p)), some (eI (q)), some (eI (r)), some (eI (s)), some (eI (92)), some (eI (84))]) (st' := [eI (2), eI (92), eR 100, eI (0), eJ (0), eJ (0), eR 98]) rfl rfl rfl ?_
  refine w_s (np := 74) (lv' := [some (eR 98), some (eI (7)), some (eI (2)), some (eI (0)), some (eI (p)), some (eI (q)), some (eI (r)), some (eI (s)), some (eI (92)), some (eI (84))]) (st' := [eI (94), eR 100, eI (0), eJ (0), eJ (0), eR 98]) rfl (b_iadd rfl) rfl ?_
  refine w_al (np := 75) (v := 0) rfl rfl (t_al (k := 94) hq rfl (by decide) rfl) ?_
  refine w_s (np := 76) (lv' := [some (eR 98), some (eI (7)), some (eI (2)), some (eI (0)), some (eI (p)), some (eI (q)), some (eI (r)), some (eI (s)), some (eI (92)), some (eI (84))]) (st' := [eI (0), eJ (0), eJ (0), eR 98]) rfl (b_isub rfl) rfl ?_
  refine w_s (np := 77) (lv' := [some (eR 98), some (eI (7)), some (eI (2)), some (eI (0)), some (eI (p)), some (eI (q)), some (eI (r)), some (eI (s)), some (eI (92)), some (eI (84))]) (st' := [eJ (0), eJ (0), eJ (0), eR 98]) rfl (b_i2l rfl) rfl ?_
  refine w_s (np := 78) (lv' := [some (eR 98), some (eI (7)), some (eI (2)), some (eI (0)), some (eI (p)), some (eI (q)), some (eI (r)), some (eI (s)), some (eI (92)), some (eI (84))]) (st' := [eR 98, eJ (0), eJ (0), eJ (0), eR 98]) rfl (s_an rfl (by decide)) rfl ?_
  refine w_gf (np := 81) (v := eR 100) rfl rfl hq.1 (by rw [hq.2.1]; rfl) ?_
  refine w_s (np := 83) (lv' := [some (eR 98), some (eI (7)), some (eI (2)), some (eI (0)), some (eI (p)), some (eI (q)), some (eI (r)), some (eI (s)), some (eI (92)), some (eI (84))]) (st' := [eI (84), eR 100, eJ (0), eJ (0), eJ (0), eR 98]) rfl rfl rfl ?_
  refine w_s (np := 84) (lv' := [some (eR 98), some (eI (7)), some (eI (2)), some (eI (0)), some (eI (p)), some (eI (q)), some (eI (r)), some (eI (s)), some (eI (92)), some (eI (84))]) (st' := [eI (3), eI (84), eR 100, eJ (0), eJ (0), eJ (0), eR 98]) rfl rfl rfl ?_
  refine w_s (np := 85) (lv' := [some (eR 98), some (eI (7)), some (eI (2)), some (eI (0)), some (eI (p)), some (eI (q)), some (eI (r)), some (eI (s)), some (eI (92)), some (eI (84))]) (st' := [eI (87), eR 100, eJ (0), eJ (0), eJ (0), eR 98]) rfl (b_iadd rfl) rfl ?_
  refine w_al (np := 86) (v := 0) rfl rfl (t_al (k := 87) hq rfl (by decide) rfl) ?_
  refine w_s (np := 87) (lv' := [some (eR 98), some (eI (7)), some (eI (2)), some (eI (0)), some (eI (p)), some (eI (q)), some (eI (r)), some (eI (s)), some (eI (92)), some (eI (84))]) (st' := [eR 98, eI (0), eJ (0), eJ (0), eJ (0), eR 98]) rfl (s_an rfl (by decide)) rfl ?_
  refine w_gf (np := 90) (v := eR 100) rfl rfl hq.1 (by rw [hq.2.1]; rfl) ?_
  refine w_s (np := 92) (lv' := [some (eR 98), some (eI (7)), some (eI (2)), some (eI (0)), some (eI (p)), some (eI (q)), some (eI (r)), some (eI (s)), some (eI (92)), some (eI (84))]) (st' := [eI (92), eR 100, eI (0), eJ (0), eJ (0), eJ (0), eR 98]) rfl rfl rfl ?_
  refine w_s (np := 93) (lv' := [some (eR 98), some (eI (7)), some (eI (2)), some (eI (0)), some (eI (p)), some (eI (q)), some (eI (r)), some (eI (s)), some (eI (92)), some (eI (84))]) (st' := [eI (3), eI (92), eR 100, eI (0), eJ (0), eJ (0), eJ (0), eR 98]) rfl rfl rfl ?_
  refine w_s (np := 94) (lv' := [some (eR 98), some (eI (7)), some (eI (2)), some (eI (0)), some (eI (p)), some (eI (q)), some (eI (r)), some (eI (s)), some (eI (92)), some (eI (84))]) (st' := [eI (95), eR 100, eI (0), eJ (0), eJ (0), eJ (0), eR 98]) rfl (b_iadd rfl) rfl ?_
  refine w_al (np := 95) (v := -1) rfl rfl (t_al (k := 95) hq rfl (by decide) rfl) ?_
  refine w_s (np := 96) (lv' := [some (eR 98), some (eI (7)), some (eI (2)), some (eI (0)), some (eI (p)), some (eI (q)), some (eI (r)), some (eI (s)), some (eI (92)), some (eI (84))]) (st' := [eI (1), eJ (0), eJ (0), eJ (0), eR 98]) rfl (b_isub rfl) rfl ?_
  refine w_s (np := 97) (lv' := [some (eR 98), some (eI (7)), some (eI (2)), some (eI (0)), some (eI (p)), some (eI (q)), some (eI (r)), some (eI (s)), some (eI (92)), some (eI (84))]) (st' := [eJ (1), eJ (0), eJ (0), eJ (0), eR 98]) rfl (b_i2l rfl) rfl ?_
  refine w_s (np := 99) (lv' := [some (eR 98), some (eI (7)), some (eI (2)), some (eI (0)), some (eI (p)), some (eI (q)), some (eI (r)), some (eI (s)), some (eI (92)), some (eI (84))]) (st' := [eI (p), eJ (1), eJ (0), eJ (0), eJ (0), eR 98]) rfl rfl rfl ?_
  refine w_s (np := 100) (lv' := [some (eR 98), some (eI (7)), some (eI (2)), some (eI (0)), some (eI (p)), some (eI (q)), some (eI (r)), some (eI (s)), some (eI (92)), some (eI (84))]) (st' := [eJ (p), eJ (1), eJ (0), eJ (0), eJ (0), eR 98]) rfl (b_i2l (ev_w_in (by omega) (by omega))) rfl ?_
  refine w_s (np := 101) (lv' := [some (eR 98), some (eI (7)), some (eI (2)), some (eI (0)), some (eI (p)), some (eI (q)), some (eI (r)), some (eI (s)), some (eI (92)), some (eI (84))]) (st' := [eR 98, eJ (p), eJ (1), eJ (0), eJ (0), eJ (0), eR 98]) rfl (s_an rfl (by decide)) rfl ?_
  refine w_gf (np := 104) (v := eR 100) rfl rfl hq.1 (by rw [hq.2.1]; rfl) ?_
  refine w_s (np := 106) (lv' := [some (eR 98), some (eI (7)), some (eI (2)), some (eI (0)), some (eI (p)), some (eI (q)), some (eI (r)), some (eI (s)), some (eI (92)), some (eI (84))]) (st' := [eI (92), eR 100, eJ (p), eJ (1), eJ (0), eJ (0), eJ (0), eR 98]) rfl rfl rfl ?_
  refine w_al (np := 107) (v := 0) rfl rfl (t_al (k := 92) hq rfl (by decide) rfl) ?_
  refine w_s (np := 108) (lv' := [some (eR 98), some (eI (7)), some (eI (2)), some (eI (0)), some (eI (p)), some (eI (q)), some (eI (r)), some (eI (s)), some (eI (92)), some (eI (84))]) (st' := [eJ (0), eJ (p), eJ (1), eJ (0), eJ (0), eJ (0), eR 98]) rfl (b_i2l rfl) rfl ?_
  obtain ⟨v1, e2⟩ : ∃ v : Int, v = (p) - (0) := ⟨_, rfl⟩
  have b3 : -9999 ≤ v1 ∧ v1 ≤ 9999 := by omega
  refine w_s (np := 109) (lv' := [some (eR 98), some (eI (7)), some (eI (2)), some (eI (0)), some (eI (p)), some (eI (q)), some (eI (r)), some (eI (s)), some (eI (92)), some (eI (84))]) (st' := [eJ (v1), eJ (1), eJ (0), eJ (0), eJ (0), eR 98]) rfl (b_lsub (by rw [← e2]; exact ev_W_in (by omega) (by omega))) rfl ?_
  refine w_s (np := 111) (lv' := [some (eR 98), some (eI (7)), some (eI (2)), some (eI (0)), some (eI (p)), some (eI (q)), some (eI (r)), some (eI (s)), some (eI (92)), some (eI (84))]) (st' := [eI (q), eJ (v1), eJ (1), eJ (0), eJ (0), eJ (0), eR 98]) rfl rfl rfl ?_
  refine w_s (np := 112) (lv' := [some (eR 98), some (eI (7)), some (eI (2)), some (eI (0)), some (eI (p)), some (eI (q)), some (eI (r)), some (eI (s)), some (eI (92)), some (eI (84))]) (st' := [eJ (q), eJ (v1), eJ (1), eJ (0), eJ (0), eJ (0), eR 98]) rfl (b_i2l (ev_w_in (by omega) (by omega))) rfl ?_
  refine w_s (np := 113) (lv' := [some (eR 98), some (eI (7)), some (eI (2)), some (eI (0)), some (eI (p)), some (eI (q)), some (eI (r)), some (eI (s)), some (eI (92)), some (eI (84))]) (st' := [eR 98, eJ (q), eJ (v1), eJ (1), eJ (0), eJ (0), eJ (0), eR 98]) rfl (s_an rfl (by decide)) rfl ?_
  refine w_gf (np := 116) (v := eR 100) rfl rfl hq.1 (by rw [hq.2.1]; rfl) ?_
  refine w_s (np := 118) (lv' := [some (eR 98), some (eI (7)), some (eI (2)), some (eI (0)), some (eI (p)), some (eI (q)), some (eI (r)), some (eI (s)), some (eI (92)), some (eI (84))]) (st' := [eI (92), eR 100, eJ (q), eJ (v1), eJ (1), eJ (0), eJ (0), eJ (0), eR 98]) rfl rfl rfl ?_
  refine w_s (np := 119) (lv' := [some (eR 98), some (eI (7)), some (eI (2)), some (eI (0)), some (eI (p)), some (eI (q)), some (eI (r)), some (eI (s)), some (eI (92)), some (eI (84))]) (st' := [eI (1), eI (92), eR 100, eJ (q), eJ (v1), eJ (1), eJ (0), eJ (0), eJ (0), eR 98]) rfl rfl rfl ?_
  refine w_s (np := 120) (lv' := [some (eR 98), some (eI (7)), some (eI (2)), some (eI (0)), some (eI (p)), some (eI (q)), some (eI (r)), some (eI (s)), some (eI (92)), some (eI (84))]) (st' := [eI (93), eR 100, eJ (q), eJ (v1), eJ (1), eJ (0), eJ (0), eJ (0), eR 98]) rfl (b_iadd rfl) rfl ?_
  refine w_al (np := 121) (v := 0) rfl rfl (t_al (k := 93) hq rfl (by decide) rfl) ?_
  refine w_s (np := 122) (lv' := [some (eR 98), some (eI (7)), some (eI (2)), some (eI (0)), some (eI (p)), some (eI (q)), some (eI (r)), some (eI (s)), some (eI (92)), some (eI (84))]) (st' := [eJ (0), eJ (q), eJ (v1), eJ (1), eJ (0), eJ (0), eJ (0), eR 98]) rfl (b_i2l rfl) rfl ?_
  obtain ⟨v4, e5⟩ : ∃ v : Int, v = (q) - (0) := ⟨_, rfl⟩
  have b6 : -9999 ≤ v4 ∧ v4 ≤ 9999 := by omega
  refine w_s (np := 123) (lv' := [some (eR 98), some (eI (7)), some (eI (2)), some (eI (0)), some (eI (p)), some (eI (q)), some (eI (r)), some (eI (s)), some (eI (92)), some (eI (84))]) (st' := [eJ (v4), eJ (v1), eJ (1), eJ (0), eJ (0), eJ (0), eR 98]) rfl (b_lsub (by rw [← e5]; exact ev_W_in (by omega) (by omega))) rfl ?_
  refine w_s (np := 125) (lv' := [some (eR 98), some (eI (7)), some (eI (2)), some (eI (0)), some (eI (p)), some (eI (q)), some (eI (r)), some (eI (s)), some (eI (92)), some (eI (84))]) (st' := [eI (r), eJ (v4), eJ (v1), eJ (1), eJ (0), eJ (0), eJ (0), eR 98]) rfl rfl rfl ?_
  refine w_s (np := 126) (lv' := [some (eR 98), some (eI (7)), some (eI (2)), some (eI (0)), some (eI (p)), some (eI (q)), some (eI (r)), some (eI (s)), some (eI (92)), some (eI (84))]) (st' := [eJ (r), eJ (v4), eJ (v1), eJ (1), eJ (0), eJ (0), eJ (0), eR 98]) rfl (b_i2l (ev_w_in (by omega) (by omega))) rfl ?_
  refine w_s (np := 127) (lv' := [some (eR 98), some (eI (7)), some (eI (2)), some (eI (0)), some (eI (p)), some (eI (q)), some (eI (r)), some (eI (s)), some (eI (92)), some (eI (84))]) (st' := [eR 98, eJ (r), eJ (v4), eJ (v1), eJ (1), eJ (0), eJ (0), eJ (0), eR 98]) rfl (s_an rfl (by decide)) rfl ?_
  refine w_gf (np := 130) (v := eR 100) rfl rfl hq.1 (by rw [hq.2.1]; rfl) ?_
  refine w_s (np := 132) (lv' := [some (eR 98), some (eI (7)), some (eI (2)), some (eI (0)), some (eI (p)), some (eI (q)), some (eI (r)), some (eI (s)), some (eI (92)), some (eI (84))]) (st' := [eI (92), eR 100, eJ (r), eJ (v4), eJ (v1), eJ (1), eJ (0), eJ (0), eJ (0), eR 98]) rfl rfl rfl ?_
  refine w_s (np := 133) (lv' := [some (eR 98), some (eI (7)), some (eI (2)), some (eI (0)), some (eI (p)), some (eI (q)), some (eI (r)), some (eI (s)), some (eI (92)), some (eI (84))]) (st' := [eI (2), eI (92), eR 100, eJ (r), eJ (v4), eJ (v1), eJ (1), eJ (0), eJ (0), eJ (0), eR 98]) rfl rfl rfl ?_
  refine w_s (np := 134) (lv' := [some (eR 98), some (eI (7)), some (eI (2)), some (eI (0)), some (eI (p)), some (eI (q)), some (eI (r)), some (eI (s)), some (eI (92)), some (eI (84))]) (st' := [eI (94), eR 100, eJ (r), eJ (v4), eJ (v1), eJ (1), eJ (0), eJ (0), eJ (0), eR 98]) rfl (b_iadd rfl) rfl ?_
  refine w_al (np := 135) (v := 0) rfl rfl (t_al (k := 94) hq rfl (by decide) rfl) ?_
  refine w_s (np := 136) (lv' := [some (eR 98), some (eI (7)), some (eI (2)), some (eI (0)), some (eI (p)), some (eI (q)), some (eI (r)), some (eI (s)), some (eI (92)), some (eI (84))]) (st' := [eJ (0), eJ (r), eJ (v4), eJ (v1), eJ (1), eJ (0), eJ (0), eJ (0), eR 98]) rfl (b_i2l rfl) rfl ?_
  obtain ⟨v7, e8⟩ : ∃ v : Int, v = (r) - (0) := ⟨_, rfl⟩
  have b9 : -9999 ≤ v7 ∧ v7 ≤ 9999 := by omega
  refine w_s (np := 137) (lv' := [some (eR 98), some (eI (7)), some (eI (2)), some (eI (0)), some (eI (p)), some (eI (q)), some (eI (r)), some (eI (s)), some (eI (92)), some (eI (84))]) (st' := [eJ (v7), eJ (v4), eJ (v1), eJ (1), eJ (0), eJ (0), eJ (0), eR 98]) rfl (b_lsub (by rw [← e8]; exact ev_W_in (by omega) (by omega))) rfl ?_
  refine w_s (np := 139) (lv' := [some (eR 98), some (eI (7)), some (eI (2)), some (eI (0)), some (eI (p)), some (eI (q)), some (eI (r)), some (eI (s)), some (eI (92)), some (eI (84))]) (st' := [eI (s), eJ (v7), eJ (v4), eJ (v1), eJ (1), eJ (0), eJ (0), eJ (0), eR 98]) rfl rfl rfl ?_
  refine w_s (np := 140) (lv' := [some (eR 98), some (eI (7)), some (eI (2)), some (eI (0)), some (eI (p)), some (eI (q)), some (eI (r)), some (eI (s)), some (eI (92)), some (eI (84))]) (st' := [eJ (s), eJ (v7), eJ (v4), eJ (v1), eJ (1), eJ (0), eJ (0), eJ (0), eR 98]) rfl (b_i2l (ev_w_in (by omega) (by omega))) rfl ?_
  refine w_s (np := 141) (lv' := [some (eR 98), some (eI (7)), some (eI (2)), some (eI (0)), some (eI (p)), some (eI (q)), some (eI (r)), some (eI (s)), some (eI (92)), some (eI (84))]) (st' := [eR 98, eJ (s), eJ (v7), eJ (v4), eJ (v1), eJ (1), eJ (0), eJ (0), eJ (0), eR 98]) rfl (s_an rfl (by decide)) rfl ?_
  refine w_gf (np := 144) (v := eR 100) rfl rfl hq.1 (by rw [hq.2.1]; rfl) ?_
  refine w_s (np := 146) (lv' := [some (eR 98), some (eI (7)), some (eI (2)), some (eI (0)), some (eI (p)), some (eI (q)), some (eI (r)), some (eI (s)), some (eI (92)), some (eI (84))]) (st' := [eI (92), eR 100, eJ (s), eJ (v7), eJ (v4), eJ (v1), eJ (1), eJ (0), eJ (0), eJ (0), eR 98]) rfl rfl rfl ?_
  refine w_s (np := 147) (lv' := [some (eR 98), some (eI (7)), some (eI (2)), some (eI (0)), some (eI (p)), some (eI (q)), some (eI (r)), some (eI (s)), some (eI (92)), some (eI (84))]) (st' := [eI (3), eI (92), eR 100, eJ (s), eJ (v7), eJ (v4), eJ (v1), eJ (1), eJ (0), eJ (0), eJ (0), eR 98]) rfl rfl rfl ?_
  refine w_s (np := 148) (lv' := [some (eR 98), some (eI (7)), some (eI (2)), some (eI (0)), some (eI (p)), some (eI (q)), some (eI (r)), some (eI (s)), some (eI (92)), some (eI (84))]) (st' := [eI (95), eR 100, eJ (s), eJ (v7), eJ (v4), eJ (v1), eJ (1), eJ (0), eJ (0), eJ (0), eR 98]) rfl (b_iadd rfl) rfl ?_
  refine w_al (np := 149) (v := -1) rfl rfl (t_al (k := 95) hq rfl (by decide) rfl) ?_
  refine w_s (np := 150) (lv' := [some (eR 98), some (eI (7)), some (eI (2)), some (eI (0)), some (eI (p)), some (eI (q)), some (eI (r)), some (eI (s)), some (eI (92)), some (eI (84))]) (st' := [eJ (-1), eJ (s), eJ (v7), eJ (v4), eJ (v1), eJ (1), eJ (0), eJ (0), eJ (0), eR 98]) rfl (b_i2l rfl) rfl ?_
  obtain ⟨v10, e11⟩ : ∃ v : Int, v = (s) - (-1) := ⟨_, rfl⟩
  have b12 : -9998 ≤ v10 ∧ v10 ≤ 10000 := by omega
  refine w_s (np := 151) (lv' := [some (eR 98), some (eI (7)), some (eI (2)), some (eI (0)), some (eI (p)), some (eI (q)), some (eI (r)), some (eI (s)), some (eI (92)), some (eI (84))]) (st' := [eJ (v10), eJ (v7), eJ (v4), eJ (v1), eJ (1), eJ (0), eJ (0), eJ (0), eR 98]) rfl (b_lsub (by rw [← e11]; exact ev_W_in (by omega) (by omega))) rfl ?_
  refine w_cv (np := 154) (as := [eJ (0), eJ (0), eJ (0), eJ (1), eJ (v1), eJ (v4), eJ (v7), eJ (v10)]) (lv' := [some (eR 98), some (eJ (0)), none, some (eJ (0)), none, some (eJ (0)), none, some (eJ (1)), none, some (eJ (v1)), none, some (eJ (v4)), none, some (eJ (v7)), none, some (eJ (v10)), none]) (rest := []) rfl rfl rfl (Nat.ble_eq.mp rfl) rfl rfl rfl hq.1 rfl ?_
  refine t224 hq.1 (show (-8 : Int) ≤ 0 ∧ (0 : Int) ≤ 8 by omega) (show (-8 : Int) ≤ 0 ∧ (0 : Int) ≤ 8 by omega) (show (-8 : Int) ≤ 0 ∧ (0 : Int) ≤ 8 by omega) (show (-8 : Int) ≤ 1 ∧ (1 : Int) ≤ 8 by omega) (show (-100000 : Int) ≤ v1 ∧ (v1 : Int) ≤ 100000 by omega) (show (-100000 : Int) ≤ v4 ∧ (v4 : Int) ≤ 100000 by omega) (show (-100000 : Int) ≤ v7 ∧ (v7 : Int) ≤ 100000 by omega) (show (-100000 : Int) ≤ v10 ∧ (v10 : Int) ≤ 100000 by omega) ?_
  intro m B G s1 eB eG bB bG
  show ex_fine fg rc rs (d + 4, (265, 154, [some (eR 98), some (eI (7)), some (eI (2)), some (eI (0)), some (eI (p)), some (eI (q)), some (eI (r)), some (eI (s)), some (eI (92)), some (eI (84))], [eI (rSg (2 * B + G) G)]), f :: F, m)
  refine b_ri rfl rfl ?_
  have hB : B = (-1) * r := by omega
  have hG : G = (-1) * p + (-1) * q := by omega
  have hr := rSg_ok (x := 2 * B + G) (b := G) (by omega)
  have e9 : 416020 * (2 * B + G) + 930249 * G = (-1346269) * p + (-1346269) * q + (-832040) * r := by omega
  rw [e9] at hr
  exact K m _ s1 hr (rSg_v _ _)
theorem t265_8_0 {fg : eG} {rc rs d : Nat} {f : eFr} {F : List eFr} {μ : eM} {p q r s : Int} (hq : tQ μ) (hp : -9999 ≤ p ∧ p ≤ 9999) (hq0 : -9999 ≤ q ∧ q ≤ 9999) (hr : -9999 ≤ r ∧ r ≤ 9999) (hs : -9999 ≤ s ∧ s ≤ 9999) (K : ∀ (μ2 : eM) (u : Int), tS μ μ2 → ((0 ≤ u ↔ 0 ≤ 832040 * p + 1346269 * q + 1346269 * r + 832040 * s) ∧ (u ≤ 0 ↔ 832040 * p + 1346269 * q + 1346269 * r + 832040 * s ≤ 0)) → (u = 0 ∨ u = 1 ∨ u = -1) → ex_fine fg rc rs (d + 5, (f.1, f.2.1, f.2.2.1, eI u :: f.2.2.2), F, μ2)) : ex_fine fg rc rs (d + 4, (265, 0, [some (eR 98), some (eI (8)), some (eI (0)), some (eI (1)), some (eI (p)), some (eI (q)), some (eI (r)), some (eI (s)), none, none], []), f :: F, μ) := by
  refine w_s (np := 2) (lv' := [some (eR 98), some (eI (8)), some (eI (0)), some (eI (1)), some (eI (p)), some (eI (q)), some (eI (r)), some (eI (s)), none, none]) (st' := [eI (12)]) rfl rfl rfl ?_
  refine w_s (np := 3) (lv' := [some (eR 98), some (eI (8)), some (eI (0)), some (eI (1)), some (eI (p)), some (eI (q)), some (eI (r)), some (eI (s)), none, none]) (st' := [eI (8), eI (12)]) rfl rfl rfl ?_
  refine w_s (np := 4) (lv' := [some (eR 98), some (eI (8)), some (eI (0)), some (eI (1)), some (eI (p)), some (eI (q)), some (eI (r)), some (eI (s)), none, none]) (st' := [eI (96)]) rfl (b_imul rfl) rfl ?_
  refine w_s (np := 5) (lv' := [some (eR 98), some (eI (8)), some (eI (0)), some (eI (1)), some (eI (p)), some (eI (q)), some (eI (r)), some (eI (s)), none, none]) (st' := [eI (4), eI (96)]) rfl rfl rfl ?_
  refine w_s (np := 6) (lv' := [some (eR 98), some (eI (8)), some (eI (0)), some (eI (1)), some (eI (p)), some (eI (q)), some (eI (r)), some (eI (s)), none, none]) (st' := [eI (0), eI (4), eI (96)]) rfl rfl rfl ?_
  refine w_s (np := 7) (lv' := [some (eR 98), some (eI (8)), some (eI (0)), some (eI (1)), some (eI (p)), some (eI (q)), some (eI (r)), some (eI (s)), none, none]) (st' := [eI (0), eI (96)]) rfl (b_imul rfl) rfl ?_
  refine w_s (np := 8) (lv' := [some (eR 98), some (eI (8)), some (eI (0)), some (eI (1)), some (eI (p)), some (eI (q)), some (eI (r)), some (eI (s)), none, none]) (st' := [eI (96)]) rfl (b_iadd rfl) rfl ?_
  refine w_s (np := 10) (lv' := [some (eR 98), some (eI (8)), some (eI (0)), some (eI (1)), some (eI (p)), some (eI (q)), some (eI (r)), some (eI (s)), some (eI (96)), none]) (st' := []) rfl rfl rfl ?_
  refine w_s (np := 12) (lv' := [some (eR 98), some (eI (8)), some (eI (0)), some (eI (1)), some (eI (p)), some (eI (q)), some (eI (r)), some (eI (s)), some (eI (96)), none]) (st' := [eI (12)]) rfl rfl rfl ?_
  refine w_s (np := 13) (lv' := [some (eR 98), some (eI (8)), some (eI (0)), some (eI (1)), some (eI (p)), some (eI (q)), some (eI (r)), some (eI (s)), some (eI (96)), none]) (st' := [eI (8), eI (12)]) rfl rfl rfl ?_
  refine w_s (np := 14) (lv' := [some (eR 98), some (eI (8)), some (eI (0)), some (eI (1)), some (eI (p)), some (eI (q)), some (eI (r)), some (eI (s)), some (eI (96)), none]) (st' := [eI (96)]) rfl (b_imul rfl) rfl ?_
  refine w_s (np := 15) (lv' := [some (eR 98), some (eI (8)), some (eI (0)), some (eI (1)), some (eI (p)), some (eI (q)), some (eI (r)), some (eI (s)), some (eI (96)), none]) (st' := [eI (4), eI (96)]) rfl rfl rfl ?_
  refine w_s (np := 16) (lv' := [some (eR 98), some (eI (8)), some (eI (0)), some (eI (1)), some (eI (p)), some (eI (q)), some (eI (r)), some (eI (s)), some (eI (96)), none]) (st' := [eI (1), eI (4), eI (96)]) rfl rfl rfl ?_
  refine w_s (np := 17) (lv' := [some (eR 98), some (eI (8)), some (eI (0)), some (eI (1)), some (eI (p)), some (eI (q)), some (eI (r)), some (eI (s)), some (eI (96)), none]) (st' := [eI (4), eI (96)]) rfl (b_imul rfl) rfl ?_
  refine w_s (np := 18) (lv' := [some (eR 98), some (eI (8)), some (eI (0)), some (eI (1)), some (eI (p)), some (eI (q)), some (eI (r)), some (eI (s)), some (eI (96)), none]) (st' := [eI (100)]) rfl (b_iadd rfl) rfl ?_
  refine w_s (np := 20) (lv' := [some (eR 98), some (eI (8)), some (eI (0)), some (eI (1)), some (eI (p)), some (eI (q)), some (eI (r)), some (eI (s)), some (eI (96)), some (eI (100))]) (st' := []) rfl rfl rfl ?_
  refine w_s (np := 21) (lv' := [some (eR 98), some (eI (8)), some (eI (0)), some (eI (1)), some (eI (p)), some (eI (q)), some (eI (r)), some (eI (s)), some (eI (96)), some (eI (100))]) (st' := [eR 98]) rfl (s_an rfl (by decide)) rfl ?_
  refine w_s (np := 22) (lv' := [some (eR 98), some (eI (8)), some (eI (0)), some (eI (1)), some (eI (p)), some (eI (q)), some (eI (r)), some (eI (s)), some (eI (96)), some (eI (100))]) (st' := [eR 98, eR 98]) rfl (s_an rfl (by decide)) rfl ?_
  refine w_gf (np := 25) (v := eR 100) rfl rfl hq.1 (by rw [hq.2.1]; rfl) ?_
  refine w_s (np := 27) (lv' := [some (eR 98), some (eI (8)), some (eI (0)), some (eI (1)), some (eI (p)), some (eI (q)), some (eI (r)), some (eI (s)), some (eI (96)), some (eI (100))]) (st' := [eI (100), eR 100, eR 98]) rfl rfl rfl ?_
  refine w_al (np := 28) (v := 1) rfl rfl (t_al (k := 100) hq rfl (by decide) rfl) ?_
  refine w_s (np := 29) (lv' := [some (eR 98), some (eI (8)), some (eI (0)), some (eI (1)), some (eI (p)), some (eI (q)), some (eI (r)), some (eI (s)), some (eI (96)), some (eI (100))]) (st' := [eR 98, eI (1), eR 98]) rfl (s_an rfl (by decide)) rfl ?_
  refine w_gf (np := 32) (v := eR 100) rfl rfl hq.1 (by rw [hq.2.1]; rfl) ?_
  refine w_s (np := 34) (lv' := [some (eR 98), some (eI (8)), some (eI (0)), some (eI (1)), some (eI (p)), some (eI (q)), some (eI (r)), some (eI (s)), some (eI (96)), some (eI (100))]) (st' := [eI (96), eR 100, eI (1), eR 98]) rfl rfl rfl ?_
  refine w_al (np := 35) (v := 0) rfl rfl (t_al (k := 96) hq rfl (by decide) rfl) ?_
  refine w_s (np := 36) (lv' := [some (eR 98), some (eI (8)), some (eI (0)), some (eI (1)), some (eI (p)), some (eI (q)), some (eI (r)), some (eI (s)), some (eI (96)), some (eI (100))]) (st' := [eI (1), eR 98]) rfl (b_isub rfl) rfl ?_
  refine w_s (np := 37) (lv' := [some (eR 98), some (eI (8)), some (eI (0)), some (eI (1)), some (eI (p)), some (eI (q)), some (eI (r)), some (eI (s)), some (eI (96)), some (eI (100))]) (st' := [eJ (1), eR 98]) rfl (b_i2l rfl) rfl ?_
  refine w_s (np := 38) (lv' := [some (eR 98), some (eI (8)), some (eI (0)), some (eI (1)), some (eI (p)), some (eI (q)), some (eI (r)), some (eI (s)), some (eI (96)), some (eI (100))]) (st' := [eR 98, eJ (1), eR 98]) rfl (s_an rfl (by decide)) rfl ?_
  refine w_gf (np := 41) (v := eR 100) rfl rfl hq.1 (by rw [hq.2.1]; rfl) ?_
  refine w_s (np := 43) (lv' := [some (eR 98), some (eI (8)), some (eI (0)), some (eI (1)), some (eI (p)), some (eI (q)), some (eI (r)), some (eI (s)), some (eI (96)), some (eI (100))]) (st' := [eI (100), eR 100, eJ (1), eR 98]) rfl rfl rfl ?_
  refine w_s (np := 44) (lv' := [some (eR 98), some (eI (8)), some (eI (0)), some (eI (1)), some (eI (p)), some (eI (q)), some (eI (r)), some (eI (s)), some (eI (96)), some (eI (100))]) (st' := [eI (1), eI (100), eR 100, eJ (1), eR 98]) rfl rfl rfl ?_
  refine w_s (np := 45) (lv' := [some (eR 98), some (eI (8)), some (eI (0)), some (eI (1)), some (eI (p)), some (eI (q)), some (eI (r)), some (eI (s)), some (eI (96)), some (eI (100))]) (st' := [eI (101), eR 100, eJ (1), eR 98]) rfl (b_iadd rfl) rfl ?_
  refine w_al (np := 46) (v := -1) rfl rfl (t_al (k := 101) hq rfl (by decide) rfl) ?_
  refine w_s (np := 47) (lv' := [some (eR 98), some (eI (8)), some (eI (0)), some (eI (1)), some (eI (p)), some (eI (q)), some (eI (r)), some (eI (s)), some (eI (96)), some (eI (100))]) (st' := [eR 98, eI (-1), eJ (1), eR 98]) rfl (s_an rfl (by decide)) rfl ?_
  refine w_gf (np := 50) (v := eR 100) rfl rfl hq.1 (by rw [hq.2.1]; rfl) ?_
  refine w_s (np := 52) (lv' := [some (eR 98), some (eI (8)), some (eI (0)), some (eI (1)), some (eI (p)), some (eI (q)), some (eI (r)), some (eI (s)), some (eI (96)), some (eI (100))]) (st' := [eI (96), eR 100, eI (-1), eJ (1), eR 98]) rfl rfl rfl ?_
  refine w_s (np := 53) (lv' := [some (eR 98), some (eI (8)), some (eI (0)), some (eI (1)), some (eI (p)), some (eI (q)), some (eI (r)), some (eI (s)), some (eI (96)), some (eI (100))]) (st' := [eI (1), eI (96), eR 100, eI (-1), eJ (1), eR 98]) rfl rfl rfl ?_
  refine w_s (np := 54) (lv' := [some (eR 98), some (eI (8)), some (eI (0)), some (eI (1)), some (eI (p)), some (eI (q)), some (eI (r)), some (eI (s)), some (eI (96)), some (eI (100))]) (st' := [eI (97), eR 100, eI (-1), eJ (1), eR 98]) rfl (b_iadd rfl) rfl ?_
  refine w_al (np := 55) (v := 0) rfl rfl (t_al (k := 97) hq rfl (by decide) rfl) ?_
  refine w_s (np := 56) (lv' := [some (eR 98), some (eI (8)), some (eI (0)), some (eI (1)), some (eI (p)), some (eI (q)), some (eI (r)), some (eI (s)), some (eI (96)), some (eI (100))]) (st' := [eI (-1), eJ (1), eR 98]) rfl (b_isub rfl) rfl ?_
  refine w_s (np := 57) (lv' := [some (eR 98), some (eI (8)), some (eI (0)), some (eI (1)), some (eI (p)), some (eI (q)), some (eI (r)), some (eI (s)), some (eI (96)), some (eI (100))]) (st' := [eJ (-1), eJ (1), eR 98]) rfl (b_i2l rfl) rfl ?_
  refine w_s (np := 58) (lv' := [some (eR 98), some (eI (8)), some (eI (0)), some (eI (1)), some (eI (p)), some (eI (q)), some (eI (r)), some (eI (s)), some (eI (96)), some (eI (100))]) (st' := [eR 98, eJ (-1), eJ (1), eR 98]) rfl (s_an rfl (by decide)) rfl ?_
  refine w_gf (np := 61) (v := eR 100) rfl rfl hq.1 (by rw [hq.2.1]; rfl) ?_
  refine w_s (np := 63) (lv' := [some (eR 98), some (eI (8)), some (eI (0)), some (eI (1)), some (eI (p)), some (eI (q)), some (eI (r)), some (eI (s)), some (eI (96)), some (eI (100))]) (st' := [eI (100), eR 100, eJ (-1), eJ (1), eR 98]) rfl rfl rfl ?_
  refine w_s (np := 64) (lv' := [some (eR 98), some (eI (8)), some (eI (0)), some (eI (1)), some (eI (p)), some (eI (q)), some (eI (r)), some (eI (s)), some (eI (96)), some (eI (100))]) (st' := [eI (2), eI (100), eR 100, eJ (-1), eJ (1), eR 98]) rfl rfl rfl ?_
  refine w_s (np := 65) (lv' := [some (eR 98), some (eI (8)), some (eI (0)), some (eI (1)), some (eI (p)), some (eI (q)), some (eI (r)), some (eI (s)), some (eI (96)), some (eI (100))]) (st' := [eI (102), eR 100, eJ (-1), eJ (1), eR 98]) rfl (b_iadd rfl) rfl ?_
  refine w_al (np := 66) (v := 1) rfl rfl (t_al (k := 102) hq rfl (by decide) rfl) ?_
  refine w_s (np := 67) (lv' := [some (eR 98), some (eI (8)), some (eI (0)), some (eI (1)), some (eI (p)), some (eI (q)), some (eI (r)), some (eI (s)), some (eI (96)), some (eI (100))]) (st' := [eR 98, eI (1), eJ (-1), eJ (1), eR 98]) rfl (s_an rfl (by decide)) rfl ?_
  refine w_gf (np := 70) (v := eR 100) rfl rfl hq.1 (by rw [hq.2.1]; rfl) ?_
  refine w_s (np := 72) (lv' := [some (eR 98), some (eI (8)), some (eI (0)), some (eI (1)), some (eI (p)), some (eI (q)), some (eI (r)), some (eI (s)), some (eI (96)), some (eI (100))]) (st' := [eI (96), eR 100, eI (1), eJ (-1), eJ (1), eR 98]) rfl rfl rfl ?_
  refine w_s (np := 73) (lv' := [some (eR 98), some (eI (8)), some (eI (0)), some (eI (1)), some (eI (p)), some (eI (q)), some (eI (r)), some (eI (s)), some (eI (96)), some (eI (100))]) (st' := [eI (2), eI (96), eR 100, eI (1), eJ (-1), eJ (1), eR 98]) rfl rfl rfl ?_
  refine w_s (np := 74) (lv' := [some (eR 98), some (eI (8)), some (eI (0)), some (eI (1)), some (eI (p)), some (eI (q)), some (eI (r)), some (eI (s)), some (eI (96)), some (eI (100))]) (st' := [eI (98), eR 100, eI (1), eJ (-1), eJ (1), eR 98]) rfl (b_iadd rfl) rfl ?_
  refine w_al (np := 75) (v := 0) rfl rfl (t_al (k := 98) hq rfl (by decide) rfl) ?_
  refine w_s (np := 76) (lv' := [some (eR 98), some (eI (8)), some (eI (0)), some (eI (1)), some (eI (p)), some (eI (q)), some (eI (r)), some (eI (s)), some (eI (96)), some (eI (100))]) (st' := [eI (1), eJ (-1), eJ (1), eR 98]) rfl (b_isub rfl) rfl ?_
  refine w_s (np := 77) (lv' := [some (eR 98), some (eI (8)), some (eI (0)), some (eI (1)), some (eI (p)), some (eI (q)), some (eI (r)), some (eI (s)), some (eI (96)), some (eI (100))]) (st' := [eJ (1), eJ (-1), eJ (1), eR 98]) rfl (b_i2l rfl) rfl ?_
  refine w_s (np := 78) (lv' := [some (eR 98), some (eI (8)), some (eI (0)), some (eI (1)), some (eI (p)), some (eI (q)), some (eI (r)), some (eI (s)), some (eI (96)), some (eI (100))]) (st' := [eR 98, eJ (1), eJ (-1), eJ (1), eR 98]) rfl (s_an rfl (by decide)) rfl ?_
  refine w_gf (np := 81) (v := eR 100) rfl rfl hq.1 (by rw [hq.2.1]; rfl) ?_
  refine w_s (np := 83) (lv' := [some (eR 98), some (eI (8)), some (eI (0)), some (eI (1)), some (eI (p)), some (eI (q)), some (eI (r)), some (eI (s)), some (eI (96)), some (eI (100))]) (st' := [eI (100), eR 100, eJ (1), eJ (-1), eJ (1), eR 98]) rfl rfl rfl ?_
  refine w_s (np := 84) (lv' := [some (eR 98), some (eI (8)), some (eI (0)), some (eI (1)), some (eI (p)), some (eI (q)), some (eI (r)), some (eI (s)), some (eI (96)), some (eI (100))]) (st' := [eI (3), eI (100), eR 100, eJ (1), eJ (-1), eJ (1), eR 98]) rfl rfl rfl ?_
  refine w_s (np := 85) (lv' := [some (eR 98), some (eI (8)), some (eI (0)), some (eI (1)), some (eI (p)), some (eI (q)), some (eI (r)), some (eI (s)), some (eI (96)), some (eI (100))]) (st' := [eI (103), eR 100, eJ (1), eJ (-1), eJ (1), eR 98]) rfl (b_iadd rfl) rfl ?_
  refine w_al (np := 86) (v := -1) rfl rfl (t_al (k := 103) hq rfl (by decide) rfl) ?_
  refine w_s (np := 87) (lv' := [some (eR 98), some (eI (8)), some (eI (0)), some (eI (1)), some (eI (p)), some (eI (q)), some (eI (r)), some (eI (s)), some (eI (96)), some (eI (100))]) (st' := [eR 98, eI (-1), eJ (1), eJ (-1), eJ (1), eR 98]) rfl (s_an rfl (by decide)) rfl ?_
  refine w_gf (np := 90) (v := eR 100) rfl rfl hq.1 (by rw [hq.2.1]; rfl) ?_
  refine w_s (np := 92) (lv' := [some (eR 98), some (eI (8)), some (eI (0)), some (eI (1)), some (eI (p)), some (eI (q)), some (eI (r)), some (eI (s)), some (eI (96)), some (eI (100))]) (st' := [eI (96), eR 100, eI (-1), eJ (1), eJ (-1), eJ (1), eR 98]) rfl rfl rfl ?_
  refine w_s (np := 93) (lv' := [some (eR 98), some (eI (8)), some (eI (0)), some (eI (1)), some (eI (p)), some (eI (q)), some (eI (r)), some (eI (s)), some (eI (96)), some (eI (100))]) (st' := [eI (3), eI (96), eR 100, eI (-1), eJ (1), eJ (-1), eJ (1), eR 98]) rfl rfl rfl ?_
  refine w_s (np := 94) (lv' := [some (eR 98), some (eI (8)), some (eI (0)), some (eI (1)), some (eI (p)), some (eI (q)), some (eI (r)), some (eI (s)), some (eI (96)), some (eI (100))]) (st' := [eI (99), eR 100, eI (-1), eJ (1), eJ (-1), eJ (1), eR 98]) rfl (b_iadd rfl) rfl ?_
  refine w_al (np := 95) (v := 0) rfl rfl (t_al (k := 99) hq rfl (by decide) rfl) ?_
  refine w_s (np := 96) (lv' := [some (eR 98), some (eI (8)), some (eI (0)), some (eI (1)), some (eI (p)), some (eI (q)), some (eI (r)), some (eI (s)), some (eI (96)), some (eI (100))]) (st' := [eI (-1), eJ (1), eJ (-1), eJ (1), eR 98]) rfl (b_isub rfl) rfl ?_
  refine w_s (np := 97) (lv' := [some (eR 98), some (eI (8)), some (eI (0)), some (eI (1)), some (eI (p)), some (eI (q)), some (eI (r)), some (eI (s)), some (eI (96)), some (eI (100))]) (st' := [eJ (-1), eJ (1), eJ (-1), eJ (1), eR 98]) rfl (b_i2l rfl) rfl ?_
  refine w_s (np := 99) (lv' := [some (eR 98), some (eI (8)), some (eI (0)), some (eI (1)), some (eI (p)), some (eI (q)), some (eI (r)), some (eI (s)), some (eI (96)), some (eI (100))]) (st' := [eI (p), eJ (-1), eJ (1), eJ (-1), eJ (1), eR 98]) rfl rfl rfl ?_
  refine w_s (np := 100) (lv' := [some (eR 98), some (eI (8)), some (eI (0)), some (eI (1)), some (eI (p)), some (eI (q)), some (eI (r)), some (eI (s)), some (eI (96)), some (eI (100))]) (st' := [eJ (p), eJ (-1), eJ (1), eJ (-1), eJ (1), eR 98]) rfl (b_i2l (ev_w_in (by omega) (by omega))) rfl ?_
  refine w_s (np := 101) (lv' := [some (eR 98), some (eI (8)), some (eI (0)), some (eI (1)), some (eI (p)), some (eI (q)), some (eI (r)), some (eI (s)), some (eI (96)), some (eI (100))]) (st' := [eR 98, eJ (p), eJ (-1), eJ (1), eJ (-1), eJ (1), eR 98]) rfl (s_an rfl (by decide)) rfl ?_
  refine w_gf (np := 104) (v := eR 100) rfl rfl hq.1 (by rw [hq.2.1]; rfl) ?_
  refine w_s (np := 106) (lv' := [some (eR 98), some (eI (8)), some (eI (0)), some (eI (1)), some (eI (p)), some (eI (q)), some (eI (r)), some (eI (s)), some (eI (96)), some (eI (100))]) (st' := [eI (96), eR 100, eJ (p), eJ (-1), eJ (1), eJ (-1), eJ (1), eR 98]) rfl rfl rfl ?_
  refine w_al (np := 107) (v := 0) rfl rfl (t_al (k := 96) hq rfl (by decide) rfl) ?_
  refine w_s (np := 108) (lv' := [some (eR 98), some (eI (8)), some (eI (0)), some (eI (1)), some (eI (p)), some (eI (q)), some (eI (r)), some (eI (s)), some (eI (96)), some (eI (100))]) (st' := [eJ (0), eJ (p), eJ (-1), eJ (1), eJ (-1), eJ (1), eR 98]) rfl (b_i2l rfl) rfl ?_
  obtain ⟨v1, e2⟩ : ∃ v : Int, v = (p) - (0) := ⟨_, rfl⟩
  have b3 : -9999 ≤ v1 ∧ v1 ≤ 9999 := by omega
  refine w_s (np := 109) (lv' := [some (eR 98), some (eI (8)), some (eI (0)), some (eI (1)), some (eI (p)), some (eI (q)), some (eI (r)), some (eI (s)), some (eI (96)), some (eI (100))]) (st' := [eJ (v1), eJ (-1), eJ (1), eJ (-1), eJ (1), eR 98]) rfl (b_lsub (by rw [← e2]; exact ev_W_in (by omega) (by omega))) rfl ?_
  refine w_s (np := 111) (lv' := [some (eR 98), some (eI (8)), some (eI (0)), some (eI (1)), some (eI (p)), some (eI (q)), some (eI (r)), some (eI (s)), some (eI (96)), some (eI (100))]) (st' := [eI (q), eJ (v1), eJ (-1), eJ (1), eJ (-1), eJ (1), eR 98]) rfl rfl rfl ?_
  refine w_s (np := 112) (lv' := [some (eR 98), some (eI (8)), some (eI (0)), some (eI (1)), some (eI (p)), some (eI (q)), some (eI (r)), some (eI (s)), some (eI (96)), some (eI (100))]) (st' := [eJ (q), eJ (v1), eJ (-1), eJ (1), eJ (-1), eJ (1), eR 98]) rfl (b_i2l (ev_w_in (by omega) (by omega))) rfl ?_
  refine w_s (np := 113) (lv' := [some (eR 98), some (eI (8)), some (eI (0)), some (eI (1)), some (eI (p)), some (eI (q)), some (eI (r)), some (eI (s)), some (eI (96)), some (eI (100))]) (st' := [eR 98, eJ (q), eJ (v1), eJ (-1), eJ (1), eJ (-1), eJ (1), eR 98]) rfl (s_an rfl (by decide)) rfl ?_
  refine w_gf (np := 116) (v := eR 100) rfl rfl hq.1 (by rw [hq.2.1]; rfl) ?_
  refine w_s (np := 118) (lv' := [some (eR 98), some (eI (8)), some (eI (0)), some (eI (1)), some (eI (p)), some (eI (q)), some (eI (r)), some (eI (s)), some (eI (96)), some (eI (100))]) (st' := [eI (96), eR 100, eJ (q), eJ (v1), eJ (-1), eJ (1), eJ (-1), eJ (1), eR 98]) rfl rfl rfl ?_
  refine w_s (np := 119) (lv' := [some (eR 98), some (eI (8)), some (eI (0)), some (eI (1)), some (eI (p)), some (eI (q)), some (eI (r)), some (eI (s)), some (eI (96)), some (eI (100))]) (st' := [eI (1), eI (96), eR 100, eJ (q), eJ (v1), eJ (-1), eJ (1), eJ (-1), eJ (1), eR 98]) rfl rfl rfl ?_
  refine w_s (np := 120) (lv' := [some (eR 98), some (eI (8)), some (eI (0)), some (eI (1)), some (eI (p)), some (eI (q)), some (eI (r)), some (eI (s)), some (eI (96)), some (eI (100))]) (st' := [eI (97), eR 100, eJ (q), eJ (v1), eJ (-1), eJ (1), eJ (-1), eJ (1), eR 98]) rfl (b_iadd rfl) rfl ?_
  refine w_al (np := 121) (v := 0) rfl rfl (t_al (k := 97) hq rfl (by decide) rfl) ?_
  refine w_s (np := 122) (lv' := [some (eR 98), some (eI (8)), some (eI (0)), some (eI (1)), some (eI (p)), some (eI (q)), some (eI (r)), some (eI (s)), some (eI (96)), some (eI (100))]) (st' := [eJ (0), eJ (q), eJ (v1), eJ (-1), eJ (1), eJ (-1), eJ (1), eR 98]) rfl (b_i2l rfl) rfl ?_
  obtain ⟨v4, e5⟩ : ∃ v : Int, v = (q) - (0) := ⟨_, rfl⟩
  have b6 : -9999 ≤ v4 ∧ v4 ≤ 9999 := by omega
  refine w_s (np := 123) (lv' := [some (eR 98), some (eI (8)), some (eI (0)), some (eI (1)), some (eI (p)), some (eI (q)), some (eI (r)), some (eI (s)), some (eI (96)), some (eI (100))]) (st' := [eJ (v4), eJ (v1), eJ (-1), eJ (1), eJ (-1), eJ (1), eR 98]) rfl (b_lsub (by rw [← e5]; exact ev_W_in (by omega) (by omega))) rfl ?_
  refine w_s (np := 125) (lv' := [some (eR 98), some (eI (8)), some (eI (0)), some (eI (1)), some (eI (p)), some (eI (q)), some (eI (r)), some (eI (s)), some (eI (96)), some (eI (100))]) (st' := [eI (r), eJ (v4), eJ (v1), eJ (-1), eJ (1), eJ (-1), eJ (1), eR 98]) rfl rfl rfl ?_
  refine w_s (np := 126) (lv' := [some (eR 98), some (eI (8)), some (eI (0)), some (eI (1)), some (eI (p)), some (eI (q)), some (eI (r)), some (eI (s)), some (eI (96)), some (eI (100))]) (st' := [eJ (r), eJ (v4), eJ (v1), eJ (-1), eJ (1), eJ (-1), eJ (1), eR 98]) rfl (b_i2l (ev_w_in (by omega) (by omega))) rfl ?_
  refine w_s (np := 127) (lv' := [some (eR 98), some (eI (8)), some (eI (0)), some (eI (1)), some (eI (p)), some (eI (q)), some (eI (r)), some (eI (s)), some (eI (96)), some (eI (100))]) (st' := [eR 98, eJ (r), eJ (v4), eJ (v1), eJ (-1), eJ (1), eJ (-1), eJ (1), eR 98]) rfl (s_an rfl (by decide)) rfl ?_
  refine w_gf (np := 130) (v := eR 100) rfl rfl hq.1 (by rw [hq.2.1]; rfl) ?_
  refine w_s (np := 132) (lv' := [some (eR 98), some (eI (8)), some (eI (0)), some (eI (1)), some (eI (p)), some (eI (q)), some (eI (r)), some (eI (s)), some (eI (96)), some (eI (100))]) (st' := [eI (96), eR 100, eJ (r), eJ (v4), eJ (v1), eJ (-1), eJ (1), eJ (-1), eJ (1), eR 98]) rfl rfl rfl ?_
  refine w_s (np := 133) (lv' := [some (eR 98), some (eI (8)), some (eI (0)), some (eI (1)), some (eI (p)), some (eI (q)), some (eI (r)), some (eI (s)), some (eI (96)), some (eI (100))]) (st' := [eI (2), eI (96), eR 100, eJ (r), eJ (v4), eJ (v1), eJ (-1), eJ (1), eJ (-1), eJ (1), eR 98]) rfl rfl rfl ?_
  refine w_s (np := 134) (lv' := [some (eR 98), some (eI (8)), some (eI (0)), some (eI (1)), some (eI (p)), some (eI (q)), some (eI (r)), some (eI (s)), some (eI (96)), some (eI (100))]) (st' := [eI (98), eR 100, eJ (r), eJ (v4), eJ (v1), eJ (-1), eJ (1), eJ (-1), eJ (1), eR 98]) rfl (b_iadd rfl) rfl ?_
  refine w_al (np := 135) (v := 0) rfl rfl (t_al (k := 98) hq rfl (by decide) rfl) ?_
  refine w_s (np := 136) (lv' := [some (eR 98), some (eI (8)), some (eI (0)), some (eI (1)), some (eI (p)), some (eI (q)), some (eI (r)), some (eI (s)), some (eI (96)), some (eI (100))]) (st' := [eJ (0), eJ (r), eJ (v4), eJ (v1), eJ (-1), eJ (1), eJ (-1), eJ (1), eR 98]) rfl (b_i2l rfl) rfl ?_
  obtain ⟨v7, e8⟩ : ∃ v : Int, v = (r) - (0) := ⟨_, rfl⟩
  have b9 : -9999 ≤ v7 ∧ v7 ≤ 9999 := by omega
  refine w_s (np := 137) (lv' := [some (eR 98), some (eI (8)), some (eI (0)), some (eI (1)), some (eI (p)), some (eI (q)), some (eI (r)), some (eI (s)), some (eI (96)), some (eI (100))]) (st' := [eJ (v7), eJ (v4), eJ (v1), eJ (-1), eJ (1), eJ (-1), eJ (1), eR 98]) rfl (b_lsub (by rw [← e8]; exact ev_W_in (by omega) (by omega))) rfl ?_
  refine w_s (np := 139) (lv' := [some (eR 98), some (eI (8)), some (eI (0)), some (eI (1)), some (eI (p)), some (eI (q)), some (eI (r)), some (eI (s)), some (eI (96)), some (eI (100))]) (st' := [eI (s), eJ (v7), eJ (v4), eJ (v1), eJ (-1), eJ (1), eJ (-1), eJ (1), eR 98]) rfl rfl rfl ?_
  refine w_s (np := 140) (lv' := [some (eR 98), some (eI (8)), some (eI (0)), some (eI (1)), some (eI (p)), some (eI (q)), some (eI (r)), some (eI (s)), some (eI (96)), some (eI (100))]) (st' := [eJ (s), eJ (v7), eJ (v4), eJ (v1), eJ (-1), eJ (1), eJ (-1), eJ (1), eR 98]) rfl (b_i2l (ev_w_in (by omega) (by omega))) rfl ?_
  refine w_s (np := 141) (lv' := [some (eR 98), some (eI (8)), some (eI (0)), some (eI (1)), some (eI (p)), some (eI (q)), some (eI (r)), some (eI (s)), some (eI (96)), some (eI (100))]) (st' := [eR 98, eJ (s), eJ (v7), eJ (v4), eJ (v1), eJ (-1), eJ (1), eJ (-1), eJ (1), eR 98]) rfl (s_an rfl (by decide)) rfl ?_
  refine w_gf (np := 144) (v := eR 100) rfl rfl hq.1 (by rw [hq.2.1]; rfl) ?_
  refine w_s (np := 146) (lv' := [some (eR 98), some (eI (8)), some (eI (0)), some (eI (1)), some (eI (p)), some (eI (q)), some (eI (r)), some (eI (s)), some (eI (96)), some (eI (100))]) (st' := [eI (96), eR 100, eJ (s), eJ (v7), eJ (v4), eJ (v1), eJ (-1), eJ (1), eJ (-1), eJ (1), eR 98]) rfl rfl rfl ?_
  refine w_s (np := 147) (lv' := [some (eR 98), some (eI (8)), some (eI (0)), some (eI (1)), some (eI (p)), some (eI (q)), some (eI (r)), some (eI (s)), some (eI (96)), some (eI (100))]) (st' := [eI (3), eI (96), eR 100, eJ (s), eJ (v7), eJ (v4), eJ (v1), eJ (-1), eJ (1), eJ (-1), eJ (1), eR 98]) rfl rfl rfl ?_
  refine w_s (np := 148) (lv' := [some (eR 98), some (eI (8)), some (eI (0)), some (eI (1)), some (eI (p)), some (eI (q)), some (eI (r)), some (eI (s)), some (eI (96)), some (eI (100))]) (st' := [eI (99), eR 100, eJ (s), eJ (v7), eJ (v4), eJ (v1), eJ (-1), eJ (1), eJ (-1), eJ (1), eR 98]) rfl (b_iadd rfl) rfl ?_
  refine w_al (np := 149) (v := 0) rfl rfl (t_al (k := 99) hq rfl (by decide) rfl) ?_
  refine w_s (np := 150) (lv' := [some (eR 98), some (eI (8)), some (eI (0)), some (eI (1)), some (eI (p)), some (eI (q)), some (eI (r)), some (eI (s)), some (eI (96)), some (eI (100))]) (st' := [eJ (0), eJ (s), eJ (v7), eJ (v4), eJ (v1), eJ (-1), eJ (1), eJ (-1), eJ (1), eR 98]) rfl (b_i2l rfl) rfl ?_
  obtain ⟨v10, e11⟩ : ∃ v : Int, v = (s) - (0) := ⟨_, rfl⟩
  have b12 : -9999 ≤ v10 ∧ v10 ≤ 9999 := by omega
  refine w_s (np := 151) (lv' := [some (eR 98), some (eI (8)), some (eI (0)), some (eI (1)), some (eI (p)), some (eI (q)), some (eI (r)), some (eI (s)), some (eI (96)), some (eI (100))]) (st' := [eJ (v10), eJ (v7), eJ (v4), eJ (v1), eJ (-1), eJ (1), eJ (-1), eJ (1), eR 98]) rfl (b_lsub (by rw [← e11]; exact ev_W_in (by omega) (by omega))) rfl ?_
  refine w_cv (np := 154) (as := [eJ (1), eJ (-1), eJ (1), eJ (-1), eJ (v1), eJ (v4), eJ (v7), eJ (v10)]) (lv' := [some (eR 98), some (eJ (1)), none, some (eJ (-1)), none, some (eJ (1)), none, some (eJ (-1)), none, some (eJ (v1)), none, some (eJ (v4)), none, some (eJ (v7)), none, some (eJ (v10)), none]) (rest := []) rfl rfl rfl (Nat.ble_eq.mp rfl) rfl rfl rfl hq.1 rfl ?_
  refine t224 hq.1 (show (-8 : Int) ≤ 1 ∧ (1 : Int) ≤ 8 by omega) (show (-8 : Int) ≤ -1 ∧ (-1 : Int) ≤ 8 by omega) (show (-8 : Int) ≤ 1 ∧ (1 : Int) ≤ 8 by omega) (show (-8 : Int) ≤ -1 ∧ (-1 : Int) ≤ 8 by omega) (show (-100000 : Int) ≤ v1 ∧ (v1 : Int) ≤ 100000 by omega) (show (-100000 : Int) ≤ v4 ∧ (v4 : Int) ≤ 100000 by omega) (show (-100000 : Int) ≤ v7 ∧ (v7 : Int) ≤ 100000 by omega) (show (-100000 : Int) ≤ v10 ∧ (v10 : Int) ≤ 100000 by omega) ?_
  intro m B G s1 eB eG bB bG
  show ex_fine fg rc rs (d + 4, (265, 154, [some (eR 98), some (eI (8)), some (eI (0)), some (eI (1)), some (eI (p)), some (eI (q)), some (eI (r)), some (eI (s)), some (eI (96)), some (eI (100))], [eI (rSg (2 * B + G) G)]), f :: F, m)
  refine b_ri rfl rfl ?_
  have hB : B = 1 * p + 1 * s := by omega
  have hG : G = 1 * q + 1 * r := by omega
  have hr := rSg_ok (x := 2 * B + G) (b := G) (by omega)
  have e9 : 416020 * (2 * B + G) + 930249 * G = 832040 * p + 1346269 * q + 1346269 * r + 832040 * s := by omega
  rw [e9] at hr
  exact K m _ s1 hr (rSg_v _ _)
theorem t265_8_1 {fg : eG} {rc rs d : Nat} {f : eFr} {F : List eFr} {μ : eM} {p q r s : Int} (hq : tQ μ) (hp : -9999 ≤ p ∧ p ≤ 9999) (hq0 : -9999 ≤ q ∧ q ≤ 9999) (hr : -9999 ≤ r ∧ r ≤ 9999) (hs : -9999 ≤ s ∧ s ≤ 9999) (K : ∀ (μ2 : eM) (u : Int), tS μ μ2 → ((0 ≤ u ↔ 0 ≤ 514229 * p + (-514229) * r + (-832040) * s + (-832040)) ∧ (u ≤ 0 ↔ 514229 * p + (-514229) * r + (-832040) * s + (-832040) ≤ 0)) → (u = 0 ∨ u = 1 ∨ u = -1) → ex_fine fg rc rs (d + 5, (f.1, f.2.1, f.2.2.1, eI u :: f.2.2.2), F, μ2)) : ex_fine fg rc rs (d + 4, (265, 0, [some (eR 98), some (eI (8)), some (eI (1)), some (eI (2)), some (eI (p)), some (eI (q)), some (eI (r)), some (eI (s)), none, none], []), f :: F, μ) := by
  refine w_s (np := 2) (lv' := [some (eR 98), some (eI (8)), some (eI (1)), some (eI (2)), some (eI (p)), some (eI (q)), some (eI (r)), some (eI (s)), none, none]) (st' := [eI (12)]) rfl rfl rfl ?_
  refine w_s (np := 3) (lv' := [some (eR 98), some (eI (8)), some (eI (1)), some (eI (2)), some (eI (p)), some (eI (q)), some (eI (r)), some (eI (s)), none, none]) (st' := [eI (8), eI (12)]) rfl rfl rfl ?_
  refine w_s (np := 4) (lv' := [some (eR 98), some (eI (8)), some (eI (1)), some (eI (2)), some (eI (p)), some (eI (q)), some (eI (r)), some (eI (s)), none, none]) (st' := [eI (96)]) rfl (b_imul rfl) rfl ?_
  refine w_s (np := 5) (lv' := [some (eR 98), some (eI (8)), some (eI (1)), some (eI (2)), some (eI (p)), some (eI (q)), some (eI (r)), some (eI (s)), none, none]) (st' := [eI (4), eI (96)]) rfl rfl rfl ?_
  refine w_s (np := 6) (lv' := [some (eR 98), some (eI (8)), some (eI (1)), some (eI (2)), some (eI (p)), some (eI (q)), some (eI (r)), some (eI (s)), none, none]) (st' := [eI (1), eI (4), eI (96)]) rfl rfl rfl ?_
  refine w_s (np := 7) (lv' := [some (eR 98), some (eI (8)), some (eI (1)), some (eI (2)), some (eI (p)), some (eI (q)), some (eI (r)), some (eI (s)), none, none]) (st' := [eI (4), eI (96)]) rfl (b_imul rfl) rfl ?_
  refine w_s (np := 8) (lv' := [some (eR 98), some (eI (8)), some (eI (1)), some (eI (2)), some (eI (p)), some (eI (q)), some (eI (r)), some (eI (s)), none, none]) (st' := [eI (100)]) rfl (b_iadd rfl) rfl ?_
  refine w_s (np := 10) (lv' := [some (eR 98), some (eI (8)), some (eI (1)), some (eI (2)), some (eI (p)), some (eI (q)), some (eI (r)), some (eI (s)), some (eI (100)), none]) (st' := []) rfl rfl rfl ?_
  refine w_s (np := 12) (lv' := [some (eR 98), some (eI (8)), some (eI (1)), some (eI (2)), some (eI (p)), some (eI (q)), some (eI (r)), some (eI (s)), some (eI (100)), none]) (st' := [eI (12)]) rfl rfl rfl ?_
  refine w_s (np := 13) (lv' := [some (eR 98), some (eI (8)), some (eI (1)), some (eI (2)), some (eI (p)), some (eI (q)), some (eI (r)), some (eI (s)), some (eI (100)), none]) (st' := [eI (8), eI (12)]) rfl rfl rfl ?_
  refine w_s (np := 14) (lv' := [some (eR 98), some (eI (8)), some (eI (1)), some (eI (2)), some (eI (p)), some (eI (q)), some (eI (r)), some (eI (s)), some (eI (100)), none]) (st' := [eI (96)]) rfl (b_imul rfl) rfl ?_
  refine w_s (np := 15) (lv' := [some (eR 98), some (eI (8)), some (eI (1)), some (eI (2)), some (eI (p)), some (eI (q)), some (eI (r)), some (eI (s)), some (eI (100)), none]) (st' := [eI (4), eI (96)]) rfl rfl rfl ?_
  refine w_s (np := 16) (lv' := [some (eR 98), some (eI (8)), some (eI (1)), some (eI (2)), some (eI (p)), some (eI (q)), some (eI (r)), some (eI (s)), some (eI (100)), none]) (st' := [eI (2), eI (4), eI (96)]) rfl rfl rfl ?_
  refine w_s (np := 17) (lv' := [some (eR 98), some (eI (8)), some (eI (1)), some (eI (2)), some (eI (p)), some (eI (q)), some (eI (r)), some (eI (s)), some (eI (100)), none]) (st' := [eI (8), eI (96)]) rfl (b_imul rfl) rfl ?_
  refine w_s (np := 18) (lv' := [some (eR 98), some (eI (8)), some (eI (1)), some (eI (2)), some (eI (p)), some (eI (q)), some (eI (r)), some (eI (s)), some (eI (100)), none]) (st' := [eI (104)]) rfl (b_iadd rfl) rfl ?_
  refine w_s (np := 20) (lv' := [some (eR 98), some (eI (8)), some (eI (1)), some (eI (2)), some (eI (p)), some (eI (q)), some (eI (r)), some (eI (s)), some (eI (100)), some (eI (104))]) (st' := []) rfl rfl rfl ?_
  refine w_s (np := 21) (lv' := [some (eR 98), some (eI (8)), some (eI (1)), some (eI (2)), some (eI (p)), some (eI (q)), some (eI (r)), some (eI (s)), some (eI (100)), some (eI (104))]) (st' := [eR 98]) rfl (s_an rfl (by decide)) rfl ?_
  refine w_s (np := 22) (lv' := [some (eR 98), some (eI (8)), some (eI (1)), some (eI (2)), some (eI (p)), some (eI (q)), some (eI (r)), some (eI (s)), some (eI (100)), some (eI (104))]) (st' := [eR 98, eR 98]) rfl (s_an rfl (by decide)) rfl ?_
  refine w_gf (np := 25) (v := eR 100) rfl rfl hq.1 (by rw [hq.2.1]; rfl) ?_
  refine w_s (np := 27) (lv' := [some (eR 98), some (eI (8)), some (eI (1)), some (eI (2)), some (eI (p)), some (eI (q)), some (eI (r)), some (eI (s)), some (eI (100)), some (eI (104))]) (st' := [eI (104), eR 100, eR 98]) rfl rfl rfl ?_
  refine w_al (np := 28) (v := 0) rfl rfl (t_al (k := 104) hq rfl (by decide) rfl) ?_
  refine w_s (np := 29) (lv' := [some (eR 98), some (eI (8)), some (eI (1)), some (eI (2)), some (eI (p)), some (eI (q)), some (eI (r)), some (eI (s)), some (eI (100)), some (eI (104))]) (st' := [eR 98, eI (0), eR 98]) rfl (s_an rfl (by decide)) rfl ?_
  refine w_gf (np := 32) (v := eR 100) rfl rfl hq.1 (by rw [hq.2.1]; rfl) ?_
  refine w_s (np := 34) (lv' := [some (eR 98), some (eI (8)), some (eI (1)), some (eI (2)), some (eI (p)), some (eI (q)), some (eI (r)), some (eI (s)), some (eI (100)), some (eI (104))]) (st' := [eI (100), eR 100, eI (0), eR 98]) rfl rfl rfl ?_
  refine w_al (np := 35) (v := 1) rfl rfl (t_al (k := 100) hq rfl (by decide) rfl) ?_
  refine w_s (np := 36) (lv' := [some (eR 98), some (eI (8)), some (eI (1)), some (eI (2)), some (eI (p)), some (eI (q)), some (eI (r)), some (eI (s)), some (eI (100)), some (eI (104))]) (st' := [eI (-1), eR 98]) rfl (b_isub rfl) rfl ?_
  refine w_s (np := 37) (lv' := [some (eR 98), some (eI (8)), some (eI (1)), some (eI (2)), some (eI (p)), some (eI (q)), some (eI (r)), some (eI (s)), some (eI (100)), some (eI (104))]) (st' := [eJ (-1), eR 98]) rfl (b_i2l rfl) rfl ?_
  refine w_s (np := 38) (lv' := [some (eR 98), some (eI (8)), some (eI (1)), some (eI (2)), some (eI (p)), some (eI (q)), some (eI (r)), some (eI (s)), some (eI (100)), some (eI (104))]) (st' := [eR 98, eJ (-1), eR 98]) rfl (s_an rfl (by decide)) rfl ?_
  refine w_gf (np := 41) (v := eR 100) rfl rfl hq.1 (by rw [hq.2.1]; rfl) ?_
  refine w_s (np := 43) (lv' := [some (eR 98), some (eI (8)), some (eI (1)), some (eI (2)), some (eI (p)), some (eI (q)), some (eI (r)), some (eI (s)), some (eI (100)), some (eI (104))]) (st' := [eI (104), eR 100, eJ (-1), eR 98]) rfl rfl rfl ?_
  refine w_s (np := 44) (lv' := [some (eR 98), some (eI (8)), some (eI (1)), some (eI (2)), some (eI (p)), some (eI (q)), some (eI (r)), some (eI (s)), some (eI (100)), some (eI (104))]) (st' := [eI (1), eI (104), eR 100, eJ (-1), eR 98]) rfl rfl rfl ?_
  refine w_s (np := 45) (lv' := [some (eR 98), some (eI (8)), some (eI (1)), some (eI (2)), some (eI (p)), some (eI (q)), some (eI (r)), some (eI (s)), some (eI (100)), some (eI (104))]) (st' := [eI (105), eR 100, eJ (-1), eR 98]) rfl (b_iadd rfl) rfl ?_
  refine w_al (np := 46) (v := 0) rfl rfl (t_al (k := 105) hq rfl (by decide) rfl) ?_
  refine w_s (np := 47) (lv' := [some (eR 98), some (eI (8)), some (eI (1)), some (eI (2)), some (eI (p)), some (eI (q)), some (eI (r)), some (eI (s)), some (eI (100)), some (eI (104))]) (st' := [eR 98, eI (0), eJ (-1), eR 98]) rfl (s_an rfl (by decide)) rfl ?_
  refine w_gf (np := 50) (v := eR 100) rfl rfl hq.1 (by rw [hq.2.1]; rfl) ?_
  refine w_s (np := 52) (lv' := [some (eR 98), some (eI (8)), some (eI (1)), some (eI (2)), some (eI (p)), some (eI (q)), some (eI (r)), some (eI (s)), some (eI (100)), some (eI (104))]) (st' := [eI (100), eR 100, eI (0), eJ (-1), eR 98]) rfl rfl rfl ?_
  refine w_s (np := 53) (lv' := [some (eR 98), some (eI (8)), some (eI (1)), some (eI (2)), some (eI (p)), some (eI (q)), some (eI (r)), some (eI (s)), some (eI (100)), some (eI (104))]) (st' := [eI (1), eI (100), eR 100, eI (0), eJ (-1), eR 98]) rfl rfl rfl ?_
  refine w_s (np := 54) (lv' := [some (eR 98), some (eI (8)), some (eI (1)), some (eI (2)), some (eI (p)), some (eI (q)), some (eI (r)), some (eI (s)), some (eI (100)), some (eI (104))]) (st' := [eI (101), eR 100, eI (0), eJ (-1), eR 98]) rfl (b_iadd rfl) rfl ?_
  refine w_al (np := 55) (v := -1) rfl rfl (t_al (k := 101) hq rfl (by decide) rfl) ?_
  refine w_s (np := 56) (lv' := [some (eR 98), some (eI (8)), some (eI (1)), some (eI (2)), some (eI (p)), some (eI (q)), some (eI (r)), some (eI (s)), some (eI (100)), some (eI (104))]) (st' := [eI (1), eJ (-1), eR 98]) rfl (b_isub rfl) rfl ?_
  refine w_s (np := 57) (lv' := [some (eR 98), some (eI (8)), some (eI (1)), some (eI (2)), some (eI (p)), some (eI (q)), some (eI (r)), some (eI (s)), some (eI (100)), some (eI (104))]) (st' := [eJ (1), eJ (-1), eR 98]) rfl (b_i2l rfl) rfl ?_
  refine w_s (np := 58) (lv' := [some (eR 98), some (eI (8)), some (eI (1)), some (eI (2)), some (eI (p)), some (eI (q)), some (eI (r)), some (eI (s)), some (eI (100)), some (eI (104))]) (st' := [eR 98, eJ (1), eJ (-1), eR 98]) rfl (s_an rfl (by decide)) rfl ?_
  refine w_gf (np := 61) (v := eR 100) rfl rfl hq.1 (by rw [hq.2.1]; rfl) ?_
  refine w_s (np := 63) (lv' := [some (eR 98), some (eI (8)), some (eI (1)), some (eI (2)), some (eI (p)), some (eI (q)), some (eI (r)), some (eI (s)), some (eI (100)), some (eI (104))]) (st' := [eI (104), eR 100, eJ (1), eJ (-1), eR 98]) rfl rfl rfl ?_
  refine w_s (np := 64) (lv' := [some (eR 98), some (eI (8)), some (eI (1)), some (eI (2)), some (eI (p)), some (eI (q)), some (eI (r)), some (eI (s)), some (eI (100)), some (eI (104))]) (st' := [eI (2), eI (104), eR 100, eJ (1), eJ (-1), eR 98]) rfl rfl rfl ?_
  refine w_s (np := 65) (lv' := [some (eR 98), some (eI (8)), some (eI (1)), some (eI (2)), some (eI (p)), some (eI (q)), some (eI (r)), some (eI (s)), some (eI (100)), some (eI (104))]) (st' := [eI (106), eR 100, eJ (1), eJ (-1), eR 98]) rfl (b_iadd rfl) rfl ?_
  refine w_al (np := 66) (v := 0) rfl rfl (t_al (k := 106) hq rfl (by decide) rfl) ?_
  refine w_s (np := 67) (lv' := [some (eR 98), some (eI (8)), some (eI (1)), some (eI (2)), some (eI (p)), some (eI (q)), some (eI (r)), some (eI (s)), some (eI (100)), some (eI (104))]) (st' := [eR 98, eI (0), eJ (1), eJ (-1), eR 98]) rfl (s_an rfl (by decide)) rfl ?_
  refine w_gf (np := 70) (v := eR 100) rfl rfl hq.1 (by rw [hq.2.1]; rfl) ?_
  refine w_s (np := 72) (lv' := [some (eR 98), some (eI (8)), some (eI (1)), some (eI (2)), some (eI (p)), some (eI (q)), some (eI (r)), some (eI (s)), some (eI (100)), some (eI (104))]) (st' := [eI (100), eR 100, eI (0), eJ (1), eJ (-1), eR 98]) rfl rfl rfl ?_
  refine w_s (np := 73) (lv' := [some (eR 98), some (eI (8)), some (eI (1)), some (eI (2)), some (eI (p)), some (eI (q)), some (eI (r)), some (eI (s)), some (eI (100)), some (eI (104))]) (st' := [eI (2), eI (100), eR 100, eI (0), eJ (1), eJ (-1), eR 98]) rfl rfl rfl ?_
  refine w_s (np := 74) (lv' := [some (eR 98), some (eI (8)), some (eI (1)), some (eI (2)), some (eI (p)), some (eI (q)), some (eI (r)), some (eI (s)), some (eI (100)), some (eI (104))]) (st' := [eI (102), eR 100, eI (0), eJ (1), eJ (-1), eR 98]) rfl (b_iadd rfl) rfl ?_
  refine w_al (np := 75) (v := 1) rfl rfl (t_al (k := 102) hq rfl (by decide) rfl) ?_
  refine w_s (np := 76) (lv' := [some (eR 98), some (eI (8)), some (eI (1)), some (eI (2)), some (eI (p)), some (eI (q)), some (eI (r)), some (eI (s)), some (eI (100)), some (eI (104))]) (st' := [eI (-1), eJ (1), eJ (-1), eR 98]) rfl (b_isub rfl) rfl ?_
  refine w_s (np := 77) (lv' := [some (eR 98), some (eI (8)), some (eI (1)), some (eI (2)), some (eI (p)), some (eI (q)), some (eI (r)), some (eI (s)), some (eI (100)), some (eI (104))]) (st' := [eJ (-1), eJ (1), eJ (-1), eR 98]) rfl (b_i2l rfl) rfl ?_
  refine w_s (np := 78) (lv' := [some (eR 98), some (eI (8)), some (eI (1)), some (eI (2)), some (eI (p)), some (eI (q)), some (eI (r)), some (eI (s)), some (eI (100)), some (eI (104))]) (st' := [eR 98, eJ (-1), eJ (1), eJ (-1), eR 98]) rfl (s_an rfl (by decide)) rfl ?_
  refine w_gf (np := 81) (v := eR 100) rfl rfl hq.1 (by rw [hq.2.1]; rfl) ?_
  refine w_s (np := 83) (lv' := [some (eR 98), some (eI (8)), some (eI (1)), some (eI (2)), some (eI (p)), some (eI (q)), some (eI (r)), some (eI (s)), some (eI (100)), some (eI (104))]) (st' := [eI (104), eR 100, eJ (-1), eJ (1), eJ (-1), eR 98]) rfl rfl rfl ?_
  refine w_s (np := 84) (lv' := [some (eR 98), some (eI (8)), some (eI (1)), some (eI (2)), some (eI (p)), some (eI (q)), some (eI (r)), some (eI (s)), some (eI (100)), some (eI (104))]) (st' := [eI (3), eI (104), eR 100, eJ (-1), eJ (1), eJ (-1), eR 98]) rfl rfl rfl ?_
  refine w_s (np := 85) (lv' := [some (eR 98), some (eI (8)), some (eI (1)), some (eI (2)), some (eI (p)), some (eI (q)), some (eI (r)), some (eI (s)), some (eI (100)), some (eI (104))]) (st' := [eI (107), eR 100, eJ (-1), eJ (1), eJ (-1), eR 98]) rfl (b_iadd rfl) rfl ?_
  refine w_al (np := 86) (v := -1) rfl rfl (t_al (k := 107) hq rfl (by decide) rfl) ?_
  refine w_s (np := 87) (lv' := [some (eR 98), some (eI (8)), some (eI (1)), some (eI (2)), some (eI (p)), some (eI (q)), some (eI (r)), some (eI (s)), some (eI (100)), some (eI (104))]) (st' := [eR 98, eI (-1), eJ (-1), eJ (1), eJ (-1), eR 98]) rfl (s_an rfl (by decide)) rfl ?_
  refine w_gf (np := 90) (v := eR 100) rfl rfl hq.1 (by rw [hq.2.1]; rfl) ?_
  refine w_s (np := 92) (lv' := [some (eR 98), some (eI (8)), some (eI (1)), some (eI (2)), some (eI (p)), some (eI (q)), some (eI (r)), some (eI (s)), some (eI (100)), some (eI (104))]) (st' := [eI (100), eR 100, eI (-1), eJ (-1), eJ (1), eJ (-1), eR 98]) rfl rfl rfl ?_
  refine w_s (np := 93) (lv' := [some (eR 98), some (eI (8)), some (eI (1)), some (eI (2)), some (eI (p)), some (eI (q)), some (eI (r)), some (eI (s)), some (eI (100)), some (eI (104))]) (st' := [eI (3), eI (100), eR 100, eI (-1), eJ (-1), eJ (1), eJ (-1), eR 98]) rfl rfl rfl ?_
  refine w_s (np := 94) (lv' := [some (eR 98), some (eI (8)), some (eI (1)), some (eI (2)), some (eI (p)), some (eI (q)), some (eI (r)), some (eI (s)), some (eI (100)), some (eI (104))]) (st' := [eI (103), eR 100, eI (-1), eJ (-1), eJ (1), eJ (-1), eR 98]) rfl (b_iadd rfl) rfl ?_
  refine w_al (np := 95) (v := -1) rfl rfl (t_al (k := 103) hq rfl (by decide) rfl) ?_
  refine w_s (np := 96) (lv' := [some (eR 98), some (eI (8)), some (eI (1)), some (eI (2)), some (eI (p)), some (eI (q)), some (eI (r)), some (eI (s)), some (eI (100)), some (eI (104))]) (st' := [eI (0), eJ (-1), eJ (1), eJ (-1), eR 98]) rfl (b_isub rfl) rfl ?_
  refine w_s (np := 97) (lv' := [some (eR 98), some (eI (8)), some (eI (1)), some (eI (2)), some (eI (p)), some (eI (q)), some (eI (r)), some (eI (s)), some (eI (100)), some (eI (104))]) (st' := [eJ (0), eJ (-1), eJ (1), eJ (-1), eR 98]) rfl (b_i2l rfl) rfl ?_
  refine w_s (np := 99) (lv' := [some (eR 98), some (eI (8)), some (eI (1)), some (eI (2)), some (eI (p)), some (eI (q)), some (eI (r)), some (eI (s)), some (eI (100)), some (eI (104))]) (st' := [eI (p), eJ (0), eJ (-1), eJ (1), eJ (-1), eR 98]) rfl rfl rfl ?_
  refine w_s (np := 100) (lv' := [some (eR 98), some (eI (8)), some (eI (1)), some (eI (2)), some (eI (p)), some (eI (q)), some (eI (r)), some (eI (s)), some (eI (100)), some (eI (104))]) (st' := [eJ (p), eJ (0), eJ (-1), eJ (1), eJ (-1), eR 98]) rfl (b_i2l (ev_w_in (by omega) (by omega))) rfl ?_
  refine w_s (np := 101) (lv' := [some (eR 98), some (eI (8)), some (eI (1)), some (eI (2)), some (eI (p)), some (eI (q)), some (eI (r)), some (eI (s)), some (eI (100)), some (eI (104))]) (st' := [eR 98, eJ (p), eJ (0), eJ (-1), eJ (1), eJ (-1), eR 98]) rfl (s_an rfl (by decide)) rfl ?_
  refine w_gf (np := 104) (v := eR 100) rfl rfl hq.1 (by rw [hq.2.1]; rfl) ?_
  refine w_s (np := 106) (lv' := [some (eR 98), some (eI (8)), some (eI (1)), some (eI (2)), some (eI (p)), some (eI (q)), some (eI (r)), some (eI (s)), some (eI (100)), some (eI (104))]) (st' := [eI (100), eR 100, eJ (p), eJ (0), eJ (-1), eJ (1), eJ (-1), eR 98]) rfl rfl rfl ?_
  refine w_al (np := 107) (v := 1) rfl rfl (t_al (k := 100) hq rfl (by decide) rfl) ?_
  refine w_s (np := 108) (lv' := [some (eR 98), some (eI (8)), some (eI (1)), some (eI (2)), some (eI (p)), some (eI (q)), some (eI (r)), some (eI (s)), some (eI (100)), some (eI (104))]) (st' := [eJ (1), eJ (p), eJ (0), eJ (-1), eJ (1), eJ (-1), eR 98]) rfl (b_i2l rfl) rfl ?_
  obtain ⟨v1, e2⟩ : ∃ v : Int, v = (p) - (1) := ⟨_, rfl⟩
  have b3 : -10000 ≤ v1 ∧ v1 ≤ 9998 := by omega
  refine w_s (np := 109) (lv' := [some (eR 98), some (eI (8)), some (eI (1)), some (eI (2)), some (eI (p)), some (eI (q)), some (eI (r)), some (eI (s)), some (eI (100)), some (eI (104))]) (st' := [eJ (v1), eJ (0), eJ (-1), eJ (1), eJ (-1), eR 98]) rfl (b_lsub (by rw [← e2]; exact ev_W_in (by omega) (by omega))) rfl ?_
  refine w_s (np := 111) (lv' := [some (eR 98), some (eI (8)), some (eI (1)), some (eI (2)), some (eI (p)), some (eI (q)), some (eI (r)), some (eI (s)), some (eI (100)), some (eI (104))]) (st' := [eI (q), eJ (v1), eJ (0), eJ (-1), eJ (1), eJ (-1), eR 98]) rfl rfl rfl ?_
  refine w_s (np := 112) (lv' := [some (eR 98), some (eI (8)), some (eI (1)), some (eI (2)), some (eI (p)), some (eI (q)), some (eI (r)), some (eI (s)), some (eI (100)), some (eI (104))]) (st' := [eJ (q), eJ (v1), eJ (0), eJ (-1), eJ (1), eJ (-1), eR 98]) rfl (b_i2l (ev_w_in (by omega) (by omega))) rfl ?_
  refine w_s (np := 113) (lv' := [some (eR 98), some (eI (8)), some (eI (1)), some (eI (2)), some (eI (p)), some (eI (q)), some (eI (r)), some (eI (s)), some (eI (100)), some (eI (104))]) (st' := [eR 98, eJ (q), eJ (v1), eJ (0), eJ (-1), eJ (1), eJ (-1), eR 98]) rfl (s_an rfl (by decide)) rfl ?_
  refine w_gf (np := 116) (v := eR 100) rfl rfl hq.1 (by rw [hq.2.1]; rfl) ?_
  refine w_s (np := 118) (lv' := [some (eR 98), some (eI (8)), some (eI (1)), some (eI (2)), some (eI (p)), some (eI (q)), some (eI (r)), some (eI (s)), some (eI (100)), some (eI (104))]) (st' := [eI (100), eR 100, eJ (q), eJ (v1), eJ (0), eJ (-1), eJ (1), eJ (-1), eR 98]) rfl rfl rfl ?_
  refine w_s (np := 119) (lv' := [some (eR 98), some (eI (8)), some (eI (1)), some (eI (2)), some (eI (p)), some (eI (q)), some (eI (r)), some (eI (s)), some (eI (100)), some (eI (104))]) (st' := [eI (1), eI (100), eR 100, eJ (q), eJ (v1), eJ (0), eJ (-1), eJ (1), eJ (-1), eR 98]) rfl rfl rfl ?_
  refine w_s (np := 120) (lv' := [some (eR 98), some (eI (8)), some (eI (1)), some (eI (2)), some (eI (p)), some (eI (q)), some (eI (r)), some (eI (s)), some (eI (100)), some (eI (104))]) (st' := [eI (101), eR 100, eJ (q), eJ (v1), eJ (0), eJ (-1), eJ (1), eJ (-1), eR 98]) rfl (b_iadd rfl) rfl ?_
  refine w_al (np := 121) (v := -1) rfl rfl (t_al (k := 101) hq rfl (by decide) rfl) ?_
  refine w_s (np := 122) (lv' := [some (eR 98), some (eI (8)), some (eI (1)), some (eI (2)), some (eI (p)), some (eI (q)), some (eI (r)), some (eI (s)), some (eI (100)), some (eI (104))]) (st' := [eJ (-1), eJ (q), eJ (v1), eJ (0), eJ (-1), eJ (1), eJ (-1), eR 98]) rfl (b_i2l rfl) rfl ?_
  obtain ⟨v4, e5⟩ : ∃ v : Int, v = (q) - (-1) := ⟨_, rfl⟩
  have b6 : -9998 ≤ v4 ∧ v4 ≤ 10000 := by omega
  refine w_s (np := 123) (lv' := [some (eR 98), some (eI (8)), some (eI (1)), some (eI (2)), some (eI (p)), some (eI (q)), some (eI (r)), some (eI (s)), some (eI (100)), some (eI (104))]) (st' := [eJ (v4), eJ (v1), eJ (0), eJ (-1), eJ (1), eJ (-1), eR 98]) rfl (b_lsub (by rw [← e5]; exact ev_W_in (by omega) (by omega))) rfl ?_
  refine w_s (np := 125) (lv' := [some (eR 98), some (eI (8)), some (eI (1)), some (eI (2)), some (eI (p)), some (eI (q)), some (eI (r)), some (eI (s)), some (eI (100)), some (eI (104))]) (st' := [eI (r), eJ (v4), eJ (v1), eJ (0), eJ (-1), eJ (1), eJ (-1), eR 98]) rfl rfl rfl ?_
  refine w_s (np := 126) (lv' := [some (eR 98), some (eI (8)), some (eI (1)), some (eI (2)), some (eI (p)), some (eI (q)), some (eI (r)), some (eI (s)), some (eI (100)), some (eI (104))]) (st' := [eJ (r), eJ (v4), eJ (v1), eJ (0), eJ (-1), eJ (1), eJ (-1), eR 98]) rfl (b_i2l (ev_w_in (by omega) (by omega))) rfl ?_
  refine w_s (np := 127) (lv' := [some (eR 98), some (eI (8)), some (eI (1)), some (eI (2)), some (eI (p)), some (eI (q)), some (eI (r)), some (eI (s)), some (eI (100)), some (eI (104))]) (st' := [eR 98, eJ (r), eJ (v4), eJ (v1), eJ (0), eJ (-1), eJ (1), eJ (-1), eR 98]) rfl (s_an rfl (by decide)) rfl ?_
  refine w_gf (np := 130) (v := eR 100) rfl rfl hq.1 (by rw [hq.2.1]; rfl) ?_
  refine w_s (np := 132) (lv' := [some (eR 98), some (eI (8)), some (eI (1)), some (eI (2)), some (eI (p)), some (eI (q)), some (eI (r)), some (eI (s)), some (eI (100)), some (eI (104))]) (st' := [eI (100), eR 100, eJ (r), eJ (v4), eJ (v1), eJ (0), eJ (-1), eJ (1), eJ (-1), eR 98]) rfl rfl rfl ?_
  refine w_s (np := 133) (lv' := [some (eR 98), some (eI (8)), some (eI (1)), some (eI (2)), some (eI (p)), some (eI (q)), some (eI (r)), some (eI (s)), some (eI (100)), some (eI (104))]) (st' := [eI (2), eI (100), eR 100, eJ (r), eJ (v4), eJ (v1), eJ (0), eJ (-1), eJ (1), eJ (-1), eR 98]) rfl rfl rfl ?_
  refine w_s (np := 134) (lv' := [some (eR 98), some (eI (8)), some (eI (1)), some (eI (2)), some (eI (p)), some (eI (q)), some (eI (r)), some (eI (s)), some (eI (100)), some (eI (104))]) (st' := [eI (102), eR 100, eJ (r), eJ (v4), eJ (v1), eJ (0), eJ (-1), eJ (1), eJ (-1), eR 98]) rfl (b_iadd rfl) rfl ?_
  refine w_al (np := 135) (v := 1) rfl rfl (t_al (k := 102) hq rfl (by decide) rfl) ?_
  refine w_s (np := 136) (lv' := [some (eR 98), some (eI (8)), some (eI (1)), some (eI (2)), some (eI (p)), some (eI (q)), some (eI (r)), some (eI (s)), some (eI (100)), some (eI (104))]) (st' := [eJ (1), eJ (r), eJ (v4), eJ (v1), eJ (0), eJ (-1), eJ (1), eJ (-1), eR 98]) rfl (b_i2l rfl) rfl ?_
  obtain ⟨v7, e8⟩ : ∃ v : Int, v = (r) - (1) := ⟨_, rfl⟩
  have b9 : -10000 ≤ v7 ∧ v7 ≤ 9998 := by omega
  refine w_s (np := 137) (lv' := [some (eR 98), some (eI (8)), some (eI (1)), some (eI (2)), some (eI (p)), some (eI (q)), some (eI (r)), some (eI (s)), some (eI (100)), some (eI (104))]) (st' := [eJ (v7), eJ (v4), eJ (v1), eJ (0), eJ (-1), eJ (1), eJ (-1), eR 98]) rfl (b_lsub (by rw [← e8]; exact ev_W_in (by omega) (by omega))) rfl ?_
  refine w_s (np := 139) (lv' := [some (eR 98), some (eI (8)), some (eI (1)), some (eI (2)), some (eI (p)), some (eI (q)), some (eI (r)), some (eI (s)), some (eI (100)), some (eI (104))]) (st' := [eI (s), eJ (v7), eJ (v4), eJ (v1), eJ (0), eJ (-1), eJ (1), eJ (-1), eR 98]) rfl rfl rfl ?_
  refine w_s (np := 140) (lv' := [some (eR 98), some (eI (8)), some (eI (1)), some (eI (2)), some (eI (p)), some (eI (q)), some (eI (r)), some (eI (s)), some (eI (100)), some (eI (104))]) (st' := [eJ (s), eJ (v7), eJ (v4), eJ (v1), eJ (0), eJ (-1), eJ (1), eJ (-1), eR 98]) rfl (b_i2l (ev_w_in (by omega) (by omega))) rfl ?_
  refine w_s (np := 141) (lv' := [some (eR 98), some (eI (8)), some (eI (1)), some (eI (2)), some (eI (p)), some (eI (q)), some (eI (r)), some (eI (s)), some (eI (100)), some (eI (104))]) (st' := [eR 98, eJ (s), eJ (v7), eJ (v4), eJ (v1), eJ (0), eJ (-1), eJ (1), eJ (-1), eR 98]) rfl (s_an rfl (by decide)) rfl ?_
  refine w_gf (np := 144) (v := eR 100) rfl rfl hq.1 (by rw [hq.2.1]; rfl) ?_
  refine w_s (np := 146) (lv' := [some (eR 98), some (eI (8)), some (eI (1)), some (eI (2)), some (eI (p)), some (eI (q)), some (eI (r)), some (eI (s)), some (eI (100)), some (eI (104))]) (st' := [eI (100), eR 100, eJ (s), eJ (v7), eJ (v4), eJ (v1), eJ (0), eJ (-1), eJ (1), eJ (-1), eR 98]) rfl rfl rfl ?_
  refine w_s (np := 147) (lv' := [some (eR 98), some (eI (8)), some (eI (1)), some (eI (2)), some (eI (p)), some (eI (q)), some (eI (r)), some (eI (s)), some (eI (100)), some (eI (104))]) (st' := [eI (3), eI (100), eR 100, eJ (s), eJ (v7), eJ (v4), eJ (v1), eJ (0), eJ (-1), eJ (1), eJ (-1), eR 98]) rfl rfl rfl ?_
  refine w_s (np := 148) (lv' := [some (eR 98), some (eI (8)), some (eI (1)), some (eI (2)), some (eI (p)), some (eI (q)), some (eI (r)), some (eI (s)), some (eI (100)), some (eI (104))]) (st' := [eI (103), eR 100, eJ (s), eJ (v7), eJ (v4), eJ (v1), eJ (0), eJ (-1), eJ (1), eJ (-1), eR 98]) rfl (b_iadd rfl) rfl ?_
  refine w_al (np := 149) (v := -1) rfl rfl (t_al (k := 103) hq rfl (by decide) rfl) ?_
  refine w_s (np := 150) (lv' := [some (eR 98), some (eI (8)), some (eI (1)), some (eI (2)), some (eI (p)), some (eI (q)), some (eI (r)), some (eI (s)), some (eI (100)), some (eI (104))]) (st' := [eJ (-1), eJ (s), eJ (v7), eJ (v4), eJ (v1), eJ (0), eJ (-1), eJ (1), eJ (-1), eR 98]) rfl (b_i2l rfl) rfl ?_
  obtain ⟨v10, e11⟩ : ∃ v : Int, v = (s) - (-1) := ⟨_, rfl⟩
  have b12 : -9998 ≤ v10 ∧ v10 ≤ 10000 := by omega
  refine w_s (np := 151) (lv' := [some (eR 98), some (eI (8)), some (eI (1)), some (eI (2)), some (eI (p)), some (eI (q)), some (eI (r)), some (eI (s)), some (eI (100)), some (eI (104))]) (st' := [eJ (v10), eJ (v7), eJ (v4), eJ (v1), eJ (0), eJ (-1), eJ (1), eJ (-1), eR 98]) rfl (b_lsub (by rw [← e11]; exact ev_W_in (by omega) (by omega))) rfl ?_
  refine w_cv (np := 154) (as := [eJ (-1), eJ (1), eJ (-1), eJ (0), eJ (v1), eJ (v4), eJ (v7), eJ (v10)]) (lv' := [some (eR 98), some (eJ (-1)), none, some (eJ (1)), none, some (eJ (-1)), none, some (eJ (0)), none, some (eJ (v1)), none, some (eJ (v4)), none, some (eJ (v7)), none, some (eJ (v10)), none]) (rest := []) rfl rfl rfl (Nat.ble_eq.mp rfl) rfl rfl rfl hq.1 rfl ?_
  refine t224 hq.1 (show (-8 : Int) ≤ -1 ∧ (-1 : Int) ≤ 8 by omega) (show (-8 : Int) ≤ 1 ∧ (1 : Int) ≤ 8 by omega) (show (-8 : Int) ≤ -1 ∧ (-1 : Int) ≤ 8 by omega) (show (-8 : Int) ≤ 0 ∧ (0 : Int) ≤ 8 by omega) (show (-100000 : Int) ≤ v1 ∧ (v1 : Int) ≤ 100000 by omega) (show (-100000 : Int) ≤ v4 ∧ (v4 : Int) ≤ 100000 by omega) (show (-100000 : Int) ≤ v7 ∧ (v7 : Int) ≤ 100000 by omega) (show (-100000 : Int) ≤ v10 ∧ (v10 : Int) ≤ 100000 by omega) ?_
  intro m B G s1 eB eG bB bG
  show ex_fine fg rc rs (d + 4, (265, 154, [some (eR 98), some (eI (8)), some (eI (1)), some (eI (2)), some (eI (p)), some (eI (q)), some (eI (r)), some (eI (s)), some (eI (100)), some (eI (104))], [eI (rSg (2 * B + G) G)]), f :: F, m)
  refine b_ri rfl rfl ?_
  have hB : B = (-1) * p + 1 * r + (-1) * s + (-1) := by omega
  have hG : G = 1 * p + (-1) * r := by omega
  have hr := rSg_ok (x := 2 * B + G) (b := G) (by omega)
  have e9 : 416020 * (2 * B + G) + 930249 * G = 514229 * p + (-514229) * r + (-832040) * s + (-832040) := by omega
  rw [e9] at hr
  exact K m _ s1 hr (rSg_v _ _)
theorem t265_8_2 {fg : eG} {rc rs d : Nat} {f : eFr} {F : List eFr} {μ : eM} {p q r s : Int} (hq : tQ μ) (hp : -9999 ≤ p ∧ p ≤ 9999) (hq0 : -9999 ≤ q ∧ q ≤ 9999) (hr : -9999 ≤ r ∧ r ≤ 9999) (hs : -9999 ≤ s ∧ s ≤ 9999) (K : ∀ (μ2 : eM) (u : Int), tS μ μ2 → ((0 ≤ u ↔ 0 ≤ (-1346269) * p + (-1346269) * q + (-832040) * r) ∧ (u ≤ 0 ↔ (-1346269) * p + (-1346269) * q + (-832040) * r ≤ 0)) → (u = 0 ∨ u = 1 ∨ u = -1) → ex_fine fg rc rs (d + 5, (f.1, f.2.1, f.2.2.1, eI u :: f.2.2.2), F, μ2)) : ex_fine fg rc rs (d + 4, (265, 0, [some (eR 98), some (eI (8)), some (eI (2)), some (eI (0)), some (eI (p)), some (eI (q)), some (eI (r)), some (eI (s)), none, none], []), f :: F, μ) := by
  refine w_s (np := 2) (lv' := [some (eR 98), some (eI (8)), some (eI (2)), some (eI (0)), some (eI (p)), some (eI (q)), some (eI (r)), some (eI (s)), none, none]) (st' := [eI (12)]) rfl rfl rfl ?_
  refine w_s (np := 3) (lv' := [some (eR 98), some (eI (8)), some (eI (2)), some (eI (0)), some (eI (p)), some (eI (q)), some (eI (r)), some (eI (s)), none, none]) (st' := [eI (8), eI (12)]) rfl rfl rfl ?_
  refine w_s (np := 4) (lv' := [some (eR 98), some (eI (8)), some (eI (2)), some (eI (0)), some (eI (p)), some (eI (q)), some (eI (r)), some (eI (s)), none, none]) (st' := [eI (96)]) rfl (b_imul rfl) rfl ?_
  refine w_s (np := 5) (lv' := [some (eR 98), some (eI (8)), some (eI (2)), some (eI (0)), some (eI (p)), some (eI (q)), some (eI (r)), some (eI (s)), none, none]) (st' := [eI (4), eI (96)]) rfl rfl rfl ?_
  refine w_s (np := 6) (lv' := [some (eR 98), some (eI (8)), some (eI (2)), some (eI (0)), some (eI (p)), some (eI (q)), some (eI (r)), some (eI (s)), none, none]) (st' := [eI (2), eI (4), eI (96)]) rfl rfl rfl ?_
  refine w_s (np := 7) (lv' := [some (eR 98), some (eI (8)), some (eI (2)), some (eI (0)), some (eI (p)), some (eI (q)), some (eI (r)), some (eI (s)), none, none]) (st' := [eI (8), eI (96)]) rfl (b_imul rfl) rfl ?_
  refine w_s (np := 8) (lv' := [some (eR 98), some (eI (8)), some (eI (2)), some (eI (0)), some (eI (p)), some (eI (q)), some (eI (r)), some (eI (s)), none, none]) (st' := [eI (104)]) rfl (b_iadd rfl) rfl ?_
  refine w_s (np := 10) (lv' := [some (eR 98), some (eI (8)), some (eI (2)), some (eI (0)), some (eI (p)), some (eI (q)), some (eI (r)), some (eI (s)), some (eI (104)), none]) (st' := []) rfl rfl rfl ?_
  refine w_s (np := 12) (lv' := [some (eR 98), some (eI (8)), some (eI (2)), some (eI (0)), some (eI (p)), some (eI (q)), some (eI (r)), some (eI (s)), some (eI (104)), none]) (st' := [eI (12)]) rfl rfl rfl ?_
  refine w_s (np := 13) (lv' := [some (eR 98), some (eI (8)), some (eI (2)), some (eI (0)), some (eI (p)), some (eI (q)), some (eI (r)), some (eI (s)), some (eI (104)), none]) (st' := [eI (8), eI (12)]) rfl rfl rfl ?_
  refine w_s (np := 14) (lv' := [some (eR 98), some (eI (8)), some (eI (2)), some (eI (0)), some (eI (p)), some (eI (q)), some (eI (r)), some (eI (s)), some (eI (104)), none]) (st' := [eI (96)]) rfl (b_imul rfl) rfl ?_
  refine w_s (np := 15) (lv' := [some (eR 98), some (eI (8)), some (eI (2)), some (eI (0)), some (eI (p)), some (eI (q)), some (eI (r)), some (eI (s)), some (eI (104)), none]) (st' := [eI (4), eI (96)]) rfl rfl rfl ?_
  refine w_s (np := 16) (lv' := [some (eR 98), some (eI (8)), some (eI (2)), some (eI (0)), some (eI (p)), some (eI (q)), some (eI (r)), some (eI (s)), some (eI (104)), none]) (st' := [eI (0), eI (4), eI (96)]) rfl rfl rfl ?_
  refine w_s (np := 17) (lv' := [some (eR 98), some (eI (8)), some (eI (2)), some (eI (0)), some (eI (p)), some (eI (q)), some (eI (r)), some (eI (s)), some (eI (104)), none]) (st' := [eI (0), eI (96)]) rfl (b_imul rfl) rfl ?_
  refine w_s (np := 18) (lv' := [some (eR 98), some (eI (8)), some (eI (2)), some (eI (0)), some (eI (p)), some (eI (q)), some (eI (r)), some (eI (s)), some (eI (104)), none]) (st' := [eI (96)]) rfl (b_iadd rfl) rfl ?_
  refine w_s (np := 20) (lv' := [some (eR 98), some (eI (8)), some (eI (2)), some (eI (0)), some (eI (p)), some (eI (q)), some (eI (r)), some (eI (s)), some (eI (104)), some (eI (96))]) (st' := []) rfl rfl rfl ?_
  refine w_s (np := 21) (lv' := [some (eR 98), some (eI (8)), some (eI (2)), some (eI (0)), some (eI (p)), some (eI (q)), some (eI (r)), some (eI (s)), some (eI (104)), some (eI (96))]) (st' := [eR 98]) rfl (s_an rfl (by decide)) rfl ?_
  refine w_s (np := 22) (lv' := [some (eR 98), some (eI (8)), some (eI (2)), some (eI (0)), some (eI (p)), some (eI (q)), some (eI (r)), some (eI (s)), some (eI (104)), some (eI (96))]) (st' := [eR 98, eR 98]) rfl (s_an rfl (by decide)) rfl ?_
  refine w_gf (np := 25) (v := eR 100) rfl rfl hq.1 (by rw [hq.2.1]; rfl) ?_
  refine w_s (np := 27) (lv' := [some (eR 98), some (eI (8)), some (eI (2)), some (eI (0)), some (eI (p)), some (eI (q)), some (eI (r)), some (eI (s)), some (eI (104)), some (eI (96))]) (st' := [eI (96), eR 100, eR 98]) rfl rfl rfl ?_
  refine w_al (np := 28) (v := 0) rfl rfl (t_al (k := 96) hq rfl (by decide) rfl) ?_
  refine w_s (np := 29) (lv' := [some (eR 98), some (eI (8)), some (eI (2)), some (eI (0)), some (eI (p)), some (eI (q)), some (eI (r)), some (eI (s)), some (eI (104)), some (eI (96))]) (st' := [eR 98, eI (0), eR 98]) rfl (s_an rfl (by decide)) rfl ?_
  refine w_gf (np := 32) (v := eR 100) rfl rfl hq.1 (by rw [hq.2.1]; rfl) ?_
  refine w_s (np := 34) (lv' := [some (eR 98), some (eI (8)), some (eI (2)), some (eI (0)), some (eI (p)), some (eI (q)), some (eI (r)), some (eI (s)), some (eI (104)), some (eI (96))]) (st' := [eI (104), eR 100, eI (0), eR 98]) rfl rfl rfl ?_
  refine w_al (np := 35) (v := 0) rfl rfl (t_al (k := 104) hq rfl (by decide) rfl) ?_
  refine w_s (np := 36) (lv' := [some (eR 98), some (eI (8)), some (eI (2)), some (eI (0)), some (eI (p)), some (eI (q)), some (eI (r)), some (eI (s)), some (eI (104)), some (eI (96))]) (st' := [eI (0), eR 98]) rfl (b_isub rfl) rfl ?_
  refine w_s (np := 37) (lv' := [some (eR 98), some (eI (8)), some (eI (2)), some (eI (0)), some (eI (p)), some (eI (q)), some (eI (r)), some (eI (s)), some (eI (104)), some (eI (96))]) (st' := [eJ (0), eR 98]) rfl (b_i2l rfl) rfl ?_
  refine w_s (np := 38) (lv' := [some (eR 98), some (eI (8)), some (eI (2)), some (eI (0)), some (eI (p)), some (eI (q)), some (eI (r)), some (eI (s)), some (eI (104)), some (eI (96))]) (st' := [eR 98, eJ (0), eR 98]) rfl (s_an rfl (by decide)) rfl ?_
  refine w_gf (np := 41) (v := eR 100) rfl rfl hq.1 (by rw [hq.2.1]; rfl) ?_
  refine w_s (np := 43) (lv' := [some (eR 98), some (eI (8)), some (eI (2)), some (eI (0)), some (eI (p)), some (eI (q)), some (eI (r)), some (eI (s)), some (eI (104)), some (eI (96))]) (st' := [eI (96), eR 100, eJ (0), eR 98]) rfl rfl rfl ?_
  refine w_s (np := 44) (lv' := [some (eR 98), some (eI (8)), some (eI (2)), some (eI (0)), some (eI (p)), some (eI (q)), some (eI (r)), some (eI (s)), some (eI (104)), some (eI (96))]) (st' := [eI (1), eI (96), eR 100, eJ (0), eR 98]) rfl rfl rfl ?_
  refine w_s (np := 45) (lv' := [some (eR 98), some (eI (8)), some (eI (2)), some (eI (0)), some (eI (p)), some (eI (q)), some (eI (r)), some (eI (s)), some (eI (104)), some (eI (96))]) (st' := [eI (97), eR 100, eJ (0), eR 98]) rfl (b_iadd rfl) rfl ?_
  refine w_al (np := 46) (v := 0) rfl rfl (t_al (k := 97) hq rfl (by decide) rfl) ?_
  refine w_s (np := 47) (lv' := [some (eR 98), some (eI (8)), some (eI (2)), some (eI (0)), some (eI (p)), some (eI (q)), some (eI (r)), some (eI (s)), some (eI (104)), some (eI (96))]) (st' := [eR 98, eI (0), eJ (0), eR 98]) rfl (s_an rfl (by decide)) rfl ?_
  refine w_gf (np := 50) (v := eR 100) rfl rfl hq.1 (by rw [hq.2.1]; rfl) ?_
  refine w_s (np := 52) (lv' := [some (eR 98), some (eI (8)), some (eI (2)), some (eI (0)), some (eI (p)), some (eI (q)), some (eI (r)), some (eI (s)), some (eI (104)), some (eI (96))]) (st' := [eI (104), eR 100, eI (0), eJ (0), eR 98]) rfl rfl rfl ?_
  refine w_s (np := 53) (lv' := [some (eR 98), some (eI (8)), some (eI (2)), some (eI (0)), some (eI (p)), some (eI (q)), some (eI (r)), some (eI (s)), some (eI (104)), some (eI (96))]) (st' := [eI (1), eI (104), eR 100, eI (0), eJ (0), eR 98]) rfl rfl rfl ?_
  refine w_s (np := 54) (lv' := [some (eR 98), some (eI (8)), some (eI (2)), some (eI (0)), some (eI (p)), some (eI (q)), some (eI (r)), some (eI (s)), some (eI (104)), some (eI (96))]) (st' := [eI (105), eR 100, eI (0), eJ (0), eR 98]) rfl (b_iadd rfl) rfl ?_
  refine w_al (np := 55) (v := 0) rfl rfl (t_al (k := 105) hq rfl (by decide) rfl) ?_
  refine w_s (np := 56) (lv' := [some (eR 98), some (eI (8)), some (eI (2)), some (eI (0)), some (eI (p)), some (eI (q)), some (eI (r)), some (eI (s)), some (eI (104)), some (eI (96))]) (st' := [eI (0), eJ (0), eR 98]) rfl (b_isub rfl) rfl ?_
  refine w_s (np := 57) (lv' := [some (eR 98), some (eI (8)), some (eI (2)), some (eI (0)), some (eI (p)), some (eI (q)), some (eI (r)), some (eI (s)), some (eI (104)), some (eI (96))]) (st' := [eJ (0), eJ (0), eR 98]) rfl (b_i2l rfl) rfl ?_
  refine w_s (np := 58) (lv' := [some (eR 98), some (eI (8)), some (eI (2)), some (eI (0)), some (eI (p)), some (eI (q)), some (eI (r)), some (eI (s)), some (eI (104)), some (eI (96))]) (st' := [eR 98, eJ (0), eJ (0), eR 98]) rfl (s_an rfl (by decide)) rfl ?_
  refine w_gf (np := 61) (v := eR 100) rfl rfl hq.1 (by rw [hq.2.1]; rfl) ?_
  refine w_s (np := 63) (lv' := [some (eR 98), some (eI (8)), some (eI (2)), some (eI (0)), some (eI (p)), some (eI (q)), some (eI (r)), some (eI (s)), some (eI (104)), some (eI (96))]) (st' := [eI (96), eR 100, eJ (0), eJ (0), eR 98]) rfl rfl rfl ?_
  refine w_s (np := 64) (lv' := [some (eR 98), some (eI (8)), some (eI (2)), some (eI (0)), some (eI (p)), some (eI (q)), some (eI (r)), some (eI (s)), some (eI (104)), some (eI (96))]) (st' := [eI (2), eI (96), eR 100, eJ (0), eJ (0), eR 98]) rfl rfl rfl ?_
  refine w_s (np := 65) (lv' := [some (eR 98), some (eI (8)), some (eI (2)), some (eI (0)), some (eI (p)), some (eI (q)), some (eI (r)), some (eI (s)), some (eI (104)), some (eI (96))]) (st' := [eI (98), eR 100, eJ (0), eJ (0), eR 98]) rfl (b_iadd rfl) rfl ?_
  refine w_al (np := 66) (v := 0) rfl rfl (t_al (k := 98) hq rfl (by decide) rfl) ?_
  refine w_s (np := 67) (lv' := [some (eR 98), some (eI (8)), some (eI (2)), some (eI (0)), some (eI (p)), some (eI (q)), some (eI (r)), some (eI (s)), some (eI (104)), some (eI (96))]) (st' := [eR 98, eI (0), eJ (0), eJ (0), eR 98]) rfl (s_an rfl (by decide)) rfl ?_
  refine w_gf (np := 70) (v := eR 100) rfl rfl hq.1 (by rw [hq.2.1]; rfl) ?_
  refine w_s (np := 72) (lv' := [some (eR 98), some (eI (8)), some (eI (2)), some (eI (0)), some (eI (p)), some (eI (q)), some (eI (r)), some (eI (s)), some (eI (104)), some (eI (96))]) (st' := [eI (104), eR 100, eI (0), eJ (0), eJ (0), eR 98]) rfl rfl rfl ?_
  refine w_s (np := 73) (lv' := [some (eR 98), some (eI (8)), some (eI (2)), some (eI (0)), some (eI (p)), some (eI (q)), some (eI (r)), some (eI (s)), some (eI (104)), some (eI (96))]) (st' := [eI (2), eI (104), eR 100, eI (0), eJ (0), eJ (0), eR 98]) rfl rfl rfl ?_
  refine w_s (np := 74) (lv' := [some (eR 98), some (eI (8)), some (eI (2)), some (eI (0)), some (eI (p)), some (eI (q)), some (eI (r)), some (eI (s)), some (eI (104)), some (eI (96))]) (st' := [eI (106), eR 100, eI (0), eJ (0), eJ (0), eR 98]) rfl (b_iadd rfl) rfl ?_
  refine w_al (np := 75) (v := 0) rfl rfl (t_al (k := 106) hq rfl (by decide) rfl) ?_
  refine w_s (np := 76) (lv' := [some (eR 98), some (eI (8)), some (eI (2)), some (eI (0)), some (eI (p)), some (eI (q)), some (eI (r)), some (eI (s)), some (eI (104)), some (eI (96))]) (st' := [eI (0), eJ (0), eJ (0), eR 98]) rfl (b_isub rfl) rfl ?_
  refine w_s (np := 77) (lv' := [some (eR 98), some (eI (8)), some (eI (2)), some (eI (0)), some (eI (p)), some (eI (q)), some (eI (r)), some (eI (s)), some (eI (104)), some (eI (96))]) (st' := [eJ (0), eJ (0), eJ (0), eR 98]) rfl (b_i2l rfl) rfl ?_
  refine w_s (np := 78) (lv' := [some (eR 98), some (eI (8)), some (eI (2)), some (eI (0)), some (eI (p)), some (eI (q)), some (eI (r)), some (eI (s)), some (eI (104)), some (eI (96))]) (st' := [eR 98, eJ (0), eJ (0), eJ (0), eR 98]) rfl (s_an rfl (by decide)) rfl ?_
  refine w_gf (np := 81) (v := eR 100) rfl rfl hq.1 (by rw [hq.2.1]; rfl) ?_
  refine w_s (np := 83) (lv' := [some (eR 98), some (eI (8)), some (eI (2)), some (eI (0)), some (eI (p)), some (eI (q)), some (eI (r)), some (eI (s)), some (eI (104)), some (eI (96))]) (st' := [eI (96), eR 100, eJ (0), eJ (0), eJ (0), eR 98]) rfl rfl rfl ?_
  refine w_s (np := 84) (lv' := [some (eR 98), some (eI (8)), some (eI (2)), some (eI (0)), some (eI (p)), some (eI (q)), some (eI (r)), some (eI (s)), some (eI (104)), some (eI (96))]) (st' := [eI (3), eI (96), eR 100, eJ (0), eJ (0), eJ (0), eR 98]) rfl rfl rfl ?_
  refine w_s (np := 85) (lv' := [some (eR 98), some (eI (8)), some (eI (2)), some (eI (0)), some (eI (p)), some (eI (q)), some (eI (r)), some (eI (s)), some (eI (104)), some (eI (96))]) (st' := [eI (99), eR 100, eJ (0), eJ (0), eJ (0), eR 98]) rfl (b_iadd rfl) rfl ?_
  refine w_al (np := 86) (v := 0) rfl rfl (t_al (k := 99) hq rfl (by decide) rfl) ?_
  refine w_s (np := 87) (lv' := [some (eR 98), some (eI (8)), some (eI (2)), some (eI (0)), some (eI (p)), some (eI (q)), some (eI (r)), some (eI (s)), some (eI (104)), some (eI (96))]) (st' := [eR 98, eI (0), eJ (0), eJ (0), eJ (0), eR 98]) rfl (s_an rfl (by decide)) rfl ?_
  refine w_gf (np := 90) (v := eR 100) rfl rfl hq.1 (by rw [hq.2.1]; rfl) ?_
  refine w_s (np := 92) (lv' := [some (eR 98), some (eI (8)), some (eI (2)), some (eI (0)), some (eI (p)), some (eI (q)), some (eI (r)), some (eI (s)), some (eI (104)), some (eI (96))]) (st' := [eI (104), eR 100, eI (0), eJ (0), eJ (0), eJ (0), eR 98]) rfl rfl rfl ?_
  refine w_s (np := 93) (lv' := [some (eR 98), some (eI (8)), some (eI (2)), some (eI (0)), some (eI (p)), some (eI (q)), some (eI (r)), some (eI (s)), some (eI (104)), some (eI (96))]) (st' := [eI (3), eI (104), eR 100, eI (0), eJ (0), eJ (0), eJ (0), eR 98]) rfl rfl rfl ?_
  refine w_s (np := 94) (lv' := [some (eR 98), some (eI (8)), some (eI (2)), some (eI (0)), some (eI (p)), some (eI (q)), some (eI (r)), some (eI (s)), some (eI (104)), some (eI (96))]) (st' := [eI (107), eR 100, eI (0), eJ (0), eJ (0), eJ (0), eR 98]) rfl (b_iadd rfl) rfl ?_
  refine w_al (np := 95) (v := -1) rfl rfl (t_al (k := 107) hq rfl (by decide) rfl) ?_
  refine w_s (np := 96) (lv' := [some (eR 98), some (eI (8)), some (eI (2)), some (eI (0)), some (eI (p)), some (eI (q)), some (eI (r)), some (eI (s)), some (eI (104)), some (eI (96))]) (st' := [eI (1), eJ (0), eJ (0), eJ (0), eR 98]) rfl (b_isub rfl) rfl ?_
  refine w_s (np := 97) (lv' := [some (eR 98), some (eI (8)), some (eI (2)), some (eI (0)), some (eI (p)), some (eI (q)), some (eI (r)), some (eI (s)), some (eI (104)), some (eI (96))]) (st' := [eJ (1), eJ (0), eJ (0), eJ (0), eR 98]) rfl (b_i2l rfl) rfl ?_
  refine w_s (np := 99) (lv' := [some (eR 98), some (eI (8)), some (eI (2)), some (eI (0)), some (eI (p)), some (eI (q)), some (eI (r)), some (eI (s)), some (eI (104)), some (eI (96))]) (st' := [eI (p), eJ (1), eJ (0), eJ (0), eJ (0), eR 98]) rfl rfl rfl ?_
  refine w_s (np := 100) (lv' := [some (eR 98), some (eI (8)), some (eI (2)), some (eI (0)), some (eI (p)), some (eI (q)), some (eI (r)), some (eI (s)), some (eI (104)), some (eI (96))]) (st' := [eJ (p), eJ (1), eJ (0), eJ (0), eJ (0), eR 98]) rfl (b_i2l (ev_w_in (by omega) (by omega))) rfl ?_
  refine w_s (np := 101) (lv' := [some (eR 98), some (eI (8)), some (eI (2)), some (eI (0)), some (eI (p)), some (eI (q)), some (eI (r)), some (eI (s)), some (eI (104)), some (eI (96))]) (st' := [eR 98, eJ (p), eJ (1), eJ (0), eJ (0), eJ (0), eR 98]) rfl (s_an rfl (by decide)) rfl ?_
  refine w_gf (np := 104) (v := eR 100) rfl rfl hq.1 (by rw [hq.2.1]; rfl) ?_
  refine w_s (np := 106) (lv' := [some (eR 98), some (eI (8)), some (eI (2)), some (eI (0)), some (eI (p)), some (eI (q)), some (eI (r)), some (eI (s)), some (eI (104)), some (eI (96))]) (st' := [eI (104), eR 100, eJ (p), eJ (1), eJ (0), eJ (0), eJ (0), eR 98]) rfl rfl rfl ?_
  refine w_al (np := 107) (v := 0) rfl rfl (t_al (k := 104) hq rfl (by decide) rfl) ?_
  refine w_s (np := 108) (lv' := [some (eR 98), some (eI (8)), some (eI (2)), some (eI (0)), some (eI (p)), some (eI (q)), some (eI (r)), some (eI (s)), some (eI (104)), some (eI (96))]) (st' := [eJ (0), eJ (p), eJ (1), eJ (0), eJ (0), eJ (0), eR 98]) rfl (b_i2l rfl) rfl ?_
  obtain ⟨v1, e2⟩ : ∃ v : Int, v = (p) - (0) := ⟨_, rfl⟩
  have b3 : -9999 ≤ v1 ∧ v1 ≤ 9999 := by omega
  refine w_s (np := 109) (lv' := [some (eR 98), some (eI (8)), some (eI (2)), some (eI (0)), some (eI (p)), some (eI (q)), some (eI (r)), some (eI (s)), some (eI (104)), some (eI (96))]) (st' := [eJ (v1), eJ (1), eJ (0), eJ (0), eJ (0), eR 98]) rfl (b_lsub (by rw [← e2]; exact ev_W_in (by omega) (by omega))) rfl ?_
  refine w_s (np := 111) (lv' := [some (eR 98), some (eI (8)), some (eI (2)), some (eI (0)), some (eI (p)), some (eI (q)), some (eI (r)), some (eI (s)), some (eI (104)), some (eI (96))]) (st' := [eI (q), eJ (v1), eJ (1), eJ (0), eJ (0), eJ (0), eR 98]) rfl rfl rfl ?_
  refine w_s (np := 112) (lv' := [some (eR 98), some (eI (8)), some (eI (2)), some (eI (0)), some (eI (p)), some (eI (q)), some (eI (r)), some (eI (s)), some (eI (104)), some (eI (96))]) (st' := [eJ (q), eJ (v1), eJ (1), eJ (0), eJ (0), eJ (0), eR 98]) rfl (b_i2l (ev_w_in (by omega) (by omega))) rfl ?_
  refine w_s (np := 113) (lv' := [some (eR 98), some (eI (8)), some (eI (2)), some (eI (0)), some (eI (p)), some (eI (q)), some (eI (r)), some (eI (s)), some (eI (104)), some (eI (96))]) (st' := [eR 98, eJ (q), eJ (v1), eJ (1), eJ (0), eJ (0), eJ (0), eR 98]) rfl (s_an rfl (by decide)) rfl ?_
  refine w_gf (np := 116) (v := eR 100) rfl rfl hq.1 (by rw [hq.2.1]; rfl) ?_
  refine w_s (np := 118) (lv' := [some (eR 98), some (eI (8)), some (eI (2)), some (eI (0)), some (eI (p)), some (eI (q)), some (eI (r)), some (eI (s)), some (eI (104)), some (eI (96))]) (st' := [eI (104), eR 100, eJ (q), eJ (v1), eJ (1), eJ (0), eJ (0), eJ (0), eR 98]) rfl rfl rfl ?_
  refine w_s (np := 119) (lv' := [some (eR 98), some (eI (8)), some (eI (2)), some (eI (0)), some (eI (p)), some (eI (q)), some (eI (r)), some (eI (s)), some (eI (104)), some (eI (96))]) (st' := [eI (1), eI (104), eR 100, eJ (q), eJ (v1), eJ (1), eJ (0), eJ (0), eJ (0), eR 98]) rfl rfl rfl ?_
  refine w_s (np := 120) (lv' := [some (eR 98), some (eI (8)), some (eI (2)), some (eI (0)), some (eI (p)), some (eI (q)), some (eI (r)), some (eI (s)), some (eI (104)), some (eI (96))]) (st' := [eI (105), eR 100, eJ (q), eJ (v1), eJ (1), eJ (0), eJ (0), eJ (0), eR 98]) rfl (b_iadd rfl) rfl ?_
  refine w_al (np := 121) (v := 0) rfl rfl (t_al (k := 105) hq rfl (by decide) rfl) ?_
  refine w_s (np := 122) (lv' := [some (eR 98), some (eI (8)), some (eI (2)), some (eI (0)), some (eI (p)), some (eI (q)), some (eI (r)), some (eI (s)), some (eI (104)), some (eI (96))]) (st' := [eJ (0), eJ (q), eJ (v1), eJ (1), eJ (0), eJ (0), eJ (0), eR 98]) rfl (b_i2l rfl) rfl ?_
  obtain ⟨v4, e5⟩ : ∃ v : Int, v = (q) - (0) := ⟨_, rfl⟩
  have b6 : -9999 ≤ v4 ∧ v4 ≤ 9999 := by omega
  refine w_s (np := 123) (lv' := [some (eR 98), some (eI (8)), some (eI (2)), some (eI (0)), some (eI (p)), some (eI (q)), some (eI (r)), some (eI (s)), some (eI (104)), some (eI (96))]) (st' := [eJ (v4), eJ (v1), eJ (1), eJ (0), eJ (0), eJ (0), eR 98]) rfl (b_lsub (by rw [← e5]; exact ev_W_in (by omega) (by omega))) rfl ?_
  refine w_s (np := 125) (lv' := [some (eR 98), some (eI (8)), some (eI (2)), some (eI (0)), some (eI (p)), some (eI (q)), some (eI (r)), some (eI (s)), some (eI (104)), some (eI (96))]) (st' := [eI (r), eJ (v4), eJ (v1), eJ (1), eJ (0), eJ (0), eJ (0), eR 98]) rfl rfl rfl ?_
  refine w_s (np := 126) (lv' := [some (eR 98), some (eI (8)), some (eI (2)), some (eI (0)), some (eI (p)), some (eI (q)), some (eI (r)), some (eI (s)), some (eI (104)), some (eI (96))]) (st' := [eJ (r), eJ (v4), eJ (v1), eJ (1), eJ (0), eJ (0), eJ (0), eR 98]) rfl (b_i2l (ev_w_in (by omega) (by omega))) rfl ?_
  refine w_s (np := 127) (lv' := [some (eR 98), some (eI (8)), some (eI (2)), some (eI (0)), some (eI (p)), some (eI (q)), some (eI (r)), some (eI (s)), some (eI (104)), some (eI (96))]) (st' := [eR 98, eJ (r), eJ (v4), eJ (v1), eJ (1), eJ (0), eJ (0), eJ (0), eR 98]) rfl (s_an rfl (by decide)) rfl ?_
  refine w_gf (np := 130) (v := eR 100) rfl rfl hq.1 (by rw [hq.2.1]; rfl) ?_
  refine w_s (np := 132) (lv' := [some (eR 98), some (eI (8)), some (eI (2)), some (eI (0)), some (eI (p)), some (eI (q)), some (eI (r)), some (eI (s)), some (eI (104)), some (eI (96))]) (st' := [eI (104), eR 100, eJ (r), eJ (v4), eJ (v1), eJ (1), eJ (0), eJ (0), eJ (0), eR 98]) rfl rfl rfl ?_
  refine w_s (np := 133) (lv' := [some (eR 98), some (eI (8)), some (eI (2)), some (eI (0)), some (eI (p)), some (eI (q)), some (eI (r)), some (eI (s)), some (eI (104)), some (eI (96))]) (st' := [eI (2), eI (104), eR 100, eJ (r), eJ (v4), eJ (v1), eJ (1), eJ (0), eJ (0), eJ (0), eR 98]) rfl rfl rfl ?_
  refine w_s (np := 134) (lv' := [some (eR 98), some (eI (8)), some (eI (2)), some (eI (0)), some (eI (p)), some (eI (q)), some (eI (r)), some (eI (s)), some (eI (104)), some (eI (96))]) (st' := [eI (106), eR 100, eJ (r), eJ (v4), eJ (v1), eJ (1), eJ (0), eJ (0), eJ (0), eR 98]) rfl (b_iadd rfl) rfl ?_
  refine w_al (np := 135) (v := 0) rfl rfl (t_al (k := 106) hq rfl (by decide) rfl) ?_
  refine w_s (np := 136) (lv' := [some (eR 98), some (eI (8)), some (eI (2)), some (eI (0)), some (eI (p)), some (eI (q)), some (eI (r)), some (eI (s)), some (eI (104)), some (eI (96))]) (st' := [eJ (0), eJ (r), eJ (v4), eJ (v1), eJ (1), eJ (0), eJ (0), eJ (0), eR 98]) rfl (b_i2l rfl) rfl ?_
  obtain ⟨v7, e8⟩ : ∃ v : Int, v = (r) - (0) := ⟨_, rfl⟩
  have b9 : -9999 ≤ v7 ∧ v7 ≤ 9999 := by omega
  refine w_s (np := 137) (lv' := [some (eR 98), some (eI (8)), some (eI (2)), some (eI (0)), some (eI (p)), some (eI (q)), some (eI (r)), some (eI (s)), some (eI (104)), some (eI (96))]) (st' := [eJ (v7), eJ (v4), eJ (v1), eJ (1), eJ (0), eJ (0), eJ (0), eR 98]) rfl (b_lsub (by rw [← e8]; exact ev_W_in (by omega) (by omega))) rfl ?_
  refine w_s (np := 139) (lv' := [some (eR 98), some (eI (8)), some (eI (2)), some (eI (0)), some (eI (p)), some (eI (q)), some (eI (r)), some (eI (s)), some (eI (104)), some (eI (96))]) (st' := [eI (s), eJ (v7), eJ (v4), eJ (v1), eJ (1), eJ (0), eJ (0), eJ (0), eR 98]) rfl rfl rfl ?_
  refine w_s (np := 140) (lv' := [some (eR 98), some (eI (8)), some (eI (2)), some (eI (0)), some (eI (p)), some (eI (q)), some (eI (r)), some (eI (s)), some (eI (104)), some (eI (96))]) (st' := [eJ (s), eJ (v7), eJ (v4), eJ (v1), eJ (1), eJ (0), eJ (0), eJ (0), eR 98]) rfl (b_i2l (ev_w_in (by omega) (by omega))) rfl ?_
  refine w_s (np := 141) (lv' := [some (eR 98), some (eI (8)), some (eI (2)), some (eI (0)), some (eI (p)), some (eI (q)), some (eI (r)), some (eI (s)), some (eI (104)), some (eI (96))]) (st' := [eR 98, eJ (s), eJ (v7), eJ (v4), eJ (v1), eJ (1), eJ (0), eJ (0), eJ (0), eR 98]) rfl (s_an rfl (by decide)) rfl ?_
  refine w_gf (np := 144) (v := eR 100) rfl rfl hq.1 (by rw [hq.2.1]; rfl) ?_
  refine w_s (np := 146) (lv' := [some (eR 98), some (eI (8)), some (eI (2)), some (eI (0)), some (eI (p)), some (eI (q)), some (eI (r)), some (eI (s)), some (eI (104)), some (eI (96))]) (st' := [eI (104), eR 100, eJ (s), eJ (v7), eJ (v4), eJ (v1), eJ (1), eJ (0), eJ (0), eJ (0), eR 98]) rfl rfl rfl ?_
  refine w_s (np := 147) (lv' := [some (eR 98), some (eI (8)), some (eI (2)), some (eI (0)), some (eI (p)), some (eI (q)), some (eI (r)), some (eI (s)), some (eI (104)), some (eI (96))]) (st' := [eI (3), eI (104), eR 100, eJ (s), eJ (v7), eJ (v4), eJ (v1), eJ (1), eJ (0), eJ (0), eJ (0), eR 98]) rfl rfl rfl ?_
  refine w_s (np := 148) (lv' := [some (eR 98), some (eI (8)), some (eI (2)), some (eI (0)), some (eI (p)), some (eI (q)), some (eI (r)), some (eI (s)), some (eI (104)), some (eI (96))]) (st' := [eI (107), eR 100, eJ (s), eJ (v7), eJ (v4), eJ (v1), eJ (1), eJ (0), eJ (0), eJ (0), eR 98]) rfl (b_iadd rfl) rfl ?_
  refine w_al (np := 149) (v := -1) rfl rfl (t_al (k := 107) hq rfl (by decide) rfl) ?_
  refine w_s (np := 150) (lv' := [some (eR 98), some (eI (8)), some (eI (2)), some (eI (0)), some (eI (p)), some (eI (q)), some (eI (r)), some (eI (s)), some (eI (104)), some (eI (96))]) (st' := [eJ (-1), eJ (s), eJ (v7), eJ (v4), eJ (v1), eJ (1), eJ (0), eJ (0), eJ (0), eR 98]) rfl (b_i2l rfl) rfl ?_
  obtain ⟨v10, e11⟩ : ∃ v : Int, v = (s) - (-1) := ⟨_, rfl⟩
  have b12 : -9998 ≤ v10 ∧ v10 ≤ 10000 := by omega
  refine w_s (np := 151) (lv' := [some (eR 98), some (eI (8)), some (eI (2)), some (eI (0)), some (eI (p)), some (eI (q)), some (eI (r)), some (eI (s)), some (eI (104)), some (eI (96))]) (st' := [eJ (v10), eJ (v7), eJ (v4), eJ (v1), eJ (1), eJ (0), eJ (0), eJ (0), eR 98]) rfl (b_lsub (by rw [← e11]; exact ev_W_in (by omega) (by omega))) rfl ?_
  refine w_cv (np := 154) (as := [eJ (0), eJ (0), eJ (0), eJ (1), eJ (v1), eJ (v4), eJ (v7), eJ (v10)]) (lv' := [some (eR 98), some (eJ (0)), none, some (eJ (0)), none, some (eJ (0)), none, some (eJ (1)), none, some (eJ (v1)), none, some (eJ (v4)), none, some (eJ (v7)), none, some (eJ (v10)), none]) (rest := []) rfl rfl rfl (Nat.ble_eq.mp rfl) rfl rfl rfl hq.1 rfl ?_
  refine t224 hq.1 (show (-8 : Int) ≤ 0 ∧ (0 : Int) ≤ 8 by omega) (show (-8 : Int) ≤ 0 ∧ (0 : Int) ≤ 8 by omega) (show (-8 : Int) ≤ 0 ∧ (0 : Int) ≤ 8 by omega) (show (-8 : Int) ≤ 1 ∧ (1 : Int) ≤ 8 by omega) (show (-100000 : Int) ≤ v1 ∧ (v1 : Int) ≤ 100000 by omega) (show (-100000 : Int) ≤ v4 ∧ (v4 : Int) ≤ 100000 by omega) (show (-100000 : Int) ≤ v7 ∧ (v7 : Int) ≤ 100000 by omega) (show (-100000 : Int) ≤ v10 ∧ (v10 : Int) ≤ 100000 by omega) ?_
  intro m B G s1 eB eG bB bG
  show ex_fine fg rc rs (d + 4, (265, 154, [some (eR 98), some (eI (8)), some (eI (2)), some (eI (0)), some (eI (p)), some (eI (q)), some (eI (r)), some (eI (s)), some (eI (104)), some (eI (96))], [eI (rSg (2 * B + G) G)]), f :: F, m)
  refine b_ri rfl rfl ?_
  have hB : B = (-1) * r := by omega
  have hG : G = (-1) * p + (-1) * q := by omega
  have hr := rSg_ok (x := 2 * B + G) (b := G) (by omega)
  have e9 : 416020 * (2 * B + G) + 930249 * G = (-1346269) * p + (-1346269) * q + (-832040) * r := by omega
  rw [e9] at hr
  exact K m _ s1 hr (rSg_v _ _)
theorem t265_9_0 {fg : eG} {rc rs d : Nat} {f : eFr} {F : List eFr} {μ : eM} {p q r s : Int} (hq : tQ μ) (hp : -9999 ≤ p ∧ p ≤ 9999) (hq0 : -9999 ≤ q ∧ q ≤ 9999) (hr : -9999 ≤ r ∧ r ≤ 9999) (hs : -9999 ≤ s ∧ s ≤ 9999) (K : ∀ (μ2 : eM) (u : Int), tS μ μ2 → ((0 ≤ u ↔ 0 ≤ 832040 * p + 1346269 * q + 1346269 * r + 832040 * s) ∧ (u ≤ 0 ↔ 832040 * p + 1346269 * q + 1346269 * r + 832040 * s ≤ 0)) → (u = 0 ∨ u = 1 ∨ u = -1) → ex_fine fg rc rs (d + 5, (f.1, f.2.1, f.2.2.1, eI u :: f.2.2.2), F, μ2)) : ex_fine fg rc rs (d + 4, (265, 0, [some (eR 98), some (eI (9)), some (eI (0)), some (eI (1)), some (eI (p)), some (eI (q)), some (eI (r)), some (eI (s)), none, none], []), f :: F, μ) := by
  refine w_s (np := 2) (lv' := [some (eR 98), some (eI (9)), some (eI (0)), some (eI (1)), some (eI (p)), some (eI (q)), some (eI (r)), some (eI (s)), none, none]) (st' := [eI (12)]) rfl rfl rfl ?_
  refine w_s (np := 3) (lv' := [some (eR 98), some (eI (9)), some (eI (0)), some (eI (1)), some (eI (p)), some (eI (q)), some (eI (r)), some (eI (s)), none, none]) (st' := [eI (9), eI (12)]) rfl rfl rfl ?_
  refine w_s (np := 4) (lv' := [some (eR 98), some (eI (9)), some (eI (0)), some (eI (1)), some (eI (p)), some (eI (q)), some (eI (r)), some (eI (s)), none, none]) (st' := [eI (108)]) rfl (b_imul rfl) rfl ?_
  refine w_s (np := 5) (lv' := [some (eR 98), some (eI (9)), some (eI (0)), some (eI (1)), some (eI (p)), some (eI (q)), some (eI (r)), some (eI (s)), none, none]) (st' := [eI (4), eI (108)]) rfl rfl rfl ?_
  refine w_s (np := 6) (lv' := [some (eR 98), some (eI (9)), some (eI (0)), some (eI (1)), some (eI (p)), some (eI (q)), some (eI (r)), some (eI (s)), none, none]) (st' := [eI (0), eI (4), eI (108)]) rfl rfl rfl ?_
  refine w_s (np := 7) (lv' := [some (eR 98), some (eI (9)), some (eI (0)), some (eI (1)), some (eI (p)), some (eI (q)), some (eI (r)), some (eI (s)), none, none]) (st' := [eI (0), eI (108)]) rfl (b_imul rfl) rfl ?_
  refine w_s (np := 8) (lv' := [some (eR 98), some (eI (9)), some (eI (0)), some (eI (1)), some (eI (p)), some (eI (q)), some (eI (r)), some (eI (s)), none, none]) (st' := [eI (108)]) rfl (b_iadd rfl) rfl ?_
  refine w_s (np := 10) (lv' := [some (eR 98), some (eI (9)), some (eI (0)), some (eI (1)), some (eI (p)), some (eI (q)), some (eI (r)), some (eI (s)), some (eI (108)), none]) (st' := []) rfl rfl rfl ?_
  refine w_s (np := 12) (lv' := [some (eR 98), some (eI (9)), some (eI (0)), some (eI (1)), some (eI (p)), some (eI (q)), some (eI (r)), some (eI (s)), some (eI (108)), none]) (st' := [eI (12)]) rfl rfl rfl ?_
  refine w_s (np := 13) (lv' := [some (eR 98), some (eI (9)), some (eI (0)), some (eI (1)), some (eI (p)), some (eI (q)), some (eI (r)), some (eI (s)), some (eI (108)), none]) (st' := [eI (9), eI (12)]) rfl rfl rfl ?_
  refine w_s (np := 14) (lv' := [some (eR 98), some (eI (9)), some (eI (0)), some (eI (1)), some (eI (p)), some (eI (q)), some (eI (r)), some (eI (s)), some (eI (108)), none]) (st' := [eI (108)]) rfl (b_imul rfl) rfl ?_
  refine w_s (np := 15) (lv' := [some (eR 98), some (eI (9)), some (eI (0)), some (eI (1)), some (eI (p)), some (eI (q)), some (eI (r)), some (eI (s)), some (eI (108)), none]) (st' := [eI (4), eI (108)]) rfl rfl rfl ?_
  refine w_s (np := 16) (lv' := [some (eR 98), some (eI (9)), some (eI (0)), some (eI (1)), some (eI (p)), some (eI (q)), some (eI (r)), some (eI (s)), some (eI (108)), none]) (st' := [eI (1), eI (4), eI (108)]) rfl rfl rfl ?_
  refine w_s (np := 17) (lv' := [some (eR 98), some (eI (9)), some (eI (0)), some (eI (1)), some (eI (p)), some (eI (q)), some (eI (r)), some (eI (s)), some (eI (108)), none]) (st' := [eI (4), eI (108)]) rfl (b_imul rfl) rfl ?_
  refine w_s (np := 18) (lv' := [some (eR 98), some (eI (9)), some (eI (0)), some (eI (1)), some (eI (p)), some (eI (q)), some (eI (r)), some (eI (s)), some (eI (108)), none]) (st' := [eI (112)]) rfl (b_iadd rfl) rfl ?_
  refine w_s (np := 20) (lv' := [some (eR 98), some (eI (9)), some (eI (0)), some (eI (1)), some (eI (p)), some (eI (q)), some (eI (r)), some (eI (s)), some (eI (108)), some (eI (112))]) (st' := []) rfl rfl rfl ?_
  refine w_s (np := 21) (lv' := [some (eR 98), some (eI (9)), some (eI (0)), some (eI (1)), some (eI (p)), some (eI (q)), some (eI (r)), some (eI (s)), some (eI (108)), some (eI (112))]) (st' := [eR 98]) rfl (s_an rfl (by decide)) rfl ?_
  refine w_s (np := 22) (lv' := [some (eR 98), some (eI (9)), some (eI (0)), some (eI (1)), some (eI (p)), some (eI (q)), some (eI (r)), some (eI (s)), some (eI (108)), some (eI (112))]) (st' := [eR 98, eR 98]) rfl (s_an rfl (by decide)) rfl ?_
  refine w_gf (np := 25) (v := eR 100) rfl rfl hq.1 (by rw [hq.2.1]; rfl) ?_
  refine w_s (np := 27) (lv' := [some (eR 98), some (eI (9)), some (eI (0)), some (eI (1)), some (eI (p)), some (eI (q)), some (eI (r)), some (eI (s)), some (eI (108)), some (eI (112))]) (st' := [eI (112), eR 100, eR 98]) rfl rfl rfl ?_
  refine w_al (np := 28) (v := 1) rfl rfl (t_al (k := 112) hq rfl (by decide) rfl) ?_
  refine w_s (np := 29) (lv' := [some (eR 98), some (eI (9)), some (eI (0)), some (eI (1)), some (eI (p)), some (eI (q)), some (eI (r)), some (eI (s)), some (eI (108)), some (eI (112))]) (st' := [eR 98, eI (1), eR 98]) rfl (s_an rfl (by decide)) rfl ?_
  refine w_gf (np := 32) (v := eR 100) rfl rfl hq.1 (by rw [hq.2.1]; rfl) ?_
  refine w_s (np := 34) (lv' := [some (eR 98), some (eI (9)), some (eI (0)), some (eI (1)), some (eI (p)), some (eI (q)), some (eI (r)), some (eI (s)), some (eI (108)), some (eI (112))]) (st' := [eI (108), eR 100, eI (1), eR 98]) rfl rfl rfl ?_
  refine w_al (np := 35) (v := 0) rfl rfl (t_al (k := 108) hq rfl (by decide) rfl) ?_
  refine w_s (np := 36) (lv' := [some (eR 98), some (eI (9)), some (eI (0)), some (eI (1)), some (eI (p)), some (eI (q)), some (eI (r)), some (eI (s)), some (eI (108)), some (eI (112))]) (st' := [eI (1), eR 98]) rfl (b_isub rfl) rfl ?_
  refine w_s (np := 37) (lv' := [some (eR 98), some (eI (9)), some (eI (0)), some (eI (1)), some (eI (p)), some (eI (q)), some (eI (r)), some (eI (s)), some (eI (108)), some (eI (112))]) (st' := [eJ (1), eR 98]) rfl (b_i2l rfl) rfl ?_
  refine w_s (np := 38) (lv' := [some (eR 98), some (eI (9)), some (eI (0)), some (eI (1)), some (eI (p)), some (eI (q)), some (eI (r)), some (eI (s)), some (eI (108)), some (eI (112))]) (st' := [eR 98, eJ (1), eR 98]) rfl (s_an rfl (by decide)) rfl ?_
  refine w_gf (np := 41) (v := eR 100) rfl rfl hq.1 (by rw [hq.2.1]; rfl) ?_
  refine w_s (np := 43) (lv' := [some (eR 98), some (eI (9)), some (eI (0)), some (eI (1)), some (eI (p)), some (eI (q)), some (eI (r)), some (eI (s)), some (eI (108)), some (eI (112))]) (st' := [eI (112), eR 100, eJ (1), eR 98]) rfl rfl rfl ?_
  refine w_s (np := 44) (lv' := [some (eR 98), some (eI (9)), some (eI (0)), some (eI (1)), some (eI (p)), some (eI (q)), some (eI (r)), some (eI (s)), some (eI (108)), some (eI (112))]) (st' := [eI (1), eI (112), eR 100, eJ (1), eR 98]) rfl rfl rfl ?_
  refine w_s (np := 45) (lv' := [some (eR 98), some (eI (9)), some (eI (0)), some (eI (1)), some (eI (p)), some (eI (q)), some (eI (r)), some (eI (s)), some (eI (108)), some (eI (112))]) (st' := [eI (113), eR 100, eJ (1), eR 98]) rfl (b_iadd rfl) rfl ?_
  refine w_al (np := 46) (v := -1) rfl rfl (t_al (k := 113) hq rfl (by decide) rfl) ?_
  refine w_s (np := 47) (lv' := [some (eR 98), some (eI (9)), some (eI (0)), some (eI (1)), some (eI (p)), some (eI (q)), some (eI (r)), some (eI (s)), some (eI (108)), some (eI (112))]) (st' := [eR 98, eI (-1), eJ (1), eR 98]) rfl (s_an rfl (by decide)) rfl ?_
  refine w_gf (np := 50) (v := eR 100) rfl rfl hq.1 (by rw [hq.2.1]; rfl) ?_
  refine w_s (np := 52) (lv' := [some (eR 98), some (eI (9)), some (eI (0)), some (eI (1)), some (eI (p)), some (eI (q)), some (eI (r)), some (eI (s)), some (eI (108)), some (eI (112))]) (st' := [eI (108), eR 100, eI (-1), eJ (1), eR 98]) rfl rfl rfl ?_
  refine w_s (np := 53) (lv' := [some (eR 98), some (eI (9)), some (eI (0)), some (eI (1)), some (eI (p)), some (eI (q)), some (eI (r)), some (eI (s)), some (eI (108)), some (eI (112))]) (st' := [eI (1), eI (108), eR 100, eI (-1), eJ (1), eR 98]) rfl rfl rfl ?_
  refine w_s (np := 54) (lv' := [some (eR 98), some (eI (9)), some (eI (0)), some (eI (1)), some (eI (p)), some (eI (q)), some (eI (r)), some (eI (s)), some (eI (108)), some (eI (112))]) (st' := [eI (109), eR 100, eI (-1), eJ (1), eR 98]) rfl (b_iadd rfl) rfl ?_
  refine w_al (np := 55) (v := 0) rfl rfl (t_al (k := 109) hq rfl (by decide) rfl) ?_
  refine w_s (np := 56) (lv' := [some (eR 98), some (eI (9)), some (eI (0)), some (eI (1)), some (eI (p)), some (eI (q)), some (eI (r)), some (eI (s)), some (eI (108)), some (eI (112))]) (st' := [eI (-1), eJ (1), eR 98]) rfl (b_isub rfl) rfl ?_
  refine w_s (np := 57) (lv' := [some (eR 98), some (eI (9)), some (eI (0)), some (eI (1)), some (eI (p)), some (eI (q)), some (eI (r)), some (eI (s)), some (eI (108)), some (eI (112))]) (st' := [eJ (-1), eJ (1), eR 98]) rfl (b_i2l rfl) rfl ?_
  refine w_s (np := 58) (lv' := [some (eR 98), some (eI (9)), some (eI (0)), some (eI (1)), some (eI (p)), some (eI (q)), some (eI (r)), some (eI (s)), some (eI (108)), some (eI (112))]) (st' := [eR 98, eJ (-1), eJ (1), eR 98]) rfl (s_an rfl (by decide)) rfl ?_
  refine w_gf (np := 61) (v := eR 100) rfl rfl hq.1 (by rw [hq.2.1]; rfl) ?_
  refine w_s (np := 63) (lv' := [some (eR 98), some (eI (9)), some (eI (0)), some (eI (1)), some (eI (p)), some (eI (q)), some (eI (r)), some (eI (s)), some (eI (108)), some (eI (112))]) (st' := [eI (112), eR 100, eJ (-1), eJ (1), eR 98]) rfl rfl rfl ?_
  refine w_s (np := 64) (lv' := [some (eR 98), some (eI (9)), some (eI (0)), some (eI (1)), some (eI (p)), some (eI (q)), some (eI (r)), some (eI (s)), some (eI (108)), some (eI (112))]) (st' := [eI (2), eI (112), eR 100, eJ (-1), eJ (1), eR 98]) rfl rfl rfl ?_
  refine w_s (np := 65) (lv' := [some (eR 98), some (eI (9)), some (eI (0)), some (eI (1)), some (eI (p)), some (eI (q)), some (eI (r)), some (eI (s)), some (eI (108)), some (eI (112))]) (st' := [eI (114), eR 100, eJ (-1), eJ (1), eR 98]) rfl (b_iadd rfl) rfl ?_
  refine w_al (np := 66) (v := 1) rfl rfl (t_al (k := 114) hq rfl (by decide) rfl) ?_
  refine w_s (np := 67) (lv' := [some (eR 98), some (eI (9)), some (eI (0)), some (eI (1)), some (eI (p)), some (eI (q)), some (eI (r)), some (eI (s)), some (eI (108)), some (eI (112))]) (st' := [eR 98, eI (1), eJ (-1), eJ (1), eR 98]) rfl (s_an rfl (by decide)) rfl ?_
  refine w_gf (np := 70) (v := eR 100) rfl rfl hq.1 (by rw [hq.2.1]; rfl) ?_
  refine w_s (np := 72) (lv' := [some (eR 98), some (eI (9)), some (eI (0)), some (eI (1)), some (eI (p)), some (eI (q)), some (eI (r)), some (eI (s)), some (eI (108)), some (eI (112))]) (st' := [eI (108), eR 100, eI (1), eJ (-1), eJ (1), eR 98]) rfl rfl rfl ?_
  refine w_s (np := 73) (lv' := [some (eR 98), some (eI (9)), some (eI (0)), some (eI (1)), some (eI (p)), some (eI (q)), some (eI (r)), some (eI (s)), some (eI (108)), some (eI (112))]) (st' := [eI (2), eI (108), eR 100, eI (1), eJ (-1), eJ (1), eR 98]) rfl rfl rfl ?_
  refine w_s (np := 74) (lv' := [some (eR 98), some (eI (9)), some (eI (0)), some (eI (1)), some (eI (p)), some (eI (q)), some (eI (r)), some (eI (s)), some (eI (108)), some (eI (112))]) (st' := [eI (110), eR 100, eI (1), eJ (-1), eJ (1), eR 98]) rfl (b_iadd rfl) rfl ?_
  refine w_al (np := 75) (v := 0) rfl rfl (t_al (k := 110) hq rfl (by decide) rfl) ?_
  refine w_s (np := 76) (lv' := [some (eR 98), some (eI (9)), some (eI (0)), some (eI (1)), some (eI (p)), some (eI (q)), some (eI (r)), some (eI (s)), some (eI (108)), some (eI (112))]) (st' := [eI (1), eJ (-1), eJ (1), eR 98]) rfl (b_isub rfl) rfl ?_
  refine w_s (np := 77) (lv' := [some (eR 98), some (eI (9)), some (eI (0)), some (eI (1)), some (eI (p)), some (eI (q)), some (eI (r)), some (eI (s)), some (eI (108)), some (eI (112))]) (st' := [eJ (1), eJ (-1), eJ (1), eR 98]) rfl (b_i2l rfl) rfl ?_
  refine w_s (np := 78) (lv' := [some (eR 98), some (eI (9)), some (eI (0)), some (eI (1)), some (eI (p)), some (eI (q)), some (eI (r)), some (eI (s)), some (eI (108)), some (eI (112))]) (st' := [eR 98, eJ (1), eJ (-1), eJ (1), eR 98]) rfl (s_an rfl (by decide)) rfl ?_
  refine w_gf (np := 81) (v := eR 100) rfl rfl hq.1 (by rw [hq.2.1]; rfl) ?_
  refine w_s (np := 83) (lv' := [some (eR 98), some (eI (9)), some (eI (0)), some (eI (1)), some (eI (p)), some (eI (q)), some (eI (r)), some (eI (s)), some (eI (108)), some (eI (112))]) (st' := [eI (112), eR 100, eJ (1), eJ (-1), eJ (1), eR 98]) rfl rfl rfl ?_
  refine w_s (np := 84) (lv' := [some (eR 98), some (eI (9)), some (eI (0)), some (eI (1)), some (eI (p)), some (eI (q)), some (eI (r)), some (eI (s)), some (eI (108)), some (eI (112))]) (st' := [eI (3), eI (112), eR 100, eJ (1), eJ (-1), eJ (1), eR 98]) rfl rfl rfl ?_
  refine w_s (np := 85) (lv' := [some (eR 98), some (eI (9)), some (eI (0)), some (eI (1)), some (eI (p)), some (eI (q)), some (eI (r)), some (eI (s)), some (eI (108)), some (eI (112))]) (st' := [eI (115), eR 100, eJ (1), eJ (-1), eJ (1), eR 98]) rfl (b_iadd rfl) rfl ?_
  refine w_al (np := 86) (v := -1) rfl rfl (t_al (k := 115) hq rfl (by decide) rfl) ?_
  refine w_s (np := 87) (lv' := [some (eR 98), some (eI (9)), some (eI (0)), some (eI (1)), some (eI (p)), some (eI (q)), some (eI (r)), some (eI (s)), some (eI (108)), some (eI (112))]) (st' := [eR 98, eI (-1), eJ (1), eJ (-1), eJ (1), eR 98]) rfl (s_an rfl (by decide)) rfl ?_
  refine w_gf (np := 90) (v := eR 100) rfl rfl hq.1 (by rw [hq.2.1]; rfl) ?_
  refine w_s (np := 92) (lv' := [some (eR 98), some (eI (9)), some (eI (0)), some (eI (1)), some (eI (p)), some (eI (q)), some (eI (r)), some (eI (s)), some (eI (108)), some (eI (112))]) (st' := [eI (108), eR 100, eI (-1), eJ (1), eJ (-1), eJ (1), eR 98]) rfl rfl rfl ?_
  refine w_s (np := 93) (lv' := [some (eR 98), some (eI (9)), some (eI (0)), some (eI (1)), some (eI (p)), some (eI (q)), some (eI (r)), some (eI (s)), some (eI (108)), some (eI (112))]) (st' := [eI (3), eI (108), eR 100, eI (-1), eJ (1), eJ (-1), eJ (1), eR 98]) rfl rfl rfl ?_
  refine w_s (np := 94) (lv' := [some (eR 98), some (eI (9)), some (eI (0)), some (eI (1)), some (eI (p)), some (eI (q)), some (eI (r)), some (eI (s)), some (eI (108)), some (eI (112))]) (st' := [eI (111), eR 100, eI (-1), eJ (1), eJ (-1), eJ (1), eR 98]) rfl (b_iadd rfl) rfl ?_
  refine w_al (np := 95) (v := 0) rfl rfl (t_al (k := 111) hq rfl (by decide) rfl) ?_
  refine w_s (np := 96) (lv' := [some (eR 98), some (eI (9)), some (eI (0)), some (eI (1)), some (eI (p)), some (eI (q)), some (eI (r)), some (eI (s)), some (eI (108)), some (eI (112))]) (st' := [eI (-1), eJ (1), eJ (-1), eJ (1), eR 98]) rfl (b_isub rfl) rfl ?_
  refine w_s (np := 97) (lv' := [some (eR 98), some (eI (9)), some (eI (0)), some (eI (1)), some (eI (p)), some (eI (q)), some (eI (r)), some (eI (s)), some (eI (108)), some (eI (112))]) (st' := [eJ (-1), eJ (1), eJ (-1), eJ (1), eR 98]) rfl (b_i2l rfl) rfl ?_
  refine w_s (np := 99) (lv' := [some (eR 98), some (eI (9)), some (eI (0)), some (eI (1)), some (eI (p)), some (eI (q)), some (eI (r)), some (eI (s)), some (eI (108)), some (eI (112))]) (st' := [eI (p), eJ (-1), eJ (1), eJ (-1), eJ (1), eR 98]) rfl rfl rfl ?_
  refine w_s (np := 100) (lv' := [some (eR 98), some (eI (9)), some (eI (0)), some (eI (1)), some (eI (p)), some (eI (q)), some (eI (r)), some (eI (s)), some (eI (108)), some (eI (112))]) (st' := [eJ (p), eJ (-1), eJ (1), eJ (-1), eJ (1), eR 98]) rfl (b_i2l (ev_w_in (by omega) (by omega))) rfl ?_
  refine w_s (np := 101) (lv' := [some (eR 98), some (eI (9)), some (eI (0)), some (eI (1)), some (eI (p)), some (eI (q)), some (eI (r)), some (eI (s)), some (eI (108)), some (eI (112))]) (st' := [eR 98, eJ (p), eJ (-1), eJ (1), eJ (-1), eJ (1), eR 98]) rfl (s_an rfl (by decide)) rfl ?_
  refine w_gf (np := 104) (v := eR 100) rfl rfl hq.1 (by rw [hq.2.1]; rfl) ?_
  refine w_s (np := 106) (lv' := [some (eR 98), some (eI (9)), some (eI (0)), some (eI (1)), some (eI (p)), some (eI (q)), some (eI (r)), some (eI (s)), some (eI (108)), some (eI (112))]) (st' := [eI (108), eR 100, eJ (p), eJ (-1), eJ (1), eJ (-1), eJ (1), eR 98]) rfl rfl rfl ?_
  refine w_al (np := 107) (v := 0) rfl rfl (t_al (k := 108) hq rfl (by decide) rfl) ?_
  refine w_s (np := 108) (lv' := [some (eR 98), some (eI (9)), some (eI (0)), some (eI (1)), some (eI (p)), some (eI (q)), some (eI (r)), some (eI (s)), some (eI (108)), some (eI (112))]) (st' := [eJ (0), eJ (p), eJ (-1), eJ (1), eJ (-1), eJ (1), eR 98]) rfl (b_i2l rfl) rfl ?_
  obtain ⟨v1, e2⟩ : ∃ v : Int, v = (p) - (0) := ⟨_, rfl⟩
  have b3 : -9999 ≤ v1 ∧ v1 ≤ 9999 := by omega
  refine w_s (np := 109) (lv' := [some (eR 98), some (eI (9)), some (eI (0)), some (eI (1)), some (eI (p)), some (eI (q)), some (eI (r)), some (eI (s)), some (eI (108)), some (eI (112))]) (st' := [eJ (v1), eJ (-1), eJ (1), eJ (-1), eJ (1), eR 98]) rfl (b_lsub (by rw [← e2]; exact ev_W_in (by omega) (by omega))) rfl ?_
  refine w_s (np := 111) (lv' := [some (eR 98), some (eI (9)), some (eI (0)), some (eI (1)), some (eI (p)), some (eI (q)), some (eI (r)), some (eI (s)), some (eI (108)), some (eI (112))]) (st' := [eI (q), eJ (v1), eJ (-1), eJ (1), eJ (-1), eJ (1), eR 98]) rfl rfl rfl ?_
  refine w_s (np := 112) (lv' := [some (eR 98), some (eI (9)), some (eI (0)), some (eI (1)), some (eI (p)), some (eI (q)), some (eI (r)), some (eI (s)), some (eI (108)), some (eI (112))]) (st' := [eJ (q), eJ (v1), eJ (-1), eJ (1), eJ (-1), eJ (1), eR 98]) rfl (b_i2l (ev_w_in (by omega) (by omega))) rfl ?_
  refine w_s (np := 113) (lv' := [some (eR 98), some (eI (9)), some (eI (0)), some (eI (1)), some (eI (p)), some (eI (q)), some (eI (r)), some (eI (s)), some (eI (108)), some (eI (112))]) (st' := [eR 98, eJ (q), eJ (v1), eJ (-1), eJ (1), eJ (-1), eJ (1), eR 98]) rfl (s_an rfl (by decide)) rfl ?_
  refine w_gf (np := 116) (v := eR 100) rfl rfl hq.1 (by rw [hq.2.1]; rfl) ?_
  refine w_s (np := 118) (lv' := [some (eR 98), some (eI (9)), some (eI (0)), some (eI (1)), some (eI (p)), some (eI (q)), some (eI (r)), some (eI (s)), some (eI (108)), some (eI (112))]) (st' := [eI (108), eR 100, eJ (q), eJ (v1), eJ (-1), eJ (1), eJ (-1), eJ (1), eR 98]) rfl rfl rfl ?_
  refine w_s (np := 119) (lv' := [some (eR 98), some (eI (9)), some (eI (0)), some (eI (1)), some (eI (p)), some (eI (q)), some (eI (r)), some (eI (s)), some (eI (108)), some (eI (112))]) (st' := [eI (1), eI (108), eR 100, eJ (q), eJ (v1), eJ (-1), eJ (1), eJ (-1), eJ (1), eR 98]) rfl rfl rfl ?_
  refine w_s (np := 120) (lv' := [some (eR 98), some (eI (9)), some (eI (0)), some (eI (1)), some (eI (p)), some (eI (q)), some (eI (r)), some (eI (s)), some (eI (108)), some (eI (112))]) (st' := [eI (109), eR 100, eJ (q), eJ (v1), eJ (-1), eJ (1), eJ (-1), eJ (1), eR 98]) rfl (b_iadd rfl) rfl ?_
  refine w_al (np := 121) (v := 0) rfl rfl (t_al (k := 109) hq rfl (by decide) rfl) ?_
  refine w_s (np := 122) (lv' := [some (eR 98), some (eI (9)), some (eI (0)), some (eI (1)), some (eI (p)), some (eI (q)), some (eI (r)), some (eI (s)), some (eI (108)), some (eI (112))]) (st' := [eJ (0), eJ (q), eJ (v1), eJ (-1), eJ (1), eJ (-1), eJ (1), eR 98]) rfl (b_i2l rfl) rfl ?_
  obtain ⟨v4, e5⟩ : ∃ v : Int, v = (q) - (0) := ⟨_, rfl⟩
  have b6 : -9999 ≤ v4 ∧ v4 ≤ 9999 := by omega
  refine w_s (np := 123) (lv' := [some (eR 98), some (eI (9)), some (eI (0)), some (eI (1)), some (eI (p)), some (eI (q)), some (eI (r)), some (eI (s)), some (eI (108)), some (eI (112))]) (st' := [eJ (v4), eJ (v1), eJ (-1), eJ (1), eJ (-1), eJ (1), eR 98]) rfl (b_lsub (by rw [← e5]; exact ev_W_in (by omega) (by omega))) rfl ?_
  refine w_s (np := 125) (lv' := [some (eR 98), some (eI (9)), some (eI (0)), some (eI (1)), some (eI (p)), some (eI (q)), some (eI (r)), some (eI (s)), some (eI (108)), some (eI (112))]) (st' := [eI (r), eJ (v4), eJ (v1), eJ (-1), eJ (1), eJ (-1), eJ (1), eR 98]) rfl rfl rfl ?_
  refine w_s (np := 126) (lv' := [some (eR 98), some (eI (9)), some (eI (0)), some (eI (1)), some (eI (p)), some (eI (q)), some (eI (r)), some (eI (s)), some (eI (108)), some (eI (112))]) (st' := [eJ (r), eJ (v4), eJ (v1), eJ (-1), eJ (1), eJ (-1), eJ (1), eR 98]) rfl (b_i2l (ev_w_in (by omega) (by omega))) rfl ?_
  refine w_s (np := 127) (lv' := [some (eR 98), some (eI (9)), some (eI (0)), some (eI (1)), some (eI (p)), some (eI (q)), some (eI (r)), some (eI (s)), some (eI (108)), some (eI (112))]) (st' := [eR 98, eJ (r), eJ (v4), eJ (v1), eJ (-1), eJ (1), eJ (-1), eJ (1), eR 98]) rfl (s_an rfl (by decide)) rfl ?_
  refine w_gf (np := 130) (v := eR 100) rfl rfl hq.1 (by rw [hq.2.1]; rfl) ?_
  refine w_s (np := 132) (lv' := [some (eR 98), some (eI (9)), some (eI (0)), some (eI (1)), some (eI (p)), some (eI (q)), some (eI (r)), some (eI (s)), some (eI (108)), some (eI (112))]) (st' := [eI (108), eR 100, eJ (r), eJ (v4), eJ (v1), eJ (-1), eJ (1), eJ (-1), eJ (1), eR 98]) rfl rfl rfl ?_
  refine w_s (np := 133) (lv' := [some (eR 98), some (eI (9)), some (eI (0)), some (eI (1)), some (eI (p)), some (eI (q)), some (eI (r)), some (eI (s)), some (eI (108)), some (eI (112))]) (st' := [eI (2), eI (108), eR 100, eJ (r), eJ (v4), eJ (v1), eJ (-1), eJ (1), eJ (-1), eJ (1), eR 98]) rfl rfl rfl ?_
  refine w_s (np := 134) (lv' := [some (eR 98), some (eI (9)), some (eI (0)), some (eI (1)), some (eI (p)), some (eI (q)), some (eI (r)), some (eI (s)), some (eI (108)), some (eI (112))]) (st' := [eI (110), eR 100, eJ (r), eJ (v4), eJ (v1), eJ (-1), eJ (1), eJ (-1), eJ (1), eR 98]) rfl (b_iadd rfl) rfl ?_
  refine w_al (np := 135) (v := 0) rfl rfl (t_al (k := 110) hq rfl (by decide) rfl) ?_
  refine w_s (np := 136) (lv' := [some (eR 98), some (eI (9)), some (eI (0)), some (eI (1)), some (eI (p)), some (eI (q)), some (eI (r)), some (eI (s)), some (eI (108)), some (eI (112))]) (st' := [eJ (0), eJ (r), eJ (v4), eJ (v1), eJ (-1), eJ (1), eJ (-1), eJ (1), eR 98]) rfl (b_i2l rfl) rfl ?_
  obtain ⟨v7, e8⟩ : ∃ v : Int, v = (r) - (0) := ⟨_, rfl⟩
  have b9 : -9999 ≤ v7 ∧ v7 ≤ 9999 := by omega
  refine w_s (np := 137) (lv' := [some (eR 98), some (eI (9)), some (eI (0)), some (eI (1)), some (eI (p)), some (eI (q)), some (eI (r)), some (eI (s)), some (eI (108)), some (eI (112))]) (st' := [eJ (v7), eJ (v4), eJ (v1), eJ (-1), eJ (1), eJ (-1), eJ (1), eR 98]) rfl (b_lsub (by rw [← e8]; exact ev_W_in (by omega) (by omega))) rfl ?_
  refine w_s (np := 139) (lv' := [some (eR 98), some (eI (9)), some (eI (0)), some (eI (1)), some (eI (p)), some (eI (q)), some (eI (r)), some (eI (s)), some (eI (108)), some (eI (112))]) (st' := [eI (s), eJ (v7), eJ (v4), eJ (v1), eJ (-1), eJ (1), eJ (-1), eJ (1), eR 98]) rfl rfl rfl ?_
  refine w_s (np := 140) (lv' := [some (eR 98), some (eI (9)), some (eI (0)), some (eI (1)), some (eI (p)), some (eI (q)), some (eI (r)), some (eI (s)), some (eI (108)), some (eI (112))]) (st' := [eJ (s), eJ (v7), eJ (v4), eJ (v1), eJ (-1), eJ (1), eJ (-1), eJ (1), eR 98]) rfl (b_i2l (ev_w_in (by omega) (by omega))) rfl ?_
  refine w_s (np := 141) (lv' := [some (eR 98), some (eI (9)), some (eI (0)), some (eI (1)), some (eI (p)), some (eI (q)), some (eI (r)), some (eI (s)), some (eI (108)), some (eI (112))]) (st' := [eR 98, eJ (s), eJ (v7), eJ (v4), eJ (v1), eJ (-1), eJ (1), eJ (-1), eJ (1), eR 98]) rfl (s_an rfl (by decide)) rfl ?_
  refine w_gf (np := 144) (v := eR 100) rfl rfl hq.1 (by rw [hq.2.1]; rfl) ?_
  refine w_s (np := 146) (lv' := [some (eR 98), some (eI (9)), some (eI (0)), some (eI (1)), some (eI (p)), some (eI (q)), some (eI (r)), some (eI (s)), some (eI (108)), some (eI (112))]) (st' := [eI (108), eR 100, eJ (s), eJ (v7), eJ (v4), eJ (v1), eJ (-1), eJ (1), eJ (-1), eJ (1), eR 98]) rfl rfl rfl ?_
  refine w_s (np := 147) (lv' := [some (eR 98), some (eI (9)), some (eI (0)), some (eI (1)), some (eI (p)), some (eI (q)), some (eI (r)), some (eI (s)), some (eI (108)), some (eI (112))]) (st' := [eI (3), eI (108), eR 100, eJ (s), eJ (v7), eJ (v4), eJ (v1), eJ (-1), eJ (1), eJ (-1), eJ (1), eR 98]) rfl rfl rfl ?_
  refine w_s (np := 148) (lv' := [some (eR 98), some (eI (9)), some (eI (0)), some (eI (1)), some (eI (p)), some (eI (q)), some (eI (r)), some (eI (s)), some (eI (108)), some (eI (112))]) (st' := [eI (111), eR 100, eJ (s), eJ (v7), eJ (v4), eJ (v1), eJ (-1), eJ (1), eJ (-1), eJ (1), eR 98]) rfl (b_iadd rfl) rfl ?_
  refine w_al (np := 149) (v := 0) rfl rfl (t_al (k := 111) hq rfl (by decide) rfl) ?_
  refine w_s (np := 150) (lv' := [some (eR 98), some (eI (9)), some (eI (0)), some (eI (1)), some (eI (p)), some (eI (q)), some (eI (r)), some (eI (s)), some (eI (108)), some (eI (112))]) (st' := [eJ (0), eJ (s), eJ (v7), eJ (v4), eJ (v1), eJ (-1), eJ (1), eJ (-1), eJ (1), eR 98]) rfl (b_i2l rfl) rfl ?_
  obtain ⟨v10, e11⟩ : ∃ v : Int, v = (s) - (0) := ⟨_, rfl⟩
  have b12 : -9999 ≤ v10 ∧ v10 ≤ 9999 := by omega
  refine w_s (np := 151) (lv' := [some (eR 98), some (eI (9)), some (eI (0)), some (eI (1)), some (eI (p)), some (eI (q)), some (eI (r)), some (eI (s)), some (eI (108)), some (eI (112))]) (st' := [eJ (v10), eJ (v7), eJ (v4), eJ (v1), eJ (-1), eJ (1), eJ (-1), eJ (1), eR 98]) rfl (b_lsub (by rw [← e11]; exact ev_W_in (by omega) (by omega))) rfl ?_
  refine w_cv (np := 154) (as := [eJ (1), eJ (-1), eJ (1), eJ (-1), eJ (v1), eJ (v4), eJ (v7), eJ (v10)]) (lv' := [some (eR 98), some (eJ (1)), none, some (eJ (-1)), none, some (eJ (1)), none, some (eJ (-1)), none, some (eJ (v1)), none, some (eJ (v4)), none, some (eJ (v7)), none, some (eJ (v10)), none]) (rest := []) rfl rfl rfl (Nat.ble_eq.mp rfl) rfl rfl rfl hq.1 rfl ?_
  refine t224 hq.1 (show (-8 : Int) ≤ 1 ∧ (1 : Int) ≤ 8 by omega) (show (-8 : Int) ≤ -1 ∧ (-1 : Int) ≤ 8 by omega) (show (-8 : Int) ≤ 1 ∧ (1 : Int) ≤ 8 by omega) (show (-8 : Int) ≤ -1 ∧ (-1 : Int) ≤ 8 by omega) (show (-100000 : Int) ≤ v1 ∧ (v1 : Int) ≤ 100000 by omega) (show (-100000 : Int) ≤ v4 ∧ (v4 : Int) ≤ 100000 by omega) (show (-100000 : Int) ≤ v7 ∧ (v7 : Int) ≤ 100000 by omega) (show (-100000 : Int) ≤ v10 ∧ (v10 : Int) ≤ 100000 by omega) ?_
  intro m B G s1 eB eG bB bG
  show ex_fine fg rc rs (d + 4, (265, 154, [some (eR 98), some (eI (9)), some (eI (0)), some (eI (1)), some (eI (p)), some (eI (q)), some (eI (r)), some (eI (s)), some (eI (108)), some (eI (112))], [eI (rSg (2 * B + G) G)]), f :: F, m)
  refine b_ri rfl rfl ?_
  have hB : B = 1 * p + 1 * s := by omega
  have hG : G = 1 * q + 1 * r := by omega
  have hr := rSg_ok (x := 2 * B + G) (b := G) (by omega)
  have e9 : 416020 * (2 * B + G) + 930249 * G = 832040 * p + 1346269 * q + 1346269 * r + 832040 * s := by omega
  rw [e9] at hr
  exact K m _ s1 hr (rSg_v _ _)
theorem t265_9_1 {fg : eG} {rc rs d : Nat} {f : eFr} {F : List eFr} {μ : eM} {p q r s : Int} (hq : tQ μ) (hp : -9999 ≤ p ∧ p ≤ 9999) (hq0 : -9999 ≤ q ∧ q ≤ 9999) (hr : -9999 ≤ r ∧ r ≤ 9999) (hs : -9999 ≤ s ∧ s ≤ 9999) (K : ∀ (μ2 : eM) (u : Int), tS μ μ2 → ((0 ≤ u ↔ 0 ≤ (-832040) * p + (-514229) * q + 514229 * s + (832040)) ∧ (u ≤ 0 ↔ (-832040) * p + (-514229) * q + 514229 * s + (832040) ≤ 0)) → (u = 0 ∨ u = 1 ∨ u = -1) → ex_fine fg rc rs (d + 5, (f.1, f.2.1, f.2.2.1, eI u :: f.2.2.2), F, μ2)) : ex_fine fg rc rs (d + 4, (265, 0, [some (eR 98), some (eI (9)), some (eI (1)), some (eI (2)), some (eI (p)), some (eI (q)), some (eI (r)), some (eI (s)), none, none], []), f :: F, μ) := by
  refine w_s (np := 2) (lv' := [some (eR 98), some (eI (9)), some (eI (1)), some (eI (2)), some (eI (p)), some (eI (q)), some (eI (r)), some (eI (s)), none, none]) (st' := [eI (12)]) rfl rfl rfl ?_
  refine w_s (np := 3) (lv' := [some (eR 98), some (eI (9)), some (eI (1)), some (eI (2)), some (eI (p)), some (eI (q)), some (eI (r)), some (eI (s)), none, none]) (st' := [eI (9), eI (12)]) rfl rfl rfl ?_
  refine w_s (np := 4) (lv' := [some (eR 98), some (eI (9)), some (eI (1)), some (eI (2)), some (eI (p)), some (eI (q)), some (eI (r)), some (eI (s)), none, none]) (st' := [eI (108)]) rfl (b_imul rfl) rfl ?_
  refine w_s (np := 5) (lv' := [some (eR 98), some (eI (9)), some (eI (1)), some (eI (2)), some (eI (p)), some (eI (q)), some (eI (r)), some (eI (s)), none, none]) (st' := [eI (4), eI (108)]) rfl rfl rfl ?_
  refine w_s (np := 6) (lv' := [some (eR 98), some (eI (9)), some (eI (1)), some (eI (2)), some (eI (p)), some (eI (q)), some (eI (r)), some (eI (s)), none, none]) (st' := [eI (1), eI (4), eI (108)]) rfl rfl rfl ?_
  refine w_s (np := 7) (lv' := [some (eR 98), some (eI (9)), some (eI (1)), some (eI (2)), some (eI (p)), some (eI (q)), some (eI (r)), some (eI (s)), none, none]) (st' := [eI (4), eI (108)]) rfl (b_imul rfl) rfl ?_
  refine w_s (np := 8) (lv' := [some (eR 98), some (eI (9)), some (eI (1)), some (eI (2)), some (eI (p)), some (eI (q)), some (eI (r)), some (eI (s)), none, none]) (st' := [eI (112)]) rfl (b_iadd rfl) rfl ?_
  refine w_s (np := 10) (lv' := [some (eR 98), some (eI (9)), some (eI (1)), some (eI (2)), some (eI (p)), some (eI (q)), some (eI (r)), some (eI (s)), some (eI (112)), none]) (st' := []) rfl rfl rfl ?_
  refine w_s (np := 12) (lv' := [some (eR 98), some (eI (9)), some (eI (1)), some (eI (2)), some (eI (p)), some (eI (q)), some (eI (r)), some (eI (s)), some (eI (112)), none]) (st' := [eI (12)]) rfl rfl rfl ?_
  refine w_s (np := 13) (lv' := [some (eR 98), some (eI (9)), some (eI (1)), some (eI (2)), some (eI (p)), some (eI (q)), some (eI (r)), some (eI (s)), some (eI (112)), none]) (st' := [eI (9), eI (12)]) rfl rfl rfl ?_
  refine w_s (np := 14) (lv' := [some (eR 98), some (eI (9)), some (eI (1)), some (eI (2)), some (eI (p)), some (eI (q)), some (eI (r)), some (eI (s)), some (eI (112)), none]) (st' := [eI (108)]) rfl (b_imul rfl) rfl ?_
  refine w_s (np := 15) (lv' := [some (eR 98), some (eI (9)), some (eI (1)), some (eI (2)), some (eI (p)), some (eI (q)), some (eI (r)), some (eI (s)), some (eI (112)), none]) (st' := [eI (4), eI (108)]) rfl rfl rfl ?_
  refine w_s (np := 16) (lv' := [some (eR 98), some (eI (9)), some (eI (1)), some (eI (2)), some (eI (p)), some (eI (q)), some (eI (r)), some (eI (s)), some (eI (112)), none]) (st' := [eI (2), eI (4), eI (108)]) rfl rfl rfl ?_
  refine w_s (np := 17) (lv' := [some (eR 98), some (eI (9)), some (eI (1)), some (eI (2)), some (eI (p)), some (eI (q)), some (eI (r)), some (eI (s)), some (eI (112)), none]) (st' := [eI (8), eI (108)]) rfl (b_imul rfl) rfl ?_
  refine w_s (np := 18) (lv' := [some (eR 98), some (eI (9)), some (eI (1)), some (eI (2)), some (eI (p)), some (eI (q)), some (eI (r)), some (eI (s)), some (eI (112)), none]) (st' := [eI (116)]) rfl (b_iadd rfl) rfl ?_
  refine w_s (np := 20) (lv' := [some (eR 98), some (eI (9)), some (eI (1)), some (eI (2)), some (eI (p)), some (eI (q)), some (eI (r)), some (eI (s)), some (eI (112)), some (eI (116))]) (st' := []) rfl rfl rfl ?_
  refine w_s (np := 21) (lv' := [some (eR 98), some (eI (9)), some (eI (1)), some (eI (2)), some (eI (p)), some (eI (q)), some (eI (r)), some (eI (s)), some (eI (112)), some (eI (116))]) (st' := [eR 98]) rfl (s_an rfl (by decide)) rfl ?_
  refine w_s (np := 22) (lv' := [some (eR 98), some (eI (9)), some (eI (1)), some (eI (2)), some (eI (p)), some (eI (q)), some (eI (r)), some (eI (s)), some (eI (112)), some (eI (116))]) (st' := [eR 98, eR 98]) rfl (s_an rfl (by decide)) rfl ?_
  refine w_gf (np := 25) (v := eR 100) rfl rfl hq.1 (by rw [hq.2.1]; rfl) ?_
  refine w_s (np := 27) (lv' := [some (eR 98), some (eI (9)), some (eI (1)), some (eI (2)), some (eI (p)), some (eI (q)), some (eI (r)), some (eI (s)), some (eI (112)), some (eI (116))]) (st' := [eI (116), eR 100, eR 98]) rfl rfl rfl ?_
  refine w_al (np := 28) (v := 1) rfl rfl (t_al (k := 116) hq rfl (by decide) rfl) ?_
  refine w_s (np := 29) (lv' := [some (eR 98), some (eI (9)), some (eI (1)), some (eI (2)), some (eI (p)), some (eI (q)), some (eI (r)), some (eI (s)), some (eI (112)), some (eI (116))]) (st' := [eR 98, eI (1), eR 98]) rfl (s_an rfl (by decide)) rfl ?_
  refine w_gf (np := 32) (v := eR 100) rfl rfl hq.1 (by rw [hq.2.1]; rfl) ?_
  refine w_s (np := 34) (lv' := [some (eR 98), some (eI (9)), some (eI (1)), some (eI (2)), some (eI (p)), some (eI (q)), some (eI (r)), some (eI (s)), some (eI (112)), some (eI (116))]) (st' := [eI (112), eR 100, eI (1), eR 98]) rfl rfl rfl ?_
  refine w_al (np := 35) (v := 1) rfl rfl (t_al (k := 112) hq rfl (by decide) rfl) ?_
  refine w_s (np := 36) (lv' := [some (eR 98), some (eI (9)), some (eI (1)), some (eI (2)), some (eI (p)), some (eI (q)), some (eI (r)), some (eI (s)), some (eI (112)), some (eI (116))]) (st' := [eI (0), eR 98]) rfl (b_isub rfl) rfl ?_
  refine w_s (np := 37) (lv' := [some (eR 98), some (eI (9)), some (eI (1)), some (eI (2)), some (eI (p)), some (eI (q)), some (eI (r)), some (eI (s)), some (eI (112)), some (eI (116))]) (st' := [eJ (0), eR 98]) rfl (b_i2l rfl) rfl ?_
  refine w_s (np := 38) (lv' := [some (eR 98), some (eI (9)), some (eI (1)), some (eI (2)), some (eI (p)), some (eI (q)), some (eI (r)), some (eI (s)), some (eI (112)), some (eI (116))]) (st' := [eR 98, eJ (0), eR 98]) rfl (s_an rfl (by decide)) rfl ?_
  refine w_gf (np := 41) (v := eR 100) rfl rfl hq.1 (by rw [hq.2.1]; rfl) ?_
  refine w_s (np := 43) (lv' := [some (eR 98), some (eI (9)), some (eI (1)), some (eI (2)), some (eI (p)), some (eI (q)), some (eI (r)), some (eI (s)), some (eI (112)), some (eI (116))]) (st' := [eI (116), eR 100, eJ (0), eR 98]) rfl rfl rfl ?_
  refine w_s (np := 44) (lv' := [some (eR 98), some (eI (9)), some (eI (1)), some (eI (2)), some (eI (p)), some (eI (q)), some (eI (r)), some (eI (s)), some (eI (112)), some (eI (116))]) (st' := [eI (1), eI (116), eR 100, eJ (0), eR 98]) rfl rfl rfl ?_
  refine w_s (np := 45) (lv' := [some (eR 98), some (eI (9)), some (eI (1)), some (eI (2)), some (eI (p)), some (eI (q)), some (eI (r)), some (eI (s)), some (eI (112)), some (eI (116))]) (st' := [eI (117), eR 100, eJ (0), eR 98]) rfl (b_iadd rfl) rfl ?_
  refine w_al (np := 46) (v := 0) rfl rfl (t_al (k := 117) hq rfl (by decide) rfl) ?_
  refine w_s (np := 47) (lv' := [some (eR 98), some (eI (9)), some (eI (1)), some (eI (2)), some (eI (p)), some (eI (q)), some (eI (r)), some (eI (s)), some (eI (112)), some (eI (116))]) (st' := [eR 98, eI (0), eJ (0), eR 98]) rfl (s_an rfl (by decide)) rfl ?_
  refine w_gf (np := 50) (v := eR 100) rfl rfl hq.1 (by rw [hq.2.1]; rfl) ?_
  refine w_s (np := 52) (lv' := [some (eR 98), some (eI (9)), some (eI (1)), some (eI (2)), some (eI (p)), some (eI (q)), some (eI (r)), some (eI (s)), some (eI (112)), some (eI (116))]) (st' := [eI (112), eR 100, eI (0), eJ (0), eR 98]) rfl rfl rfl ?_
  refine w_s (np := 53) (lv' := [some (eR 98), some (eI (9)), some (eI (1)), some (eI (2)), some (eI (p)), some (eI (q)), some (eI (r)), some (eI (s)), some (eI (112)), some (eI (116))]) (st' := [eI (1), eI (112), eR 100, eI (0), eJ (0), eR 98]) rfl rfl rfl ?_
  refine w_s (np := 54) (lv' := [some (eR 98), some (eI (9)), some (eI (1)), some (eI (2)), some (eI (p)), some (eI (q)), some (eI (r)), some (eI (s)), some (eI (112)), some (eI (116))]) (st' := [eI (113), eR 100, eI (0), eJ (0), eR 98]) rfl (b_iadd rfl) rfl ?_
  refine w_al (np := 55) (v := -1) rfl rfl (t_al (k := 113) hq rfl (by decide) rfl) ?_
  refine w_s (np := 56) (lv' := [some (eR 98), some (eI (9)), some (eI (1)), some (eI (2)), some (eI (p)), some (eI (q)), some (eI (r)), some (eI (s)), some (eI (112)), some (eI (116))]) (st' := [eI (1), eJ (0), eR 98]) rfl (b_isub rfl) rfl ?_
  refine w_s (np := 57) (lv' := [some (eR 98), some (eI (9)), some (eI (1)), some (eI (2)), some (eI (p)), some (eI (q)), some (eI (r)), some (eI (s)), some (eI (112)), some (eI (116))]) (st' := [eJ (1), eJ (0), eR 98]) rfl (b_i2l rfl) rfl ?_
  refine w_s (np := 58) (lv' := [some (eR 98), some (eI (9)), some (eI (1)), some (eI (2)), some (eI (p)), some (eI (q)), some (eI (r)), some (eI (s)), some (eI (112)), some (eI (116))]) (st' := [eR 98, eJ (1), eJ (0), eR 98]) rfl (s_an rfl (by decide)) rfl ?_
  refine w_gf (np := 61) (v := eR 100) rfl rfl hq.1 (by rw [hq.2.1]; rfl) ?_
  refine w_s (np := 63) (lv' := [some (eR 98), some (eI (9)), some (eI (1)), some (eI (2)), some (eI (p)), some (eI (q)), some (eI (r)), some (eI (s)), some (eI (112)), some (eI (116))]) (st' := [eI (116), eR 100, eJ (1), eJ (0), eR 98]) rfl rfl rfl ?_
  refine w_s (np := 64) (lv' := [some (eR 98), some (eI (9)), some (eI (1)), some (eI (2)), some (eI (p)), some (eI (q)), some (eI (r)), some (eI (s)), some (eI (112)), some (eI (116))]) (st' := [eI (2), eI (116), eR 100, eJ (1), eJ (0), eR 98]) rfl rfl rfl ?_
  refine w_s (np := 65) (lv' := [some (eR 98), some (eI (9)), some (eI (1)), some (eI (2)), some (eI (p)), some (eI (q)), some (eI (r)), some (eI (s)), some (eI (112)), some (eI (116))]) (st' := [eI (118), eR 100, eJ (1), eJ (0), eR 98]) rfl (b_iadd rfl) rfl ?_
  refine w_al (np := 66) (v := 0) rfl rfl (t_al (k := 118) hq rfl (by decide) rfl) ?_
  refine w_s (np := 67) (lv' := [some (eR 98), some (eI (9)), some (eI (1)), some (eI (2)), some (eI (p)), some (eI (q)), some (eI (r)), some (eI (s)), some (eI (112)), some (eI (116))]) (st' := [eR 98, eI (0), eJ (1), eJ (0), eR 98]) rfl (s_an rfl (by decide)) rfl ?_
  refine w_gf (np := 70) (v := eR 100) rfl rfl hq.1 (by rw [hq.2.1]; rfl) ?_
  refine w_s (np := 72) (lv' := [some (eR 98), some (eI (9)), some (eI (1)), some (eI (2)), some (eI (p)), some (eI (q)), some (eI (r)), some (eI (s)), some (eI (112)), some (eI (116))]) (st' := [eI (112), eR 100, eI (0), eJ (1), eJ (0), eR 98]) rfl rfl rfl ?_
  refine w_s (np := 73) (lv' := [some (eR 98), some (eI (9)), some (eI (1)), some (eI (2)), some (eI (p)), some (eI (q)), some (eI (r)), some (eI (s)), some (eI (112)), some (eI (116))]) (st' := [eI (2), eI (112), eR 100, eI (0), eJ (1), eJ (0), eR 98]) rfl rfl rfl ?_
  refine w_s (np := 74) (lv' := [some (eR 98), some (eI (9)), some (eI (1)), some (eI (2)), some (eI (p)), some (eI (q)), some (eI (r)), some (eI (s)), some (eI (112)), some (eI (116))]) (st' := [eI (114), eR 100, eI (0), eJ (1), eJ (0), eR 98]) rfl (b_iadd rfl) rfl ?_
  refine w_al (np := 75) (v := 1) rfl rfl (t_al (k := 114) hq rfl (by decide) rfl) ?_
  refine w_s (np := 76) (lv' := [some (eR 98), some (eI (9)), some (eI (1)), some (eI (2)), some (eI (p)), some (eI (q)), some (eI (r)), some (eI (s)), some (eI (112)), some (eI (116))]) (st' := [eI (-1), eJ (1), eJ (0), eR 98]) rfl (b_isub rfl) rfl ?_
  refine w_s (np := 77) (lv' := [some (eR 98), some (eI (9)), some (eI (1)), some (eI (2)), some (eI (p)), some (eI (q)), some (eI (r)), some (eI (s)), some (eI (112)), some (eI (116))]) (st' := [eJ (-1), eJ (1), eJ (0), eR 98]) rfl (b_i2l rfl) rfl ?_
  refine w_s (np := 78) (lv' := [some (eR 98), some (eI (9)), some (eI (1)), some (eI (2)), some (eI (p)), some (eI (q)), some (eI (r)), some (eI (s)), some (eI (112)), some (eI (116))]) (st' := [eR 98, eJ (-1), eJ (1), eJ (0), eR 98]) rfl (s_an rfl (by decide)) rfl ?_
  refine w_gf (np := 81) (v := eR 100) rfl rfl hq.1 (by rw [hq.2.1]; rfl) ?_
  refine w_s (np := 83) (lv' := [some (eR 98), some (eI (9)), some (eI (1)), some (eI (2)), some (eI (p)), some (eI (q)), some (eI (r)), some (eI (s)), some (eI (112)), some (eI (116))]) (st' := [eI (116), eR 100, eJ (-1), eJ (1), eJ (0), eR 98]) rfl rfl rfl ?_
  refine w_s (np := 84) (lv' := [some (eR 98), some (eI (9)), some (eI (1)), some (eI (2)), some (eI (p)), some (eI (q)), some (eI (r)), some (eI (s)), some (eI (112)), some (eI (116))]) (st' := [eI (3), eI (116), eR 100, eJ (-1), eJ (1), eJ (0), eR 98]) rfl rfl rfl ?_
  refine w_s (np := 85) (lv' := [some (eR 98), some (eI (9)), some (eI (1)), some (eI (2)), some (eI (p)), some (eI (q)), some (eI (r)), some (eI (s)), some (eI (112)), some (eI (116))]) (st' := [eI (119), eR 100, eJ (-1), eJ (1), eJ (0), eR 98]) rfl (b_iadd rfl) rfl ?_
  refine w_al (np := 86) (v := 0) rfl rfl (t_al (k := 119) hq rfl (by decide) rfl) ?_
  refine w_s (np := 87) (lv' := [some (eR 98), some (eI (9)), some (eI (1)), some (eI (2)), some (eI (p)), some (eI (q)), some (eI (r)), some (eI (s)), some (eI (112)), some (eI (116))]) (st' := [eR 98, eI (0), eJ (-1), eJ (1), eJ (0), eR 98]) rfl (s_an rfl (by decide)) rfl ?_
  refine w_gf (np := 90) (v := eR 100) rfl rfl hq.1 (by rw [hq.2.1]; rfl) ?_
  refine w_s (np := 92) (lv' := [some (eR 98), some (eI (9)), some (eI (1)), some (eI (2)), some (eI (p)), some (eI (q)), some (eI (r)), some (eI (s)), some (eI (112)), some (eI (116))]) (st' := [eI (112), eR 100, eI (0), eJ (-1), eJ (1), eJ (0), eR 98]) rfl rfl rfl ?_
  refine w_s (np := 93) (lv' := [some (eR 98), some (eI (9)), some (eI (1)), some (eI (2)), some (eI (p)), some (eI (q)), some (eI (r)), some (eI (s)), some (eI (112)), some (eI (116))]) (st' := [eI (3), eI (112), eR 100, eI (0), eJ (-1), eJ (1), eJ (0), eR 98]) rfl rfl rfl ?_
  refine w_s (np := 94) (lv' := [some (eR 98), some (eI (9)), some (eI (1)), some (eI (2)), some (eI (p)), some (eI (q)), some (eI (r)), some (eI (s)), some (eI (112)), some (eI (116))]) (st' := [eI (115), eR 100, eI (0), eJ (-1), eJ (1), eJ (0), eR 98]) rfl (b_iadd rfl) rfl ?_
  refine w_al (np := 95) (v := -1) rfl rfl (t_al (k := 115) hq rfl (by decide) rfl) ?_
  refine w_s (np := 96) (lv' := [some (eR 98), some (eI (9)), some (eI (1)), some (eI (2)), some (eI (p)), some (eI (q)), some (eI (r)), some (eI (s)), some (eI (112)), some (eI (116))]) (st' := [eI (1), eJ (-1), eJ (1), eJ (0), eR 98]) rfl (b_isub rfl) rfl ?_
  refine w_s (np := 97) (lv' := [some (eR 98), some (eI (9)), some (eI (1)), some (eI (2)), some (eI (p)), some (eI (q)), some (eI (r)), some (eI (s)), some (eI (112)), some (eI (116))]) (st' := [eJ (1), eJ (-1), eJ (1), eJ (0), eR 98]) rfl (b_i2l rfl) rfl ?_
  refine w_s (np := 99) (lv' := [some (eR 98), some (eI (9)), some (eI (1)), some (eI (2)), some (eI (p)), some (eI (q)), some (eI (r)), some (eI (s)), some (eI (112)), some (eI (116))]) (st' := [eI (p), eJ (1), eJ (-1), eJ (1), eJ (0), eR 98]) rfl rfl rfl ?_
  refine w_s (np := 100) (lv' := [some (eR 98), some (eI (9)), some (eI (1)), some (eI (2)), some (eI (p)), some (eI (q)), some (eI (r)), some (eI (s)), some (eI (112)), some (eI (116))]) (st' := [eJ (p), eJ (1), eJ (-1), eJ (1), eJ (0), eR 98]) rfl (b_i2l (ev_w_in (by omega) (by omega))) rfl ?_
  refine w_s (np := 101) (lv' := [some (eR 98), some (eI (9)), some (eI (1)), some (eI (2)), some (eI (p)), some (eI (q)), some (eI (r)), some (eI (s)), some (eI (112)), some (eI (116))]) (st' := [eR 98, eJ (p), eJ (1), eJ (-1), eJ (1), eJ (0), eR 98]) rfl (s_an rfl (by decide)) rfl ?_
  refine w_gf (np := 104) (v := eR 100) rfl rfl hq.1 (by rw [hq.2.1]; rfl) ?_
  refine w_s (np := 106) (lv' := [some (eR 98), some (eI (9)), some (eI (1)), some (eI (2)), some (eI (p)), some (eI (q)), some (eI (r)), some (eI (s)), some (eI (112)), some (eI (116))]) (st' := [eI (112), eR 100, eJ (p), eJ (1), eJ (-1), eJ (1), eJ (0), eR 98]) rfl rfl rfl ?_
  refine w_al (np := 107) (v := 1) rfl rfl (t_al (k := 112) hq rfl (by decide) rfl) ?_
  refine w_s (np := 108) (lv' := [some (eR 98), some (eI (9)), some (eI (1)), some (eI (2)), some (eI (p)), some (eI (q)), some (eI (r)), some (eI (s)), some (eI (112)), some (eI (116))]) (st' := [eJ (1), eJ (p), eJ (1), eJ (-1), eJ (1), eJ (0), eR 98]) rfl (b_i2l rfl) rfl ?_
  obtain ⟨v1, e2⟩ : ∃ v : Int, v = (p) - (1) := ⟨_, rfl⟩
  have b3 : -10000 ≤ v1 ∧ v1 ≤ 9998 := by omega
  refine w_s (np := 109) (lv' := [some (eR 98), some (eI (9)), some (eI (1)), some (eI (2)), some (eI (p)), some (eI (q)), some (eI (r)), some (eI (s)), some (eI (112)), some (eI (116))]) (st' := [eJ (v1), eJ (1), eJ (-1), eJ (1), eJ (0), eR 98]) rfl (b_lsub (by rw [← e2]; exact ev_W_in (by omega) (by omega))) rfl ?_
  refine w_s (np := 111) (lv' := [some (eR 98), some (eI (9)), some (eI (1)), some (eI (2)), some (eI (p)), some (eI (q)), some (eI (r)), some (eI (s)), some (eI (112)), some (eI (116))]) (st' := [eI (q), eJ (v1), eJ (1), eJ (-1), eJ (1), eJ (0), eR 98]) rfl rfl rfl ?_
  refine w_s (np := 112) (lv' := [some (eR 98), some (eI (9)), some (eI (1)), some (eI (2)), some (eI (p)), some (eI (q)), some (eI (r)), some (eI (s)), some (eI (112)), some (eI (116))]) (st' := [eJ (q), eJ (v1), eJ (1), eJ (-1), eJ (1), eJ (0), eR 98]) rfl (b_i2l (ev_w_in (by omega) (by omega))) rfl ?_
  refine w_s (np := 113) (lv' := [some (eR 98), some (eI (9)), some (eI (1)), some (eI (2)), some (eI (p)), some (eI (q)), some (eI (r)), some (eI (s)), some (eI (112)), some (eI (116))]) (st' := [eR 98, eJ (q), eJ (v1), eJ (1), eJ (-1), eJ (1), eJ (0), eR 98]) rfl (s_an rfl (by decide)) rfl ?_
  refine w_gf (np := 116) (v := eR 100) rfl rfl hq.1 (by rw [hq.2.1]; rfl) ?_
  refine w_s (np := 118) (lv' := [some (eR 98), some (eI (9)), some (eI (1)), some (eI (2)), some (eI (p)), some (eI (q)), some (eI (r)), some (eI (s)), some (eI (112)), some (eI (116))]) (st' := [eI (112), eR 100, eJ (q), eJ (v1), eJ (1), eJ (-1), eJ (1), eJ (0), eR 98]) rfl rfl rfl ?_
  refine w_s (np := 119) (lv' := [some (eR 98), some (eI (9)), some (eI (1)), some (eI (2)), some (eI (p)), some (eI (q)), some (eI (r)), some (eI (s)), some (eI (112)), some (eI (116))]) (st' := [eI (1), eI (112), eR 100, eJ (q), eJ (v1), eJ (1), eJ (-1), eJ (1), eJ (0), eR 98]) rfl rfl rfl ?_
  refine w_s (np := 120) (lv' := [some (eR 98), some (eI (9)), some (eI (1)), some (eI (2)), some (eI (p)), some (eI (q)), some (eI (r)), some (eI (s)), some (eI (112)), some (eI (116))]) (st' := [eI (113), eR 100, eJ (q), eJ (v1), eJ (1), eJ (-1), eJ (1), eJ (0), eR 98]) rfl (b_iadd rfl) rfl ?_
  refine w_al (np := 121) (v := -1) rfl rfl (t_al (k := 113) hq rfl (by decide) rfl) ?_
  refine w_s (np := 122) (lv' := [some (eR 98), some (eI (9)), some (eI (1)), some (eI (2)), some (eI (p)), some (eI (q)), some (eI (r)), some (eI (s)), some (eI (112)), some (eI (116))]) (st' := [eJ (-1), eJ (q), eJ (v1), eJ (1), eJ (-1), eJ (1), eJ (0), eR 98]) rfl (b_i2l rfl) rfl ?_
  obtain ⟨v4, e5⟩ : ∃ v : Int, v = (q) - (-1) := ⟨_, rfl⟩
  have b6 : -9998 ≤ v4 ∧ v4 ≤ 10000 := by omega
  refine w_s (np := 123) (lv' := [some (eR 98), some (eI (9)), some (eI (1)), some (eI (2)), some (eI (p)), some (eI (q)), some (eI (r)), some (eI (s)), some (eI (112)), some (eI (116))]) (st' := [eJ (v4), eJ (v1), eJ (1), eJ (-1), eJ (1), eJ (0), eR 98]) rfl (b_lsub (by rw [← e5]; exact ev_W_in (by omega) (by omega))) rfl ?_
  refine w_s (np := 125) (lv' := [some (eR 98), some (eI (9)), some (eI (1)), some (eI (2)), some (eI (p)), some (eI (q)), some (eI (r)), some (eI (s)), some (eI (112)), some (eI (116))]) (st' := [eI (r), eJ (v4), eJ (v1), eJ (1), eJ (-1), eJ (1), eJ (0), eR 98]) rfl rfl rfl ?_
  refine w_s (np := 126) (lv' := [some (eR 98), some (eI (9)), some (eI (1)), some (eI (2)), some (eI (p)), some (eI (q)), some (eI (r)), some (eI (s)), some (eI (112)), some (eI (116))]) (st' := [eJ (r), eJ (v4), eJ (v1), eJ (1), eJ (-1), eJ (1), eJ (0), eR 98]) rfl (b_i2l (ev_w_in (by omega) (by omega))) rfl ?_
  refine w_s (np := 127) (lv' := [some (eR 98), some (eI (9)), some (eI (1)), some (eI (2)), some (eI (p)), some (eI (q)), some (eI (r)), some (eI (s)), some (eI (112)), some (eI (116))]) (st' := [eR 98, eJ (r), eJ (v4), eJ (v1), eJ (1), eJ (-1), eJ (1), eJ (0), eR 98]) rfl (s_an rfl (by decide)) rfl ?_
  refine w_gf (np := 130) (v := eR 100) rfl rfl hq.1 (by rw [hq.2.1]; rfl) ?_
  refine w_s (np := 132) (lv' := [some (eR 98), some (eI (9)), some (eI (1)), some (eI (2)), some (eI (p)), some (eI (q)), some (eI (r)), some (eI (s)), some (eI (112)), some (eI (116))]) (st' := [eI (112), eR 100, eJ (r), eJ (v4), eJ (v1), eJ (1), eJ (-1), eJ (1), eJ (0), eR 98]) rfl rfl rfl ?_
  refine w_s (np := 133) (lv' := [some (eR 98), some (eI (9)), some (eI (1)), some (eI (2)), some (eI (p)), some (eI (q)), some (eI (r)), some (eI (s)), some (eI (112)), some (eI (116))]) (st' := [eI (2), eI (112), eR 100, eJ (r), eJ (v4), eJ (v1), eJ (1), eJ (-1), eJ (1), eJ (0), eR 98]) rfl rfl rfl ?_
  refine w_s (np := 134) (lv' := [some (eR 98), some (eI (9)), some (eI (1)), some (eI (2)), some (eI (p)), some (eI (q)), some (eI (r)), some (eI (s)), some (eI (112)), some (eI (116))]) (st' := [eI (114), eR 100, eJ (r), eJ (v4), eJ (v1), eJ (1), eJ (-1), eJ (1), eJ (0), eR 98]) rfl (b_iadd rfl) rfl ?_
  refine w_al (np := 135) (v := 1) rfl rfl (t_al (k := 114) hq rfl (by decide) rfl) ?_
  refine w_s (np := 136) (lv' := [some (eR 98), some (eI (9)), some (eI (1)), some (eI (2)), some (eI (p)), some (eI (q)), some (eI (r)), some (eI (s)), some (eI (112)), some (eI (116))]) (st' := [eJ (1), eJ (r), eJ (v4), eJ (v1), eJ (1), eJ (-1), eJ (1), eJ (0), eR 98]) rfl (b_i2l rfl) rfl ?_
  obtain ⟨v7, e8⟩ : ∃ v : Int, v = (r) - (1) := ⟨_, rfl⟩
  have b9 : -10000 ≤ v7 ∧ v7 ≤ 9998 := by omega
  refine w_s (np := 137) (lv' := [some (eR 98), some (eI (9)), some (eI (1)), some (eI (2)), some (eI (p)), some (eI (q)), some (eI (r)), some (eI (s)), some (eI (112)), some (eI (116))]) (st' := [eJ (v7), eJ (v4), eJ (v1), eJ (1), eJ (-1), eJ (1), eJ (0), eR 98]) rfl (b_lsub (by rw [← e8]; exact ev_W_in (by omega) (by omega))) rfl ?_
  refine w_s (np := 139) (lv' := [some (eR 98), some (eI (9)), some (eI (1)), some (eI (2)), some (eI (p)), some (eI (q)), some (eI (r)), some (eI (s)), some (eI (112)), some (eI (116))]) (st' := [eI (s), eJ (v7), eJ (v4), eJ (v1), eJ (1), eJ (-1), eJ (1), eJ (0), eR 98]) rfl rfl rfl ?_
  refine w_s (np := 140) (lv' := [some (eR 98), some (eI (9)), some (eI (1)), some (eI (2)), some (eI (p)), some (eI (q)), some (eI (r)), some (eI (s)), some (eI (112)), some (eI (116))]) (st' := [eJ (s), eJ (v7), eJ (v4), eJ (v1), eJ (1), eJ (-1), eJ (1), eJ (0), eR 98]) rfl (b_i2l (ev_w_in (by omega) (by omega))) rfl ?_
  refine w_s (np := 141) (lv' := [some (eR 98), some (eI (9)), some (eI (1)), some (eI (2)), some (eI (p)), some (eI (q)), some (eI (r)), some (eI (s)), some (eI (112)), some (eI (116))]) (st' := [eR 98, eJ (s), eJ (v7), eJ (v4), eJ (v1), eJ (1), eJ (-1), eJ (1), eJ (0), eR 98]) rfl (s_an rfl (by decide)) rfl ?_
  refine w_gf (np := 144) (v := eR 100) rfl rfl hq.1 (by rw [hq.2.1]; rfl) ?_
  refine w_s (np := 146) (lv' := [some (eR 98), some (eI (9)), some (eI (1)), some (eI (2)), some (eI (p)), some (eI (q)), some (eI (r)), some (eI (s)), some (eI (112)), some (eI (116))]) (st' := [eI (112), eR 100, eJ (s), eJ (v7), eJ (v4), eJ (v1), eJ (1), eJ (-1), eJ (1), eJ (0), eR 98]) rfl rfl rfl ?_
  refine w_s (np := 147) (lv' := [some (eR 98), some (eI (9)), some (eI (1)), some (eI (2)), some (eI (p)), some (eI (q)), some (eI (r)), some (eI (s)), some (eI (112)), some (eI (116))]) (st' := [eI (3), eI (112), eR 100, eJ (s), eJ (v7), eJ (v4), eJ (v1), eJ (1), eJ (-1), eJ (1), eJ (0), eR 98]) rfl rfl rfl ?_
  refine w_s (np := 148) (lv' := [some (eR 98), some (eI (9)), some (eI (1)), some (eI (2)), some (eI (p)), some (eI (q)), some (eI (r)), some (eI (s)), some (eI (112)), some (eI (116))]) (st' := [eI (115), eR 100, eJ (s), eJ (v7), eJ (v4), eJ (v1), eJ (1), eJ (-1), eJ (1), eJ (0), eR 98]) rfl (b_iadd rfl) rfl ?_
  refine w_al (np := 149) (v := -1) rfl rfl (t_al (k := 115) hq rfl (by decide) rfl) ?_
  refine w_s (np := 150) (lv' := [some (eR 98), some (eI (9)), some (eI (1)), some (eI (2)), some (eI (p)), some (eI (q)), some (eI (r)), some (eI (s)), some (eI (112)), some (eI (116))]) (st' := [eJ (-1), eJ (s), eJ (v7), eJ (v4), eJ (v1), eJ (1), eJ (-1), eJ (1), eJ (0), eR 98]) rfl (b_i2l rfl) rfl ?_
  obtain ⟨v10, e11⟩ : ∃ v : Int, v = (s) - (-1) := ⟨_, rfl⟩
  have b12 : -9998 ≤ v10 ∧ v10 ≤ 10000 := by omega
  refine w_s (np := 151) (lv' := [some (eR 98), some (eI (9)), some (eI (1)), some (eI (2)), some (eI (p)), some (eI (q)), some (eI (r)), some (eI (s)), some (eI (112)), some (eI (116))]) (st' := [eJ (v10), eJ (v7), eJ (v4), eJ (v1), eJ (1), eJ (-1), eJ (1), eJ (0), eR 98]) rfl (b_lsub (by rw [← e11]; exact ev_W_in (by omega) (by omega))) rfl ?_
  refine w_cv (np := 154) (as := [eJ (0), eJ (1), eJ (-1), eJ (1), eJ (v1), eJ (v4), eJ (v7), eJ (v10)]) (lv' := [some (eR 98), some (eJ (0)), none, some (eJ (1)), none, some (eJ (-1)), none, some (eJ (1)), none, some (eJ (v1)), none, some (eJ (v4)), none, some (eJ (v7)), none, some (eJ (v10)), none]) (rest := []) rfl rfl rfl (Nat.ble_eq.mp rfl) rfl rfl rfl hq.1 rfl ?_
  refine t224 hq.1 (show (-8 : Int) ≤ 0 ∧ (0 : Int) ≤ 8 by omega) (show (-8 : Int) ≤ 1 ∧ (1 : Int) ≤ 8 by omega) (show (-8 : Int) ≤ -1 ∧ (-1 : Int) ≤ 8 by omega) (show (-8 : Int) ≤ 1 ∧ (1 : Int) ≤ 8 by omega) (show (-100000 : Int) ≤ v1 ∧ (v1 : Int) ≤ 100000 by omega) (show (-100000 : Int) ≤ v4 ∧ (v4 : Int) ≤ 100000 by omega) (show (-100000 : Int) ≤ v7 ∧ (v7 : Int) ≤ 100000 by omega) (show (-100000 : Int) ≤ v10 ∧ (v10 : Int) ≤ 100000 by omega) ?_
  intro m B G s1 eB eG bB bG
  show ex_fine fg rc rs (d + 4, (265, 154, [some (eR 98), some (eI (9)), some (eI (1)), some (eI (2)), some (eI (p)), some (eI (q)), some (eI (r)), some (eI (s)), some (eI (112)), some (eI (116))], [eI (rSg (2 * B + G) G)]), f :: F, m)
  refine b_ri rfl rfl ?_
  have hB : B = (-1) * p + 1 * q + (-1) * s + (1) := by omega
  have hG : G = (-1) * q + 1 * s := by omega
  have hr := rSg_ok (x := 2 * B + G) (b := G) (by omega)
  have e9 : 416020 * (2 * B + G) + 930249 * G = (-832040) * p + (-514229) * q + 514229 * s + (832040) := by omega
  rw [e9] at hr
  exact K m _ s1 hr (rSg_v _ _)
theorem t265_9_2 {fg : eG} {rc rs d : Nat} {f : eFr} {F : List eFr} {μ : eM} {p q r s : Int} (hq : tQ μ) (hp : -9999 ≤ p ∧ p ≤ 9999) (hq0 : -9999 ≤ q ∧ q ≤ 9999) (hr : -9999 ≤ r ∧ r ≤ 9999) (hs : -9999 ≤ s ∧ s ≤ 9999) (K : ∀ (μ2 : eM) (u : Int), tS μ μ2 → ((0 ≤ u ↔ 0 ≤ (-832040) * q + (-1346269) * r + (-1346269) * s) ∧ (u ≤ 0 ↔ (-832040) * q + (-1346269) * r + (-1346269) * s ≤ 0)) → (u = 0 ∨ u = 1 ∨ u = -1) → ex_fine fg rc rs (d + 5, (f.1, f.2.1, f.2.2.1, eI u :: f.2.2.2), F, μ2)) : ex_fine fg rc rs (d + 4, (265, 0, [some (eR 98), some (eI (9)), some (eI (2)), some (eI (0)), some (eI (p)), some (eI (q)), some (eI (r)), some (eI (s)), none, none], []), f :: F, μ) := by
  refine w_s (np := 2) (lv' := [some (eR 98), some (eI (9)), some (eI (2)), some (eI (0)), some (eI (p)), some (eI (q)), some (eI (r)), some (eI (s)), none, none]) (st' := [eI (12)]) rfl rfl rfl ?_
  refine w_s (np := 3) (lv' := [some (eR 98), some (eI (9)), some (eI (2)), some (eI (0)), some (eI (p)), some (eI (q)), some (eI (r)), some (eI (s)), none, none]) (st' := [eI (9), eI (12)]) rfl rfl rfl ?_
  refine w_s (np := 4) (lv' := [some (eR 98), some (eI (9)), some (eI (2)), some (eI (0)), some (eI (p)), some (eI (q)), some (eI (r)), some (eI (s)), none, none]) (st' := [eI (108)]) rfl (b_imul rfl) rfl ?_
  refine w_s (np := 5) (lv' := [some (eR 98), some (eI (9)), some (eI (2)), some (eI (0)), some (eI (p)), some (eI (q)), some (eI (r)), some (eI (s)), none, none]) (st' := [eI (4), eI (108)]) rfl rfl rfl ?_
  refine w_s (np := 6) (lv' := [some (eR 98), some (eI (9)), some (eI (2)), some (eI (0)), some (eI (p)), some (eI (q)), some (eI (r)), some (eI (s)), none, none]) (st' := [eI (2), eI (4), eI (108)]) rfl rfl rfl ?_
  refine w_s (np := 7) (lv' := [some (eR 98), some (eI (9)), some (eI (2)), some (eI (0)), some (eI (p)), some (eI (q)), some (eI (r)), some (eI (s)), none, none]) (st' := [eI (8), eI (108)]) rfl (b_imul rfl) rfl ?_
  refine w_s (np := 8) (lv' := [some (eR 98), some (eI (9)), some (eI (2)), some (eI (0)), some (eI (p)), some (eI (q)), some (eI (r)), some (eI (s)), none, none]) (st' := [eI (116)]) rfl (b_iadd rfl) rfl ?_
  refine w_s (np := 10) (lv' := [some (eR 98), some (eI (9)), some (eI (2)), some (eI (0)), some (eI (p)), some (eI (q)), some (eI (r)), some (eI (s)), some (eI (116)), none]) (st' := []) rfl rfl rfl ?_
  refine w_s (np := 12) (lv' := [some (eR 98), some (eI (9)), some (eI (2)), some (eI (0)), some (eI (p)), some (eI (q)), some (eI (r)), some (eI (s)), some (eI (116)), none]) (st' := [eI (12)]) rfl rfl rfl ?_
  refine w_s (np := 13) (lv' := [some (eR 98), some (eI (9)), some (eI (2)), some (eI (0)), some (eI (p)), some (eI (q)), some (eI (r)), some (eI (s)), some (eI (116)), none]) (st' := [eI (9), eI (12)]) rfl rfl rfl ?_
  refine w_s (np := 14) (lv' := [some (eR 98), some (eI (9)), some (eI (2)), some (eI (0)), some (eI (p)), some (eI (q)), some (eI (r)), some (eI (s)), some (eI (116)), none]) (st' := [eI (108)]) rfl (b_imul rfl) rfl ?_
  refine w_s (np := 15) (lv' := [some (eR 98), some (eI (9)), some (eI (2)), some (eI (0)), some (eI (p)), some (eI (q)), some (eI (r)), some (eI (s)), some (eI (116)), none]) (st' := [eI (4), eI (108)]) rfl rfl rfl ?_
  refine w_s (np := 16) (lv' := [some (eR 98), some (eI (9)), some (eI (2)), some (eI (0)), some (eI (p)), some (eI (q)), some (eI (r)), some (eI (s)), some (eI (116)), none]) (st' := [eI (0), eI (4), eI (108)]) rfl rfl rfl ?_
  refine w_s (np := 17) (lv' := [some (eR 98), some (eI (9)), some (eI (2)), some (eI (0)), some (eI (p)), some (eI (q)), some (eI (r)), some (eI (s)), some (eI (116)), none]) (st' := [eI (0), eI (108)]) rfl (b_imul rfl) rfl ?_
  refine w_s (np := 18) (lv' := [some (eR 98), some (eI (9)), some (eI (2)), some (eI (0)), some (eI (p)), some (eI (q)), some (eI (r)), some (eI (s)), some (eI (116)), none]) (st' := [eI (108)]) rfl (b_iadd rfl) rfl ?_
  refine w_s (np := 20) (lv' := [some (eR 98), some (eI (9)), some (eI (2)), some (eI (0)), some (eI (p)), some (eI (q)), some (eI (r)), some (eI (s)), some (eI (116)), some (eI (108))]) (st' := []) rfl rfl rfl ?_
  refine w_s (np := 21) (lv' := [some (eR 98), some (eI (9)), some (eI (2)), some (eI (0)), some (eI (p)), some (eI (q)), some (eI (r)), some (eI (s)), some (eI (116)), some (eI (108))]) (st' := [eR 98]) rfl (s_an rfl (by decide)) rfl ?_
  refine w_s (np := 22) (lv' := [some (eR 98), some (eI (9)), some (eI (2)), some (eI (0)), some (eI (p)), some (eI (q)), some (eI (r)), some (eI (s)), some (eI (116)), some (eI (108))]) (st' := [eR 98, eR 98]) rfl (s_an rfl (by decide)) rfl ?_
  refine w_gf (np := 25) (v := eR 100) rfl rfl hq.1 (by rw [hq.2.1]; rfl) ?_
  refine w_s (np := 27) (lv' := [some (eR 98), some (eI (9)), some (eI (2)), some (eI (0)), some (eI (p)), some (eI (q)), some (eI (r)), some (eI (s)), some (eI (116)), some (eI (108))]) (st' := [eI (108), eR 100, eR 98]) rfl rfl rfl ?_
  refine w_al (np := 28) (v := 0) rfl rfl (t_al (k := 108) hq rfl (by decide) rfl) ?_
  refine w_s (np := 29) (lv' := [some (eR 98), some (eI (9)), some (eI (2)), some (eI (0)), some (eI (p)), some (eI (q)), some (eI (r)), some (eI (s)), some (eI (116)), some (eI (108))]) (st' := [eR 98, eI (0), eR 98]) rfl (s_an rfl (by decide)) rfl ?_
  refine w_gf (np := 32) (v := eR 100) rfl rfl hq.1 (by rw [hq.2.1]; rfl) ?_
  refine w_s (np := 34) (lv' := [some (eR 98), some (eI (9)), some (eI (2)), some (eI (0)), some (eI (p)), some (eI (q)), some (eI (r)), some (eI (s)), some (eI (116)), some (eI (108))]) (st' := [eI (116), eR 100, eI (0), eR 98]) rfl rfl rfl ?_
  refine w_al (np := 35) (v := 1) rfl rfl (t_al (k := 116) hq rfl (by decide) rfl) ?_
  refine w_s (np := 36) (lv' := [some (eR 98), some (eI (9)), some (eI (2)), some (eI (0)), some (eI (p)), some (eI (q)), some (eI (r)), some (eI (s)), some (eI (116)), some (eI (108))]) (st' := [eI (-1), eR 98]) rfl (b_isub rfl) rfl ?_
  refine w_s (np := 37) (lv' := [some (eR 98), some (eI (9)), some (eI (2)), some (eI (0)), some (eI (p)), some (eI (q)), some (eI (r)), some (eI (s)), some (eI (116)), some (eI (108))]) (st' := [eJ (-1), eR 98]) rfl (b_i2l rfl) rfl ?_
  refine w_s (np := 38) (lv' := [some (eR 98), some (eI (9)), some (eI (2)), some (eI (0)), some (eI (p)), some (eI (q)), some (eI (r)), some (eI (s)), some (eI (116)), some (eI (108))]) (st' := [eR 98, eJ (-1), eR 98]) rfl (s_an rfl (by decide)) rfl ?_
  refine w_gf (np := 41) (v := eR 100) rfl rfl hq.1 (by rw [hq.2.1]; rfl) ?_
  refine w_s (np := 43) (lv' := [some (eR 98), some (eI (9)), some (eI (2)), some (eI (0)), some (eI (p)), some (eI (q)), some (eI (r)), some (eI (s)), some (eI (116)), some (eI (108))]) (st' := [eI (108), eR 100, eJ (-1), eR 98]) rfl rfl rfl ?_
  refine w_s (np := 44) (lv' := [some (eR 98), some (eI (9)), some (eI (2)), some (eI (0)), some (eI (p)), some (eI (q)), some (eI (r)), some (eI (s)), some (eI (116)), some (eI (108))]) (st' := [eI (1), eI (108), eR 100, eJ (-1), eR 98]) rfl rfl rfl ?_
  refine w_s (np := 45) (lv' := [some (eR 98), some (eI (9)), some (eI (2)), some (eI (0)), some (eI (p)), some (eI (q)), some (eI (r)), some (eI (s)), some (eI (116)), some (eI (108))]) (st' := [eI (109), eR 100, eJ (-1), eR 98]) rfl (b_iadd rfl) rfl ?_
  refine w_al (np := 46) (v := 0) rfl rfl (t_al (k := 109) hq rfl (by decide) rfl) ?_
  refine w_s (np := 47) (lv' := [some (eR 98), some (eI (9)), some (eI (2)), some (eI (0)), some (eI (p)), some (eI (q)), some (eI (r)), some (eI (s)), some (eI (116)), some (eI (108))]) (st' := [eR 98, eI (0), eJ (-1), eR 98]) rfl (s_an rfl (by decide)) rfl ?_
  refine w_gf (np := 50) (v := eR 100) rfl rfl hq.1 (by rw [hq.2.1]; rfl) ?_
  refine w_s (np := 52) (lv' := [some (eR 98), some (eI (9)), some (eI (2)), some (eI (0)), some (eI (p)), some (eI (q)), some (eI (r)), some (eI (s)), some (eI (116)), some (eI (108))]) (st' := [eI (116), eR 100, eI (0), eJ (-1), eR 98]) rfl rfl rfl ?_
  refine w_s (np := 53) (lv' := [some (eR 98), some (eI (9)), some (eI (2)), some (eI (0)), some (eI (p)), some (eI (q)), some (eI (r)), some (eI (s)), some (eI (116)), some (eI (108))]) (st' := [eI (1), eI (116), eR 100, eI (0), eJ (-1), eR 98]) rfl rfl rfl ?_
  refine w_s (np := 54) (lv' := [some (eR 98), some (eI (9)), some (eI (2)), some (eI (0)), some (eI (p)), some (eI (q)), some (eI (r)), some (eI (s)), some (eI (116)), some (eI (108))]) (st' := [eI (117), eR 100, eI (0), eJ (-1), eR 98]) rfl (b_iadd rfl) rfl ?_
  refine w_al (np := 55) (v := 0) rfl rfl (t_al (k := 117) hq rfl (by decide) rfl) ?_
  refine w_s (np := 56) (lv' := [some (eR 98), some (eI (9)), some (eI (2)), some (eI (0)), some (eI (p)), some (eI (q)), some (eI (r)), some (eI (s)), some (eI (116)), some (eI (108))]) (st' := [eI (0), eJ (-1), eR 98]) rfl (b_isub rfl) rfl ?_
  refine w_s (np := 57) (lv' := [some (eR 98), some (eI (9)), some (eI (2)), some (eI (0)), some (eI (p)), some (eI (q)), some (eI (r)), some (eI (s)), some (eI (116)), some (eI (108))]) (st' := [eJ (0), eJ (-1), eR 98]) rfl (b_i2l rfl) rfl ?_
  refine w_s (np := 58) (lv' := [some (eR 98), some (eI (9)), some (eI (2)), some (eI (0)), some (eI (p)), some (eI (q)), some (eI (r)), some (eI (s)), some (eI (116)), some (eI (108))]) (st' := [eR 98, eJ (0), eJ (-1), eR 98]) rfl (s_an rfl (by decide)) rfl ?_
  refine w_gf (np := 61) (v := eR 100) rfl rfl hq.1 (by rw [hq.2.1]; rfl) ?_
  refine w_s (np := 63) (lv' := [some (eR 98), some (eI (9)), some (eI (2)), some (eI (0)), some (eI (p)), some (eI (q)), some (eI (r)), some (eI (s)), some (eI (116)), some (eI (108))]) (st' := [eI (108), eR 100, eJ (0), eJ (-1), eR 98]) rfl rfl rfl ?_
  refine w_s (np := 64) (lv' := [some (eR 98), some (eI (9)), some (eI (2)), some (eI (0)), some (eI (p)), some (eI (q)), some (eI (r)), some (eI (s)), some (eI (116)), some (eI (108))]) (st' := [eI (2), eI (108), eR 100, eJ (0), eJ (-1), eR 98]) rfl rfl rfl ?_
  refine w_s (np := 65) (lv' := [some (eR 98), some (eI (9)), some (eI (2)), some (eI (0)), some (eI (p)), some (eI (q)), some (eI (r)), some (eI (s)), some (eI (116)), some (eI (108))]) (st' := [eI (110), eR 100, eJ (0), eJ (-1), eR 98]) rfl (b_iadd rfl) rfl ?_
  refine w_al (np := 66) (v := 0) rfl rfl (t_al (k := 110) hq rfl (by decide) rfl) ?_
  refine w_s (np := 67) (lv' := [some (eR 98), some (eI (9)), some (eI (2)), some (eI (0)), some (eI (p)), some (eI (q)), some (eI (r)), some (eI (s)), some (eI (116)), some (eI (108))]) (st' := [eR 98, eI (0), eJ (0), eJ (-1), eR 98]) rfl (s_an rfl (by decide)) rfl ?_
  refine w_gf (np := 70) (v := eR 100) rfl rfl hq.1 (by rw [hq.2.1]; rfl) ?_
  refine w_s (np := 72) (lv' := [some (eR 98), some (eI (9)), some (eI (2)), some (eI (0)), some (eI (p)), some (eI (q)), some (eI (r)), some (eI (s)), some (eI (116)), some (eI (108))]) (st' := [eI (116), eR 100, eI (0), eJ (0), eJ (-1), eR 98]) rfl rfl rfl ?_
  refine w_s (np := 73) (lv' := [some (eR 98), some (eI (9)), some (eI (2)), some (eI (0)), some (eI (p)), some (eI (q)), some (eI (r)), some (eI (s)), some (eI (116)), some (eI (108))]) (st' := [eI (2), eI (116), eR 100, eI (0), eJ (0), eJ (-1), eR 98]) rfl rfl rfl ?_
  refine w_s (np := 74) (lv' := [some (eR 98), some (eI (9)), some (eI (2)), some (eI (0)), some (eI (p)), some (eI (q)), some (eI (r)), some (eI (s)), some (eI (116)), some (eI (108))]) (st' := [eI (118), eR 100, eI (0), eJ (0), eJ (-1), eR 98]) rfl (b_iadd rfl) rfl ?_
  refine w_al (np := 75) (v := 0) rfl rfl (t_al (k := 118) hq rfl (by decide) rfl) ?_
  refine w_s (np := 76) (lv' := [some (eR 98), some (eI (9)), some (eI (2)), some (eI (0)), some (eI (p)), some (eI (q)), some (eI (r)), some (eI (s)), some (eI (116)), some (eI (108))]) (st' := [eI (0), eJ (0), eJ (-1), eR 98]) rfl (b_isub rfl) rfl ?_
  refine w_s (np := 77) (lv' := [some (eR 98), some (eI (9)), some (eI (2)), some (eI (0)), some (eI (p)), some (eI (q)), some (eI (r)), some (eI (s)), some (eI (116)), some (eI (108))]) (st' := [eJ (0), eJ (0), eJ (-1), eR 98]) rfl (b_i2l rfl) rfl ?_
  refine w_s (np := 78) (lv' := [some (eR 98), some (eI (9)), some (eI (2)), some (eI (0)), some (eI (p)), some (eI (q)), some (eI (r)), some (eI (s)), some (eI (116)), some (eI (108))]) (st' := [eR 98, eJ (0), eJ (0), eJ (-1), eR 98]) rfl (s_an rfl (by decide)) rfl ?_
  refine w_gf (np := 81) (v := eR 100) rfl rfl hq.1 (by rw [hq.2.1]; rfl) ?_
  refine w_s (np := 83) (lv' := [some (eR 98), some (eI (9)), some (eI (2)), some (eI (0)), some (eI (p)), some (eI (q)), some (eI (r)), some (eI (s)), some (eI (116)), some (eI (108))]) (st' := [eI (108), eR 100, eJ (0), eJ (0), eJ (-1), eR 98]) rfl rfl rfl ?_
  refine w_s (np := 84) (lv' := [some (eR 98), some (eI (9)), some (eI (2)), some (eI (0)), some (eI (p)), some (eI (q)), some (eI (r)), some (eI (s)), some (eI (116)), some (eI (108))]) (st' := [eI (3), eI (108), eR 100, eJ (0), eJ (0), eJ (-1), eR 98]) rfl rfl rfl ?_
  refine w_s (np := 85) (lv' := [some (eR 98), some (eI (9)), some (eI (2)), some (eI (0)), some (eI (p)), some (eI (q)), some (eI (r)), some (eI (s)), some (eI (116)), some (eI (108))]) (st' := [eI (111), eR 100, eJ (0), eJ (0), eJ (-1), eR 98]) rfl (b_iadd rfl) rfl ?_
  refine w_al (np := 86) (v := 0) rfl rfl (t_al (k := 111) hq rfl (by decide) rfl) ?_
  refine w_s (np := 87) (lv' := [some (eR 98), some (eI (9)), some (eI (2)), some (eI (0)), some (eI (p)), some (eI (q)), some (eI (r)), some (eI (s)), some (eI (116)), some (eI (108))]) (st' := [eR 98, eI (0), eJ (0), eJ (0), eJ (-1), eR 98]) rfl (s_an rfl (by decide)) rfl ?_
  refine w_gf (np := 90) (v := eR 100) rfl rfl hq.1 (by rw [hq.2.1]; rfl) ?_
  refine w_s (np := 92) (lv' := [some (eR 98), some (eI (9)), some (eI (2)), some (eI (0)), some (eI (p)), some (eI (q)), some (eI (r)), some (eI (s)), some (eI (116)), some (eI (108))]) (st' := [eI (116), eR 100, eI (0), eJ (0), eJ (0), eJ (-1), eR 98]) rfl rfl rfl ?_
  refine w_s (np := 93) (lv' := [some (eR 98), some (eI (9)), some (eI (2)), some (eI (0)), some (eI (p)), some (eI (q)), some (eI (r)), some (eI (s)), some (eI (116)), some (eI (108))]) (st' := [eI (3), eI (116), eR 100, eI (0), eJ (0), eJ (0), eJ (-1), eR 98]) rfl rfl rfl ?_
  refine w_s (np := 94) (lv' := [some (eR 98), some (eI (9)), some (eI (2)), some (eI (0)), some (eI (p)), some (eI (q)), some (eI (r)), some (eI (s)), some (eI (116)), some (eI (108))]) (st' := [eI (119), eR 100, eI (0), eJ (0), eJ (0), eJ (-1), eR 98]) rfl (b_iadd rfl) rfl ?_
  refine w_al (np := 95) (v := 0) rfl rfl (t_al (k := 119) hq rfl (by decide) rfl) ?_
  refine w_s (np := 96) (lv' := [some (eR 98), some (eI (9)), some (eI (2)), some (eI (0)), some (eI (p)), some (eI (q)), some (eI (r)), some (eI (s)), some (eI (116)), some (eI (108))]) (st' := [eI (0), eJ (0), eJ (0), eJ (-1), eR 98]) rfl (b_isub rfl) rfl ?_
  refine w_s (np := 97) (lv' := [some (eR 98), some (eI (9)), some (eI (2)), some (eI (0)), some (eI (p)), some (eI (q)), some (eI (r)), some (eI (s)), some (eI (116)), some (eI (108))]) (st' := [eJ (0), eJ (0), eJ (0), eJ (-1), eR 98]) rfl (b_i2l rfl) rfl ?_
  refine w_s (np := 99) (lv' := [some (eR 98), some (eI (9)), some (eI (2)), some (eI (0)), some (eI (p)), some (eI (q)), some (eI (r)), some (eI (s)), some (eI (116)), some (eI (108))]) (st' := [eI (p), eJ (0), eJ (0), eJ (0), eJ (-1), eR 98]) rfl rfl rfl ?_
  refine w_s (np := 100) (lv' := [some (eR 98), some (eI (9)), some (eI (2)), some (eI (0)), some (eI (p)), some (eI (q)), some (eI (r)), some (eI (s)), some (eI (116)), some (eI (108))]) (st' := [eJ (p), eJ (0), eJ (0), eJ (0), eJ (-1), eR 98]) rfl (b_i2l (ev_w_in (by omega) (by omega))) rfl ?_
  refine w_s (np := 101) (lv' := [some (eR 98), some (eI (9)), some (eI (2)), some (eI (0)), some (eI (p)), some (eI (q)), some (eI (r)), some (eI (s)), some (eI (116)), some (eI (108))]) (st' := [eR 98, eJ (p), eJ (0), eJ (0), eJ (0), eJ (-1), eR 98]) rfl (s_an rfl (by decide)) rfl ?_
  refine w_gf (np := 104) (v := eR 100) rfl rfl hq.1 (by rw [hq.2.1]; rfl) ?_
  refine w_s (np := 106) (lv' := [some (eR 98), some (eI (9)), some (eI (2)), some (eI (0)), some (eI (p)), some (eI (q)), some (eI (r)), some (eI (s)), some (eI (116)), some (eI (108))]) (st' := [eI (116), eR 100, eJ (p), eJ (0), eJ (0), eJ (0), eJ (-1), eR 98]) rfl rfl rfl ?_
  refine w_al (np := 107) (v := 1) rfl rfl (t_al (k := 116) hq rfl (by decide) rfl) ?_
  refine w_s (np := 108) (lv' := [some (eR 98), some (eI (9)), some (eI (2)), some (eI (0)), some (eI (p)), some (eI (q)), some (eI (r)), some (eI (s)), some (eI (116)), some (eI (108))]) (st' := [eJ (1), eJ (p), eJ (0), eJ (0), eJ (0), eJ (-1), eR 98]) rfl (b_i2l rfl) rfl ?_
  obtain ⟨v1, e2⟩ : ∃ v : Int, v = (p) - (1) := ⟨_, rfl⟩
  have b3 : -10000 ≤ v1 ∧ v1 ≤ 9998 := by omega
  refine w_s (np := 109) (lv' := [some (eR 98), some (eI (9)), some (eI (2)), some (eI (0)), some (eI (p)), some (eI (q)), some (eI (r)), some (eI (s)), some (eI (116)), some (eI (108))]) (st' := [eJ (v1), eJ (0), eJ (0), eJ (0), eJ (-1), eR 98]) rfl (b_lsub (by rw [← e2]; exact ev_W_in (by omega) (by omega))) rfl ?_
  refine w_s (np := 111) (lv' := [some (eR 98), some (eI (9)), some (eI (2)), some (eI (0)), some (eI (p)), some (eI (q)), some (eI (r)), some (eI (s)), some (eI (116)), some (eI (108))]) (st' := [eI (q), eJ (v1), eJ (0), eJ (0), eJ (0), eJ (-1), eR 98]) rfl rfl rfl ?_
  refine w_s (np := 112) (lv' := [some (eR 98), some (eI (9)), some (eI (2)), some (eI (0)), some (eI (p)), some (eI (q)), some (eI (r)), some (eI (s)), some (eI (116)), some (eI (108))]) (st' := [eJ (q), eJ (v1), eJ (0), eJ (0), eJ (0), eJ (-1), eR 98]) rfl (b_i2l (ev_w_in (by omega) (by omega))) rfl ?_
  refine w_s (np := 113) (lv' := [some (eR 98), some (eI (9)), some (eI (2)), some (eI (0)), some (eI (p)), some (eI (q)), some (eI (r)), some (eI (s)), some (eI (116)), some (eI (108))]) (st' := [eR 98, eJ (q), eJ (v1), eJ (0), eJ (0), eJ (0), eJ (-1), eR 98]) rfl (s_an rfl (by decide)) rfl ?_
  refine w_gf (np := 116) (v := eR 100) rfl rfl hq.1 (by rw [hq.2.1]; rfl) ?_
  refine w_s (np := 118) (lv' := [some (eR 98), some (eI (9)), some (eI (2)), some (eI (0)), some (eI (p)), some (eI (q)), some (eI (r)), some (eI (s)), some (eI (116)), some (eI (108))]) (st' := [eI (116), eR 100, eJ (q), eJ (v1), eJ (0), eJ (0), eJ (0), eJ (-1), eR 98]) rfl rfl rfl ?_
  refine w_s (np := 119) (lv' := [some (eR 98), some (eI (9)), some (eI (2)), some (eI (0)), some (eI (p)), some (eI (q)), some (eI (r)), some (eI (s)), some (eI (116)), some (eI (108))]) (st' := [eI (1), eI (116), eR 100, eJ (q), eJ (v1), eJ (0), eJ (0), eJ (0), eJ (-1), eR 98]) rfl rfl rfl ?_
  refine w_s (np := 120) (lv' := [some (eR 98), some (eI (9)), some (eI (2)), some (eI (0)), some (eI (p)), some (eI (q)), some (eI (r)), some (eI (s)), some (eI (116)), some (eI (108))]) (st' := [eI (117), eR 100, eJ (q), eJ (v1), eJ (0), eJ (0), eJ (0), eJ (-1), eR 98]) rfl (b_iadd rfl) rfl ?_
  refine w_al (np := 121) (v := 0) rfl rfl (t_al (k := 117) hq rfl (by decide) rfl) ?_
  refine w_s (np := 122) (lv' := [some (eR 98), some (eI (9)), some (eI (2)), some (eI (0)), some (eI (p)), some (eI (q)), some (eI (r)), some (eI (s)), some (eI (116)), some (eI (108))]) (st' := [eJ (0), eJ (q), eJ (v1), eJ (0), eJ (0), eJ (0), eJ (-1), eR 98]) rfl (b_i2l rfl) rfl ?_
  obtain ⟨v4, e5⟩ : ∃ v : Int, v = (q) - (0) := ⟨_, rfl⟩
  have b6 : -9999 ≤ v4 ∧ v4 ≤ 9999 := by omega
  refine w_s (np := 123) (lv' := [some (eR 98), some (eI (9)), some (eI (2)), some (eI (0)), some (eI (p)), some (eI (q)), some (eI (r)), some (eI (s)), some (eI (116)), some (eI (108))]) (st' := [eJ (v4), eJ (v1), eJ (0), eJ (0), eJ (0), eJ (-1), eR 98]) rfl (b_lsub (by rw [← e5]; exact ev_W_in (by omega) (by omega))) rfl ?_
  refine w_s (np := 125) (lv' := [some (eR 98), some (eI (9)), some (eI (2)), some (eI (0)), some (eI (p)), some (eI (q)), some (eI (r)), some (eI (s)), some (eI (116)), some (eI (108))]) (st' := [eI (r), eJ (v4), eJ (v1), eJ (0), eJ (0), eJ (0), eJ (-1), eR 98]) rfl rfl rfl ?_
  refine w_s (np := 126) (lv' := [some (eR 98), some (eI (9)), some (eI (2)), some (eI (0)), some (eI (p)), some (eI (q)), some (eI (r)), some (eI (s)), some (eI (116)), some (eI (108))]) (st' := [eJ (r), eJ (v4), eJ (v1), eJ (0), eJ (0), eJ (0), eJ (-1), eR 98]) rfl (b_i2l (ev_w_in (by omega) (by omega))) rfl ?_
  refine w_s (np := 127) (lv' := [some (eR 98), some (eI (9)), some (eI (2)), some (eI (0)), some (eI (p)), some (eI (q)), some (eI (r)), some (eI (s)), some (eI (116)), some (eI (108))]) (st' := [eR 98, eJ (r), eJ (v4), eJ (v1), eJ (0), eJ (0), eJ (0), eJ (-1), eR 98]) rfl (s_an rfl (by decide)) rfl ?_
  refine w_gf (np := 130) (v := eR 100) rfl rfl hq.1 (by rw [hq.2.1]; rfl) ?_
  refine w_s (np := 132) (lv' := [some (eR 98), some (eI (9)), some (eI (2)), some (eI (0)), some (eI (p)), some (eI (q)), some (eI (r)), some (eI (s)), some (eI (116)), some (eI (108))]) (st' := [eI (116), eR 100, eJ (r), eJ (v4), eJ (v1), eJ (0), eJ (0), eJ (0), eJ (-1), eR 98]) rfl rfl rfl ?_
  refine w_s (np := 133) (lv' := [some (eR 98), some (eI (9)), some (eI (2)), some (eI (0)), some (eI (p)), some (eI (q)), some (eI (r)), some (eI (s)), some (eI (116)), some (eI (108))]) (st' := [eI (2), eI (116), eR 100, eJ (r), eJ (v4), eJ (v1), eJ (0), eJ (0), eJ (0), eJ (-1), eR 98]) rfl rfl rfl ?_
  refine w_s (np := 134) (lv' := [some (eR 98), some (eI (9)), some (eI (2)), some (eI (0)), some (eI (p)), some (eI (q)), some (eI (r)), some (eI (s)), some (eI (116)), some (eI (108))]) (st' := [eI (118), eR 100, eJ (r), eJ (v4), eJ (v1), eJ (0), eJ (0), eJ (0), eJ (-1), eR 98]) rfl (b_iadd rfl) rfl ?_
  refine w_al (np := 135) (v := 0) rfl rfl (t_al (k := 118) hq rfl (by decide) rfl) ?_
  refine w_s (np := 136) (lv' := [some (eR 98), some (eI (9)), some (eI (2)), some (eI (0)), some (eI (p)), some (eI (q)), some (eI (r)), some (eI (s)), some (eI (116)), some (eI (108))]) (st' := [eJ (0), eJ (r), eJ (v4), eJ (v1), eJ (0), eJ (0), eJ (0), eJ (-1), eR 98]) rfl (b_i2l rfl) rfl ?_
  obtain ⟨v7, e8⟩ : ∃ v : Int, v = (r) - (0) := ⟨_, rfl⟩
  have b9 : -9999 ≤ v7 ∧ v7 ≤ 9999 := by omega
  refine w_s (np := 137) (lv' := [some (eR 98), some (eI (9)), some (eI (2)), some (eI (0)), some (eI (p)), some (eI (q)), some (eI (r)), some (eI (s)), some (eI (116)), some (eI (108))]) (st' := [eJ (v7), eJ (v4), eJ (v1), eJ (0), eJ (0), eJ (0), eJ (-1), eR 98]) rfl (b_lsub (by rw [← e8]; exact ev_W_in (by omega) (by omega))) rfl ?_
  refine w_s (np := 139) (lv' := [some (eR 98), some (eI (9)), some (eI (2)), some (eI (0)), some (eI (p)), some (eI (q)), some (eI (r)), some (eI (s)), some (eI (116)), some (eI (108))]) (st' := [eI (s), eJ (v7), eJ (v4), eJ (v1), eJ (0), eJ (0), eJ (0), eJ (-1), eR 98]) rfl rfl rfl ?_
  refine w_s (np := 140) (lv' := [some (eR 98), some (eI (9)), some (eI (2)), some (eI (0)), some (eI (p)), some (eI (q)), some (eI (r)), some (eI (s)), some (eI (116)), some (eI (108))]) (st' := [eJ (s), eJ (v7), eJ (v4), eJ (v1), eJ (0), eJ (0), eJ (0), eJ (-1), eR 98]) rfl (b_i2l (ev_w_in (by omega) (by omega))) rfl ?_
  refine w_s (np := 141) (lv' := [some (eR 98), some (eI (9)), some (eI (2)), some (eI (0)), some (eI (p)), some (eI (q)), some (eI (r)), some (eI (s)), some (eI (116)), some (eI (108))]) (st' := [eR 98, eJ (s), eJ (v7), eJ (v4), eJ (v1), eJ (0), eJ (0), eJ (0), eJ (-1), eR 98]) rfl (s_an rfl (by decide)) rfl ?_
  refine w_gf (np := 144) (v := eR 100) rfl rfl hq.1 (by rw [hq.2.1]; rfl) ?_
  refine w_s (np := 146) (lv' := [some (eR 98), some (eI (9)), some (eI (2)), some (eI (0)), some (eI (p)), some (eI (q)), some (eI (r)), some (eI (s)), some (eI (116)), some (eI (108))]) (st' := [eI (116), eR 100, eJ (s), eJ (v7), eJ (v4), eJ (v1), eJ (0), eJ (0), eJ (0), eJ (-1), eR 98]) rfl rfl rfl ?_
  refine w_s (np := 147) (lv' := [some (eR 98), some (eI (9)), some (eI (2)), some (eI (0)), some (eI (p)), some (eI (q)), some (eI (r)), some (eI (s)), some (eI (116)), some (eI (108))]) (st' := [eI (3), eI (116), eR 100, eJ (s), eJ (v7), eJ (v4), eJ (v1), eJ (0), eJ (0), eJ (0), eJ (-1), eR 98]) rfl rfl rfl ?_
  refine w_s (np := 148) (lv' := [some (eR 98), some (eI (9)), some (eI (2)), some (eI (0)), some (eI (p)), some (eI (q)), some (eI (r)), some (eI (s)), some (eI (116)), some (eI (108))]) (st' := [eI (119), eR 100, eJ (s), eJ (v7), eJ (v4), eJ (v1), eJ (0), eJ (0), eJ (0), eJ (-1), eR 98]) rfl (b_iadd rfl) rfl ?_
  refine w_al (np := 149) (v := 0) rfl rfl (t_al (k := 119) hq rfl (by decide) rfl) ?_
  refine w_s (np := 150) (lv' := [some (eR 98), some (eI (9)), some (eI (2)), some (eI (0)), some (eI (p)), some (eI (q)), some (eI (r)), some (eI (s)), some (eI (116)), some (eI (108))]) (st' := [eJ (0), eJ (s), eJ (v7), eJ (v4), eJ (v1), eJ (0), eJ (0), eJ (0), eJ (-1), eR 98]) rfl (b_i2l rfl) rfl ?_
  obtain ⟨v10, e11⟩ : ∃ v : Int, v = (s) - (0) := ⟨_, rfl⟩
  have b12 : -9999 ≤ v10 ∧ v10 ≤ 9999 := by omega
  refine w_s (np := 151) (lv' := [some (eR 98), some (eI (9)), some (eI (2)), some (eI (0)), some (eI (p)), some (eI (q)), some (eI (r)), some (eI (s)), some (eI (116)), some (eI (108))]) (st' := [eJ (v10), eJ (v7), eJ (v4), eJ (v1), eJ (0), eJ (0), eJ (0), eJ (-1), eR 98]) rfl (b_lsub (by rw [← e11]; exact ev_W_in (by omega) (by omega))) rfl ?_
  refine w_cv (np := 154) (as := [eJ (-1), eJ (0), eJ (0), eJ (0), eJ (v1), eJ (v4), eJ (v7), eJ (v10)]) (lv' := [some (eR 98), some (eJ (-1)), none, some (eJ (0)), none, some (eJ (0)), none, some (eJ (0)), none, some (eJ (v1)), none, some (eJ (v4)), none, some (eJ (v7)), none, some (eJ (v10)), none]) (rest := []) rfl rfl rfl (Nat.ble_eq.mp rfl) rfl rfl rfl hq.1 rfl ?_
  refine t224 hq.1 (show (-8 : Int) ≤ -1 ∧ (-1 : Int) ≤ 8 by omega) (show (-8 : Int) ≤ 0 ∧ (0 : Int) ≤ 8 by omega) (show (-8 : Int) ≤ 0 ∧ (0 : Int) ≤ 8 by omega) (show (-8 : Int) ≤ 0 ∧ (0 : Int) ≤ 8 by omega) (show (-100000 : Int) ≤ v1 ∧ (v1 : Int) ≤ 100000 by omega) (show (-100000 : Int) ≤ v4 ∧ (v4 : Int) ≤ 100000 by omega) (show (-100000 : Int) ≤ v7 ∧ (v7 : Int) ≤ 100000 by omega) (show (-100000 : Int) ≤ v10 ∧ (v10 : Int) ≤ 100000 by omega) ?_
  intro m B G s1 eB eG bB bG
  show ex_fine fg rc rs (d + 4, (265, 154, [some (eR 98), some (eI (9)), some (eI (2)), some (eI (0)), some (eI (p)), some (eI (q)), some (eI (r)), some (eI (s)), some (eI (116)), some (eI (108))], [eI (rSg (2 * B + G) G)]), f :: F, m)
  refine b_ri rfl rfl ?_
  have hB : B = (-1) * q := by omega
  have hG : G = (-1) * r + (-1) * s := by omega
  have hr := rSg_ok (x := 2 * B + G) (b := G) (by omega)
  have e9 : 416020 * (2 * B + G) + 930249 * G = (-832040) * q + (-1346269) * r + (-1346269) * s := by omega
  rw [e9] at hr
  exact K m _ s1 hr (rSg_v _ _)
theorem t266_0 {fg : eG} {rc rs d : Nat} {f : eFr} {F : List eFr} {μ : eM} {p q r s : Int} (hq : tQ μ) (hp : -9999 ≤ p ∧ p ≤ 9999) (hq0 : -9999 ≤ q ∧ q ≤ 9999) (hr : -9999 ≤ r ∧ r ≤ 9999) (hs : -9999 ≤ s ∧ s ≤ 9999) (K1 : ∀ μ2 : eM, tS μ μ2 → (((0 ≤ (-832040) * p + 832040 * r + 1346269 * s) ∧ (0 ≤ 832040 * p + 832040 * q + 514229 * r + (-832040)) ∧ (0 ≤ (-832040) * q + (-1346269) * r + (-1346269) * s)) ∨ (((-832040) * p + 832040 * r + 1346269 * s ≤ 0) ∧ (832040 * p + 832040 * q + 514229 * r + (-832040) ≤ 0) ∧ ((-832040) * q + (-1346269) * r + (-1346269) * s ≤ 0))) → ex_fine fg rc rs (d + 6, (f.1, f.2.1, f.2.2.1, eI 1 :: f.2.2.2), F, μ2)) (K0 : ∀ μ2 : eM, tS μ μ2 → ¬ (((0 ≤ (-832040) * p + 832040 * r + 1346269 * s) ∧ (0 ≤ 832040 * p + 832040 * q + 514229 * r + (-832040)) ∧ (0 ≤ (-832040) * q + (-1346269) * r + (-1346269) * s)) ∨ (((-832040) * p + 832040 * r + 1346269 * s ≤ 0) ∧ (832040 * p + 832040 * q + 514229 * r + (-832040) ≤ 0) ∧ ((-832040) * q + (-1346269) * r + (-1346269) * s ≤ 0))) → ex_fine fg rc rs (d + 6, (f.1, f.2.1, f.2.2.1, eI 0 :: f.2.2.2), F, μ2)) : ex_fine fg rc rs (d + 5, (266, 0, [some (eR 98), some (eI (0)), some (eI (p)), some (eI (q)), some (eI (r)), some (eI (s)), none, none, none], []), f :: F, μ) := by
  refine w_s (np := 1) (lv' := [some (eR 98), some (eI (0)), some (eI (p)), some (eI (q)), some (eI (r)), some (eI (s)), none, none, none]) (st' := [eR 98]) rfl (s_an rfl (by decide)) rfl ?_
  refine w_s (np := 2) (lv' := [some (eR 98), some (eI (0)), some (eI (p)), some (eI (q)), some (eI (r)), some (eI (s)), none, none, none]) (st' := [eI (0), eR 98]) rfl rfl rfl ?_
  refine w_s (np := 3) (lv' := [some (eR 98), some (eI (0)), some (eI (p)), some (eI (q)), some (eI (r)), some (eI (s)), none, none, none]) (st' := [eI (0), eI (0), eR 98]) rfl rfl rfl ?_
  refine w_s (np := 4) (lv' := [some (eR 98), some (eI (0)), some (eI (p)), some (eI (q)), some (eI (r)), some (eI (s)), none, none, none]) (st' := [eI (1), eI (0), eI (0), eR 98]) rfl rfl rfl ?_
  refine w_s (np := 5) (lv' := [some (eR 98), some (eI (0)), some (eI (p)), some (eI (q)), some (eI (r)), some (eI (s)), none, none, none]) (st' := [eI (p), eI (1), eI (0), eI (0), eR 98]) rfl rfl rfl ?_
  refine w_s (np := 6) (lv' := [some (eR 98), some (eI (0)), some (eI (p)), some (eI (q)), some (eI (r)), some (eI (s)), none, none, none]) (st' := [eI (q), eI (p), eI (1), eI (0), eI (0), eR 98]) rfl rfl rfl ?_
  refine w_s (np := 8) (lv' := [some (eR 98), some (eI (0)), some (eI (p)), some (eI (q)), some (eI (r)), some (eI (s)), none, none, none]) (st' := [eI (r), eI (q), eI (p), eI (1), eI (0), eI (0), eR 98]) rfl rfl rfl ?_
  refine w_s (np := 10) (lv' := [some (eR 98), some (eI (0)), some (eI (p)), some (eI (q)), some (eI (r)), some (eI (s)), none, none, none]) (st' := [eI (s), eI (r), eI (q), eI (p), eI (1), eI (0), eI (0), eR 98]) rfl rfl rfl ?_
  refine w_cv (np := 13) (as := [eI (0), eI (0), eI (1), eI (p), eI (q), eI (r), eI (s)]) (lv' := [some (eR 98), some (eI (0)), some (eI (0)), some (eI (1)), some (eI (p)), some (eI (q)), some (eI (r)), some (eI (s)), none, none]) (rest := []) rfl rfl rfl (Nat.ble_eq.mp rfl) rfl rfl rfl hq.1 rfl ?_
  refine t265_0_0 hq hp hq0 hr hs ?_
  intro m0 u0 s0 e0 w0
  have q0 := tQ_s hq s0
  have b0 : -1 ≤ u0 ∧ u0 ≤ 1 := by omega
  show ex_fine fg rc rs (d + 5, (266, 13, [some (eR 98), some (eI (0)), some (eI (p)), some (eI (q)), some (eI (r)), some (eI (s)), none, none, none], [eI (u0)]), f :: F, m0)
  refine w_s (np := 15) (lv' := [some (eR 98), some (eI (0)), some (eI (p)), some (eI (q)), some (eI (r)), some (eI (s)), some (eI (u0)), none, none]) (st' := []) rfl rfl rfl ?_
  refine w_s (np := 16) (lv' := [some (eR 98), some (eI (0)), some (eI (p)), some (eI (q)), some (eI (r)), some (eI (s)), some (eI (u0)), none, none]) (st' := [eR 98]) rfl (s_an rfl (by decide)) rfl ?_
  refine w_s (np := 17) (lv' := [some (eR 98), some (eI (0)), some (eI (p)), some (eI (q)), some (eI (r)), some (eI (s)), some (eI (u0)), none, none]) (st' := [eI (0), eR 98]) rfl rfl rfl ?_
  refine w_s (np := 18) (lv' := [some (eR 98), some (eI (0)), some (eI (p)), some (eI (q)), some (eI (r)), some (eI (s)), some (eI (u0)), none, none]) (st' := [eI (1), eI (0), eR 98]) rfl rfl rfl ?_
  refine w_s (np := 19) (lv' := [some (eR 98), some (eI (0)), some (eI (p)), some (eI (q)), some (eI (r)), some (eI (s)), some (eI (u0)), none, none]) (st' := [eI (2), eI (1), eI (0), eR 98]) rfl rfl rfl ?_
  refine w_s (np := 20) (lv' := [some (eR 98), some (eI (0)), some (eI (p)), some (eI (q)), some (eI (r)), some (eI (s)), some (eI (u0)), none, none]) (st' := [eI (p), eI (2), eI (1), eI (0), eR 98]) rfl rfl rfl ?_
  refine w_s (np := 21) (lv' := [some (eR 98), some (eI (0)), some (eI (p)), some (eI (q)), some (eI (r)), some (eI (s)), some (eI (u0)), none, none]) (st' := [eI (q), eI (p), eI (2), eI (1), eI (0), eR 98]) rfl rfl rfl ?_
  refine w_s (np := 23) (lv' := [some (eR 98), some (eI (0)), some (eI (p)), some (eI (q)), some (eI (r)), some (eI (s)), some (eI (u0)), none, none]) (st' := [eI (r), eI (q), eI (p), eI (2), eI (1), eI (0), eR 98]) rfl rfl rfl ?_
  refine w_s (np := 25) (lv' := [some (eR 98), some (eI (0)), some (eI (p)), some (eI (q)), some (eI (r)), some (eI (s)), some (eI (u0)), none, none]) (st' := [eI (s), eI (r), eI (q), eI (p), eI (2), eI (1), eI (0), eR 98]) rfl rfl rfl ?_
  refine w_cv (np := 28) (as := [eI (0), eI (1), eI (2), eI (p), eI (q), eI (r), eI (s)]) (lv' := [some (eR 98), some (eI (0)), some (eI (1)), some (eI (2)), some (eI (p)), some (eI (q)), some (eI (r)), some (eI (s)), none, none]) (rest := []) rfl rfl rfl (Nat.ble_eq.mp rfl) rfl rfl rfl q0.1 rfl ?_
  refine t265_0_1 q0 hp hq0 hr hs ?_
  intro m1 u1 s1 e1 w1
  have q1 := tQ_s q0 s1
  have b1 : -1 ≤ u1 ∧ u1 ≤ 1 := by omega
  show ex_fine fg rc rs (d + 5, (266, 28, [some (eR 98), some (eI (0)), some (eI (p)), some (eI (q)), some (eI (r)), some (eI (s)), some (eI (u0)), none, none], [eI (u1)]), f :: F, m1)
  refine w_s (np := 30) (lv' := [some (eR 98), some (eI (0)), some (eI (p)), some (eI (q)), some (eI (r)), some (eI (s)), some (eI (u0)), some (eI (u1)), none]) (st' := []) rfl rfl rfl ?_
  refine w_s (np := 31) (lv' := [some (eR 98), some (eI (0)), some (eI (p)), some (eI (q)), some (eI (r)), some (eI (s)), some (eI (u0)), some (eI (u1)), none]) (st' := [eR 98]) rfl (s_an rfl (by decide)) rfl ?_
  refine w_s (np := 32) (lv' := [some (eR 98), some (eI (0)), some (eI (p)), some (eI (q)), some (eI (r)), some (eI (s)), some (eI (u0)), some (eI (u1)), none]) (st' := [eI (0), eR 98]) rfl rfl rfl ?_
  refine w_s (np := 33) (lv' := [some (eR 98), some (eI (0)), some (eI (p)), some (eI (q)), some (eI (r)), some (eI (s)), some (eI (u0)), some (eI (u1)), none]) (st' := [eI (2), eI (0), eR 98]) rfl rfl rfl ?_
  refine w_s (np := 34) (lv' := [some (eR 98), some (eI (0)), some (eI (p)), some (eI (q)), some (eI (r)), some (eI (s)), some (eI (u0)), some (eI (u1)), none]) (st' := [eI (0), eI (2), eI (0), eR 98]) rfl rfl rfl ?_
  refine w_s (np := 35) (lv' := [some (eR 98), some (eI (0)), some (eI (p)), some (eI (q)), some (eI (r)), some (eI (s)), some (eI (u0)), some (eI (u1)), none]) (st' := [eI (p), eI (0), eI (2), eI (0), eR 98]) rfl rfl rfl ?_
  refine w_s (np := 36) (lv' := [some (eR 98), some (eI (0)), some (eI (p)), some (eI (q)), some (eI (r)), some (eI (s)), some (eI (u0)), some (eI (u1)), none]) (st' := [eI (q), eI (p), eI (0), eI (2), eI (0), eR 98]) rfl rfl rfl ?_
  refine w_s (np := 38) (lv' := [some (eR 98), some (eI (0)), some (eI (p)), some (eI (q)), some (eI (r)), some (eI (s)), some (eI (u0)), some (eI (u1)), none]) (st' := [eI (r), eI (q), eI (p), eI (0), eI (2), eI (0), eR 98]) rfl rfl rfl ?_
  refine w_s (np := 40) (lv' := [some (eR 98), some (eI (0)), some (eI (p)), some (eI (q)), some (eI (r)), some (eI (s)), some (eI (u0)), some (eI (u1)), none]) (st' := [eI (s), eI (r), eI (q), eI (p), eI (0), eI (2), eI (0), eR 98]) rfl rfl rfl ?_
  refine w_cv (np := 43) (as := [eI (0), eI (2), eI (0), eI (p), eI (q), eI (r), eI (s)]) (lv' := [some (eR 98), some (eI (0)), some (eI (2)), some (eI (0)), some (eI (p)), some (eI (q)), some (eI (r)), some (eI (s)), none, none]) (rest := []) rfl rfl rfl (Nat.ble_eq.mp rfl) rfl rfl rfl q1.1 rfl ?_
  refine t265_0_2 q1 hp hq0 hr hs ?_
  intro m2 u2 s2 e2 w2
  have q2 := tQ_s q1 s2
  have b2 : -1 ≤ u2 ∧ u2 ≤ 1 := by omega
  show ex_fine fg rc rs (d + 5, (266, 43, [some (eR 98), some (eI (0)), some (eI (p)), some (eI (q)), some (eI (r)), some (eI (s)), some (eI (u0)), some (eI (u1)), none], [eI (u2)]), f :: F, m2)
  refine w_s (np := 45) (lv' := [some (eR 98), some (eI (0)), some (eI (p)), some (eI (q)), some (eI (r)), some (eI (s)), some (eI (u0)), some (eI (u1)), some (eI (u2))]) (st' := []) rfl rfl rfl ?_
  refine w_s (np := 47) (lv' := [some (eR 98), some (eI (0)), some (eI (p)), some (eI (q)), some (eI (r)), some (eI (s)), some (eI (u0)), some (eI (u1)), some (eI (u2))]) (st' := [eI (u0)]) rfl rfl rfl ?_
  refine b_ilt (t1 := 60) (t2 := 50) rfl rfl rfl (ev_w_in (by omega) (by omega)) (fun g1 => ?_) (fun g1 => ?_)
  · refine w_s (np := 62) (lv' := [some (eR 98), some (eI (0)), some (eI (p)), some (eI (q)), some (eI (r)), some (eI (s)), some (eI (u0)), some (eI (u1)), some (eI (u2))]) (st' := [eI (u0)]) rfl rfl rfl ?_
    refine b_igt (t1 := 79) (t2 := 65) rfl rfl rfl (ev_w_in (by omega) (by omega)) (fun g2 => ?_) (fun g2 => ?_)
    · refine w_s (np := 80) (lv' := [some (eR 98), some (eI (0)), some (eI (p)), some (eI (q)), some (eI (r)), some (eI (s)), some (eI (u0)), some (eI (u1)), some (eI (u2))]) (st' := [eI (0)]) rfl rfl rfl ?_
      refine b_rz rfl rfl (Or.inl rfl) ?_
      exact K0 _ (tS_tr (tS_tr s0 s1) s2) (by omega)
    · refine w_s (np := 67) (lv' := [some (eR 98), some (eI (0)), some (eI (p)), some (eI (q)), some (eI (r)), some (eI (s)), some (eI (u0)), some (eI (u1)), some (eI (u2))]) (st' := [eI (u1)]) rfl rfl rfl ?_
      refine b_igt (t1 := 79) (t2 := 70) rfl rfl rfl (ev_w_in (by omega) (by omega)) (fun g3 => ?_) (fun g3 => ?_)
      · refine w_s (np := 80) (lv' := [some (eR 98), some (eI (0)), some (eI (p)), some (eI (q)), some (eI (r)), some (eI (s)), some (eI (u0)), some (eI (u1)), some (eI (u2))]) (st' := [eI (0)]) rfl rfl rfl ?_
        refine b_rz rfl rfl (Or.inl rfl) ?_
        exact K0 _ (tS_tr (tS_tr s0 s1) s2) (by omega)
      · refine w_s (np := 72) (lv' := [some (eR 98), some (eI (0)), some (eI (p)), some (eI (q)), some (eI (r)), some (eI (s)), some (eI (u0)), some (eI (u1)), some (eI (u2))]) (st' := [eI (u2)]) rfl rfl rfl ?_
        refine b_igt (t1 := 79) (t2 := 75) rfl rfl rfl (ev_w_in (by omega) (by omega)) (fun g4 => ?_) (fun g4 => ?_)
        · refine w_s (np := 80) (lv' := [some (eR 98), some (eI (0)), some (eI (p)), some (eI (q)), some (eI (r)), some (eI (s)), some (eI (u0)), some (eI (u1)), some (eI (u2))]) (st' := [eI (0)]) rfl rfl rfl ?_
          refine b_rz rfl rfl (Or.inl rfl) ?_
          exact K0 _ (tS_tr (tS_tr s0 s1) s2) (by omega)
        · refine w_s (np := 76) (lv' := [some (eR 98), some (eI (0)), some (eI (p)), some (eI (q)), some (eI (r)), some (eI (s)), some (eI (u0)), some (eI (u1)), some (eI (u2))]) (st' := [eI (1)]) rfl rfl rfl ?_
          refine w_go (t1 := 80) rfl rfl ?_
          refine b_rz rfl rfl (Or.inr rfl) ?_
          exact K1 _ (tS_tr (tS_tr s0 s1) s2) (by omega)
  · refine w_s (np := 52) (lv' := [some (eR 98), some (eI (0)), some (eI (p)), some (eI (q)), some (eI (r)), some (eI (s)), some (eI (u0)), some (eI (u1)), some (eI (u2))]) (st' := [eI (u1)]) rfl rfl rfl ?_
    refine b_ilt (t1 := 60) (t2 := 55) rfl rfl rfl (ev_w_in (by omega) (by omega)) (fun g2 => ?_) (fun g2 => ?_)
    · refine w_s (np := 62) (lv' := [some (eR 98), some (eI (0)), some (eI (p)), some (eI (q)), some (eI (r)), some (eI (s)), some (eI (u0)), some (eI (u1)), some (eI (u2))]) (st' := [eI (u0)]) rfl rfl rfl ?_
      refine b_igt (t1 := 79) (t2 := 65) rfl rfl rfl (ev_w_in (by omega) (by omega)) (fun g3 => ?_) (fun g3 => ?_)
      · refine w_s (np := 80) (lv' := [some (eR 98), some (eI (0)), some (eI (p)), some (eI (q)), some (eI (r)), some (eI (s)), some (eI (u0)), some (eI (u1)), some (eI (u2))]) (st' := [eI (0)]) rfl rfl rfl ?_
        refine b_rz rfl rfl (Or.inl rfl) ?_
        exact K0 _ (tS_tr (tS_tr s0 s1) s2) (by omega)
      · refine w_s (np := 67) (lv' := [some (eR 98), some (eI (0)), some (eI (p)), some (eI (q)), some (eI (r)), some (eI (s)), some (eI (u0)), some (eI (u1)), some (eI (u2))]) (st' := [eI (u1)]) rfl rfl rfl ?_
        refine b_igt (t1 := 79) (t2 := 70) rfl rfl rfl (ev_w_in (by omega) (by omega)) (fun g4 => ?_) (fun g4 => ?_)
        · refine w_s (np := 80) (lv' := [some (eR 98), some (eI (0)), some (eI (p)), some (eI (q)), some (eI (r)), some (eI (s)), some (eI (u0)), some (eI (u1)), some (eI (u2))]) (st' := [eI (0)]) rfl rfl rfl ?_
          refine b_rz rfl rfl (Or.inl rfl) ?_
          exact K0 _ (tS_tr (tS_tr s0 s1) s2) (by omega)
        · refine w_s (np := 72) (lv' := [some (eR 98), some (eI (0)), some (eI (p)), some (eI (q)), some (eI (r)), some (eI (s)), some (eI (u0)), some (eI (u1)), some (eI (u2))]) (st' := [eI (u2)]) rfl rfl rfl ?_
          refine b_igt (t1 := 79) (t2 := 75) rfl rfl rfl (ev_w_in (by omega) (by omega)) (fun g5 => ?_) (fun g5 => ?_)
          · refine w_s (np := 80) (lv' := [some (eR 98), some (eI (0)), some (eI (p)), some (eI (q)), some (eI (r)), some (eI (s)), some (eI (u0)), some (eI (u1)), some (eI (u2))]) (st' := [eI (0)]) rfl rfl rfl ?_
            refine b_rz rfl rfl (Or.inl rfl) ?_
            exact K0 _ (tS_tr (tS_tr s0 s1) s2) (by omega)
          · refine w_s (np := 76) (lv' := [some (eR 98), some (eI (0)), some (eI (p)), some (eI (q)), some (eI (r)), some (eI (s)), some (eI (u0)), some (eI (u1)), some (eI (u2))]) (st' := [eI (1)]) rfl rfl rfl ?_
            refine w_go (t1 := 80) rfl rfl ?_
            refine b_rz rfl rfl (Or.inr rfl) ?_
            exact K1 _ (tS_tr (tS_tr s0 s1) s2) (by omega)
    · refine w_s (np := 57) (lv' := [some (eR 98), some (eI (0)), some (eI (p)), some (eI (q)), some (eI (r)), some (eI (s)), some (eI (u0)), some (eI (u1)), some (eI (u2))]) (st' := [eI (u2)]) rfl rfl rfl ?_
      refine b_ige (t1 := 75) (t2 := 60) rfl rfl rfl (ev_w_in (by omega) (by omega)) (fun g3 => ?_) (fun g3 => ?_)
      · refine w_s (np := 76) (lv' := [some (eR 98), some (eI (0)), some (eI (p)), some (eI (q)), some (eI (r)), some (eI (s)), some (eI (u0)), some (eI (u1)), some (eI (u2))]) (st' := [eI (1)]) rfl rfl rfl ?_
        refine w_go (t1 := 80) rfl rfl ?_
        refine b_rz rfl rfl (Or.inr rfl) ?_
        exact K1 _ (tS_tr (tS_tr s0 s1) s2) (by omega)
      · refine w_s (np := 62) (lv' := [some (eR 98), some (eI (0)), some (eI (p)), some (eI (q)), some (eI (r)), some (eI (s)), some (eI (u0)), some (eI (u1)), some (eI (u2))]) (st' := [eI (u0)]) rfl rfl rfl ?_
        refine b_igt (t1 := 79) (t2 := 65) rfl rfl rfl (ev_w_in (by omega) (by omega)) (fun g4 => ?_) (fun g4 => ?_)
        · refine w_s (np := 80) (lv' := [some (eR 98), some (eI (0)), some (eI (p)), some (eI (q)), some (eI (r)), some (eI (s)), some (eI (u0)), some (eI (u1)), some (eI (u2))]) (st' := [eI (0)]) rfl rfl rfl ?_
          refine b_rz rfl rfl (Or.inl rfl) ?_
          exact K0 _ (tS_tr (tS_tr s0 s1) s2) (by omega)
        · refine w_s (np := 67) (lv' := [some (eR 98), some (eI (0)), some (eI (p)), some (eI (q)), some (eI (r)), some (eI (s)), some (eI (u0)), some (eI (u1)), some (eI (u2))]) (st' := [eI (u1)]) rfl rfl rfl ?_
          refine b_igt (t1 := 79) (t2 := 70) rfl rfl rfl (ev_w_in (by omega) (by omega)) (fun g5 => ?_) (fun g5 => ?_)
          · refine w_s (np := 80) (lv' := [some (eR 98), some (eI (0)), some (eI (p)), some (eI (q)), some (eI (r)), some (eI (s)), some (eI (u0)), some (eI (u1)), some (eI (u2))]) (st' := [eI (0)]) rfl rfl rfl ?_
            refine b_rz rfl rfl (Or.inl rfl) ?_
            exact K0 _ (tS_tr (tS_tr s0 s1) s2) (by omega)
          · refine w_s (np := 72) (lv' := [some (eR 98), some (eI (0)), some (eI (p)), some (eI (q)), some (eI (r)), some (eI (s)), some (eI (u0)), some (eI (u1)), some (eI (u2))]) (st' := [eI (u2)]) rfl rfl rfl ?_
            refine b_igt (t1 := 79) (t2 := 75) rfl rfl rfl (ev_w_in (by omega) (by omega)) (fun g6 => ?_) (fun g6 => ?_)
            · refine w_s (np := 80) (lv' := [some (eR 98), some (eI (0)), some (eI (p)), some (eI (q)), some (eI (r)), some (eI (s)), some (eI (u0)), some (eI (u1)), some (eI (u2))]) (st' := [eI (0)]) rfl rfl rfl ?_
              refine b_rz rfl rfl (Or.inl rfl) ?_
              exact K0 _ (tS_tr (tS_tr s0 s1) s2) (by omega)
            · refine w_s (np := 76) (lv' := [some (eR 98), some (eI (0)), some (eI (p)), some (eI (q)), some (eI (r)), some (eI (s)), some (eI (u0)), some (eI (u1)), some (eI (u2))]) (st' := [eI (1)]) rfl rfl rfl ?_
              refine w_go (t1 := 80) rfl rfl ?_
              refine b_rz rfl rfl (Or.inr rfl) ?_
              exact K1 _ (tS_tr (tS_tr s0 s1) s2) (by omega)
theorem t266_1 {fg : eG} {rc rs d : Nat} {f : eFr} {F : List eFr} {μ : eM} {p q r s : Int} (hq : tQ μ) (hp : -9999 ≤ p ∧ p ≤ 9999) (hq0 : -9999 ≤ q ∧ q ≤ 9999) (hr : -9999 ≤ r ∧ r ≤ 9999) (hs : -9999 ≤ s ∧ s ≤ 9999) (K1 : ∀ μ2 : eM, tS μ μ2 → (((0 ≤ (-832040) * p + 832040 * r + 1346269 * s) ∧ (0 ≤ (-514229) * p + (-832040) * q + (-832040) * r + (-514229) * s + (832040)) ∧ (0 ≤ 1346269 * p + 832040 * q + (-832040) * s)) ∨ (((-832040) * p + 832040 * r + 1346269 * s ≤ 0) ∧ ((-514229) * p + (-832040) * q + (-832040) * r + (-514229) * s + (832040) ≤ 0) ∧ (1346269 * p + 832040 * q + (-832040) * s ≤ 0))) → ex_fine fg rc rs (d + 6, (f.1, f.2.1, f.2.2.1, eI 1 :: f.2.2.2), F, μ2)) (K0 : ∀ μ2 : eM, tS μ μ2 → ¬ (((0 ≤ (-832040) * p + 832040 * r + 1346269 * s) ∧ (0 ≤ (-514229) * p + (-832040) * q + (-832040) * r + (-514229) * s + (832040)) ∧ (0 ≤ 1346269 * p + 832040 * q + (-832040) * s)) ∨ (((-832040) * p + 832040 * r + 1346269 * s ≤ 0) ∧ ((-514229) * p + (-832040) * q + (-832040) * r + (-514229) * s + (832040) ≤ 0) ∧ (1346269 * p + 832040 * q + (-832040) * s ≤ 0))) → ex_fine fg rc rs (d + 6, (f.1, f.2.1, f.2.2.1, eI 0 :: f.2.2.2), F, μ2)) : ex_fine fg rc rs (d + 5, (266, 0, [some (eR 98), some (eI (1)), some (eI (p)), some (eI (q)), some (eI (r)), some (eI (s)), none, none, none], []), f :: F, μ) := by
  refine w_s (np := 1) (lv' := [some (eR 98), some (eI (1)), some (eI (p)), some (eI (q)), some (eI (r)), some (eI (s)), none, none, none]) (st' := [eR 98]) rfl (s_an rfl (by decide)) rfl ?_
  refine w_s (np := 2) (lv' := [some (eR 98), some (eI (1)), some (eI (p)), some (eI (q)), some (eI (r)), some (eI (s)), none, none, none]) (st' := [eI (1), eR 98]) rfl rfl rfl ?_
  refine w_s (np := 3) (lv' := [some (eR 98), some (eI (1)), some (eI (p)), some (eI (q)), some (eI (r)), some (eI (s)), none, none, none]) (st' := [eI (0), eI (1), eR 98]) rfl rfl rfl ?_
  refine w_s (np := 4) (lv' := [some (eR 98), some (eI (1)), some (eI (p)), some (eI (q)), some (eI (r)), some (eI (s)), none, none, none]) (st' := [eI (1), eI (0), eI (1), eR 98]) rfl rfl rfl ?_
  refine w_s (np := 5) (lv' := [some (eR 98), some (eI (1)), some (eI (p)), some (eI (q)), some (eI (r)), some (eI (s)), none, none, none]) (st' := [eI (p), eI (1), eI (0), eI (1), eR 98]) rfl rfl rfl ?_
  refine w_s (np := 6) (lv' := [some (eR 98), some (eI (1)), some (eI (p)), some (eI (q)), some (eI (r)), some (eI (s)), none, none, none]) (st' := [eI (q), eI (p), eI (1), eI (0), eI (1), eR 98]) rfl rfl rfl ?_
  refine w_s (np := 8) (lv' := [some (eR 98), some (eI (1)), some (eI (p)), some (eI (q)), some (eI (r)), some (eI (s)), none, none, none]) (st' := [eI (r), eI (q), eI (p), eI (1), eI (0), eI (1), eR 98]) rfl rfl rfl ?_
  refine w_s (np := 10) (lv' := [some (eR 98), some (eI (1)), some (eI (p)), some (eI (q)), some (eI (r)), some (eI (s)), none, none, none]) (st' := [eI (s), eI (r), eI (q), eI (p), eI (1), eI (0), eI (1), eR 98]) rfl rfl rfl ?_
  refine w_cv (np := 13) (as := [eI (1), eI (0), eI (1), eI (p), eI (q), eI (r), eI (s)]) (lv' := [some (eR 98), some (eI (1)), some (eI (0)), some (eI (1)), some (eI (p)), some (eI (q)), some (eI (r)), some (eI (s)), none, none]) (rest := []) rfl rfl rfl (Nat.ble_eq.mp rfl) rfl rfl rfl hq.1 rfl ?_
  refine t265_1_0 hq hp hq0 hr hs ?_
  intro m0 u0 s0 e0 w0
  have q0 := tQ_s hq s0
  have b0 : -1 ≤ u0 ∧ u0 ≤ 1 := by omega
  show ex_fine fg rc rs (d + 5, (266, 13, [some (eR 98), some (eI (1)), some (eI (p)), some (eI (q)), some (eI (r)), some (eI (s)), none, none, none], [eI (u0)]), f :: F, m0)
  refine w_s (np := 15) (lv' := [some (eR 98), some (eI (1)), some (eI (p)), some (eI (q)), some (eI (r)), some (eI (s)), some (eI (u0)), none, none]) (st' := []) rfl rfl rfl ?_
  refine w_s (np := 16) (lv' := [some (eR 98), some (eI (1)), some (eI (p)), some (eI (q)), some (eI (r)), some (eI (s)), some (eI (u0)), none, none]) (st' := [eR 98]) rfl (s_an rfl (by decide)) rfl ?_
  refine w_s (np := 17) (lv' := [some (eR 98), some (eI (1)), some (eI (p)), some (eI (q)), some (eI (r)), some (eI (s)), some (eI (u0)), none, none]) (st' := [eI (1), eR 98]) rfl rfl rfl ?_
  refine w_s (np := 18) (lv' := [some (eR 98), some (eI (1)), some (eI (p)), some (eI (q)), some (eI (r)), some (eI (s)), some (eI (u0)), none, none]) (st' := [eI (1), eI (1), eR 98]) rfl rfl rfl ?_
  refine w_s (np := 19) (lv' := [some (eR 98), some (eI (1)), some (eI (p)), some (eI (q)), some (eI (r)), some (eI (s)), some (eI (u0)), none, none]) (st' := [eI (2), eI (1), eI (1), eR 98]) rfl rfl rfl ?_
  refine w_s (np := 20) (lv' := [some (eR 98), some (eI (1)), some (eI (p)), some (eI (q)), some (eI (r)), some (eI (s)), some (eI (u0)), none, none]) (st' := [eI (p), eI (2), eI (1), eI (1), eR 98]) rfl rfl rfl ?_
  refine w_s (np := 21) (lv' := [some (eR 98), some (eI (1)), some (eI (p)), some (eI (q)), some (eI (r)), some (eI (s)), some (eI (u0)), none, none]) (st' := [eI (q), eI (p), eI (2), eI (1), eI (1), eR 98]) rfl rfl rfl ?_
  refine w_s (np := 23) (lv' := [some (eR 98), some (eI (1)), some (eI (p)), some (eI (q)), some (eI (r)), some (eI (s)), some (eI (u0)), none, none]) (st' := [eI (r), eI (q), eI (p), eI (2), eI (1), eI (1), eR 98]) rfl rfl rfl ?_
  refine w_s (np := 25) (lv' := [some (eR 98), some (eI (1)), some (eI (p)), some (eI (q)), some (eI (r)), some (eI (s)), some (eI (u0)), none, none]) (st' := [eI (s), eI (r), eI (q), eI (p), eI (2), eI (1), eI (1), eR 98]) rfl rfl rfl ?_
  refine w_cv (np := 28) (as := [eI (1), eI (1), eI (2), eI (p), eI (q), eI (r), eI (s)]) (lv' := [some (eR 98), some (eI (1)), some (eI (1)), some (eI (2)), some (eI (p)), some (eI (q)), some (eI (r)), some (eI (s)), none, none]) (rest := []) rfl rfl rfl (Nat.ble_eq.mp rfl) rfl rfl rfl q0.1 rfl ?_
  refine t265_1_1 q0 hp hq0 hr hs ?_
  intro m1 u1 s1 e1 w1
  have q1 := tQ_s q0 s1
  have b1 : -1 ≤ u1 ∧ u1 ≤ 1 := by omega
  show ex_fine fg rc rs (d + 5, (266, 28, [some (eR 98), some (eI (1)), some (eI (p)), some (eI (q)), some (eI (r)), some (eI (s)), some (eI (u0)), none, none], [eI (u1)]), f :: F, m1)
  refine w_s (np := 30) (lv' := [some (eR 98), some (eI (1)), some (eI (p)), some (eI (q)), some (eI (r)), some (eI (s)), some (eI (u0)), some (eI (u1)), none]) (st' := []) rfl rfl rfl ?_
  refine w_s (np := 31) (lv' := [some (eR 98), some (eI (1)), some (eI (p)), some (eI (q)), some (eI (r)), some (eI (s)), some (eI (u0)), some (eI (u1)), none]) (st' := [eR 98]) rfl (s_an rfl (by decide)) rfl ?_
  refine w_s (np := 32) (lv' := [some (eR 98), some (eI (1)), some (eI (p)), some (eI (q)), some (eI (r)), some (eI (s)), some (eI (u0)), some (eI (u1)), none]) (st' := [eI (1), eR 98]) rfl rfl rfl ?_
  refine w_s (np := 33) (lv' := [some (eR 98), some (eI (1)), some (eI (p)), some (eI (q)), some (eI (r)), some (eI (s)), some (eI (u0)), some (eI (u1)), none]) (st' := [eI (2), eI (1), eR 98]) rfl rfl rfl ?_
  refine w_s (np := 34) (lv' := [some (eR 98), some (eI (1)), some (eI (p)), some (eI (q)), some (eI (r)), some (eI (s)), some (eI (u0)), some (eI (u1)), none]) (st' := [eI (0), eI (2), eI (1), eR 98]) rfl rfl rfl ?_
  refine w_s (np := 35) (lv' := [some (eR 98), some (eI (1)), some (eI (p)), some (eI (q)), some (eI (r)), some (eI (s)), some (eI (u0)), some (eI (u1)), none]) (st' := [eI (p), eI (0), eI (2), eI (1), eR 98]) rfl rfl rfl ?_
  refine w_s (np := 36) (lv' := [some (eR 98), some (eI (1)), some (eI (p)), some (eI (q)), some (eI (r)), some (eI (s)), some (eI (u0)), some (eI (u1)), none]) (st' := [eI (q), eI (p), eI (0), eI (2), eI (1), eR 98]) rfl rfl rfl ?_
  refine w_s (np := 38) (lv' := [some (eR 98), some (eI (1)), some (eI (p)), some (eI (q)), some (eI (r)), some (eI (s)), some (eI (u0)), some (eI (u1)), none]) (st' := [eI (r), eI (q), eI (p), eI (0), eI (2), eI (1), eR 98]) rfl rfl rfl ?_
  refine w_s (np := 40) (lv' := [some (eR 98), some (eI (1)), some (eI (p)), some (eI (q)), some (eI (r)), some (eI (s)), some (eI (u0)), some (eI (u1)), none]) (st' := [eI (s), eI (r), eI (q), eI (p), eI (0), eI (2), eI (1), eR 98]) rfl rfl rfl ?_
  refine w_cv (np := 43) (as := [eI (1), eI (2), eI (0), eI (p), eI (q), eI (r), eI (s)]) (lv' := [some (eR 98), some (eI (1)), some (eI (2)), some (eI (0)), some (eI (p)), some (eI (q)), some (eI (r)), some (eI (s)), none, none]) (rest := []) rfl rfl rfl (Nat.ble_eq.mp rfl) rfl rfl rfl q1.1 rfl ?_
  refine t265_1_2 q1 hp hq0 hr hs ?_
  intro m2 u2 s2 e2 w2
  have q2 := tQ_s q1 s2
  have b2 : -1 ≤ u2 ∧ u2 ≤ 1 := by omega
  show ex_fine fg rc rs (d + 5, (266, 43, [some (eR 98), some (eI (1)), some (eI (p)), some (eI (q)), some (eI (r)), some (eI (s)), some (eI (u0)), some (eI (u1)), none], [eI (u2)]), f :: F, m2)
  refine w_s (np := 45) (lv' := [some (eR 98), some (eI (1)), some (eI (p)), some (eI (q)), some (eI (r)), some (eI (s)), some (eI (u0)), some (eI (u1)), some (eI (u2))]) (st' := []) rfl rfl rfl ?_
  refine w_s (np := 47) (lv' := [some (eR 98), some (eI (1)), some (eI (p)), some (eI (q)), some (eI (r)), some (eI (s)), some (eI (u0)), some (eI (u1)), some (eI (u2))]) (st' := [eI (u0)]) rfl rfl rfl ?_
  refine b_ilt (t1 := 60) (t2 := 50) rfl rfl rfl (ev_w_in (by omega) (by omega)) (fun g1 => ?_) (fun g1 => ?_)
  · refine w_s (np := 62) (lv' := [some (eR 98), some (eI (1)), some (eI (p)), some (eI (q)), some (eI (r)), some (eI (s)), some (eI (u0)), some (eI (u1)), some (eI (u2))]) (st' := [eI (u0)]) rfl rfl rfl ?_
    refine b_igt (t1 := 79) (t2 := 65) rfl rfl rfl (ev_w_in (by omega) (by omega)) (fun g2 => ?_) (fun g2 => ?_)
    · refine w_s (np := 80) (lv' := [some (eR 98), some (eI (1)), some (eI (p)), some (eI (q)), some (eI (r)), some (eI (s)), some (eI (u0)), some (eI (u1)), some (eI (u2))]) (st' := [eI (0)]) rfl rfl rfl ?_
      refine b_rz rfl rfl (Or.inl rfl) ?_
      exact K0 _ (tS_tr (tS_tr s0 s1) s2) (by omega)
    · refine w_s (np := 67) (lv' := [some (eR 98), some (eI (1)), some (eI (p)), some (eI (q)), some (eI (r)), some (eI (s)), some (eI (u0)), some (eI (u1)), some (eI (u2))]) (st' := [eI (u1)]) rfl rfl rfl ?_
      refine b_igt (t1 := 79) (t2 := 70) rfl rfl rfl (ev_w_in (by omega) (by omega)) (fun g3 => ?_) (fun g3 => ?_)
      · refine w_s (np := 80) (lv' := [some (eR 98), some (eI (1)), some (eI (p)), some (eI (q)), some (eI (r)), some (eI (s)), some (eI (u0)), some (eI (u1)), some (eI (u2))]) (st' := [eI (0)]) rfl rfl rfl ?_
        refine b_rz rfl rfl (Or.inl rfl) ?_
        exact K0 _ (tS_tr (tS_tr s0 s1) s2) (by omega)
      · refine w_s (np := 72) (lv' := [some (eR 98), some (eI (1)), some (eI (p)), some (eI (q)), some (eI (r)), some (eI (s)), some (eI (u0)), some (eI (u1)), some (eI (u2))]) (st' := [eI (u2)]) rfl rfl rfl ?_
        refine b_igt (t1 := 79) (t2 := 75) rfl rfl rfl (ev_w_in (by omega) (by omega)) (fun g4 => ?_) (fun g4 => ?_)
        · refine w_s (np := 80) (lv' := [some (eR 98), some (eI (1)), some (eI (p)), some (eI (q)), some (eI (r)), some (eI (s)), some (eI (u0)), some (eI (u1)), some (eI (u2))]) (st' := [eI (0)]) rfl rfl rfl ?_
          refine b_rz rfl rfl (Or.inl rfl) ?_
          exact K0 _ (tS_tr (tS_tr s0 s1) s2) (by omega)
        · refine w_s (np := 76) (lv' := [some (eR 98), some (eI (1)), some (eI (p)), some (eI (q)), some (eI (r)), some (eI (s)), some (eI (u0)), some (eI (u1)), some (eI (u2))]) (st' := [eI (1)]) rfl rfl rfl ?_
          refine w_go (t1 := 80) rfl rfl ?_
          refine b_rz rfl rfl (Or.inr rfl) ?_
          exact K1 _ (tS_tr (tS_tr s0 s1) s2) (by omega)
  · refine w_s (np := 52) (lv' := [some (eR 98), some (eI (1)), some (eI (p)), some (eI (q)), some (eI (r)), some (eI (s)), some (eI (u0)), some (eI (u1)), some (eI (u2))]) (st' := [eI (u1)]) rfl rfl rfl ?_
    refine b_ilt (t1 := 60) (t2 := 55) rfl rfl rfl (ev_w_in (by omega) (by omega)) (fun g2 => ?_) (fun g2 => ?_)
    · refine w_s (np := 62) (lv' := [some (eR 98), some (eI (1)), some (eI (p)), some (eI (q)), some (eI (r)), some (eI (s)), some (eI (u0)), some (eI (u1)), some (eI (u2))]) (st' := [eI (u0)]) rfl rfl rfl ?_
      refine b_igt (t1 := 79) (t2 := 65) rfl rfl rfl (ev_w_in (by omega) (by omega)) (fun g3 => ?_) (fun g3 => ?_)
      · refine w_s (np := 80) (lv' := [some (eR 98), some (eI (1)), some (eI (p)), some (eI (q)), some (eI (r)), some (eI (s)), some (eI (u0)), some (eI (u1)), some (eI (u2))]) (st' := [eI (0)]) rfl rfl rfl ?_
        refine b_rz rfl rfl (Or.inl rfl) ?_
        exact K0 _ (tS_tr (tS_tr s0 s1) s2) (by omega)
      · refine w_s (np := 67) (lv' := [some (eR 98), some (eI (1)), some (eI (p)), some (eI (q)), some (eI (r)), some (eI (s)), some (eI (u0)), some (eI (u1)), some (eI (u2))]) (st' := [eI (u1)]) rfl rfl rfl ?_
        refine b_igt (t1 := 79) (t2 := 70) rfl rfl rfl (ev_w_in (by omega) (by omega)) (fun g4 => ?_) (fun g4 => ?_)
        · refine w_s (np := 80) (lv' := [some (eR 98), some (eI (1)), some (eI (p)), some (eI (q)), some (eI (r)), some (eI (s)), some (eI (u0)), some (eI (u1)), some (eI (u2))]) (st' := [eI (0)]) rfl rfl rfl ?_
          refine b_rz rfl rfl (Or.inl rfl) ?_
          exact K0 _ (tS_tr (tS_tr s0 s1) s2) (by omega)
        · refine w_s (np := 72) (lv' := [some (eR 98), some (eI (1)), some (eI (p)), some (eI (q)), some (eI (r)), some (eI (s)), some (eI (u0)), some (eI (u1)), some (eI (u2))]) (st' := [eI (u2)]) rfl rfl rfl ?_
          refine b_igt (t1 := 79) (t2 := 75) rfl rfl rfl (ev_w_in (by omega) (by omega)) (fun g5 => ?_) (fun g5 => ?_)
          · refine w_s (np := 80) (lv' := [some (eR 98), some (eI (1)), some (eI (p)), some (eI (q)), some (eI (r)), some (eI (s)), some (eI (u0)), some (eI (u1)), some (eI (u2))]) (st' := [eI (0)]) rfl rfl rfl ?_
            refine b_rz rfl rfl (Or.inl rfl) ?_
            exact K0 _ (tS_tr (tS_tr s0 s1) s2) (by omega)
          · refine w_s (np := 76) (lv' := [some (eR 98), some (eI (1)), some (eI (p)), some (eI (q)), some (eI (r)), some (eI (s)), some (eI (u0)), some (eI (u1)), some (eI (u2))]) (st' := [eI (1)]) rfl rfl rfl ?_
            refine w_go (t1 := 80) rfl rfl ?_
            refine b_rz rfl rfl (Or.inr rfl) ?_
            exact K1 _ (tS_tr (tS_tr s0 s1) s2) (by omega)
    · refine w_s (np := 57) (lv' := [some (eR 98), some (eI (1)), some (eI (p)), some (eI (q)), some (eI (r)), some (eI (s)), some (eI (u0)), some (eI (u1)), some (eI (u2))]) (st' := [eI (u2)]) rfl rfl rfl ?_
      refine b_ige (t1 := 75) (t2 := 60) rfl rfl rfl (ev_w_in (by omega) (by omega)) (fun g3 => ?_) (fun g3 => ?_)
      · refine w_s (np := 76) (lv' := [some (eR 98), some (eI (1)), some (eI (p)), some (eI (q)), some (eI (r)), some (eI (s)), some (eI (u0)), some (eI (u1)), some (eI (u2))]) (st' := [eI (1)]) rfl rfl rfl ?_
        refine w_go (t1 := 80) rfl rfl ?_
        refine b_rz rfl rfl (Or.inr rfl) ?_
        exact K1 _ (tS_tr (tS_tr s0 s1) s2) (by omega)
      · refine w_s (np := 62) (lv' := [some (eR 98), some (eI (1)), some (eI (p)), some (eI (q)), some (eI (r)), some (eI (s)), some (eI (u0)), some (eI (u1)), some (eI (u2))]) (st' := [eI (u0)]) rfl rfl rfl ?_
        refine b_igt (t1 := 79) (t2 := 65) rfl rfl rfl (ev_w_in (by omega) (by omega)) (fun g4 => ?_) (fun g4 => ?_)
        · refine w_s (np := 80) (lv' := [some (eR 98), some (eI (1)), some (eI (p)), some (eI (q)), some (eI (r)), some (eI (s)), some (eI (u0)), some (eI (u1)), some (eI (u2))]) (st' := [eI (0)]) rfl rfl rfl ?_
          refine b_rz rfl rfl (Or.inl rfl) ?_
          exact K0 _ (tS_tr (tS_tr s0 s1) s2) (by omega)
        · refine w_s (np := 67) (lv' := [some (eR 98), some (eI (1)), some (eI (p)), some (eI (q)), some (eI (r)), some (eI (s)), some (eI (u0)), some (eI (u1)), some (eI (u2))]) (st' := [eI (u1)]) rfl rfl rfl ?_
          refine b_igt (t1 := 79) (t2 := 70) rfl rfl rfl (ev_w_in (by omega) (by omega)) (fun g5 => ?_) (fun g5 => ?_)
          · refine w_s (np := 80) (lv' := [some (eR 98), some (eI (1)), some (eI (p)), some (eI (q)), some (eI (r)), some (eI (s)), some (eI (u0)), some (eI (u1)), some (eI (u2))]) (st' := [eI (0)]) rfl rfl rfl ?_
            refine b_rz rfl rfl (Or.inl rfl) ?_
            exact K0 _ (tS_tr (tS_tr s0 s1) s2) (by omega)
          · refine w_s (np := 72) (lv' := [some (eR 98), some (eI (1)), some (eI (p)), some (eI (q)), some (eI (r)), some (eI (s)), some (eI (u0)), some (eI (u1)), some (eI (u2))]) (st' := [eI (u2)]) rfl rfl rfl ?_
            refine b_igt (t1 := 79) (t2 := 75) rfl rfl rfl (ev_w_in (by omega) (by omega)) (fun g6 => ?_) (fun g6 => ?_)
            · refine w_s (np := 80) (lv' := [some (eR 98), some (eI (1)), some (eI (p)), some (eI (q)), some (eI (r)), some (eI (s)), some (eI (u0)), some (eI (u1)), some (eI (u2))]) (st' := [eI (0)]) rfl rfl rfl ?_
              refine b_rz rfl rfl (Or.inl rfl) ?_
              exact K0 _ (tS_tr (tS_tr s0 s1) s2) (by omega)
            · refine w_s (np := 76) (lv' := [some (eR 98), some (eI (1)), some (eI (p)), some (eI (q)), some (eI (r)), some (eI (s)), some (eI (u0)), some (eI (u1)), some (eI (u2))]) (st' := [eI (1)]) rfl rfl rfl ?_
              refine w_go (t1 := 80) rfl rfl ?_
              refine b_rz rfl rfl (Or.inr rfl) ?_
              exact K1 _ (tS_tr (tS_tr s0 s1) s2) (by omega)
theorem t266_2 {fg : eG} {rc rs d : Nat} {f : eFr} {F : List eFr} {μ : eM} {p q r s : Int} (hq : tQ μ) (hp : -9999 ≤ p ∧ p ≤ 9999) (hq0 : -9999 ≤ q ∧ q ≤ 9999) (hr : -9999 ≤ r ∧ r ≤ 9999) (hs : -9999 ≤ s ∧ s ≤ 9999) (K1 : ∀ μ2 : eM, tS μ μ2 → (((0 ≤ (-1346269) * p + (-1346269) * q + (-832040) * r) ∧ (0 ≤ 514229 * q + 832040 * r + 832040 * s + (-832040)) ∧ (0 ≤ 1346269 * p + 832040 * q + (-832040) * s)) ∨ (((-1346269) * p + (-1346269) * q + (-832040) * r ≤ 0) ∧ (514229 * q + 832040 * r + 832040 * s + (-832040) ≤ 0) ∧ (1346269 * p + 832040 * q + (-832040) * s ≤ 0))) → ex_fine fg rc rs (d + 6, (f.1, f.2.1, f.2.2.1, eI 1 :: f.2.2.2), F, μ2)) (K0 : ∀ μ2 : eM, tS μ μ2 → ¬ (((0 ≤ (-1346269) * p + (-1346269) * q + (-832040) * r) ∧ (0 ≤ 514229 * q + 832040 * r + 832040 * s + (-832040)) ∧ (0 ≤ 1346269 * p + 832040 * q + (-832040) * s)) ∨ (((-1346269) * p + (-1346269) * q + (-832040) * r ≤ 0) ∧ (514229 * q + 832040 * r + 832040 * s + (-832040) ≤ 0) ∧ (1346269 * p + 832040 * q + (-832040) * s ≤ 0))) → ex_fine fg rc rs (d + 6, (f.1, f.2.1, f.2.2.1, eI 0 :: f.2.2.2), F, μ2)) : ex_fine fg rc rs (d + 5, (266, 0, [some (eR 98), some (eI (2)), some (eI (p)), some (eI (q)), some (eI (r)), some (eI (s)), none, none, none], []), f :: F, μ) := by
  refine w_s (np := 1) (lv' := [some (eR 98), some (eI (2)), some (eI (p)), some (eI (q)), some (eI (r)), some (eI (s)), none, none, none]) (st' := [eR 98]) rfl (s_an rfl (by decide)) rfl ?_
  refine w_s (np := 2) (lv' := [some (eR 98), some (eI (2)), some (eI (p)), some (eI (q)), some (eI (r)), some (eI (s)), none, none, none]) (st' := [eI (2), eR 98]) rfl rfl rfl ?_
  refine w_s (np := 3) (lv' := [some (eR 98), some (eI (2)), some (eI (p)), some (eI (q)), some (eI (r)), some (eI (s)), none, none, none]) (st' := [eI (0), eI (2), eR 98]) rfl rfl rfl ?_
  refine w_s (np := 4) (lv' := [some (eR 98), some (eI (2)), some (eI (p)), some (eI (q)), some (eI (r)), some (eI (s)), none, none, none]) (st' := [eI (1), eI (0), eI (2), eR 98]) rfl rfl rfl ?_
  refine w_s (np := 5) (lv' := [some (eR 98), some (eI (2)), some (eI (p)), some (eI (q)), some (eI (r)), some (eI (s)), none, none, none]) (st' := [eI (p), eI (1), eI (0), eI (2), eR 98]) rfl rfl rfl ?_
  refine w_s (np := 6) (lv' := [some (eR 98), some (eI (2)), some (eI (p)), some (eI (q)), some (eI (r)), some (eI (s)), none, none, none]) (st' := [eI (q), eI (p), eI (1), eI (0), eI (2), eR 98]) rfl rfl rfl ?_
  refine w_s (np := 8) (lv' := [some (eR 98), some (eI (2)), some (eI (p)), some (eI (q)), some (eI (r)), some (eI (s)), none, none, none]) (st' := [eI (r), eI (q), eI (p), eI (1), eI (0), eI (2), eR 98]) rfl rfl rfl ?_
  refine w_s (np := 10) (lv' := [some (eR 98), some (eI (2)), some (eI (p)), some (eI (q)), some (eI (r)), some (eI (s)), none, none, none]) (st' := [eI (s), eI (r), eI (q), eI (p), eI (1), eI (0), eI (2), eR 98]) rfl rfl rfl ?_
  refine w_cv (np := 13) (as := [eI (2), eI (0), eI (1), eI (p), eI (q), eI (r), eI (s)]) (lv' := [some (eR 98), some (eI (2)), some (eI (0)), some (eI (1)), some (eI (p)), some (eI (q)), some (eI (r)), some (eI (s)), none, none]) (rest := []) rfl rfl rfl (Nat.ble_eq.mp rfl) rfl rfl rfl hq.1 rfl ?_
  refine t265_2_0 hq hp hq0 hr hs ?_
  intro m0 u0 s0 e0 w0
  have q0 := tQ_s hq s0
  have b0 : -1 ≤ u0 ∧ u0 ≤ 1 := by omega
  show ex_fine fg rc rs (d + 5, (266, 13, [some (eR 98), some (eI (2)), some (eI (p)), some (eI (q)), some (eI (r)), some (eI (s)), none, none, none], [eI (u0)]), f :: F, m0)
  refine w_s (np := 15) (lv' := [some (eR 98), some (eI (2)), some (eI (p)), some (eI (q)), some (eI (r)), some (eI (s)), some (eI (u0)), none, none]) (st' := []) rfl rfl rfl ?_
  refine w_s (np := 16) (lv' := [some (eR 98), some (eI (2)), some (eI (p)), some (eI (q)), some (eI (r)), some (eI (s)), some (eI (u0)), none, none]) (st' := [eR 98]) rfl (s_an rfl (by decide)) rfl ?_
  refine w_s (np := 17) (lv' := [some (eR 98), some (eI (2)), some (eI (p)), some (eI (q)), some (eI (r)), some (eI (s)), some (eI (u0)), none, none]) (st' := [eI (2), eR 98]) rfl rfl rfl ?_
  refine w_s (np := 18) (lv' := [some (eR 98), some (eI (2)), some (eI (p)), some (eI (q)), some (eI (r)), some (eI (s)), some (eI (u0)), none, none]) (st' := [eI (1), eI (2), eR 98]) rfl rfl rfl ?_
  refine w_s (np := 19) (lv' := [some (eR 98), some (eI (2)), some (eI (p)), some (eI (q)), some (eI (r)), some (eI (s)), some (eI (u0)), none, none]) (st' := [eI (2), eI (1), eI (2), eR 98]) rfl rfl rfl ?_
  refine w_s (np := 20) (lv' := [some (eR 98), some (eI (2)), some (eI (p)), some (eI (q)), some (eI (r)), some (eI (s)), some (eI (u0)), none, none]) (st' := [eI (p), eI (2), eI (1), eI (2), eR 98]) rfl rfl rfl ?_
  refine w_s (np := 21) (lv' := [some (eR 98), some (eI (2)), some (eI (p)), some (eI (q)), some (eI (r)), some (eI (s)), some (eI (u0)), none, none]) (st' := [eI (q), eI (p), eI (2), eI (1), eI (2), eR 98]) rfl rfl rfl ?_
  refine w_s (np := 23) (lv' := [some (eR 98), some (eI (2)), some (eI (p)), some (eI (q)), some (eI (r)), some (eI (s)), some (eI (u0)), none, none]) (st' := [eI (r), eI (q), eI (p), eI (2), eI (1), eI (2), eR 98]) rfl rfl rfl ?_
  refine w_s (np := 25) (lv' := [some (eR 98), some (eI (2)), some (eI (p)), some (eI (q)), some (eI (r)), some (eI (s)), some (eI (u0)), none, none]) (st' := [eI (s), eI (r), eI (q), eI (p), eI (2), eI (1), eI (2), eR 98]) rfl rfl rfl ?_
  refine w_cv (np := 28) (as := [eI (2), eI (1), eI (2), eI (p), eI (q), eI (r), eI (s)]) (lv' := [some (eR 98), some (eI (2)), some (eI (1)), some (eI (2)), some (eI (p)), some (eI (q)), some (eI (r)), some (eI (s)), none, none]) (rest := []) rfl rfl rfl (Nat.ble_eq.mp rfl) rfl rfl rfl q0.1 rfl ?_
  refine t265_2_1 q0 hp hq0 hr hs ?_
  intro m1 u1 s1 e1 w1
  have q1 := tQ_s q0 s1
  have b1 : -1 ≤ u1 ∧ u1 ≤ 1 := by omega
  show ex_fine fg rc rs (d + 5, (266, 28, [some (eR 98), some (eI (2)), some (eI (p)), some (eI (q)), some (eI (r)), some (eI (s)), some (eI (u0)), none, none], [eI (u1)]), f :: F, m1)
  refine w_s (np := 30) (lv' := [some (eR 98), some (eI (2)), some (eI (p)), some (eI (q)), some (eI (r)), some (eI (s)), some (eI (u0)), some (eI (u1)), none]) (st' := []) rfl rfl rfl ?_
  refine w_s (np := 31) (lv' := [some (eR 98), some (eI (2)), some (eI (p)), some (eI (q)), some (eI (r)), some (eI (s)), some (eI (u0)), some (eI (u1)), none]) (st' := [eR 98]) rfl (s_an rfl (by decide)) rfl ?_
  refine w_s (np := 32) (lv' := [some (eR 98), some (eI (2)), some (eI (p)), some (eI (q)), some (eI (r)), some (eI (s)), some (eI (u0)), some (eI (u1)), none]) (st' := [eI (2), eR 98]) rfl rfl rfl ?_
  refine w_s (np := 33) (lv' := [some (eR 98), some (eI (2)), some (eI (p)), some (eI (q)), some (eI (r)), some (eI (s)), some (eI (u0)), some (eI (u1)), none]) (st' := [eI (2), eI (2), eR 98]) rfl rfl rfl ?_
  refine w_s (np := 34) (lv' := [some (eR 98), some (eI (2)), some (eI (p)), some (eI (q)), some (eI (r)), some (eI (s)), some (eI (u0)), some (eI (u1)), none]) (st' := [eI (0), eI (2), eI (2), eR 98]) rfl rfl rfl ?_
  refine w_s (np := 35) (lv' := [some (eR 98), some (eI (2)), some (eI (p)), some (eI (q)), some (eI (r)), some (eI (s)), some (eI (u0)), some (eI (u1)), none]) (st' := [eI (p), eI (0), eI (2), eI (2), eR 98]) rfl rfl rfl ?_
  refine w_s (np := 36) (lv' := [some (eR 98), some (eI (2)), some (eI (p)), some (eI (q)), some (eI (r)), some (eI (s)), some (eI (u0)), some (eI (u1)), none]) (st' := [eI (q), eI (p), eI (0), eI (2), eI (2), eR 98]) rfl rfl rfl ?_
  refine w_s (np := 38) (lv' := [some (eR 98), some (eI (2)), some (eI (p)), some (eI (q)), some (eI (r)), some (eI (s)), some (eI (u0)), some (eI (u1)), none]) (st' := [eI (r), eI (q), eI (p), eI (0), eI (2), eI (2), eR 98]) rfl rfl rfl ?_
  refine w_s (np := 40) (lv' := [some (eR 98), some (eI (2)), some (eI (p)), some (eI (q)), some (eI (r)), some (eI (s)), some (eI (u0)), some (eI (u1)), none]) (st' := [eI (s), eI (r), eI (q), eI (p), eI (0), eI (2), eI (2), eR 98]) rfl rfl rfl ?_
  refine w_cv (np := 43) (as := [eI (2), eI (2), eI (0), eI (p), eI (q), eI (r), eI (s)]) (lv' := [some (eR 98), some (eI (2)), some (eI (2)), some (eI (0)), some (eI (p)), some (eI (q)), some (eI (r)), some (eI (s)), none, none]) (rest := []) rfl rfl rfl (Nat.ble_eq.mp rfl) rfl rfl rfl q1.1 rfl ?_
  refine t265_2_2 q1 hp hq0 hr hs ?_
  intro m2 u2 s2 e2 w2
  have q2 := tQ_s q1 s2
  have b2 : -1 ≤ u2 ∧ u2 ≤ 1 := by omega
  show ex_fine fg rc rs (d + 5, (266, 43, [some (eR 98), some (eI (2)), some (eI (p)), some (eI (q)), some (eI (r)), some (eI (s)), some (eI (u0)), some (eI (u1)), none], [eI (u2)]), f :: F, m2)
  refine w_s (np := 45) (lv' := [some (eR 98), some (eI (2)), some (eI (p)), some (eI (q)), some (eI (r)), some (eI (s)), some (eI (u0)), some (eI (u1)), some (eI (u2))]) (st' := []) rfl rfl rfl ?_
  refine w_s (np := 47) (lv' := [some (eR 98), some (eI (2)), some (eI (p)), some (eI (q)), some (eI (r)), some (eI (s)), some (eI (u0)), some (eI (u1)), some (eI (u2))]) (st' := [eI (u0)]) rfl rfl rfl ?_
  refine b_ilt (t1 := 60) (t2 := 50) rfl rfl rfl (ev_w_in (by omega) (by omega)) (fun g1 => ?_) (fun g1 => ?_)
  · refine w_s (np := 62) (lv' := [some (eR 98), some (eI (2)), some (eI (p)), some (eI (q)), some (eI (r)), some (eI (s)), some (eI (u0)), some (eI (u1)), some (eI (u2))]) (st' := [eI (u0)]) rfl rfl rfl ?_
    refine b_igt (t1 := 79) (t2 := 65) rfl rfl rfl (ev_w_in (by omega) (by omega)) (fun g2 => ?_) (fun g2 => ?_)
    · refine w_s (np := 80) (lv' := [some (eR 98), some (eI (2)), some (eI (p)), some (eI (q)), some (eI (r)), some (eI (s)), some (eI (u0)), some (eI (u1)), some (eI (u2))]) (st' := [eI (0)]) rfl rfl rfl ?_
      refine b_rz rfl rfl (Or.inl rfl) ?_
      exact K0 _ (tS_tr (tS_tr s0 s1) s2) (by omega)
    · refine w_s (np := 67) (lv' := [some (eR 98), some (eI (2)), some (eI (p)), some (eI (q)), some (eI (r)), some (eI (s)), some (eI (u0)), some (eI (u1)), some (eI (u2))]) (st' := [eI (u1)]) rfl rfl rfl ?_
      refine b_igt (t1 := 79) (t2 := 70) rfl rfl rfl (ev_w_in (by omega) (by omega)) (fun g3 => ?_) (fun g3 => ?_)
      · refine w_s (np := 80) (lv' := [some (eR 98), some (eI (2)), some (eI (p)), some (eI (q)), some (eI (r)), some (eI (s)), some (eI (u0)), some (eI (u1)), some (eI (u2))]) (st' := [eI (0)]) rfl rfl rfl ?_
        refine b_rz rfl rfl (Or.inl rfl) ?_
        exact K0 _ (tS_tr (tS_tr s0 s1) s2) (by omega)
      · refine w_s (np := 72) (lv' := [some (eR 98), some (eI (2)), some (eI (p)), some (eI (q)), some (eI (r)), some (eI (s)), some (eI (u0)), some (eI (u1)), some (eI (u2))]) (st' := [eI (u2)]) rfl rfl rfl ?_
        refine b_igt (t1 := 79) (t2 := 75) rfl rfl rfl (ev_w_in (by omega) (by omega)) (fun g4 => ?_) (fun g4 => ?_)
        · refine w_s (np := 80) (lv' := [some (eR 98), some (eI (2)), some (eI (p)), some (eI (q)), some (eI (r)), some (eI (s)), some (eI (u0)), some (eI (u1)), some (eI (u2))]) (st' := [eI (0)]) rfl rfl rfl ?_
          refine b_rz rfl rfl (Or.inl rfl) ?_
          exact K0 _ (tS_tr (tS_tr s0 s1) s2) (by omega)
        · refine w_s (np := 76) (lv' := [some (eR 98), some (eI (2)), some (eI (p)), some (eI (q)), some (eI (r)), some (eI (s)), some (eI (u0)), some (eI (u1)), some (eI (u2))]) (st' := [eI (1)]) rfl rfl rfl ?_
          refine w_go (t1 := 80) rfl rfl ?_
          refine b_rz rfl rfl (Or.inr rfl) ?_
          exact K1 _ (tS_tr (tS_tr s0 s1) s2) (by omega)
  · refine w_s (np := 52) (lv' := [some (eR 98), some (eI (2)), some (eI (p)), some (eI (q)), some (eI (r)), some (eI (s)), some (eI (u0)), some (eI (u1)), some (eI (u2))]) (st' := [eI (u1)]) rfl rfl rfl ?_
    refine b_ilt (t1 := 60) (t2 := 55) rfl rfl rfl (ev_w_in (by omega) (by omega)) (fun g2 => ?_) (fun g2 => ?_)
    · refine w_s (np := 62) (lv' := [some (eR 98), some (eI (2)), some (eI (p)), some (eI (q)), some (eI (r)), some (eI (s)), some (eI (u0)), some (eI (u1)), some (eI (u2))]) (st' := [eI (u0)]) rfl rfl rfl ?_
      refine b_igt (t1 := 79) (t2 := 65) rfl rfl rfl (ev_w_in (by omega) (by omega)) (fun g3 => ?_) (fun g3 => ?_)
      · refine w_s (np := 80) (lv' := [some (eR 98), some (eI (2)), some (eI (p)), some (eI (q)), some (eI (r)), some (eI (s)), some (eI (u0)), some (eI (u1)), some (eI (u2))]) (st' := [eI (0)]) rfl rfl rfl ?_
        refine b_rz rfl rfl (Or.inl rfl) ?_
        exact K0 _ (tS_tr (tS_tr s0 s1) s2) (by omega)
      · refine w_s (np := 67) (lv' := [some (eR 98), some (eI (2)), some (eI (p)), some (eI (q)), some (eI (r)), some (eI (s)), some (eI (u0)), some (eI (u1)), some (eI (u2))]) (st' := [eI (u1)]) rfl rfl rfl ?_
        refine b_igt (t1 := 79) (t2 := 70) rfl rfl rfl (ev_w_in (by omega) (by omega)) (fun g4 => ?_) (fun g4 => ?_)
        · refine w_s (np := 80) (lv' := [some (eR 98), some (eI (2)), some (eI (p)), some (eI (q)), some (eI (r)), some (eI (s)), some (eI (u0)), some (eI (u1)), some (eI (u2))]) (st' := [eI (0)]) rfl rfl rfl ?_
          refine b_rz rfl rfl (Or.inl rfl) ?_
          exact K0 _ (tS_tr (tS_tr s0 s1) s2) (by omega)
        · refine w_s (np := 72) (lv' := [some (eR 98), some (eI (2)), some (eI (p)), some (eI (q)), some (eI (r)), some (eI (s)), some (eI (u0)), some (eI (u1)), some (eI (u2))]) (st' := [eI (u2)]) rfl rfl rfl ?_
          refine b_igt (t1 := 79) (t2 := 75) rfl rfl rfl (ev_w_in (by omega) (by omega)) (fun g5 => ?_) (fun g5 => ?_)
          · refine w_s (np := 80) (lv' := [some (eR 98), some (eI (2)), some (eI (p)), some (eI (q)), some (eI (r)), some (eI (s)), some (eI (u0)), some (eI (u1)), some (eI (u2))]) (st' := [eI (0)]) rfl rfl rfl ?_
            refine b_rz rfl rfl (Or.inl rfl) ?_
            exact K0 _ (tS_tr (tS_tr s0 s1) s2) (by omega)
          · refine w_s (np := 76) (lv' := [some (eR 98), some (eI (2)), some (eI (p)), some (eI (q)), some (eI (r)), some (eI (s)), some (eI (u0)), some (eI (u1)), some (eI (u2))]) (st' := [eI (1)]) rfl rfl rfl ?_
            refine w_go (t1 := 80) rfl rfl ?_
            refine b_rz rfl rfl (Or.inr rfl) ?_
            exact K1 _ (tS_tr (tS_tr s0 s1) s2) (by omega)
    · refine w_s (np := 57) (lv' := [some (eR 98), some (eI (2)), some (eI (p)), some (eI (q)), some (eI (r)), some (eI (s)), some (eI (u0)), some (eI (u1)), some (eI (u2))]) (st' := [eI (u2)]) rfl rfl rfl ?_
      refine b_ige (t1 := 75) (t2 := 60) rfl rfl rfl (ev_w_in (by omega) (by omega)) (fun g3 => ?_) (fun g3 => ?_)
      · refine w_s (np := 76) (lv' := [some (eR 98), some (eI (2)), some (eI (p)), some (eI (q)), some (eI (r)), some (eI (s)), some (eI (u0)), some (eI (u1)), some (eI (u2))]) (st' := [eI (1)]) rfl rfl rfl ?_
        refine w_go (t1 := 80) rfl rfl ?_
        refine b_rz rfl rfl (Or.inr rfl) ?_
        exact K1 _ (tS_tr (tS_tr s0 s1) s2) (by omega)
      · refine w_s (np := 62) (lv' := [some (eR 98), some (eI (2)), some (eI (p)), some (eI (q)), some (eI (r)), some (eI (s)), some (eI (u0)), some (eI (u1)), some (eI (u2))]) (st' := [eI (u0)]) rfl rfl rfl ?_
        refine b_igt (t1 := 79) (t2 := 65) rfl rfl rfl (ev_w_in (by omega) (by omega)) (fun g4 => ?_) (fun g4 => ?_)
        · refine w_s (np := 80) (lv' := [some (eR 98), some (eI (2)), some (eI (p)), some (eI (q)), some (eI (r)), some (eI (s)), some (eI (u0)), some (eI (u1)), some (eI (u2))]) (st' := [eI (0)]) rfl rfl rfl ?_
          refine b_rz rfl rfl (Or.inl rfl) ?_
          exact K0 _ (tS_tr (tS_tr s0 s1) s2) (by omega)
        · refine w_s (np := 67) (lv' := [some (eR 98), some (eI (2)), some (eI (p)), some (eI (q)), some (eI (r)), some (eI (s)), some (eI (u0)), some (eI (u1)), some (eI (u2))]) (st' := [eI (u1)]) rfl rfl rfl ?_
          refine b_igt (t1 := 79) (t2 := 70) rfl rfl rfl (ev_w_in (by omega) (by omega)) (fun g5 => ?_) (fun g5 => ?_)
          · refine w_s (np := 80) (lv' := [some (eR 98), some (eI (2)), some (eI (p)), some (eI (q)), some (eI (r)), some (eI (s)), some (eI (u0)), some (eI (u1)), some (eI (u2))]) (st' := [eI (0)]) rfl rfl rfl ?_
            refine b_rz rfl rfl (Or.inl rfl) ?_
            exact K0 _ (tS_tr (tS_tr s0 s1) s2) (by omega)
          · refine w_s (np := 72) (lv' := [some (eR 98), some (eI (2)), some (eI (p)), some (eI (q)), some (eI (r)), some (eI (s)), some (eI (u0)), some (eI (u1)), some (eI (u2))]) (st' := [eI (u2)]) rfl rfl rfl ?_
            refine b_igt (t1 := 79) (t2 := 75) rfl rfl rfl (ev_w_in (by omega) (by omega)) (fun g6 => ?_) (fun g6 => ?_)
            · refine w_s (np := 80) (lv' := [some (eR 98), some (eI (2)), some (eI (p)), some (eI (q)), some (eI (r)), some (eI (s)), some (eI (u0)), some (eI (u1)), some (eI (u2))]) (st' := [eI (0)]) rfl rfl rfl ?_
              refine b_rz rfl rfl (Or.inl rfl) ?_
              exact K0 _ (tS_tr (tS_tr s0 s1) s2) (by omega)
            · refine w_s (np := 76) (lv' := [some (eR 98), some (eI (2)), some (eI (p)), some (eI (q)), some (eI (r)), some (eI (s)), some (eI (u0)), some (eI (u1)), some (eI (u2))]) (st' := [eI (1)]) rfl rfl rfl ?_
              refine w_go (t1 := 80) rfl rfl ?_
              refine b_rz rfl rfl (Or.inr rfl) ?_
              exact K1 _ (tS_tr (tS_tr s0 s1) s2) (by omega)
theorem t266_3 {fg : eG} {rc rs d : Nat} {f : eFr} {F : List eFr} {μ : eM} {p q r s : Int} (hq : tQ μ) (hp : -9999 ≤ p ∧ p ≤ 9999) (hq0 : -9999 ≤ q ∧ q ≤ 9999) (hr : -9999 ≤ r ∧ r ≤ 9999) (hs : -9999 ≤ s ∧ s ≤ 9999) (K1 : ∀ μ2 : eM, tS μ μ2 → (((0 ≤ (-1346269) * p + (-1346269) * q + (-832040) * r) ∧ (0 ≤ 514229 * p + (-514229) * r + (-832040) * s + (832040)) ∧ (0 ≤ 832040 * p + 1346269 * q + 1346269 * r + 832040 * s)) ∨ (((-1346269) * p + (-1346269) * q + (-832040) * r ≤ 0) ∧ (514229 * p + (-514229) * r + (-832040) * s + (832040) ≤ 0) ∧ (832040 * p + 1346269 * q + 1346269 * r + 832040 * s ≤ 0))) → ex_fine fg rc rs (d + 6, (f.1, f.2.1, f.2.2.1, eI 1 :: f.2.2.2), F, μ2)) (K0 : ∀ μ2 : eM, tS μ μ2 → ¬ (((0 ≤ (-1346269) * p + (-1346269) * q + (-832040) * r) ∧ (0 ≤ 514229 * p + (-514229) * r + (-832040) * s + (832040)) ∧ (0 ≤ 832040 * p + 1346269 * q + 1346269 * r + 832040 * s)) ∨ (((-1346269) * p + (-1346269) * q + (-832040) * r ≤ 0) ∧ (514229 * p + (-514229) * r + (-832040) * s + (832040) ≤ 0) ∧ (832040 * p + 1346269 * q + 1346269 * r + 832040 * s ≤ 0))) → ex_fine fg rc rs (d + 6, (f.1, f.2.1, f.2.2.1, eI 0 :: f.2.2.2), F, μ2)) : ex_fine fg rc rs (d + 5, (266, 0, [some (eR 98), some (eI (3)), some (eI (p)), some (eI (q)), some (eI (r)), some (eI (s)), none, none, none], []), f :: F, μ) := by
  refine w_s (np := 1) (lv' := [some (eR 98), some (eI (3)), some (eI (p)), some (eI (q)), some (eI (r)), some (eI (s)), none, none, none]) (st' := [eR 98]) rfl (s_an rfl (by decide)) rfl ?_
  refine w_s (np := 2) (lv' := [some (eR 98), some (eI (3)), some (eI (p)), some (eI (q)), some (eI (r)), some (eI (s)), none, none, none]) (st' := [eI (3), eR 98]) rfl rfl rfl ?_
  refine w_s (np := 3) (lv' := [some (eR 98), some (eI (3)), some (eI (p)), some (eI (q)), some (eI (r)), some (eI (s)), none, none, none]) (st' := [eI (0), eI (3), eR 98]) rfl rfl rfl ?_
  refine w_s (np := 4) (lv' := [some (eR 98), some (eI (3)), some (eI (p)), some (eI (q)), some (eI (r)), some (eI (s)), none, none, none]) (st' := [eI (1), eI (0), eI (3), eR 98]) rfl rfl rfl ?_
  refine w_s (np := 5) (lv' := [some (eR 98), some (eI (3)), some (eI (p)), some (eI (q)), some (eI (r)), some (eI (s)), none, none, none]) (st' := [eI (p), eI (1), eI (0), eI (3), eR 98]) rfl rfl rfl ?_
  refine w_s (np := 6) (lv' := [some (eR 98), some (eI (3)), some (eI (p)), some (eI (q)), some (eI (r)), some (eI (s)), none, none, none]) (st' := [eI (q), eI (p), eI (1), eI (0), eI (3), eR 98]) rfl rfl rfl ?_
  refine w_s (np := 8) (lv' := [some (eR 98), some (eI (3)), some (eI (p)), some (eI (q)), some (eI (r)), some (eI (s)), none, none, none]) (st' := [eI (r), eI (q), eI (p), eI (1), eI (0), eI (3), eR 98]) rfl rfl rfl ?_
  refine w_s (np := 10) (lv' := [some (eR 98), some (eI (3)), some (eI (p)), some (eI (q)), some (eI (r)), some (eI (s)), none, none, none]) (st' := [eI (s), eI (r), eI (q), eI (p), eI (1), eI (0), eI (3), eR 98]) rfl rfl rfl ?_
  refine w_cv (np := 13) (as := [eI (3), eI (0), eI (1), eI (p), eI (q), eI (r), eI (s)]) (lv' := [some (eR 98), some (eI (3)), some (eI (0)), some (eI (1)), some (eI (p)), some (eI (q)), some (eI (r)), some (eI (s)), none, none]) (rest := []) rfl rfl rfl (Nat.ble_eq.mp rfl) rfl rfl rfl hq.1 rfl ?_
  refine t265_3_0 hq hp hq0 hr hs ?_
  intro m0 u0 s0 e0 w0
  have q0 := tQ_s hq s0
  have b0 : -1 ≤ u0 ∧ u0 ≤ 1 := by omega
  show ex_fine fg rc rs (d + 5, (266, 13, [some (eR 98), some (eI (3)), some (eI (p)), some (eI (q)), some (eI (r)), some (eI (s)), none, none, none], [eI (u0)]), f :: F, m0)
  refine w_s (np := 15) (lv' := [some (eR 98), some (eI (3)), some (eI (p)), some (eI (q)), some (eI (r)), some (eI (s)), some (eI (u0)), none, none]) (st' := []) rfl rfl rfl ?_
  refine w_s (np := 16) (lv' := [some (eR 98), some (eI (3)), some (eI (p)), some (eI (q)), some (eI (r)), some (eI (s)), some (eI (u0)), none, none]) (st' := [eR 98]) rfl (s_an rfl (by decide)) rfl ?_
  refine w_s (np := 17) (lv' := [some (eR 98), some (eI (3)), some (eI (p)), some (eI (q)), some (eI (r)), some (eI (s)), some (eI (u0)), none, none]) (st' := [eI (3), eR 98]) rfl rfl rfl ?_
  refine w_s (np := 18) (lv' := [some (eR 98), some (eI (3)), some (eI (p)), some (eI (q)), some (eI (r)), some (eI (s)), some (eI (u0)), none, none]) (st' := [eI (1), eI (3), eR 98]) rfl rfl rfl ?_
  refine w_s (np := 19) (lv' := [some (eR 98), some (eI (3)), some (eI (p)), some (eI (q)), some (eI (r)), some (eI (s)), some (eI (u0)), none, none]) (st' := [eI (2), eI (1), eI (3), eR 98]) rfl rfl rfl ?_
  refine w_s (np := 20) (lv' := [some (eR 98), some (eI (3)), some (eI (p)), some (eI (q)), some (eI (r)), some (eI (s)), some (eI (u0)), none, none]) (st' := [eI (p), eI (2), eI (1), eI (3), eR 98]) rfl rfl rfl ?_
  refine w_s (np := 21) (lv' := [some (eR 98), some (eI (3)), some (eI (p)), some (eI (q)), some (eI (r)), some (eI (s)), some (eI (u0)), none, none]) (st' := [eI (q), eI (p), eI (2), eI (1), eI (3), eR 98]) rfl rfl rfl ?_
  refine w_s (np := 23) (lv' := [some (eR 98), some (eI (3)), some (eI (p)), some (eI (q)), some (eI (r)), some (eI (s)), some (eI (u0)), none, none]) (st' := [eI (r), eI (q), eI (p), eI (2), eI (1), eI (3), eR 98]) rfl rfl rfl ?_
  refine w_s (np := 25) (lv' := [some (eR 98), some (eI (3)), some (eI (p)), some (eI (q)), some (eI (r)), some (eI (s)), some (eI (u0)), none, none]) (st' := [eI (s), eI (r), eI (q), eI (p), eI (2), eI (1), eI (3), eR 98]) rfl rfl rfl ?_
  refine w_cv (np := 28) (as := [eI (3), eI (1), eI (2), eI (p), eI (q), eI (r), eI (s)]) (lv' := [some (eR 98), some (eI (3)), some (eI (1)), some (eI (2)), some (eI (p)), some (eI (q)), some (eI (r)), some (eI (s)), none, none]) (rest := []) rfl rfl rfl (Nat.ble_eq.mp rfl) rfl rfl rfl q0.1 rfl ?_
  refine t265_3_1 q0 hp hq0 hr hs ?_
  intro m1 u1 s1 e1 w1
  have q1 := tQ_s q0 s1
  have b1 : -1 ≤ u1 ∧ u1 ≤ 1 := by omega
  show ex_fine fg rc rs (d + 5, (266, 28, [some (eR 98), some (eI (3)), some (eI (p)), some (eI (q)), some (eI (r)), some (eI (s)), some (eI (u0)), none, none], [eI (u1)]), f :: F, m1)
  refine w_s (np := 30) (lv' := [some (eR 98), some (eI (3)), some (eI (p)), some (eI (q)), some (eI (r)), some (eI (s)), some (eI (u0)), some (eI (u1)), none]) (st' := []) rfl rfl rfl ?_
  refine w_s (np := 31) (lv' := [some (eR 98), some (eI (3)), some (eI (p)), some (eI (q)), some (eI (r)), some (eI (s)), some (eI (u0)), some (eI (u1)), none]) (st' := [eR 98]) rfl (s_an rfl (by decide)) rfl ?_
  refine w_s (np := 32) (lv' := [some (eR 98), some (eI (3)), some (eI (p)), some (eI (q)), some (eI (r)), some (eI (s)), some (eI (u0)), some (eI (u1)), none]) (st' := [eI (3), eR 98]) rfl rfl rfl ?_
  refine w_s (np := 33) (lv' := [some (eR 98), some (eI (3)), some (eI (p)), some (eI (q)), some (eI (r)), some (eI (s)), some (eI (u0)), some (eI (u1)), none]) (st' := [eI (2), eI (3), eR 98]) rfl rfl rfl ?_
  refine w_s (np := 34) (lv' := [some (eR 98), some (eI (3)), some (eI (p)), some (eI (q)), some (eI (r)), some (eI (s)), some (eI (u0)), some (eI (u1)), none]) (st' := [eI (0), eI (2), eI (3), eR 98]) rfl rfl rfl ?_
  refine w_s (np := 35) (lv' := [some (eR 98), some (eI (3)), some (eI (p)), some (eI (q)), some (eI (r)), some (eI (s)), some (eI (u0)), some (eI (u1)), none]) (st' := [eI (p), eI (0), eI (2), eI (3), eR 98]) rfl rfl rfl ?_
  refine w_s (np := 36) (lv' := [some (eR 98), some (eI (3)), some (eI (p)), some (eI (q)), some (eI (r)), some (eI (s)), some (eI (u0)), some (eI (u1)), none]) (st' := [eI (q), eI (p), eI (0), eI (2), eI (3), eR 98]) rfl rfl rfl ?_
  refine w_s (np := 38) (lv' := [some (eR 98), some (eI (3)), some (eI (p)), some (eI (q)), some (eI (r)), some (eI (s)), some (eI (u0)), some (eI (u1)), none]) (st' := [eI (r), eI (q), eI (p), eI (0), eI (2), eI (3), eR 98]) rfl rfl rfl ?_
  refine w_s (np := 40) (lv' := [some (eR 98), some (eI (3)), some (eI (p)), some (eI (q)), some (eI (r)), some (eI (s)), some (eI (u0)), some (eI (u1)), none]) (st' := [eI (s), eI (r), eI (q), eI (p), eI (0), eI (2), eI (3), eR 98]) rfl rfl rfl ?_
  refine w_cv (np := 43) (as := [eI (3), eI (2), eI (0), eI (p), eI (q), eI (r), eI (s)]) (lv' := [some (eR 98), some (eI (3)), some (eI (2)), some (eI (0)), some (eI (p)), some (eI (q)), some (eI (r)), some (eI (s)), none, none]) (rest := []) rfl rfl rfl (Nat.ble_eq.mp rfl) rfl rfl rfl q1.1 rfl ?_
  refine t265_3_2 q1 hp hq0 hr hs ?_
  intro m2 u2 s2 e2 w2
  have q2 := tQ_s q1 s2
  have b2 : -1 ≤ u2 ∧ u2 ≤ 1 := by omega
  show ex_fine fg rc rs (d + 5, (266, 43, [some (eR 98), some (eI (3)), some (eI (p)), some (eI (q)), some (eI (r)), some (eI (s)), some (eI (u0)), some (eI (u1)), none], [eI (u2)]), f :: F, m2)
  refine w_s (np := 45) (lv' := [some (eR 98), some (eI (3)), some (eI (p)), some (eI (q)), some (eI (r)), some (eI (s)), some (eI (u0)), some (eI (u1)), some (eI (u2))]) (st' := []) rfl rfl rfl ?_
  refine w_s (np := 47) (lv' := [some (eR 98), some (eI (3)), some (eI (p)), some (eI (q)), some (eI (r)), some (eI (s)), some (eI (u0)), some (eI (u1)), some (eI (u2))]) (st' := [eI (u0)]) rfl rfl rfl ?_
  refine b_ilt (t1 := 60) (t2 := 50) rfl rfl rfl (ev_w_in (by omega) (by omega)) (fun g1 => ?_) (fun g1 => ?_)
  · refine w_s (np := 62) (lv' := [some (eR 98), some (eI (3)), some (eI (p)), some (eI (q)), some (eI (r)), some (eI (s)), some (eI (u0)), some (eI (u1)), some (eI (u2))]) (st' := [eI (u0)]) rfl rfl rfl ?_
    refine b_igt (t1 := 79) (t2 := 65) rfl rfl rfl (ev_w_in (by omega) (by omega)) (fun g2 => ?_) (fun g2 => ?_)
    · refine w_s (np := 80) (lv' := [some (eR 98), some (eI (3)), some (eI (p)), some (eI (q)), some (eI (r)), some (eI (s)), some (eI (u0)), some (eI (u1)), some (eI (u2))]) (st' := [eI (0)]) rfl rfl rfl ?_
      refine b_rz rfl rfl (Or.inl rfl) ?_
      exact K0 _ (tS_tr (tS_tr s0 s1) s2) (by omega)
    · refine w_s (np := 67) (lv' := [some (eR 98), some (eI (3)), some (eI (p)), some (eI (q)), some (eI (r)), some (eI (s)), some (eI (u0)), some (eI (u1)), some (eI (u2))]) (st' := [eI (u1)]) rfl rfl rfl ?_
      refine b_igt (t1 := 79) (t2 := 70) rfl rfl rfl (ev_w_in (by omega) (by omega)) (fun g3 => ?_) (fun g3 => ?_)
      · refine w_s (np := 80) (lv' := [some (eR 98), some (eI (3)), some (eI (p)), some (eI (q)), some (eI (r)), some (eI (s)), some (eI (u0)), some (eI (u1)), some (eI (u2))]) (st' := [eI (0)]) rfl rfl rfl ?_
        refine b_rz rfl rfl (Or.inl rfl) ?_
        exact K0 _ (tS_tr (tS_tr s0 s1) s2) (by omega)
      · refine w_s (np := 72) (lv' := [some (eR 98), some (eI (3)), some (eI (p)), some (eI (q)), some (eI (r)), some (eI (s)), some (eI (u0)), some (eI (u1)), some (eI (u2))]) (st' := [eI (u2)]) rfl rfl rfl ?_
        refine b_igt (t1 := 79) (t2 := 75) rfl rfl rfl (ev_w_in (by omega) (by omega)) (fun g4 => ?_) (fun g4 => ?_)
        · refine w_s (np := 80) (lv' := [some (eR 98), some (eI (3)), some (eI (p)), some (eI (q)), some (eI (r)), some (eI (s)), some (eI (u0)), some (eI (u1)), some (eI (u2))]) (st' := [eI (0)]) rfl rfl rfl ?_
          refine b_rz rfl rfl (Or.inl rfl) ?_
          exact K0 _ (tS_tr (tS_tr s0 s1) s2) (by omega)
        · refine w_s (np := 76) (lv' := [some (eR 98), some (eI (3)), some (eI (p)), some (eI (q)), some (eI (r)), some (eI (s)), some (eI (u0)), some (eI (u1)), some (eI (u2))]) (st' := [eI (1)]) rfl rfl rfl ?_
          refine w_go (t1 := 80) rfl rfl ?_
          refine b_rz rfl rfl (Or.inr rfl) ?_
          exact K1 _ (tS_tr (tS_tr s0 s1) s2) (by omega)
  · refine w_s (np := 52) (lv' := [some (eR 98), some (eI (3)), some (eI (p)), some (eI (q)), some (eI (r)), some (eI (s)), some (eI (u0)), some (eI (u1)), some (eI (u2))]) (st' := [eI (u1)]) rfl rfl rfl ?_
    refine b_ilt (t1 := 60) (t2 := 55) rfl rfl rfl (ev_w_in (by omega) (by omega)) (fun g2 => ?_) (fun g2 => ?_)
    · refine w_s (np := 62) (lv' := [some (eR 98), some (eI (3)), some (eI (p)), some (eI (q)), some (eI (r)), some (eI (s)), some (eI (u0)), some (eI (u1)), some (eI (u2))]) (st' := [eI (u0)]) rfl rfl rfl ?_
      refine b_igt (t1 := 79) (t2 := 65) rfl rfl rfl (ev_w_in (by omega) (by omega)) (fun g3 => ?_) (fun g3 => ?_)
      · refine w_s (np := 80) (lv' := [some (eR 98), some (eI (3)), some (eI (p)), some (eI (q)), some (eI (r)), some (eI (s)), some (eI (u0)), some (eI (u1)), some (eI (u2))]) (st' := [eI (0)]) rfl rfl rfl ?_
        refine b_rz rfl rfl (Or.inl rfl) ?_
        exact K0 _ (tS_tr (tS_tr s0 s1) s2) (by omega)
      · refine w_s (np := 67) (lv' := [some (eR 98), some (eI (3)), some (eI (p)), some (eI (q)), some (eI (r)), some (eI (s)), some (eI (u0)), some (eI (u1)), some (eI (u2))]) (st' := [eI (u1)]) rfl rfl rfl ?_
        refine b_igt (t1 := 79) (t2 := 70) rfl rfl rfl (ev_w_in (by omega) (by omega)) (fun g4 => ?_) (fun g4 => ?_)
        · refine w_s (np := 80) (lv' := [some (eR 98), some (eI (3)), some (eI (p)), some (eI (q)), some (eI (r)), some (eI (s)), some (eI (u0)), some (eI (u1)), some (eI (u2))]) (st' := [eI (0)]) rfl rfl rfl ?_
          refine b_rz rfl rfl (Or.inl rfl) ?_
          exact K0 _ (tS_tr (tS_tr s0 s1) s2) (by omega)
        · refine w_s (np := 72) (lv' := [some (eR 98), some (eI (3)), some (eI (p)), some (eI (q)), some (eI (r)), some (eI (s)), some (eI (u0)), some (eI (u1)), some (eI (u2))]) (st' := [eI (u2)]) rfl rfl rfl ?_
          refine b_igt (t1 := 79) (t2 := 75) rfl rfl rfl (ev_w_in (by omega) (by omega)) (fun g5 => ?_) (fun g5 => ?_)
          · refine w_s (np := 80) (lv' := [some (eR 98), some (eI (3)), some (eI (p)), some (eI (q)), some (eI (r)), some (eI (s)), some (eI (u0)), some (eI (u1)), some (eI (u2))]) (st' := [eI (0)]) rfl rfl rfl ?_
            refine b_rz rfl rfl (Or.inl rfl) ?_
            exact K0 _ (tS_tr (tS_tr s0 s1) s2) (by omega)
          · refine w_s (np := 76) (lv' := [some (eR 98), some (eI (3)), some (eI (p)), some (eI (q)), some (eI (r)), some (eI (s)), some (eI (u0)), some (eI (u1)), some (eI (u2))]) (st' := [eI (1)]) rfl rfl rfl ?_
            refine w_go (t1 := 80) rfl rfl ?_
            refine b_rz rfl rfl (Or.inr rfl) ?_
            exact K1 _ (tS_tr (tS_tr s0 s1) s2) (by omega)
    · refine w_s (np := 57) (lv' := [some (eR 98), some (eI (3)), some (eI (p)), some (eI (q)), some (eI (r)), some (eI (s)), some (eI (u0)), some (eI (u1)), some (eI (u2))]) (st' := [eI (u2)]) rfl rfl rfl ?_
      refine b_ige (t1 := 75) (t2 := 60) rfl rfl rfl (ev_w_in (by omega) (by omega)) (fun g3 => ?_) (fun g3 => ?_)
      · refine w_s (np := 76) (lv' := [some (eR 98), some (eI (3)), some (eI (p)), some (eI (q)), some (eI (r)), some (eI (s)), some (eI (u0)), some (eI (u1)), some (eI (u2))]) (st' := [eI (1)]) rfl rfl rfl ?_
        refine w_go (t1 := 80) rfl rfl ?_
        refine b_rz rfl rfl (Or.inr rfl) ?_
        exact K1 _ (tS_tr (tS_tr s0 s1) s2) (by omega)
      · refine w_s (np := 62) (lv' := [some (eR 98), some (eI (3)), some (eI (p)), some (eI (q)), some (eI (r)), some (eI (s)), some (eI (u0)), some (eI (u1)), some (eI (u2))]) (st' := [eI (u0)]) rfl rfl rfl ?_
        refine b_igt (t1 := 79) (t2 := 65) rfl rfl rfl (ev_w_in (by omega) (by omega)) (fun g4 => ?_) (fun g4 => ?_)
        · refine w_s (np := 80) (lv' := [some (eR 98), some (eI (3)), some (eI (p)), some (eI (q)), some (eI (r)), some (eI (s)), some (eI (u0)), some (eI (u1)), some (eI (u2))]) (st' := [eI (0)]) rfl rfl rfl ?_
          refine b_rz rfl rfl (Or.inl rfl) ?_
          exact K0 _ (tS_tr (tS_tr s0 s1) s2) (by omega)
        · refine w_s (np := 67) (lv' := [some (eR 98), some (eI (3)), some (eI (p)), some (eI (q)), some (eI (r)), some (eI (s)), some (eI (u0)), some (eI (u1)), some (eI (u2))]) (st' := [eI (u1)]) rfl rfl rfl ?_
          refine b_igt (t1 := 79) (t2 := 70) rfl rfl rfl (ev_w_in (by omega) (by omega)) (fun g5 => ?_) (fun g5 => ?_)
          · refine w_s (np := 80) (lv' := [some (eR 98), some (eI (3)), some (eI (p)), some (eI (q)), some (eI (r)), some (eI (s)), some (eI (u0)), some (eI (u1)), some (eI (u2))]) (st' := [eI (0)]) rfl rfl rfl ?_
            refine b_rz rfl rfl (Or.inl rfl) ?_
            exact K0 _ (tS_tr (tS_tr s0 s1) s2) (by omega)
          · refine w_s (np := 72) (lv' := [some (eR 98), some (eI (3)), some (eI (p)), some (eI (q)), some (eI (r)), some (eI (s)), some (eI (u0)), some (eI (u1)), some (eI (u2))]) (st' := [eI (u2)]) rfl rfl rfl ?_
            refine b_igt (t1 := 79) (t2 := 75) rfl rfl rfl (ev_w_in (by omega) (by omega)) (fun g6 => ?_) (fun g6 => ?_)
            · refine w_s (np := 80) (lv' := [some (eR 98), some (eI (3)), some (eI (p)), some (eI (q)), some (eI (r)), some (eI (s)), some (eI (u0)), some (eI (u1)), some (eI (u2))]) (st' := [eI (0)]) rfl rfl rfl ?_
              refine b_rz rfl rfl (Or.inl rfl) ?_
              exact K0 _ (tS_tr (tS_tr s0 s1) s2) (by omega)
            · refine w_s (np := 76) (lv' := [some (eR 98), some (eI (3)), some (eI (p)), some (eI (q)), some (eI (r)), some (eI (s)), some (eI (u0)), some (eI (u1)), some (eI (u2))]) (st' := [eI (1)]) rfl rfl rfl ?_
              refine w_go (t1 := 80) rfl rfl ?_
              refine b_rz rfl rfl (Or.inr rfl) ?_
              exact K1 _ (tS_tr (tS_tr s0 s1) s2) (by omega)
theorem t266_4 {fg : eG} {rc rs d : Nat} {f : eFr} {F : List eFr} {μ : eM} {p q r s : Int} (hq : tQ μ) (hp : -9999 ≤ p ∧ p ≤ 9999) (hq0 : -9999 ≤ q ∧ q ≤ 9999) (hr : -9999 ≤ r ∧ r ≤ 9999) (hs : -9999 ≤ s ∧ s ≤ 9999) (K1 : ∀ μ2 : eM, tS μ μ2 → (((0 ≤ (-832040) * q + (-1346269) * r + (-1346269) * s) ∧ (0 ≤ (-832040) * p + (-514229) * q + 514229 * s + (-832040)) ∧ (0 ≤ 832040 * p + 1346269 * q + 1346269 * r + 832040 * s)) ∨ (((-832040) * q + (-1346269) * r + (-1346269) * s ≤ 0) ∧ ((-832040) * p + (-514229) * q + 514229 * s + (-832040) ≤ 0) ∧ (832040 * p + 1346269 * q + 1346269 * r + 832040 * s ≤ 0))) → ex_fine fg rc rs (d + 6, (f.1, f.2.1, f.2.2.1, eI 1 :: f.2.2.2), F, μ2)) (K0 : ∀ μ2 : eM, tS μ μ2 → ¬ (((0 ≤ (-832040) * q + (-1346269) * r + (-1346269) * s) ∧ (0 ≤ (-832040) * p + (-514229) * q + 514229 * s + (-832040)) ∧ (0 ≤ 832040 * p + 1346269 * q + 1346269 * r + 832040 * s)) ∨ (((-832040) * q + (-1346269) * r + (-1346269) * s ≤ 0) ∧ ((-832040) * p + (-514229) * q + 514229 * s + (-832040) ≤ 0) ∧ (832040 * p + 1346269 * q + 1346269 * r + 832040 * s ≤ 0))) → ex_fine fg rc rs (d + 6, (f.1, f.2.1, f.2.2.1, eI 0 :: f.2.2.2), F, μ2)) : ex_fine fg rc rs (d + 5, (266, 0, [some (eR 98), some (eI (4)), some (eI (p)), some (eI (q)), some (eI (r)), some (eI (s)), none, none, none], []), f :: F, μ) := by
  refine w_s (np := 1) (lv' := [some (eR 98), some (eI (4)), some (eI (p)), some (eI (q)), some (eI (r)), some (eI (s)), none, none, none]) (st' := [eR 98]) rfl (s_an rfl (by decide)) rfl ?_
  refine w_s (np := 2) (lv' := [some (eR 98), some (eI (4)), some (eI (p)), some (eI (q)), some (eI (r)), some (eI (s)), none, none, none]) (st' := [eI (4), eR 98]) rfl rfl rfl ?_
  refine w_s (np := 3) (lv' := [some (eR 98), some (eI (4)), some (eI (p)), some (eI (q)), some (eI (r)), some (eI (s)), none, none, none]) (st' := [eI (0), eI (4), eR 98]) rfl rfl rfl ?_
  refine w_s (np := 4) (lv' := [some (eR 98), some (eI (4)), some (eI (p)), some (eI (q)), some (eI (r)), some (eI (s)), none, none, none]) (st' := [eI (1), eI (0), eI (4), eR 98]) rfl rfl rfl ?_
  refine w_s (np := 5) (lv' := [some (eR 98), some (eI (4)), some (eI (p)), some (eI (q)), some (eI (r)), some (eI (s)), none, none, none]) (st' := [eI (p), eI (1), eI (0), eI (4), eR 98]) rfl rfl rfl ?_
  refine w_s (np := 6) (lv' := [some (eR 98), some (eI (4)), some (eI (p)), some (eI (q)), some (eI (r)), some (eI (s)), none, none, none]) (st' := [eI (q), eI (p), eI (1), eI (0), eI (4), eR 98]) rfl rfl rfl ?_
  refine w_s (np := 8) (lv' := [some (eR 98), some (eI (4)), some (eI (p)), some (eI (q)), some (eI (r)), some (eI (s)), none, none, none]) (st' := [eI (r), eI (q), eI (p), eI (1), eI (0), eI (4), eR 98]) rfl rfl rfl ?_
  refine w_s (np := 10) (lv' := [some (eR 98), some (eI (4)), some (eI (p)), some (eI (q)), some (eI (r)), some (eI (s)), none, none, none]) (st' := [eI (s), eI (r), eI (q), eI (p), eI (1), eI (0), eI (4), eR 98]) rfl rfl rfl ?_
  refine w_cv (np := 13) (as := [eI (4), eI (0), eI (1), eI (p), eI (q), eI (r), eI (s)]) (lv' := [some (eR 98), some (eI (4)), some (eI (0)), some (eI (1)), some (eI (p)), some (eI (q)), some (eI (r)), some (eI (s)), none, none]) (rest := []) rfl rfl rfl (Nat.ble_eq.mp rfl) rfl rfl rfl hq.1 rfl ?_
  refine t265_4_0 hq hp hq0 hr hs ?_
  intro m0 u0 s0 e0 w0
  have q0 := tQ_s hq s0
  have b0 : -1 ≤ u0 ∧ u0 ≤ 1 := by omega
  show ex_fine fg rc rs (d + 5, (266, 13, [some (eR 98), some (eI (4)), some (eI (p)), some (eI (q)), some (eI (r)), some (eI (s)), none, none, none], [eI (u0)]), f :: F, m0)
  refine w_s (np := 15) (lv' := [some (eR 98), some (eI (4)), some (eI (p)), some (eI (q)), some (eI (r)), some (eI (s)), some (eI (u0)), none, none]) (st' := []) rfl rfl rfl ?_
  refine w_s (np := 16) (lv' := [some (eR 98), some (eI (4)), some (eI (p)), some (eI (q)), some (eI (r)), some (eI (s)), some (eI (u0)), none, none]) (st' := [eR 98]) rfl (s_an rfl (by decide)) rfl ?_
  refine w_s (np := 17) (lv' := [some (eR 98), some (eI (4)), some (eI (p)), some (eI (q)), some (eI (r)), some (eI (s)), some (eI (u0)), none, none]) (st' := [eI (4), eR 98]) rfl rfl rfl ?_
  refine w_s (np := 18) (lv' := [some (eR 98), some (eI (4)), some (eI (p)), some (eI (q)), some (eI (r)), some (eI (s)), some (eI (u0)), none, none]) (st' := [eI (1), eI (4), eR 98]) rfl rfl rfl ?_
  refine w_s (np := 19) (lv' := [some (eR 98), some (eI (4)), some (eI (p)), some (eI (q)), some (eI (r)), some (eI (s)), some (eI (u0)), none, none]) (st' := [eI (2), eI (1), eI (4), eR 98]) rfl rfl rfl ?_
  refine w_s (np := 20) (lv' := [some (eR 98), some (eI (4)), some (eI (p)), some (eI (q)), some (eI (r)), some (eI (s)), some (eI (u0)), none, none]) (st' := [eI (p), eI (2), eI (1), eI (4), eR 98]) rfl rfl rfl ?_
  refine w_s (np := 21) (lv' := [some (eR 98), some (eI (4)), some (eI (p)), some (eI (q)), some (eI (r)), some (eI (s)), some (eI (u0)), none, none]) (st' := [eI (q), eI (p), eI (2), eI (1), eI (4), eR 98]) rfl rfl rfl ?_
  refine w_s (np := 23) (lv' := [some (eR 98), some (eI (4)), some (eI (p)), some (eI (q)), some (eI (r)), some (eI (s)), some (eI (u0)), none, none]) (st' := [eI (r), eI (q), eI (p), eI (2), eI (1), eI (4), eR 98]) rfl rfl rfl ?_
  refine w_s (np := 25) (lv' := [some (eR 98), some (eI (4)), some (eI (p)), some (eI (q)), some (eI (r)), some (eI (s)), some (eI (u0)), none, none]) (st' := [eI (s), eI (r), eI (q), eI (p), eI (2), eI (1), eI (4), eR 98]) rfl rfl rfl ?_
  refine w_cv (np := 28) (as := [eI (4), eI (1), eI (2), eI (p), eI (q), eI (r), eI (s)]) (lv' := [some (eR 98), some (eI (4)), some (eI (1)), some (eI (2)), some (eI (p)), some (eI (q)), some (eI (r)), some (eI (s)), none, none]) (rest := []) rfl rfl rfl (Nat.ble_eq.mp rfl) rfl rfl rfl q0.1 rfl ?_
  refine t265_4_1 q0 hp hq0 hr hs ?_
  intro m1 u1 s1 e1 w1
  have q1 := tQ_s q0 s1
  have b1 : -1 ≤ u1 ∧ u1 ≤ 1 := by omega
  show ex_fine fg rc rs (d + 5, (266, 28, [some (eR 98), some (eI (4)), some (eI (p)), some (eI (q)), some (eI (r)), some (eI (s)), some (eI (u0)), none, none], [eI (u1)]), f :: F, m1)
  refine w_s (np := 30) (lv' := [some (eR 98), some (eI (4)), some (eI (p)), some (eI (q)), some (eI (r)), some (eI (s)), some (eI (u0)), some (eI (u1)), none]) (st' := []) rfl rfl rfl ?_
  refine w_s (np := 31) (lv' := [some (eR 98), some (eI (4)), some (eI (p)), some (eI (q)), some (eI (r)), some (eI (s)), some (eI (u0)), some (eI (u1)), none]) (st' := [eR 98]) rfl (s_an rfl (by decide)) rfl ?_
  refine w_s (np := 32) (lv' := [some (eR 98), some (eI (4)), some (eI (p)), some (eI (q)), some (eI (r)), some (eI (s)), some (eI (u0)), some (eI (u1)), none]) (st' := [eI (4), eR 98]) rfl rfl rfl ?_
  refine w_s (np := 33) (lv' := [some (eR 98), some (eI (4)), some (eI (p)), some (eI (q)), some (eI (r)), some (eI (s)), some (eI (u0)), some (eI (u1)), none]) (st' := [eI (2), eI (4), eR 98]) rfl rfl rfl ?_
  refine w_s (np := 34) (lv' := [some (eR 98), some (eI (4)), some (eI (p)), some (eI (q)), some (eI (r)), some (eI (s)), some (eI (u0)), some (eI (u1)), none]) (st' := [eI (0), eI (2), eI (4), eR 98]) rfl rfl rfl ?_
  refine w_s (np := 35) (lv' := [some (eR 98), some (eI (4)), some (eI (p)), some (eI (q)), some (eI (r)), some (eI (s)), some (eI (u0)), some (eI (u1)), none]) (st' := [eI (p), eI (0), eI (2), eI (4), eR 98]) rfl rfl rfl ?_
  refine w_s (np := 36) (lv' := [some (eR 98), some (eI (4)), some (eI (p)), some (eI (q)), some (eI (r)), some (eI (s)), some (eI (u0)), some (eI (u1)), none]) (st' := [eI (q), eI (p), eI (0), eI (2), eI (4), eR 98]) rfl rfl rfl ?_
  refine w_s (np := 38) (lv' := [some (eR 98), some (eI (4)), some (eI (p)), some (eI (q)), some (eI (r)), some (eI (s)), some (eI (u0)), some (eI (u1)), none]) (st' := [eI (r), eI (q), eI (p), eI (0), eI (2), eI (4), eR 98]) rfl rfl rfl ?_
  refine w_s (np := 40) (lv' := [some (eR 98), some (eI (4)), some (eI (p)), some (eI (q)), some (eI (r)), some (eI (s)), some (eI (u0)), some (eI (u1)), none]) (st' := [eI (s), eI (r), eI (q), eI (p), eI (0), eI (2), eI (4), eR 98]) rfl rfl rfl ?_
  refine w_cv (np := 43) (as := [eI (4), eI (2), eI (0), eI (p), eI (q), eI (r), eI (s)]) (lv' := [some (eR 98), some (eI (4)), some (eI (2)), some (eI (0)), some (eI (p)), some (eI (q)), some (eI (r)), some (eI (s)), none, none]) (rest := []) rfl rfl rfl (Nat.ble_eq.mp rfl) rfl rfl rfl q1.1 rfl ?_
  refine t265_4_2 q1 hp hq0 hr hs ?_
  intro m2 u2 s2 e2 w2
  have q2 := tQ_s q1 s2
  have b2 : -1 ≤ u2 ∧ u2 ≤ 1 := by omega
  show ex_fine fg rc rs (d + 5, (266, 43, [some (eR 98), some (eI (4)), some (eI (p)), some (eI (q)), some (eI (r)), some (eI (s)), some (eI (u0)), some (eI (u1)), none], [eI (u2)]), f :: F, m2)
  refine w_s (np := 45) (lv' := [some (eR 98), some (eI (4)), some (eI (p)), some (eI (q)), some (eI (r)), some (eI (s)), some (eI (u0)), some (eI (u1)), some (eI (u2))]) (st' := []) rfl rfl rfl ?_
  refine w_s (np := 47) (lv' := [some (eR 98), some (eI (4)), some (eI (p)), some (eI (q)), some (eI (r)), some (eI (s)), some (eI (u0)), some (eI (u1)), some (eI (u2))]) (st' := [eI (u0)]) rfl rfl rfl ?_
  refine b_ilt (t1 := 60) (t2 := 50) rfl rfl rfl (ev_w_in (by omega) (by omega)) (fun g1 => ?_) (fun g1 => ?_)
  · refine w_s (np := 62) (lv' := [some (eR 98), some (eI (4)), some (eI (p)), some (eI (q)), some (eI (r)), some (eI (s)), some (eI (u0)), some (eI (u1)), some (eI (u2))]) (st' := [eI (u0)]) rfl rfl rfl ?_
    refine b_igt (t1 := 79) (t2 := 65) rfl rfl rfl (ev_w_in (by omega) (by omega)) (fun g2 => ?_) (fun g2 => ?_)
    · refine w_s (np := 80) (lv' := [some (eR 98), some (eI (4)), some (eI (p)), some (eI (q)), some (eI (r)), some (eI (s)), some (eI (u0)), some (eI (u1)), some (eI (u2))]) (st' := [eI (0)]) rfl rfl rfl ?_
      refine b_rz rfl rfl (Or.inl rfl) ?_
      exact K0 _ (tS_tr (tS_tr s0 s1) s2) (by omega)
    · refine w_s (np := 67) (lv' := [some (eR 98), some (eI (4)), some (eI (p)), some (eI (q)), some (eI (r)), some (eI (s)), some (eI (u0)), some (eI (u1)), some (eI (u2))]) (st' := [eI (u1)]) rfl rfl rfl ?_
      refine b_igt (t1 := 79) (t2 := 70) rfl rfl rfl (ev_w_in (by omega) (by omega)) (fun g3 => ?_) (fun g3 => ?_)
      · refine w_s (np := 80) (lv' := [some (eR 98), some (eI (4)), some (eI (p)), some (eI (q)), some (eI (r)), some (eI (s)), some (eI (u0)), some (eI (u1)), some (eI (u2))]) (st' := [eI (0)]) rfl rfl rfl ?_
        refine b_rz rfl rfl (Or.inl rfl) ?_
        exact K0 _ (tS_tr (tS_tr s0 s1) s2) (by omega)
      · refine w_s (np := 72) (lv' := [some (eR 98), some (eI (4)), some (eI (p)), some (eI (q)), some (eI (r)), some (eI (s)), some (eI (u0)), some (eI (u1)), some (eI (u2))]) (st' := [eI (u2)]) rfl rfl rfl ?_
        refine b_igt (t1 := 79) (t2 := 75) rfl rfl rfl (ev_w_in (by omega) (by omega)) (fun g4 => ?_) (fun g4 => ?_)
        · refine w_s (np := 80) (lv' := [some (eR 98), some (eI (4)), some (eI (p)), some (eI (q)), some (eI (r)), some (eI (s)), some (eI (u0)), some (eI (u1)), some (eI (u2))]) (st' := [eI (0)]) rfl rfl rfl ?_
          refine b_rz rfl rfl (Or.inl rfl) ?_
          exact K0 _ (tS_tr (tS_tr s0 s1) s2) (by omega)
        · refine w_s (np := 76) (lv' := [some (eR 98), some (eI (4)), some (eI (p)), some (eI (q)), some (eI (r)), some (eI (s)), some (eI (u0)), some (eI (u1)), some (eI (u2))]) (st' := [eI (1)]) rfl rfl rfl ?_
          refine w_go (t1 := 80) rfl rfl ?_
          refine b_rz rfl rfl (Or.inr rfl) ?_
          exact K1 _ (tS_tr (tS_tr s0 s1) s2) (by omega)
  · refine w_s (np := 52) (lv' := [some (eR 98), some (eI (4)), some (eI (p)), some (eI (q)), some (eI (r)), some (eI (s)), some (eI (u0)), some (eI (u1)), some (eI (u2))]) (st' := [eI (u1)]) rfl rfl rfl ?_
    refine b_ilt (t1 := 60) (t2 := 55) rfl rfl rfl (ev_w_in (by omega) (by omega)) (fun g2 => ?_) (fun g2 => ?_)
    · refine w_s (np := 62) (lv' := [some (eR 98), some (eI (4)), some (eI (p)), some (eI (q)), some (eI (r)), some (eI (s)), some (eI (u0)), some (eI (u1)), some (eI (u2))]) (st' := [eI (u0)]) rfl rfl rfl ?_
      refine b_igt (t1 := 79) (t2 := 65) rfl rfl rfl (ev_w_in (by omega) (by omega)) (fun g3 => ?_) (fun g3 => ?_)
      · refine w_s (np := 80) (lv' := [some (eR 98), some (eI (4)), some (eI (p)), some (eI (q)), some (eI (r)), some (eI (s)), some (eI (u0)), some (eI (u1)), some (eI (u2))]) (st' := [eI (0)]) rfl rfl rfl ?_
        refine b_rz rfl rfl (Or.inl rfl) ?_
        exact K0 _ (tS_tr (tS_tr s0 s1) s2) (by omega)
      · refine w_s (np := 67) (lv' := [some (eR 98), some (eI (4)), some (eI (p)), some (eI (q)), some (eI (r)), some (eI (s)), some (eI (u0)), some (eI (u1)), some (eI (u2))]) (st' := [eI (u1)]) rfl rfl rfl ?_
        refine b_igt (t1 := 79) (t2 := 70) rfl rfl rfl (ev_w_in (by omega) (by omega)) (fun g4 => ?_) (fun g4 => ?_)
        · refine w_s (np := 80) (lv' := [some (eR 98), some (eI (4)), some (eI (p)), some (eI (q)), some (eI (r)), some (eI (s)), some (eI (u0)), some (eI (u1)), some (eI (u2))]) (st' := [eI (0)]) rfl rfl rfl ?_
          refine b_rz rfl rfl (Or.inl rfl) ?_
          exact K0 _ (tS_tr (tS_tr s0 s1) s2) (by omega)
        · refine w_s (np := 72) (lv' := [some (eR 98), some (eI (4)), some (eI (p)), some (eI (q)), some (eI (r)), some (eI (s)), some (eI (u0)), some (eI (u1)), some (eI (u2))]) (st' := [eI (u2)]) rfl rfl rfl ?_
          refine b_igt (t1 := 79) (t2 := 75) rfl rfl rfl (ev_w_in (by omega) (by omega)) (fun g5 => ?_) (fun g5 => ?_)
          · refine w_s (np := 80) (lv' := [some (eR 98), some (eI (4)), some (eI (p)), some (eI (q)), some (eI (r)), some (eI (s)), some (eI (u0)), some (eI (u1)), some (eI (u2))]) (st' := [eI (0)]) rfl rfl rfl ?_
            refine b_rz rfl rfl (Or.inl rfl) ?_
            exact K0 _ (tS_tr (tS_tr s0 s1) s2) (by omega)
          · refine w_s (np := 76) (lv' := [some (eR 98), some (eI (4)), some (eI (p)), some (eI (q)), some (eI (r)), some (eI (s)), some (eI (u0)), some (eI (u1)), some (eI (u2))]) (st' := [eI (1)]) rfl rfl rfl ?_
            refine w_go (t1 := 80) rfl rfl ?_
            refine b_rz rfl rfl (Or.inr rfl) ?_
            exact K1 _ (tS_tr (tS_tr s0 s1) s2) (by omega)
    · refine w_s (np := 57) (lv' := [some (eR 98), some (eI (4)), some (eI (p)), some (eI (q)), some (eI (r)), some (eI (s)), some (eI (u0)), some (eI (u1)), some (eI (u2))]) (st' := [eI (u2)]) rfl rfl rfl ?_
      refine b_ige (t1 := 75) (t2 := 60) rfl rfl rfl (ev_w_in (by omega) (by omega)) (fun g3 => ?_) (fun g3 => ?_)
      · refine w_s (np := 76) (lv' := [some (eR 98), some (eI (4)), some (eI (p)), some (eI (q)), some (eI (r)), some (eI (s)), some (eI (u0)), some (eI (u1)), some (eI (u2))]) (st' := [eI (1)]) rfl rfl rfl ?_
        refine w_go (t1 := 80) rfl rfl ?_
        refine b_rz rfl rfl (Or.inr rfl) ?_
        exact K1 _ (tS_tr (tS_tr s0 s1) s2) (by omega)
      · refine w_s (np := 62) (lv' := [some (eR 98), some (eI (4)), some (eI (p)), some (eI (q)), some (eI (r)), some (eI (s)), some (eI (u0)), some (eI (u1)), some (eI (u2))]) (st' := [eI (u0)]) rfl rfl rfl ?_
        refine b_igt (t1 := 79) (t2 := 65) rfl rfl rfl (ev_w_in (by omega) (by omega)) (fun g4 => ?_) (fun g4 => ?_)
        · refine w_s (np := 80) (lv' := [some (eR 98), some (eI (4)), some (eI (p)), some (eI (q)), some (eI (r)), some (eI (s)), some (eI (u0)), some (eI (u1)), some (eI (u2))]) (st' := [eI (0)]) rfl rfl rfl ?_
          refine b_rz rfl rfl (Or.inl rfl) ?_
          exact K0 _ (tS_tr (tS_tr s0 s1) s2) (by omega)
        · refine w_s (np := 67) (lv' := [some (eR 98), some (eI (4)), some (eI (p)), some (eI (q)), some (eI (r)), some (eI (s)), some (eI (u0)), some (eI (u1)), some (eI (u2))]) (st' := [eI (u1)]) rfl rfl rfl ?_
          refine b_igt (t1 := 79) (t2 := 70) rfl rfl rfl (ev_w_in (by omega) (by omega)) (fun g5 => ?_) (fun g5 => ?_)
          · refine w_s (np := 80) (lv' := [some (eR 98), some (eI (4)), some (eI (p)), some (eI (q)), some (eI (r)), some (eI (s)), some (eI (u0)), some (eI (u1)), some (eI (u2))]) (st' := [eI (0)]) rfl rfl rfl ?_
            refine b_rz rfl rfl (Or.inl rfl) ?_
            exact K0 _ (tS_tr (tS_tr s0 s1) s2) (by omega)
          · refine w_s (np := 72) (lv' := [some (eR 98), some (eI (4)), some (eI (p)), some (eI (q)), some (eI (r)), some (eI (s)), some (eI (u0)), some (eI (u1)), some (eI (u2))]) (st' := [eI (u2)]) rfl rfl rfl ?_
            refine b_igt (t1 := 79) (t2 := 75) rfl rfl rfl (ev_w_in (by omega) (by omega)) (fun g6 => ?_) (fun g6 => ?_)
            · refine w_s (np := 80) (lv' := [some (eR 98), some (eI (4)), some (eI (p)), some (eI (q)), some (eI (r)), some (eI (s)), some (eI (u0)), some (eI (u1)), some (eI (u2))]) (st' := [eI (0)]) rfl rfl rfl ?_
              refine b_rz rfl rfl (Or.inl rfl) ?_
              exact K0 _ (tS_tr (tS_tr s0 s1) s2) (by omega)
            · refine w_s (np := 76) (lv' := [some (eR 98), some (eI (4)), some (eI (p)), some (eI (q)), some (eI (r)), some (eI (s)), some (eI (u0)), some (eI (u1)), some (eI (u2))]) (st' := [eI (1)]) rfl rfl rfl ?_
              refine w_go (t1 := 80) rfl rfl ?_
              refine b_rz rfl rfl (Or.inr rfl) ?_
              exact K1 _ (tS_tr (tS_tr s0 s1) s2) (by omega)
theorem t266_5 {fg : eG} {rc rs d : Nat} {f : eFr} {F : List eFr} {μ : eM} {p q r s : Int} (hq : tQ μ) (hp : -9999 ≤ p ∧ p ≤ 9999) (hq0 : -9999 ≤ q ∧ q ≤ 9999) (hr : -9999 ≤ r ∧ r ≤ 9999) (hs : -9999 ≤ s ∧ s ≤ 9999) (K1 : ∀ μ2 : eM, tS μ μ2 → (((0 ≤ (-832040) * q + (-1346269) * r + (-1346269) * s) ∧ (0 ≤ 832040 * p + 832040 * q + 514229 * r + (832040)) ∧ (0 ≤ (-832040) * p + 832040 * r + 1346269 * s)) ∨ (((-832040) * q + (-1346269) * r + (-1346269) * s ≤ 0) ∧ (832040 * p + 832040 * q + 514229 * r + (832040) ≤ 0) ∧ ((-832040) * p + 832040 * r + 1346269 * s ≤ 0))) → ex_fine fg rc rs (d + 6, (f.1, f.2.1, f.2.2.1, eI 1 :: f.2.2.2), F, μ2)) (K0 : ∀ μ2 : eM, tS μ μ2 → ¬ (((0 ≤ (-832040) * q + (-1346269) * r + (-1346269) * s) ∧ (0 ≤ 832040 * p + 832040 * q + 514229 * r + (832040)) ∧ (0 ≤ (-832040) * p + 832040 * r + 1346269 * s)) ∨ (((-832040) * q + (-1346269) * r + (-1346269) * s ≤ 0) ∧ (832040 * p + 832040 * q + 514229 * r + (832040) ≤ 0) ∧ ((-832040) * p + 832040 * r + 1346269 * s ≤ 0))) → ex_fine fg rc rs (d + 6, (f.1, f.2.1, f.2.2.1, eI 0 :: f.2.2.2), F, μ2)) : ex_fine fg rc rs (d + 5, (266, 0, [some (eR 98), some (eI (5)), some (eI (p)), some (eI (q)), some (eI (r)), some (eI (s)), none, none, none], []), f :: F, μ) := by
  refine w_s (np := 1) (lv' := [some (eR 98), some (eI (5)), some (eI (p)), some (eI (q)), some (eI (r)), some (eI (s)), none, none, none]) (st' := [eR 98]) rfl (s_an rfl (by decide)) rfl ?_
  refine w_s (np := 2) (lv' := [some (eR 98), some (eI (5)), some (eI (p)), some (eI (q)), some (eI (r)), some (eI (s)), none, none, none]) (st' := [eI (5), eR 98]) rfl rfl rfl ?_
  refine w_s (np := 3) (lv' := [some (eR 98), some (eI (5)), some (eI (p)), some (eI (q)), some (eI (r)), some (eI (s)), none, none, none]) (st' := [eI (0), eI (5), eR 98]) rfl rfl rfl ?_
  refine w_s (np := 4) (lv' := [some (eR 98), some (eI (5)), some (eI (p)), some (eI (q)), some (eI (r)), some (eI (s)), none, none, none]) (st' := [eI (1), eI (0), eI (5), eR 98]) rfl rfl rfl ?_
  refine w_s (np := 5) (lv' := [some (eR 98), some (eI (5)), some (eI (p)), some (eI (q)), some (eI (r)), some (eI (s)), none, none, none]) (st' := [eI (p), eI (1), eI (0), eI (5), eR 98]) rfl rfl rfl ?_
  refine w_s (np := 6) (lv' := [some (eR 98), some (eI (5)), some (eI (p)), some (eI (q)), some (eI (r)), some (eI (s)), none, none, none]) (st' := [eI (q), eI (p), eI (1), eI (0), eI (5), eR 98]) rfl rfl rfl ?_
  refine w_s (np := 8) (lv' := [some (eR 98), some (eI (5)), some (eI (p)), some (eI (q)), some (eI (r)), some (eI (s)), none, none, none]) (st' := [eI (r), eI (q), eI (p), eI (1), eI (0), eI (5), eR 98]) rfl rfl rfl ?_
  refine w_s (np := 10) (lv' := [some (eR 98), some (eI (5)), some (eI (p)), some (eI (q)), some (eI (r)), some (eI (s)), none, none, none]) (st' := [eI (s), eI (r), eI (q), eI (p), eI (1), eI (0), eI (5), eR 98]) rfl rfl rfl ?_
  refine w_cv (np := 13) (as := [eI (5), eI (0), eI (1), eI (p), eI (q), eI (r), eI (s)]) (lv' := [some (eR 98), some (eI (5)), some (eI (0)), some (eI (1)), some (eI (p)), some (eI (q)), some (eI (r)), some (eI (s)), none, none]) (rest := []) rfl rfl rfl (Nat.ble_eq.mp rfl) rfl rfl rfl hq.1 rfl ?_
  refine t265_5_0 hq hp hq0 hr hs ?_
  intro m0 u0 s0 e0 w0
  have q0 := tQ_s hq s0
  have b0 : -1 ≤ u0 ∧ u0 ≤ 1 := by omega
  show ex_fine fg rc rs (d + 5, (266, 13, [some (eR 98), some (eI (5)), some (eI (p)), some (eI (q)), some (eI (r)), some (eI (s)), none, none, none], [eI (u0)]), f :: F, m0)
  refine w_s (np := 15) (lv' := [some (eR 98), some (eI (5)), some (eI (p)), some (eI (q)), some (eI (r)), some (eI (s)), some (eI (u0)), none, none]) (st' := []) rfl rfl rfl ?_
  refine w_s (np := 16) (lv' := [some (eR 98), some (eI (5)), some (eI (p)), some (eI (q)), some (eI (r)), some (eI (s)), some (eI (u0)), none, none]) (st' := [eR 98]) rfl (s_an rfl (by decide)) rfl ?_
  refine w_s (np := 17) (lv' := [some (eR 98), some (eI (5)), some (eI (p)), some (eI (q)), some (eI (r)), some (eI (s)), some (eI (u0)), none, none]) (st' := [eI (5), eR 98]) rfl rfl rfl ?_
  refine w_s (np := 18) (lv' := [some (eR 98), some (eI (5)), some (eI (p)), some (eI (q)), some (eI (r)), some (eI (s)), some (eI (u0)), none, none]) (st' := [eI (1), eI (5), eR 98]) rfl rfl rfl ?_
  refine w_s (np := 19) (lv' := [some (eR 98), some (eI (5)), some (eI (p)), some (eI (q)), some (eI (r)), some (eI (s)), some (eI (u0)), none, none]) (st' := [eI (2), eI (1), eI (5), eR 98]) rfl rfl rfl ?_
  refine w_s (np := 20) (lv' := [some (eR 98), some (eI (5)), some (eI (p)), some (eI (q)), some (eI (r)), some (eI (s)), some (eI (u0)), none, none]) (st' := [eI (p), eI (2), eI (1), eI (5), eR 98]) rfl rfl rfl ?_
  refine w_s (np := 21) (lv' := [some (eR 98), some (eI (5)), some (eI (p)), some (eI (q)), some (eI (r)), some (eI (s)), some (eI (u0)), none, none]) (st' := [eI (q), eI (p), eI (2), eI (1), eI (5), eR 98]) rfl rfl rfl ?_
  refine w_s (np := 23) (lv' := [some (eR 98), some (eI (5)), some (eI (p)), some (eI (q)), some (eI (r)), some (eI (s)), some (eI (u0)), none, none]) (st' := [eI (r), eI (q), eI (p), eI (2), eI (1), eI (5), eR 98]) rfl rfl rfl ?_
  refine w_s (np := 25) (lv' := [some (eR 98), some (eI (5)), some (eI (p)), some (eI (q)), some (eI (r)), some (eI (s)), some (eI (u0)), none, none]) (st' := [eI (s), eI (r), eI (q), eI (p), eI (2), eI (1), eI (5), eR 98]) rfl rfl rfl ?_
  refine w_cv (np := 28) (as := [eI (5), eI (1), eI (2), eI (p), eI (q), eI (r), eI (s)]) (lv' := [some (eR 98), some (eI (5)), some (eI (1)), some (eI (2)), some (eI (p)), some (eI (q)), some (eI (r)), some (eI (s)), none, none]) (rest := []) rfl rfl rfl (Nat.ble_eq.mp rfl) rfl rfl rfl q0.1 rfl ?_
  refine t265_5_1 q0 hp hq0 hr hs ?_
  intro m1 u1 s1 e1 w1
  have q1 := tQ_s q0 s1
  have b1 : -1 ≤ u1 ∧ u1 ≤ 1 := by omega
  show ex_fine fg rc rs (d + 5, (266, 28, [some (eR 98), some (eI (5)), some (eI (p)), some (eI (q)), some (eI (r)), some (eI (s)), some (eI (u0)), none, none], [eI (u1)]), f :: F, m1)
  refine w_s (np := 30) (lv' := [some (eR 98), some (eI (5)), some (eI (p)), some (eI (q)), some (eI (r)), some (eI (s)), some (eI (u0)), some (eI (u1)), none]) (st' := []) rfl rfl rfl ?_
  refine w_s (np := 31) (lv' := [some (eR 98), some (eI (5)), some (eI (p)), some (eI (q)), some (eI (r)), some (eI (s)), some (eI (u0)), some (eI (u1)), none]) (st' := [eR 98]) rfl (s_an rfl (by decide)) rfl ?_
  refine w_s (np := 32) (lv' := [some (eR 98), some (eI (5)), some (eI (p)), some (eI (q)), some (eI (r)), some (eI (s)), some (eI (u0)), some (eI (u1)), none]) (st' := [eI (5), eR 98]) rfl rfl rfl ?_
  refine w_s (np := 33) (lv' := [some (eR 98), some (eI (5)), some (eI (p)), some (eI (q)), some (eI (r)), some (eI (s)), some (eI (u0)), some (eI (u1)), none]) (st' := [eI (2), eI (5), eR 98]) rfl rfl rfl ?_
  refine w_s (np := 34) (lv' := [some (eR 98), some (eI (5)), some (eI (p)), some (eI (q)), some (eI (r)), some (eI (s)), some (eI (u0)), some (eI (u1)), none]) (st' := [eI (0), eI (2), eI (5), eR 98]) rfl rfl rfl ?_
  refine w_s (np := 35) (lv' := [some (eR 98), some (eI (5)), some (eI (p)), some (eI (q)), some (eI (r)), some (eI (s)), some (eI (u0)), some (eI (u1)), none]) (st' := [eI (p), eI (0), eI (2), eI (5), eR 98]) rfl rfl rfl ?_
  refine w_s (np := 36) (lv' := [some (eR 98), some (eI (5)), some (eI (p)), some (eI (q)), some (eI (r)), some (eI (s)), some (eI (u0)), some (eI (u1)), none]) (st' := [eI (q), eI (p), eI (0), eI (2), eI (5), eR 98]) rfl rfl rfl ?_
  refine w_s (np := 38) (lv' := [some (eR 98), some (eI (5)), some (eI (p)), some (eI (q)), some (eI (r)), some (eI (s)), some (eI (u0)), some (eI (u1)), none]) (st' := [eI (r), eI (q), eI (p), eI (0), eI (2), eI (5), eR 98]) rfl rfl rfl ?_
  refine w_s (np := 40) (lv' := [some (eR 98), some (eI (5)), some (eI (p)), some (eI (q)), some (eI (r)), some (eI (s)), some (eI (u0)), some (eI (u1)), none]) (st' := [eI (s), eI (r), eI (q), eI (p), eI (0), eI (2), eI (5), eR 98]) rfl rfl rfl ?_
  refine w_cv (np := 43) (as := [eI (5), eI (2), eI (0), eI (p), eI (q), eI (r), eI (s)]) (lv' := [some (eR 98), some (eI (5)), some (eI (2)), some (eI (0)), some (eI (p)), some (eI (q)), some (eI (r)), some (eI (s)), none, none]) (rest := []) rfl rfl rfl (Nat.ble_eq.mp rfl) rfl rfl rfl q1.1 rfl ?_
  refine t265_5_2 q1 hp hq0 hr hs ?_
  intro m2 u2 s2 e2 w2
  have q2 := tQ_s q1 s2
  have b2 : -1 ≤ u2 ∧ u2 ≤ 1 := by omega
  show ex_fine fg rc rs (d + 5, (266, 43, [some (eR 98), some (eI (5)), some (eI (p)), some (eI (q)), some (eI (r)), some (eI (s)), some (eI (u0)), some (eI (u1)), none], [eI (u2)]), f :: F, m2)
  refine w_s (np := 45) (lv' := [some (eR 98), some (eI (5)), some (eI (p)), some (eI (q)), some (eI (r)), some (eI (s)), some (eI (u0)), some (eI (u1)), some (eI (u2))]) (st' := []) rfl rfl rfl ?_
  refine w_s (np := 47) (lv' := [some (eR 98), some (eI (5)), some (eI (p)), some (eI (q)), some (eI (r)), some (eI (s)), some (eI (u0)), some (eI (u1)), some (eI (u2))]) (st' := [eI (u0)]) rfl rfl rfl ?_
  refine b_ilt (t1 := 60) (t2 := 50) rfl rfl rfl (ev_w_in (by omega) (by omega)) (fun g1 => ?_) (fun g1 => ?_)
  · refine w_s (np := 62) (lv' := [some (eR 98), some (eI (5)), some (eI (p)), some (eI (q)), some (eI (r)), some (eI (s)), some (eI (u0)), some (eI (u1)), some (eI (u2))]) (st' := [eI (u0)]) rfl rfl rfl ?_
    refine b_igt (t1 := 79) (t2 := 65) rfl rfl rfl (ev_w_in (by omega) (by omega)) (fun g2 => ?_) (fun g2 => ?_)
    · refine w_s (np := 80) (lv' := [some (eR 98), some (eI (5)), some (eI (p)), some (eI (q)), some (eI (r)), some (eI (s)), some (eI (u0)), some (eI (u1)), some (eI (u2))]) (st' := [eI (0)]) rfl rfl rfl ?_
      refine b_rz rfl rfl (Or.inl rfl) ?_
      exact K0 _ (tS_tr (tS_tr s0 s1) s2) (by omega)
    · refine w_s (np := 67) (lv' := [some (eR 98), some (eI (5)), some (eI (p)), some (eI (q)), some (eI (r)), some (eI (s)), some (eI (u0)), some (eI (u1)), some (eI (u2))]) (st' := [eI (u1)]) rfl rfl rfl ?_
      refine b_igt (t1 := 79) (t2 := 70) rfl rfl rfl (ev_w_in (by omega) (by omega)) (fun g3 => ?_) (fun g3 => ?_)
      · refine w_s (np := 80) (lv' := [some (eR 98), some (eI (5)), some (eI (p)), some (eI (q)), some (eI (r)), some (eI (s)), some (eI (u0)), some (eI (u1)), some (eI (u2))]) (st' := [eI (0)]) rfl rfl rfl ?_
        refine b_rz rfl rfl (Or.inl rfl) ?_
        exact K0 _ (tS_tr (tS_tr s0 s1) s2) (by omega)
      · refine w_s (np := 72) (lv' := [some (eR 98), some (eI (5)), some (eI (p)), some (eI (q)), some (eI (r)), some (eI (s)), some (eI (u0)), some (eI (u1)), some (eI (u2))]) (st' := [eI (u2)]) rfl rfl rfl ?_
        refine b_igt (t1 := 79) (t2 := 75) rfl rfl rfl (ev_w_in (by omega) (by omega)) (fun g4 => ?_) (fun g4 => ?_)
        · refine w_s (np := 80) (lv' := [some (eR 98), some (eI (5)), some (eI (p)), some (eI (q)), some (eI (r)), some (eI (s)), some (eI (u0)), some (eI (u1)), some (eI (u2))]) (st' := [eI (0)]) rfl rfl rfl ?_
          refine b_rz rfl rfl (Or.inl rfl) ?_
          exact K0 _ (tS_tr (tS_tr s0 s1) s2) (by omega)
        · refine w_s (np := 76) (lv' := [some (eR 98), some (eI (5)), some (eI (p)), some (eI (q)), some (eI (r)), some (eI (s)), some (eI (u0)), some (eI (u1)), some (eI (u2))]) (st' := [eI (1)]) rfl rfl rfl ?_
          refine w_go (t1 := 80) rfl rfl ?_
          refine b_rz rfl rfl (Or.inr rfl) ?_
          exact K1 _ (tS_tr (tS_tr s0 s1) s2) (by omega)
  · refine w_s (np := 52) (lv' := [some (eR 98), some (eI (5)), some (eI (p)), some (eI (q)), some (eI (r)), some (eI (s)), some (eI (u0)), some (eI (u1)), some (eI (u2))]) (st' := [eI (u1)]) rfl rfl rfl ?_
    refine b_ilt (t1 := 60) (t2 := 55) rfl rfl rfl (ev_w_in (by omega) (by omega)) (fun g2 => ?_) (fun g2 => ?_)
    · refine w_s (np := 62) (lv' := [some (eR 98), some (eI (5)), some (eI (p)), some (eI (q)), some (eI (r)), some (eI (s)), some (eI (u0)), some (eI (u1)), some (eI (u2))]) (st' := [eI (u0)]) rfl rfl rfl ?_
      refine b_igt (t1 := 79) (t2 := 65) rfl rfl rfl (ev_w_in (by omega) (by omega)) (fun g3 => ?_) (fun g3 => ?_)
      · refine w_s (np := 80) (lv' := [some (eR 98), some (eI (5)), some (eI (p)), some (eI (q)), some (eI (r)), some (eI (s)), some (eI (u0)), some (eI (u1)), some (eI (u2))]) (st' := [eI (0)]) rfl rfl rfl ?_
        refine b_rz rfl rfl (Or.inl rfl) ?_
        exact K0 _ (tS_tr (tS_tr s0 s1) s2) (by omega)
      · refine w_s (np := 67) (lv' := [some (eR 98), some (eI (5)), some (eI (p)), some (eI (q)), some (eI (r)), some (eI (s)), some (eI (u0)), some (eI (u1)), some (eI (u2))]) (st' := [eI (u1)]) rfl rfl rfl ?_
        refine b_igt (t1 := 79) (t2 := 70) rfl rfl rfl (ev_w_in (by omega) (by omega)) (fun g4 => ?_) (fun g4 => ?_)
        · refine w_s (np := 80) (lv' := [some (eR 98), some (eI (5)), some (eI (p)), some (eI (q)), some (eI (r)), some (eI (s)), some (eI (u0)), some (eI (u1)), some (eI (u2))]) (st' := [eI (0)]) rfl rfl rfl ?_
          refine b_rz rfl rfl (Or.inl rfl) ?_
          exact K0 _ (tS_tr (tS_tr s0 s1) s2) (by omega)
        · refine w_s (np := 72) (lv' := [some (eR 98), some (eI (5)), some (eI (p)), some (eI (q)), some (eI (r)), some (eI (s)), some (eI (u0)), some (eI (u1)), some (eI (u2))]) (st' := [eI (u2)]) rfl rfl rfl ?_
          refine b_igt (t1 := 79) (t2 := 75) rfl rfl rfl (ev_w_in (by omega) (by omega)) (fun g5 => ?_) (fun g5 => ?_)
          · refine w_s (np := 80) (lv' := [some (eR 98), some (eI (5)), some (eI (p)), some (eI (q)), some (eI (r)), some (eI (s)), some (eI (u0)), some (eI (u1)), some (eI (u2))]) (st' := [eI (0)]) rfl rfl rfl ?_
            refine b_rz rfl rfl (Or.inl rfl) ?_
            exact K0 _ (tS_tr (tS_tr s0 s1) s2) (by omega)
          · refine w_s (np := 76) (lv' := [some (eR 98), some (eI (5)), some (eI (p)), some (eI (q)), some (eI (r)), some (eI (s)), some (eI (u0)), some (eI (u1)), some (eI (u2))]) (st' := [eI (1)]) rfl rfl rfl ?_
            refine w_go (t1 := 80) rfl rfl ?_
            refine b_rz rfl rfl (Or.inr rfl) ?_
            exact K1 _ (tS_tr (tS_tr s0 s1) s2) (by omega)
    · refine w_s (np := 57) (lv' := [some (eR 98), some (eI (5)), some (eI (p)), some (eI (q)), some (eI (r)), some (eI (s)), some (eI (u0)), some (eI (u1)), some (eI (u2))]) (st' := [eI (u2)]) rfl rfl rfl ?_
      refine b_ige (t1 := 75) (t2 := 60) rfl rfl rfl (ev_w_in (by omega) (by omega)) (fun g3 => ?_) (fun g3 => ?_)
      · refine w_s (np := 76) (lv' := [some (eR 98), some (eI (5)), some (eI (p)), some (eI (q)), some (eI (r)), some (eI (s)), some (eI (u0)), some (eI (u1)), some (eI (u2))]) (st' := [eI (1)]) rfl rfl rfl ?_
        refine w_go (t1 := 80) rfl rfl ?_
        refine b_rz rfl rfl (Or.inr rfl) ?_
        exact K1 _ (tS_tr (tS_tr s0 s1) s2) (by omega)
      · refine w_s (np := 62) (lv' := [some (eR 98), some (eI (5)), some (eI (p)), some (eI (q)), some (eI (r)), some (eI (s)), some (eI (u0)), some (eI (u1)), some (eI (u2))]) (st' := [eI (u0)]) rfl rfl rfl ?_
        refine b_igt (t1 := 79) (t2 := 65) rfl rfl rfl (ev_w_in (by omega) (by omega)) (fun g4 => ?_) (fun g4 => ?_)
        · refine w_s (np := 80) (lv' := [some (eR 98), some (eI (5)), some (eI (p)), some (eI (q)), some (eI (r)), some (eI (s)), some (eI (u0)), some (eI (u1)), some (eI (u2))]) (st' := [eI (0)]) rfl rfl rfl ?_
          refine b_rz rfl rfl (Or.inl rfl) ?_
          exact K0 _ (tS_tr (tS_tr s0 s1) s2) (by omega)
        · refine w_s (np := 67) (lv' := [some (eR 98), some (eI (5)), some (eI (p)), some (eI (q)), some (eI (r)), some (eI (s)), some (eI (u0)), some (eI (u1)), some (eI (u2))]) (st' := [eI (u1)]) rfl rfl rfl ?_
          refine b_igt (t1 := 79) (t2 := 70) rfl rfl rfl (ev_w_in (by omega) (by omega)) (fun g5 => ?_) (fun g5 => ?_)
          · refine w_s (np := 80) (lv' := [some (eR 98), some (eI (5)), some (eI (p)), some (eI (q)), some (eI (r)), some (eI (s)), some (eI (u0)), some (eI (u1)), some (eI (u2))]) (st' := [eI (0)]) rfl rfl rfl ?_
            refine b_rz rfl rfl (Or.inl rfl) ?_
            exact K0 _ (tS_tr (tS_tr s0 s1) s2) (by omega)
          · refine w_s (np := 72) (lv' := [some (eR 98), some (eI (5)), some (eI (p)), some (eI (q)), some (eI (r)), some (eI (s)), some (eI (u0)), some (eI (u1)), some (eI (u2))]) (st' := [eI (u2)]) rfl rfl rfl ?_
            refine b_igt (t1 := 79) (t2 := 75) rfl rfl rfl (ev_w_in (by omega) (by omega)) (fun g6 => ?_) (fun g6 => ?_)
            · refine w_s (np := 80) (lv' := [some (eR 98), some (eI (5)), some (eI (p)), some (eI (q)), some (eI (r)), some (eI (s)), some (eI (u0)), some (eI (u1)), some (eI (u2))]) (st' := [eI (0)]) rfl rfl rfl ?_
              refine b_rz rfl rfl (Or.inl rfl) ?_
              exact K0 _ (tS_tr (tS_tr s0 s1) s2) (by omega)
            · refine w_s (np := 76) (lv' := [some (eR 98), some (eI (5)), some (eI (p)), some (eI (q)), some (eI (r)), some (eI (s)), some (eI (u0)), some (eI (u1)), some (eI (u2))]) (st' := [eI (1)]) rfl rfl rfl ?_
              refine w_go (t1 := 80) rfl rfl ?_
              refine b_rz rfl rfl (Or.inr rfl) ?_
              exact K1 _ (tS_tr (tS_tr s0 s1) s2) (by omega)
theorem t266_6 {fg : eG} {rc rs d : Nat} {f : eFr} {F : List eFr} {μ : eM} {p q r s : Int} (hq : tQ μ) (hp : -9999 ≤ p ∧ p ≤ 9999) (hq0 : -9999 ≤ q ∧ q ≤ 9999) (hr : -9999 ≤ r ∧ r ≤ 9999) (hs : -9999 ≤ s ∧ s ≤ 9999) (K1 : ∀ μ2 : eM, tS μ μ2 → (((0 ≤ 1346269 * p + 832040 * q + (-832040) * s) ∧ (0 ≤ (-514229) * p + (-832040) * q + (-832040) * r + (-514229) * s + (-832040)) ∧ (0 ≤ (-832040) * p + 832040 * r + 1346269 * s)) ∨ ((1346269 * p + 832040 * q + (-832040) * s ≤ 0) ∧ ((-514229) * p + (-832040) * q + (-832040) * r + (-514229) * s + (-832040) ≤ 0) ∧ ((-832040) * p + 832040 * r + 1346269 * s ≤ 0))) → ex_fine fg rc rs (d + 6, (f.1, f.2.1, f.2.2.1, eI 1 :: f.2.2.2), F, μ2)) (K0 : ∀ μ2 : eM, tS μ μ2 → ¬ (((0 ≤ 1346269 * p + 832040 * q + (-832040) * s) ∧ (0 ≤ (-514229) * p + (-832040) * q + (-832040) * r + (-514229) * s + (-832040)) ∧ (0 ≤ (-832040) * p + 832040 * r + 1346269 * s)) ∨ ((1346269 * p + 832040 * q + (-832040) * s ≤ 0) ∧ ((-514229) * p + (-832040) * q + (-832040) * r + (-514229) * s + (-832040) ≤ 0) ∧ ((-832040) * p + 832040 * r + 1346269 * s ≤ 0))) → ex_fine fg rc rs (d + 6, (f.1, f.2.1, f.2.2.1, eI 0 :: f.2.2.2), F, μ2)) : ex_fine fg rc rs (d + 5, (266, 0, [some (eR 98), some (eI (6)), some (eI (p)), some (eI (q)), some (eI (r)), some (eI (s)), none, none, none], []), f :: F, μ) := by
  refine w_s (np := 1) (lv' := [some (eR 98), some (eI (6)), some (eI (p)), some (eI (q)), some (eI (r)), some (eI (s)), none, none, none]) (st' := [eR 98]) rfl (s_an rfl (by decide)) rfl ?_
  refine w_s (np := 2) (lv' := [some (eR 98), some (eI (6)), some (eI (p)), some (eI (q)), some (eI (r)), some (eI (s)), none, none, none]) (st' := [eI (6), eR 98]) rfl rfl rfl ?_
  refine w_s (np := 3) (lv' := [some (eR 98), some (eI (6)), some (eI (p)), some (eI (q)), some (eI (r)), some (eI (s)), none, none, none]) (st' := [eI (0), eI (6), eR 98]) rfl rfl rfl ?_
  refine w_s (np := 4) (lv' := [some (eR 98), some (eI (6)), some (eI (p)), some (eI (q)), some (eI (r)), some (eI (s)), none, none, none]) (st' := [eI (1), eI (0), eI (6), eR 98]) rfl rfl rfl ?_
  refine w_s (np := 5) (lv' := [some (eR 98), some (eI (6)), some (eI (p)), some (eI (q)), some (eI (r)), some (eI (s)), none, none, none]) (st' := [eI (p), eI (1), eI (0), eI (6), eR 98]) rfl rfl rfl ?_
  refine w_s (np := 6) (lv' := [some (eR 98), some (eI (6)), some (eI (p)), some (eI (q)), some (eI (r)), some (eI (s)), none, none, none]) (st' := [eI (q), eI (p), eI (1), eI (0), eI (6), eR 98]) rfl rfl rfl ?_
  refine w_s (np := 8) (lv' := [some (eR 98), some (eI (6)), some (eI (p)), some (eI (q)), some (eI (r)), some (eI (s)), none, none, none]) (st' := [eI (r), eI (q), eI (p), eI (1), eI (0), eI (6), eR 98]) rfl rfl rfl ?_
  refine w_s (np := 10) (lv' := [some (eR 98), some (eI (6)), some (eI (p)), some (eI (q)), some (eI (r)), some (eI (s)), none, none, none]) (st' := [eI (s), eI (r), eI (q), eI (p), eI (1), eI (0), eI (6), eR 98]) rfl rfl rfl ?_
  refine w_cv (np := 13) (as := [eI (6), eI (0), eI (1), eI (p), eI (q), eI (r), eI (s)]) (lv' := [some (eR 98), some (eI (6)), some (eI (0)), some (eI (1)), some (eI (p)), some (eI (q)), some (eI (r)), some (eI (s)), none, none]) (rest := []) rfl rfl rfl (Nat.ble_eq.mp rfl) rfl rfl rfl hq.1 rfl ?_
  refine t265_6_0 hq hp hq0 hr hs ?_
  intro m0 u0 s0 e0 w0
  have q0 := tQ_s hq s0
  have b0 : -1 ≤ u0 ∧ u0 ≤ 1 := by omega
  show ex_fine fg rc rs (d + 5, (266, 13, [some (eR 98), some (eI (6)), some (eI (p)), some (eI (q)), some (eI (r)), some (eI (s)), none, none, none], [eI (u0)]), f :: F, m0)
  refine w_s (np := 15) (lv' := [some (eR 98), some (eI (6)), some (eI (p)), some (eI (q)), some (eI (r)), some (eI (s)), some (eI (u0)), none, none]) (st' := []) rfl rfl rfl ?_
  refine w_s (np := 16) (lv' := [some (eR 98), some (eI (6)), some (eI (p)), some (eI (q)), some (eI (r)), some (eI (s)), some (eI (u0)), none, none]) (st' := [eR 98]) rfl (s_an rfl (by decide)) rfl ?_
  refine w_s (np := 17) (lv' := [some (eR 98), some (eI (6)), some (eI (p)), some (eI (q)), some (eI (r)), some (eI (s)), some (eI (u0)), none, none]) (st' := [eI (6), eR 98]) rfl rfl rfl ?_
  refine w_s (np := 18) (lv' := [some (eR 98), some (eI (6)), some (eI (p)), some (eI (q)), some (eI (r)), some (eI (s)), some (eI (u0)), none, none]) (st' := [eI (1), eI (6), eR 98]) rfl rfl rfl ?_
  refine w_s (np := 19) (lv' := [some (eR 98), some (eI (6)), some (eI (p)), some (eI (q)), some (eI (r)), some (eI (s)), some (eI (u0)), none, none]) (st' := [eI (2), eI (1), eI (6), eR 98]) rfl rfl rfl ?_
  refine w_s (np := 20) (lv' := [some (eR 98), some (eI (6)), some (eI (p)), some (eI (q)), some (eI (r)), some (eI (s)), some (eI (u0)), none, none]) (st' := [eI (p), eI (2), eI (1), eI (6), eR 98]) rfl rfl rfl ?_
  refine w_s (np := 21) (lv' := [some (eR 98), some (eI (6)), some (eI (p)), some (eI (q)), some (eI (r)), some (eI (s)), some (eI (u0)), none, none]) (st' := [eI (q), eI (p), eI (2), eI (1), eI (6), eR 98]) rfl rfl rfl ?_
  refine w_s (np := 23) (lv' := [some (eR 98), some (eI (6)), some (eI (p)), some (eI (q)), some (eI (r)), some (eI (s)), some (eI (u0)), none, none]) (st' := [eI (r), eI (q), eI (p), eI (2), eI (1), eI (6), eR 98]) rfl rfl rfl ?_
  refine w_s (np := 25) (lv' := [some (eR 98), some (eI (6)), some (eI (p)), some (eI (q)), some (eI (r)), some (eI (s)), some (eI (u0)), none, none]) (st' := [eI (s), eI (r), eI (q), eI (p), eI (2), eI (1), eI (6), eR 98]) rfl rfl rfl ?_
  refine w_cv (np := 28) (as := [eI (6), eI (1), eI (2), eI (p), eI (q), eI (r), eI (s)]) (lv' := [some (eR 98), some (eI (6)), some (eI (1)), some (eI (2)), some (eI (p)), some (eI (q)), some (eI (r)), some (eI (s)), none, none]) (rest := []) rfl rfl rfl (Nat.ble_eq.mp rfl) rfl rfl rfl q0.1 rfl ?_
  refine t265_6_1 q0 hp hq0 hr hs ?_
  intro m1 u1 s1 e1 w1
  have q1 := tQ_s q0 s1
  have b1 : -1 ≤ u1 ∧ u1 ≤ 1 := by omega
  show ex_fine fg rc rs (d + 5, (266, 28, [some (eR 98), some (eI (6)), some (eI (p)), some (eI (q)), some (eI (r)), some (eI (s)), some (eI (u0)), none, none], [eI (u1)]), f :: F, m1)
  refine w_s (np := 30) (lv' := [some (eR 98), some (eI (6)), some (eI (p)), some (eI (q)), some (eI (r)), some (eI (s)), some (eI (u0)), some (eI (u1)), none]) (st' := []) rfl rfl rfl ?_
  refine w_s (np := 31) (lv' := [some (eR 98), some (eI (6)), some (eI (p)), some (eI (q)), some (eI (r)), some (eI (s)), some (eI (u0)), some (eI (u1)), none]) (st' := [eR 98]) rfl (s_an rfl (by decide)) rfl ?_
  refine w_s (np := 32) (lv' := [some (eR 98), some (eI (6)), some (eI (p)), some (eI (q)), some (eI (r)), some (eI (s)), some (eI (u0)), some (eI (u1)), none]) (st' := [eI (6), eR 98]) rfl rfl rfl ?_
  refine w_s (np := 33) (lv' := [some (eR 98), some (eI (6)), some (eI (p)), some (eI (q)), some (eI (r)), some (eI (s)), some (eI (u0)), some (eI (u1)), none]) (st' := [eI (2), eI (6), eR 98]) rfl rfl rfl ?_
  refine w_s (np := 34) (lv' := [some (eR 98), some (eI (6)), some (eI (p)), some (eI (q)), some (eI (r)), some (eI (s)), some (eI (u0)), some (eI (u1)), none]) (st' := [eI (0), eI (2), eI (6), eR 98]) rfl rfl rfl ?_
  refine w_s (np := 35) (lv' := [some (eR 98), some (eI (6)), some (eI (p)), some (eI (q)), some (eI (r)), some (eI (s)), some (eI (u0)), some (eI (u1)), none]) (st' := [eI (p), eI (0), eI (2), eI (6), eR 98]) rfl rfl rfl ?_
  refine w_s (np := 36) (lv' := [some (eR 98), some (eI (6)), some (eI (p)), some (eI (q)), some (eI (r)), some (eI (s)), some (eI (u0)), some (eI (u1)), none]) (st' := [eI (q), eI (p), eI (0), eI (2), eI (6), eR 98]) rfl rfl rfl ?_
  refine w_s (np := 38) (lv' := [some (eR 98), some (eI (6)), some (eI (p)), some (eI (q)), some (eI (r)), some (eI (s)), some (eI (u0)), some (eI (u1)), none]) (st' := [eI (r), eI (q), eI (p), eI (0), eI (2), eI (6), eR 98]) rfl rfl rfl ?_
  refine w_s (np := 40) (lv' := [some (eR 98), some (eI (6)), some (eI (p)), some (eI (q)), some (eI (r)), some (eI (s)), some (eI (u0)), some (eI (u1)), none]) (st' := [eI (s), eI (r), eI (q), eI (p), eI (0), eI (2), eI (6), eR 98]) rfl rfl rfl ?_
  refine w_cv (np := 43) (as := [eI (6), eI (2), eI (0), eI (p), eI (q), eI (r), eI (s)]) (lv' := [some (eR 98), some (eI (6)), some (eI (2)), some (eI (0)), some (eI (p)), some (eI (q)), some (eI (r)), some (eI (s)), none, none]) (rest := []) rfl rfl rfl (Nat.ble_eq.mp rfl) rfl rfl rfl q1.1 rfl ?_
  refine t265_6_2 q1 hp hq0 hr hs ?_
  intro m2 u2 s2 e2 w2
  have q2 := tQ_s q1 s2
  have b2 : -1 ≤ u2 ∧ u2 ≤ 1 := by omega
  show ex_fine fg rc rs (d + 5, (266, 43, [some (eR 98), some (eI (6)), some (eI (p)), some (eI (q)), some (eI (r)), some (eI (s)), some (eI (u0)), some (eI (u1)), none], [eI (u2)]), f :: F, m2)
  refine w_s (np := 45) (lv' := [some (eR 98), some (eI (6)), some (eI (p)), some (eI (q)), some (eI (r)), some (eI (s)), some (eI (u0)), some (eI (u1)), some (eI (u2))]) (st' := []) rfl rfl rfl ?_
  refine w_s (np := 47) (lv' := [some (eR 98), some (eI (6)), some (eI (p)), some (eI (q)), some (eI (r)), some (eI (s)), some (eI (u0)), some (eI (u1)), some (eI (u2))]) (st' := [eI (u0)]) rfl rfl rfl ?_
  refine b_ilt (t1 := 60) (t2 := 50) rfl rfl rfl (ev_w_in (by omega) (by omega)) (fun g1 => ?_) (fun g1 => ?_)
  · refine w_s (np := 62) (lv' := [some (eR 98), some (eI (6)), some (eI (p)), some (eI (q)), some (eI (r)), some (eI (s)), some (eI (u0)), some (eI (u1)), some (eI (u2))]) (st' := [eI (u0)]) rfl rfl rfl ?_
    refine b_igt (t1 := 79) (t2 := 65) rfl rfl rfl (ev_w_in (by omega) (by omega)) (fun g2 => ?_) (fun g2 => ?_)
    · refine w_s (np := 80) (lv' := [some (eR 98), some (eI (6)), some (eI (p)), some (eI (q)), some (eI (r)), some (eI (s)), some (eI (u0)), some (eI (u1)), some (eI (u2))]) (st' := [eI (0)]) rfl rfl rfl ?_
      refine b_rz rfl rfl (Or.inl rfl) ?_
      exact K0 _ (tS_tr (tS_tr s0 s1) s2) (by omega)
    · refine w_s (np := 67) (lv' := [some (eR 98), some (eI (6)), some (eI (p)), some (eI (q)), some (eI (r)), some (eI (s)), some (eI (u0)), some (eI (u1)), some (eI (u2))]) (st' := [eI (u1)]) rfl rfl rfl ?_
      refine b_igt (t1 := 79) (t2 := 70) rfl rfl rfl (ev_w_in (by omega) (by omega)) (fun g3 => ?_) (fun g3 => ?_)
      · refine w_s (np := 80) (lv' := [some (eR 98), some (eI (6)), some (eI (p)), some (eI (q)), some (eI (r)), some (eI (s)), some (eI (u0)), some (eI (u1)), some (eI (u2))]) (st' := [eI (0)]) rfl rfl rfl ?_
        refine b_rz rfl rfl (Or.inl rfl) ?_
        exact K0 _ (tS_tr (tS_tr s0 s1) s2) (by omega)
      · refine w_s (np := 72) (lv' := [some (eR 98), some (eI (6)), some (eI (p)), some (eI (q)), some (eI (r)), some (eI (s)), some (eI (u0)), some (eI (u1)), some (eI (u2))]) (st' := [eI (u2)]) rfl rfl rfl ?_
        refine b_igt (t1 := 79) (t2 := 75) rfl rfl rfl (ev_w_in (by omega) (by omega)) (fun g4 => ?_) (fun g4 => ?_)
        · refine w_s (np := 80) (lv' := [some (eR 98), some (eI (6)), some (eI (p)), some (eI (q)), some (eI (r)), some (eI (s)), some (eI (u0)), some (eI (u1)), some (eI (u2))]) (st' := [eI (0)]) rfl rfl rfl ?_
          refine b_rz rfl rfl (Or.inl rfl) ?_
          exact K0 _ (tS_tr (tS_tr s0 s1) s2) (by omega)
        · refine w_s (np := 76) (lv' := [some (eR 98), some (eI (6)), some (eI (p)), some (eI (q)), some (eI (r)), some (eI (s)), some (eI (u0)), some (eI (u1)), some (eI (u2))]) (st' := [eI (1)]) rfl rfl rfl ?_
          refine w_go (t1 := 80) rfl rfl ?_
          refine b_rz rfl rfl (Or.inr rfl) ?_
          exact K1 _ (tS_tr (tS_tr s0 s1) s2) (by omega)
  · refine w_s (np := 52) (lv' := [some (eR 98), some (eI (6)), some (eI (p)), some (eI (q)), some (eI (r)), some (eI (s)), some (eI (u0)), some (eI (u1)), some (eI (u2))]) (st' := [eI (u1)]) rfl rfl rfl ?_
    refine b_ilt (t1 := 60) (t2 := 55) rfl rfl rfl (ev_w_in (by omega) (by omega)) (fun g2 => ?_) (fun g2 => ?_)
    · refine w_s (np := 62) (lv' := [some (eR 98), some (eI (6)), some (eI (p)), some (eI (q)), some (eI (r)), some (eI (s)), some (eI (u0)), some (eI (u1)), some (eI (u2))]) (st' := [eI (u0)]) rfl rfl rfl ?_
      refine b_igt (t1 := 79) (t2 := 65) rfl rfl rfl (ev_w_in (by omega) (by omega)) (fun g3 => ?_) (fun g3 => ?_)
      · refine w_s (np := 80) (lv' := [some (eR 98), some (eI (6)), some (eI (p)), some (eI (q)), some (eI (r)), some (eI (s)), some (eI (u0)), some (eI (u1)), some (eI (u2))]) (st' := [eI (0)]) rfl rfl rfl ?_
        refine b_rz rfl rfl (Or.inl rfl) ?_
        exact K0 _ (tS_tr (tS_tr s0 s1) s2) (by omega)
      · refine w_s (np := 67) (lv' := [some (eR 98), some (eI (6)), some (eI (p)), some (eI (q)), some (eI (r)), some (eI (s)), some (eI (u0)), some (eI (u1)), some (eI (u2))]) (st' := [eI (u1)]) rfl rfl rfl ?_
        refine b_igt (t1 := 79) (t2 := 70) rfl rfl rfl (ev_w_in (by omega) (by omega)) (fun g4 => ?_) (fun g4 => ?_)
        · refine w_s (np := 80) (lv' := [some (eR 98), some (eI (6)), some (eI (p)), some (eI (q)), some (eI (r)), some (eI (s)), some (eI (u0)), some (eI (u1)), some (eI (u2))]) (st' := [eI (0)]) rfl rfl rfl ?_
          refine b_rz rfl rfl (Or.inl rfl) ?_
          exact K0 _ (tS_tr (tS_tr s0 s1) s2) (by omega)
        · refine w_s (np := 72) (lv' := [some (eR 98), some (eI (6)), some (eI (p)), some (eI (q)), some (eI (r)), some (eI (s)), some (eI (u0)), some (eI (u1)), some (eI (u2))]) (st' := [eI (u2)]) rfl rfl rfl ?_
          refine b_igt (t1 := 79) (t2 := 75) rfl rfl rfl (ev_w_in (by omega) (by omega)) (fun g5 => ?_) (fun g5 => ?_)
          · refine w_s (np := 80) (lv' := [some (eR 98), some (eI (6)), some (eI (p)), some (eI (q)), some (eI (r)), some (eI (s)), some (eI (u0)), some (eI (u1)), some (eI (u2))]) (st' := [eI (0)]) rfl rfl rfl ?_
            refine b_rz rfl rfl (Or.inl rfl) ?_
            exact K0 _ (tS_tr (tS_tr s0 s1) s2) (by omega)
          · refine w_s (np := 76) (lv' := [some (eR 98), some (eI (6)), some (eI (p)), some (eI (q)), some (eI (r)), some (eI (s)), some (eI (u0)), some (eI (u1)), some (eI (u2))]) (st' := [eI (1)]) rfl rfl rfl ?_
            refine w_go (t1 := 80) rfl rfl ?_
            refine b_rz rfl rfl (Or.inr rfl) ?_
            exact K1 _ (tS_tr (tS_tr s0 s1) s2) (by omega)
    · refine w_s (np := 57) (lv' := [some (eR 98), some (eI (6)), some (eI (p)), some (eI (q)), some (eI (r)), some (eI (s)), some (eI (u0)), some (eI (u1)), some (eI (u2))]) (st' := [eI (u2)]) rfl rfl rfl ?_
      refine b_ige (t1 := 75) (t2 := 60) rfl rfl rfl (ev_w_in (by omega) (by omega)) (fun g3 => ?_) (fun g3 => ?_)
      · refine w_s (np := 76) (lv' := [some (eR 98), some (eI (6)), some (eI (p)), some (eI (q)), some (eI (r)), some (eI (s)), some (eI (u0)), some (eI (u1)), some (eI (u2))]) (st' := [eI (1)]) rfl rfl rfl ?_
        refine w_go (t1 := 80) rfl rfl ?_
        refine b_rz rfl rfl (Or.inr rfl) ?_
        exact K1 _ (tS_tr (tS_tr s0 s1) s2) (by omega)
      · refine w_s (np := 62) (lv' := [some (eR 98), some (eI (6)), some (eI (p)), some (eI (q)), some (eI (r)), some (eI (s)), some (eI (u0)), some (eI (u1)), some (eI (u2))]) (st' := [eI (u0)]) rfl rfl rfl ?_
        refine b_igt (t1 := 79) (t2 := 65) rfl rfl rfl (ev_w_in (by omega) (by omega)) (fun g4 => ?_) (fun g4 => ?_)
        · refine w_s (np := 80) (lv' := [some (eR 98), some (eI (6)), some (eI (p)), some (eI (q)), some (eI (r)), some (eI (s)), some (eI (u0)), some (eI (u1)), some (eI (u2))]) (st' := [eI (0)]) rfl rfl rfl ?_
          refine b_rz rfl rfl (Or.inl rfl) ?_
          exact K0 _ (tS_tr (tS_tr s0 s1) s2) (by omega)
        · refine w_s (np := 67) (lv' := [some (eR 98), some (eI (6)), some (eI (p)), some (eI (q)), some (eI (r)), some (eI (s)), some (eI (u0)), some (eI (u1)), some (eI (u2))]) (st' := [eI (u1)]) rfl rfl rfl ?_
          refine b_igt (t1 := 79) (t2 := 70) rfl rfl rfl (ev_w_in (by omega) (by omega)) (fun g5 => ?_) (fun g5 => ?_)
          · refine w_s (np := 80) (lv' := [some (eR 98), some (eI (6)), some (eI (p)), some (eI (q)), some (eI (r)), some (eI (s)), some (eI (u0)), some (eI (u1)), some (eI (u2))]) (st' := [eI (0)]) rfl rfl rfl ?_
            refine b_rz rfl rfl (Or.inl rfl) ?_
            exact K0 _ (tS_tr (tS_tr s0 s1) s2) (by omega)
          · refine w_s (np := 72) (lv' := [some (eR 98), some (eI (6)), some (eI (p)), some (eI (q)), some (eI (r)), some (eI (s)), some (eI (u0)), some (eI (u1)), some (eI (u2))]) (st' := [eI (u2)]) rfl rfl rfl ?_
            refine b_igt (t1 := 79) (t2 := 75) rfl rfl rfl (ev_w_in (by omega) (by omega)) (fun g6 => ?_) (fun g6 => ?_)
            · refine w_s (np := 80) (lv' := [some (eR 98), some (eI (6)), some (eI (p)), some (eI (q)), some (eI (r)), some (eI (s)), some (eI (u0)), some (eI (u1)), some (eI (u2))]) (st' := [eI (0)]) rfl rfl rfl ?_
              refine b_rz rfl rfl (Or.inl rfl) ?_
              exact K0 _ (tS_tr (tS_tr s0 s1) s2) (by omega)
            · refine w_s (np := 76) (lv' := [some (eR 98), some (eI (6)), some (eI (p)), some (eI (q)), some (eI (r)), some (eI (s)), some (eI (u0)), some (eI (u1)), some (eI (u2))]) (st' := [eI (1)]) rfl rfl rfl ?_
              refine w_go (t1 := 80) rfl rfl ?_
              refine b_rz rfl rfl (Or.inr rfl) ?_
              exact K1 _ (tS_tr (tS_tr s0 s1) s2) (by omega)
theorem t266_7 {fg : eG} {rc rs d : Nat} {f : eFr} {F : List eFr} {μ : eM} {p q r s : Int} (hq : tQ μ) (hp : -9999 ≤ p ∧ p ≤ 9999) (hq0 : -9999 ≤ q ∧ q ≤ 9999) (hr : -9999 ≤ r ∧ r ≤ 9999) (hs : -9999 ≤ s ∧ s ≤ 9999) (K1 : ∀ μ2 : eM, tS μ μ2 → (((0 ≤ 1346269 * p + 832040 * q + (-832040) * s) ∧ (0 ≤ 514229 * q + 832040 * r + 832040 * s + (832040)) ∧ (0 ≤ (-1346269) * p + (-1346269) * q + (-832040) * r)) ∨ ((1346269 * p + 832040 * q + (-832040) * s ≤ 0) ∧ (514229 * q + 832040 * r + 832040 * s + (832040) ≤ 0) ∧ ((-1346269) * p + (-1346269) * q + (-832040) * r ≤ 0))) → ex_fine fg rc rs (d + 6, (f.1, f.2.1, f.2.2.1, eI 1 :: f.2.2.2), F, μ2)) (K0 : ∀ μ2 : eM, tS μ μ2 → ¬ (((0 ≤ 1346269 * p + 832040 * q + (-832040) * s) ∧ (0 ≤ 514229 * q + 832040 * r + 832040 * s + (832040)) ∧ (0 ≤ (-1346269) * p + (-1346269) * q + (-832040) * r)) ∨ ((1346269 * p + 832040 * q + (-832040) * s ≤ 0) ∧ (514229 * q + 832040 * r + 832040 * s + (832040) ≤ 0) ∧ ((-1346269) * p + (-1346269) * q + (-832040) * r ≤ 0))) → ex_fine fg rc rs (d + 6, (f.1, f.2.1, f.2.2.1, eI 0 :: f.2.2.2), F, μ2)) : ex_fine fg rc rs (d + 5, (266, 0, [some (eR 98), some (eI (7)), some (eI (p)), some (eI (q)), some (eI (r)), some (eI (s)), none, none, none], []), f :: F, μ) := by
  refine w_s (np := 1) (lv' := [some (eR 98), some (eI (7)), some (eI (p)), some (eI (q)), some (eI (r)), some (eI (s)), none, none, none]) (st' := [eR 98]) rfl (s_an rfl (by decide)) rfl ?_
  refine w_s (np := 2) (lv' := [some (eR 98), some (eI (7)), some (eI (p)), some (eI (q)), some (eI (r)), some (eI (s)), none, none, none]) (st' := [eI (7), eR 98]) rfl rfl rfl ?_
  refine w_s (np := 3) (lv' := [some (eR 98), some (eI (7)), some (eI (p)), some (eI (q)), some (eI (r)), some (eI (s)), none, none, none]) (st' := [eI (0), eI (7), eR 98]) rfl rfl rfl ?_
  refine w_s (np := 4) (lv' := [some (eR 98), some (eI (7)), some (eI (p)), some (eI (q)), some (eI (r)), some (eI (s)), none, none, none]) (st' := [eI (1), eI (0), eI (7), eR 98]) rfl rfl rfl ?_
  refine w_s (np := 5) (lv' := [some (eR 98), some (eI (7)), some (eI (p)), some (eI (q)), some (eI (r)), some (eI (s)), none, none, none]) (st' := [eI (p), eI (1), eI (0), eI (7), eR 98]) rfl rfl rfl ?_
  refine w_s (np := 6) (lv' := [some (eR 98), some (eI (7)), some (eI (p)), some (eI (q)), some (eI (r)), some (eI (s)), none, none, none]) (st' := [eI (q), eI (p), eI (1), eI (0), eI (7), eR 98]) rfl rfl rfl ?_
  refine w_s (np := 8) (lv' := [some (eR 98), some (eI (7)), some (eI (p)), some (eI (q)), some (eI (r)), some (eI (s)), none, none, none]) (st' := [eI (r), eI (q), eI (p), eI (1), eI (0), eI (7), eR 98]) rfl rfl rfl ?_
  refine w_s (np := 10) (lv' := [some (eR 98), some (eI (7)), some (eI (p)), some (eI (q)), some (eI (r)), some (eI (s)), none, none, none]) (st' := [eI (s), eI (r), eI (q), eI (p), eI (1), eI (0), eI (7), eR 98]) rfl rfl rfl ?_
  refine w_cv (np := 13) (as := [eI (7), eI (0), eI (1), eI (p), eI (q), eI (r), eI (s)]) (lv' := [some (eR 98), some (eI (7)), some (eI (0)), some (eI (1)), some (eI (p)), some (eI (q)), some (eI (r)), some (eI (s)), none, none]) (rest := []) rfl rfl rfl (Nat.ble_eq.mp rfl) rfl rfl rfl hq.1 rfl ?_
  refine t265_7_0 hq hp hq0 hr hs ?_
  intro m0 u0 s0 e0 w0
  have q0 := tQ_s hq s0
  have b0 : -1 ≤ u0 ∧ u0 ≤ 1 := by omega
  show ex_fine fg rc rs (d + 5, (266, 13, [some (eR 98), some (eI (7)), some (eI (p)), some (eI (q)), some (eI (r)), some (eI (s)), none, none, none], [eI (u0)]), f :: F, m0)
  refine w_s (np := 15) (lv' := [some (eR 98), some (eI (7)), some (eI (p)), some (eI (q)), some (eI (r)), some (eI (s)), some (eI (u0)), none, none]) (st' := []) rfl rfl rfl ?_
  refine w_s (np := 16) (lv' := [some (eR 98), some (eI (7)), some (eI (p)), some (eI (q)), some (eI (r)), some (eI (s)), some (eI (u0)), none, none]) (st' := [eR 98]) rfl (s_an rfl (by decide)) rfl ?_
  refine w_s (np := 17) (lv' := [some (eR 98), some (eI (7)), some (eI (p)), some (eI (q)), some (eI (r)), some (eI (s)), some (eI (u0)), none, none]) (st' := [eI (7), eR 98]) rfl rfl rfl ?_
  refine w_s (np := 18) (lv' := [some (eR 98), some (eI (7)), some (eI (p)), some (eI (q)), some (eI (r)), some (eI (s)), some (eI (u0)), none, none]) (st' := [eI (1), eI (7), eR 98]) rfl rfl rfl ?_
  refine w_s (np := 19) (lv' := [some (eR 98), some (eI (7)), some (eI (p)), some (eI (q)), some (eI (r)), some (eI (s)), some (eI (u0)), none, none]) (st' := [eI (2), eI (1), eI (7), eR 98]) rfl rfl rfl ?_
  refine w_s (np := 20) (lv' := [some (eR 98), some (eI (7)), some (eI (p)), some (eI (q)), some (eI (r)), some (eI (s)), some (eI (u0)), none, none]) (st' := [eI (p), eI (2), eI (1), eI (7), eR 98]) rfl rfl rfl ?_
  refine w_s (np := 21) (lv' := [some (eR 98), some (eI (7)), some (eI (p)), some (eI (q)), some (eI (r)), some (eI (s)), some (eI (u0)), none, none]) (st' := [eI (q), eI (p), eI (2), eI (1), eI (7), eR 98]) rfl rfl rfl ?_
  refine w_s (np := 23) (lv' := [some (eR 98), some (eI (7)), some (eI (p)), some (eI (q)), some (eI (r)), some (eI (s)), some (eI (u0)), none, none]) (st' := [eI (r), eI (q), eI (p), eI (2), eI (1), eI (7), eR 98]) rfl rfl rfl ?_
  refine w_s (np := 25) (lv' := [some (eR 98), some (eI (7)), some (eI (p)), some (eI (q)), some (eI (r)), some (eI (s)), some (eI (u0)), none, none]) (st' := [eI (s), eI (r), eI (q), eI (p), eI (2), eI (1), eI (7), eR 98]) rfl rfl rfl ?_
  refine w_cv (np := 28) (as := [eI (7), eI (1), eI (2), eI (p), eI (q), eI (r), eI (s)]) (lv' := [some (eR 98), some (eI (7)), some (eI (1)), some (eI (2)), some (eI (p)), some (eI (q)), some (eI (r)), some (eI (s)), none, none]) (rest := []) rfl rfl rfl (Nat.ble_eq.mp rfl) rfl rfl rfl q0.1 rfl ?_
  refine t265_7_1 q0 hp hq0 hr hs ?_
  intro m1 u1 s1 e1 w1
  have q1 := tQ_s q0 s1
  have b1 : -1 ≤ u1 ∧ u1 ≤ 1 := by omega
  show ex_fine fg rc rs (d + 5, (266, 28, [some (eR 98), some (eI (7)), some (eI (p)), some (eI (q)), some (eI (r)), some (eI (s)), some (eI (u0)), none, none], [eI (u1)]), f :: F, m1)
  refine w_s (np := 30) (lv' := [some (eR 98), some (eI (7)), some (eI (p)), some (eI (q)), some (eI (r)), some (eI (s)), some (eI (u0)), some (eI (u1)), none]) (st' := []) rfl rfl rfl ?_
  refine w_s (np := 31) (lv' := [some (eR 98), some (eI (7)), some (eI (p)), some (eI (q)), some (eI (r)), some (eI (s)), some (eI (u0)), some (eI (u1)), none]) (st' := [eR 98]) rfl (s_an rfl (by decide)) rfl ?_
  refine w_s (np := 32) (lv' := [some (eR 98), some (eI (7)), some (eI (p)), some (eI (q)), some (eI (r)), some (eI (s)), some (eI (u0)), some (eI (u1)), none]) (st' := [eI (7), eR 98]) rfl rfl rfl ?_
  refine w_s (np := 33) (lv' := [some (eR 98), some (eI (7)), some (eI (p)), some (eI (q)), some (eI (r)), some (eI (s)), some (eI (u0)), some (eI (u1)), none]) (st' := [eI (2), eI (7), eR 98]) rfl rfl rfl ?_
  refine w_s (np := 34) (lv' := [some (eR 98), some (eI (7)), some (eI (p)), some (eI (q)), some (eI (r)), some (eI (s)), some (eI (u0)), some (eI (u1)), none]) (st' := [eI (0), eI (2), eI (7), eR 98]) rfl rfl rfl ?_
  refine w_s (np := 35) (lv' := [some (eR 98), some (eI (7)), some (eI (p)), some (eI (q)), some (eI (r)), some (eI (s)), some (eI (u0)), some (eI (u1)), none]) (st' := [eI (p), eI (0), eI (2), eI (7), eR 98]) rfl rfl rfl ?_
  refine w_s (np := 36) (lv' := [some (eR 98), some (eI (7)), some (eI (p)), some (eI (q)), some (eI (r)), some (eI (s)), some (eI (u0)), some (eI (u1)), none]) (st' := [eI (q), eI (p), eI (0), eI (2), eI (7), eR 98]) rfl rfl rfl ?_
  refine w_s (np := 38) (lv' := [some (eR 98), some (eI (7)), some (eI (p)), some (eI (q)), some (eI (r)), some (eI (s)), some (eI (u0)), some (eI (u1)), none]) (st' := [eI (r), eI (q), eI (p), eI (0), eI (2), eI (7), eR 98]) rfl rfl rfl ?_
  refine w_s (np := 40) (lv' := [some (eR 98), some (eI (7)), some (eI (p)), some (eI (q)), some (eI (r)), some (eI (s)), some (eI (u0)), some (eI (u1)), none]) (st' := [eI (s), eI (r), eI (q), eI (p), eI (0), eI (2), eI (7), eR 98]) rfl rfl rfl ?_
  refine w_cv (np := 43) (as := [eI (7), eI (2), eI (0), eI (p), eI (q), eI (r), eI (s)]) (lv' := [some (eR 98), some (eI (7)), some (eI (2)), some (eI (0)), some (eI (p)), some (eI (q)), some (eI (r)), some (eI (s)), none, none]) (rest := []) rfl rfl rfl (Nat.ble_eq.mp rfl) rfl rfl rfl q1.1 rfl ?_
  refine t265_7_2 q1 hp hq0 hr hs ?_
  intro m2 u2 s2 e2 w2
  have q2 := tQ_s q1 s2
  have b2 : -1 ≤ u2 ∧ u2 ≤ 1 := by omega
  show ex_fine fg rc rs (d + 5, (266, 43, [some (eR 98), some (eI (7)), some (eI (p)), some (eI (q)), some (eI (r)), some (eI (s)), some (eI (u0)), some (eI (u1)), none], [eI (u2)]), f :: F, m2)
  refine w_s (np := 45) (lv' := [some (eR 98), some (eI (7)), some (eI (p)), some (eI (q)), some (eI (r)), some (eI (s)), some (eI (u0)), some (eI (u1)), some (eI (u2))]) (st' := []) rfl rfl rfl ?_
  refine w_s (np := 47) (lv' := [some (eR 98), some (eI (7)), some (eI (p)), some (eI (q)), some (eI (r)), some (eI (s)), some (eI (u0)), some (eI (u1)), some (eI (u2))]) (st' := [eI (u0)]) rfl rfl rfl ?_
  refine b_ilt (t1 := 60) (t2 := 50) rfl rfl rfl (ev_w_in (by omega) (by omega)) (fun g1 => ?_) (fun g1 => ?_)
  · refine w_s (np := 62) (lv' := [some (eR 98), some (eI (7)), some (eI (p)), some (eI (q)), some (eI (r)), some (eI (s)), some (eI (u0)), some (eI (u1)), some (eI (u2))]) (st' := [eI (u0)]) rfl rfl rfl ?_
    refine b_igt (t1 := 79) (t2 := 65) rfl rfl rfl (ev_w_in (by omega) (by omega)) (fun g2 => ?_) (fun g2 => ?_)
    · refine w_s (np := 80) (lv' := [some (eR 98), some (eI (7)), some (eI (p)), some (eI (q)), some (eI (r)), some (eI (s)), some (eI (u0)), some (eI (u1)), some (eI (u2))]) (st' := [eI (0)]) rfl rfl rfl ?_
      refine b_rz rfl rfl (Or.inl rfl) ?_
      exact K0 _ (tS_tr (tS_tr s0 s1) s2) (by omega)
    · refine w_s (np := 67) (lv' := [some (eR 98), some (eI (7)), some (eI (p)), some (eI (q)), some (eI (r)), some (eI (s)), some (eI (u0)), some (eI (u1)), some (eI (u2))]) (st' := [eI (u1)]) rfl rfl rfl ?_
      refine b_igt (t1 := 79) (t2 := 70) rfl rfl rfl (ev_w_in (by omega) (by omega)) (fun g3 => ?_) (fun g3 => ?_)
      · refine w_s (np := 80) (lv' := [some (eR 98), some (eI (7)), some (eI (p)), some (eI (q)), some (eI (r)), some (eI (s)), some (eI (u0)), some (eI (u1)), some (eI (u2))]) (st' := [eI (0)]) rfl rfl rfl ?_
        refine b_rz rfl rfl (Or.inl rfl) ?_
        exact K0 _ (tS_tr (tS_tr s0 s1) s2) (by omega)
      · refine w_s (np := 72) (lv' := [some (eR 98), some (eI (7)), some (eI (p)), some (eI (q)), some (eI (r)), some (eI (s)), some (eI (u0)), some (eI (u1)), some (eI (u2))]) (st' := [eI (u2)]) rfl rfl rfl ?_
        refine b_igt (t1 := 79) (t2 := 75) rfl rfl rfl (ev_w_in (by omega) (by omega)) (fun g4 => ?_) (fun g4 => ?_)
        · refine w_s (np := 80) (lv' := [some (eR 98), some (eI (7)), some (eI (p)), some (eI (q)), some (eI (r)), some (eI (s)), some (eI (u0)), some (eI (u1)), some (eI (u2))]) (st' := [eI (0)]) rfl rfl rfl ?_
          refine b_rz rfl rfl (Or.inl rfl) ?_
          exact K0 _ (tS_tr (tS_tr s0 s1) s2) (by omega)
        · refine w_s (np := 76) (lv' := [some (eR 98), some (eI (7)), some (eI (p)), some (eI (q)), some (eI (r)), some (eI (s)), some (eI (u0)), some (eI (u1)), some (eI (u2))]) (st' := [eI (1)]) rfl rfl rfl ?_
          refine w_go (t1 := 80) rfl rfl ?_
          refine b_rz rfl rfl (Or.inr rfl) ?_
          exact K1 _ (tS_tr (tS_tr s0 s1) s2) (by omega)
  · refine w_s (np := 52) (lv' := [some (eR 98), some (eI (7)), some (eI (p)), some (eI (q)), some (eI (r)), some (eI (s)), some (eI (u0)), some (eI (u1)), some (eI (u2))]) (st' := [eI (u1)]) rfl rfl rfl ?_
    refine b_ilt (t1 := 60) (t2 := 55) rfl rfl rfl (ev_w_in (by omega) (by omega)) (fun g2 => ?_) (fun g2 => ?_)
    · refine w_s (np := 62) (lv' := [some (eR 98), some (eI (7)), some (eI (p)), some (eI (q)), some (eI (r)), some (eI (s)), some (eI (u0)), some (eI (u1)), some (eI (u2))]) (st' := [eI (u0)]) rfl rfl rfl ?_
      refine b_igt (t1 := 79) (t2 := 65) rfl rfl rfl (ev_w_in (by omega) (by omega)) (fun g3 => ?_) (fun g3 => ?_)
      · refine w_s (np := 80) (lv' := [some (eR 98), some (eI (7)), some (eI (p)), some (eI (q)), some (eI (r)), some (eI (s)), some (eI (u0)), some (eI (u1)), some (eI (u2))]) (st' := [eI (0)]) rfl rfl rfl ?_
        refine b_rz rfl rfl (Or.inl rfl) ?_
        exact K0 _ (tS_tr (tS_tr s0 s1) s2) (by omega)
      · refine w_s (np := 67) (lv' := [some (eR 98), some (eI (7)), some (eI (p)), some (eI (q)), some (eI (r)), some (eI (s)), some (eI (u0)), some (eI (u1)), some (eI (u2))]) (st' := [eI (u1)]) rfl rfl rfl ?_
        refine b_igt (t1 := 79) (t2 := 70) rfl rfl rfl (ev_w_in (by omega) (by omega)) (fun g4 => ?_) (fun g4 => ?_)
        · refine w_s (np := 80) (lv' := [some (eR 98), some (eI (7)), some (eI (p)), some (eI (q)), some (eI (r)), some (eI (s)), some (eI (u0)), some (eI (u1)), some (eI (u2))]) (st' := [eI (0)]) rfl rfl rfl ?_
          refine b_rz rfl rfl (Or.inl rfl) ?_
          exact K0 _ (tS_tr (tS_tr s0 s1) s2) (by omega)
        · refine w_s (np := 72) (lv' := [some (eR 98), some (eI (7)), some (eI (p)), some (eI (q)), some (eI (r)), some (eI (s)), some (eI (u0)), some (eI (u1)), some (eI (u2))]) (st' := [eI (u2)]) rfl rfl rfl ?_
          refine b_igt (t1 := 79) (t2 := 75) rfl rfl rfl (ev_w_in (by omega) (by omega)) (fun g5 => ?_) (fun g5 => ?_)
          · refine w_s (np := 80) (lv' := [some (eR 98), some (eI (7)), some (eI (p)), some (eI (q)), some (eI (r)), some (eI (s)), some (eI (u0)), some (eI (u1)), some (eI (u2))]) (st' := [eI (0)]) rfl rfl rfl ?_
            refine b_rz rfl rfl (Or.inl rfl) ?_
            exact K0 _ (tS_tr (tS_tr s0 s1) s2) (by omega)
          · refine w_s (np := 76) (lv' := [some (eR 98), some (eI (7)), some (eI (p)), some (eI (q)), some (eI (r)), some (eI (s)), some (eI (u0)), some (eI (u1)), some (eI (u2))]) (st' := [eI (1)]) rfl rfl rfl ?_
            refine w_go (t1 := 80) rfl rfl ?_
            refine b_rz rfl rfl (Or.inr rfl) ?_
            exact K1 _ (tS_tr (tS_tr s0 s1) s2) (by omega)
    · refine w_s (np := 57) (lv' := [some (eR 98), some (eI (7)), some (eI (p)), some (eI (q)), some (eI (r)), some (eI (s)), some (eI (u0)), some (eI (u1)), some (eI (u2))]) (st' := [eI (u2)]) rfl rfl rfl ?_
      refine b_ige (t1 := 75) (t2 := 60) rfl rfl rfl (ev_w_in (by omega) (by omega)) (fun g3 => ?_) (fun g3 => ?_)
      · refine w_s (np := 76) (lv' := [some (eR 98), some (eI (7)), some (eI (p)), some (eI (q)), some (eI (r)), some (eI (s)), some (eI (u0)), some (eI (u1)), some (eI (u2))]) (st' := [eI (1)]) rfl rfl rfl ?_
        refine w_go (t1 := 80) rfl rfl ?_
        refine b_rz rfl rfl (Or.inr rfl) ?_
        exact K1 _ (tS_tr (tS_tr s0 s1) s2) (by omega)
      · refine w_s (np := 62) (lv' := [some (eR 98), some (eI (7)), some (eI (p)), some (eI (q)), some (eI (r)), some (eI (s)), some (eI (u0)), some (eI (u1)), some (eI (u2))]) (st' := [eI (u0)]) rfl rfl rfl ?_
        refine b_igt (t1 := 79) (t2 := 65) rfl rfl rfl (ev_w_in (by omega) (by omega)) (fun g4 => ?_) (fun g4 => ?_)
        · refine w_s (np := 80) (lv' := [some (eR 98), some (eI (7)), some (eI (p)), some (eI (q)), some (eI (r)), some (eI (s)), some (eI (u0)), some (eI (u1)), some (eI (u2))]) (st' := [eI (0)]) rfl rfl rfl ?_
          refine b_rz rfl rfl (Or.inl rfl) ?_
          exact K0 _ (tS_tr (tS_tr s0 s1) s2) (by omega)
        · refine w_s (np := 67) (lv' := [some (eR 98), some (eI (7)), some (eI (p)), some (eI (q)), some (eI (r)), some (eI (s)), some (eI (u0)), some (eI (u1)), some (eI (u2))]) (st' := [eI (u1)]) rfl rfl rfl ?_
          refine b_igt (t1 := 79) (t2 := 70) rfl rfl rfl (ev_w_in (by omega) (by omega)) (fun g5 => ?_) (fun g5 => ?_)
          · refine w_s (np := 80) (lv' := [some (eR 98), some (eI (7)), some (eI (p)), some (eI (q)), some (eI (r)), some (eI (s)), some (eI (u0)), some (eI (u1)), some (eI (u2))]) (st' := [eI (0)]) rfl rfl rfl ?_
            refine b_rz rfl rfl (Or.inl rfl) ?_
            exact K0 _ (tS_tr (tS_tr s0 s1) s2) (by omega)
          · refine w_s (np := 72) (lv' := [some (eR 98), some (eI (7)), some (eI (p)), some (eI (q)), some (eI (r)), some (eI (s)), some (eI (u0)), some (eI (u1)), some (eI (u2))]) (st' := [eI (u2)]) rfl rfl rfl ?_
            refine b_igt (t1 := 79) (t2 := 75) rfl rfl rfl (ev_w_in (by omega) (by omega)) (fun g6 => ?_) (fun g6 => ?_)
            · refine w_s (np := 80) (lv' := [some (eR 98), some (eI (7)), some (eI (p)), some (eI (q)), some (eI (r)), some (eI (s)), some (eI (u0)), some (eI (u1)), some (eI (u2))]) (st' := [eI (0)]) rfl rfl rfl ?_
              refine b_rz rfl rfl (Or.inl rfl) ?_
              exact K0 _ (tS_tr (tS_tr s0 s1) s2) (by omega)
            · refine w_s (np := 76) (lv' := [some (eR 98), some (eI (7)), some (eI (p)), some (eI (q)), some (eI (r)), some (eI (s)), some (eI (u0)), some (eI (u1)), some (eI (u2))]) (st' := [eI (1)]) rfl rfl rfl ?_
              refine w_go (t1 := 80) rfl rfl ?_
              refine b_rz rfl rfl (Or.inr rfl) ?_
              exact K1 _ (tS_tr (tS_tr s0 s1) s2) (by omega)
theorem t266_8 {fg : eG} {rc rs d : Nat} {f : eFr} {F : List eFr} {μ : eM} {p q r s : Int} (hq : tQ μ) (hp : -9999 ≤ p ∧ p ≤ 9999) (hq0 : -9999 ≤ q ∧ q ≤ 9999) (hr : -9999 ≤ r ∧ r ≤ 9999) (hs : -9999 ≤ s ∧ s ≤ 9999) (K1 : ∀ μ2 : eM, tS μ μ2 → (((0 ≤ 832040 * p + 1346269 * q + 1346269 * r + 832040 * s) ∧ (0 ≤ 514229 * p + (-514229) * r + (-832040) * s + (-832040)) ∧ (0 ≤ (-1346269) * p + (-1346269) * q + (-832040) * r)) ∨ ((832040 * p + 1346269 * q + 1346269 * r + 832040 * s ≤ 0) ∧ (514229 * p + (-514229) * r + (-832040) * s + (-832040) ≤ 0) ∧ ((-1346269) * p + (-1346269) * q + (-832040) * r ≤ 0))) → ex_fine fg rc rs (d + 6, (f.1, f.2.1, f.2.2.1, eI 1 :: f.2.2.2), F, μ2)) (K0 : ∀ μ2 : eM, tS μ μ2 → ¬ (((0 ≤ 832040 * p + 1346269 * q + 1346269 * r + 832040 * s) ∧ (0 ≤ 514229 * p + (-514229) * r + (-832040) * s + (-832040)) ∧ (0 ≤ (-1346269) * p + (-1346269) * q + (-832040) * r)) ∨ ((832040 * p + 1346269 * q + 1346269 * r + 832040 * s ≤ 0) ∧ (514229 * p + (-514229) * r + (-832040) * s + (-832040) ≤ 0) ∧ ((-1346269) * p + (-1346269) * q + (-832040) * r ≤ 0))) → ex_fine fg rc rs (d + 6, (f.1, f.2.1, f.2.2.1, eI 0 :: f.2.2.2), F, μ2)) : ex_fine fg rc rs (d + 5, (266, 0, [some (eR 98), some (eI (8)), some (eI (p)), some (eI (q)), some (eI (r)), some (eI (s)), none, none, none], []), f :: F, μ) := by
  refine w_s (np := 1) (lv' := [some (eR 98), some (eI (8)), some (eI (p)), some (eI (q)), some (eI (r)), some (eI (s)), none, none, none]) (st' := [eR 98]) rfl (s_an rfl (by decide)) rfl ?_
  refine w_s (np := 2) (lv' := [some (eR 98), some (eI (8)), some (eI (p)), some (eI (q)), some (eI (r)), some (eI (s)), none, none, none]) (st' := [eI (8), eR 98]) rfl rfl rfl ?_
  refine w_s (np := 3) (lv' := [some (eR 98), some (eI (8)), some (eI (p)), some (eI (q)), some (eI (r)), some (eI (s)), none, none, none]) (st' := [eI (0), eI (8), eR 98]) rfl rfl rfl ?_
  refine w_s (np := 4) (lv' := [some (eR 98), some (eI (8)), some (eI (p)), some (eI (q)), some (eI (r)), some (eI (s)), none, none, none]) (st' := [eI (1), eI (0), eI (8), eR 98]) rfl rfl rfl ?_
  refine w_s (np := 5) (lv' := [some (eR 98), some (eI (8)), some (eI (p)), some (eI (q)), some (eI (r)), some (eI (s)), none, none, none]) (st' := [eI (p), eI (1), eI (0), eI (8), eR 98]) rfl rfl rfl ?_
  refine w_s (np := 6) (lv' := [some (eR 98), some (eI (8)), some (eI (p)), some (eI (q)), some (eI (r)), some (eI (s)), none, none, none]) (st' := [eI (q), eI (p), eI (1), eI (0), eI (8), eR 98]) rfl rfl rfl ?_
  refine w_s (np := 8) (lv' := [some (eR 98), some (eI (8)), some (eI (p)), some (eI (q)), some (eI (r)), some (eI (s)), none, none, none]) (st' := [eI (r), eI (q), eI (p), eI (1), eI (0), eI (8), eR 98]) rfl rfl rfl ?_
  refine w_s (np := 10) (lv' := [some (eR 98), some (eI (8)), some (eI (p)), some (eI (q)), some (eI (r)), some (eI (s)), none, none, none]) (st' := [eI (s), eI (r), eI (q), eI (p), eI (1), eI (0), eI (8), eR 98]) rfl rfl rfl ?_
  refine w_cv (np := 13) (as := [eI (8), eI (0), eI (1), eI (p), eI (q), eI (r), eI (s)]) (lv' := [some (eR 98), some (eI (8)), some (eI (0)), some (eI (1)), some (eI (p)), some (eI (q)), some (eI (r)), some (eI (s)), none, none]) (rest := []) rfl rfl rfl (Nat.ble_eq.mp rfl) rfl rfl rfl hq.1 rfl ?_
  refine t265_8_0 hq hp hq0 hr hs ?_
  intro m0 u0 s0 e0 w0
  have q0 := tQ_s hq s0
  have b0 : -1 ≤ u0 ∧ u0 ≤ 1 := by omega
  show ex_fine fg rc rs (d + 5, (266, 13, [some (eR 98), some (eI (8)), some (eI (p)), some (eI (q)), some (eI (r)), some (eI (s)), none, none, none], [eI (u0)]), f :: F, m0)
  refine w_s (np := 15) (lv' := [some (eR 98), some (eI (8)), some (eI (p)), some (eI (q)), some (eI (r)), some (eI (s)), some (eI (u0)), none, none]) (st' := []) rfl rfl rfl ?_
  refine w_s (np := 16) (lv' := [some (eR 98), some (eI (8)), some (eI (p)), some (eI (q)), some (eI (r)), some (eI (s)), some (eI (u0)), none, none]) (st' := [eR 98]) rfl (s_an rfl (by decide)) rfl ?_
  refine w_s (np := 17) (lv' := [some (eR 98), some (eI (8)), some (eI (p)), some (eI (q)), some (eI (r)), some (eI (s)), some (eI (u0)), none, none]) (st' := [eI (8), eR 98]) rfl rfl rfl ?_
  refine w_s (np := 18) (lv' := [some (eR 98), some (eI (8)), some (eI (p)), some (eI (q)), some (eI (r)), some (eI (s)), some (eI (u0)), none, none]) (st' := [eI (1), eI (8), eR 98]) rfl rfl rfl ?_
  refine w_s (np := 19) (lv' := [some (eR 98), some (eI (8)), some (eI (p)), some (eI (q)), some (eI (r)), some (eI (s)), some (eI (u0)), none, none]) (st' := [eI (2), eI (1), eI (8), eR 98]) rfl rfl rfl ?_
  refine w_s (np := 20) (lv' := [some (eR 98), some (eI (8)), some (eI (p)), some (eI (q)), some (eI (r)), some (eI (s)), some (eI (u0)), none, none]) (st' := [eI (p), eI (2), eI (1), eI (8), eR 98]) rfl rfl rfl ?_
  refine w_s (np := 21) (lv' := [some (eR 98), some (eI (8)), some (eI (p)), some (eI (q)), some (eI (r)), some (eI (s)), some (eI (u0)), none, none]) (st' := [eI (q), eI (p), eI (2), eI (1), eI (8), eR 98]) rfl rfl rfl ?_
  refine w_s (np := 23) (lv' := [some (eR 98), some (eI (8)), some (eI (p)), some (eI (q)), some (eI (r)), some (eI (s)), some (eI (u0)), none, none]) (st' := [eI (r), eI (q), eI (p), eI (2), eI (1), eI (8), eR 98]) rfl rfl rfl ?_
  refine w_s (np := 25) (lv' := [some (eR 98), some (eI (8)), some (eI (p)), some (eI (q)), some (eI (r)), some (eI (s)), some (eI (u0)), none, none]) (st' := [eI (s), eI (r), eI (q), eI (p), eI (2), eI (1), eI (8), eR 98]) rfl rfl rfl ?_
  refine w_cv (np := 28) (as := [eI (8), eI (1), eI (2), eI (p), eI (q), eI (r), eI (s)]) (lv' := [some (eR 98), some (eI (8)), some (eI (1)), some (eI (2)), some (eI (p)), some (eI (q)), some (eI (r)), some (eI (s)), none, none]) (rest := []) rfl rfl rfl (Nat.ble_eq.mp rfl) rfl rfl rfl q0.1 rfl ?_
  refine t265_8_1 q0 hp hq0 hr hs ?_
  intro m1 u1 s1 e1 w1
  have q1 := tQ_s q0 s1
  have b1 : -1 ≤ u1 ∧ u1 ≤ 1 := by omega
  show ex_fine fg rc rs (d + 5, (266, 28, [some (eR 98), some (eI (8)), some (eI (p)), some (eI (q)), some (eI (r)), some (eI (s)), some (eI (u0)), none, none], [eI (u1)]), f :: F, m1)
  refine w_s (np := 30) (lv' := [some (eR 98), some (eI (8)), some (eI (p)), some (eI (q)), some (eI (r)), some (eI (s)), some (eI (u0)), some (eI (u1)), none]) (st' := []) rfl rfl rfl ?_
  refine w_s (np := 31) (lv' := [some (eR 98), some (eI (8)), some (eI (p)), some (eI (q)), some (eI (r)), some (eI (s)), some (eI (u0)), some (eI (u1)), none]) (st' := [eR 98]) rfl (s_an rfl (by decide)) rfl ?_
  refine w_s (np := 32) (lv' := [some (eR 98), some (eI (8)), some (eI (p)), some (eI (q)), some (eI (r)), some (eI (s)), some (eI (u0)), some (eI (u1)), none]) (st' := [eI (8), eR 98]) rfl rfl rfl ?_
  refine w_s (np := 33) (lv' := [some (eR 98), some (eI (8)), some (eI (p)), some (eI (q)), some (eI (r)), some (eI (s)), some (eI (u0)), some (eI (u1)), none]) (st' := [eI (2), eI (8), eR 98]) rfl rfl rfl ?_
  refine w_s (np := 34) (lv' := [some (eR 98), some (eI (8)), some (eI (p)), some (eI (q)), some (eI (r)), some (eI (s)), some (eI (u0)), some (eI (u1)), none]) (st' := [eI (0), eI (2), eI (8), eR 98]) rfl rfl rfl ?_
  refine w_s (np := 35) (lv' := [some (eR 98), some (eI (8)), some (eI (p)), some (eI (q)), some (eI (r)), some (eI (s)), some (eI (u0)), some (eI (u1)), none]) (st' := [eI (p), eI (0), eI (2), eI (8), eR 98]) rfl rfl rfl ?_
  refine w_s (np := 36) (lv' := [some (eR 98), some (eI (8)), some (eI (p)), some (eI (q)), some (eI (r)), some (eI (s)), some (eI (u0)), some (eI (u1)), none]) (st' := [eI (q), eI (p), eI (0), eI (2), eI (8), eR 98]) rfl rfl rfl ?_
  refine w_s (np := 38) (lv' := [some (eR 98), some (eI (8)), some (eI (p)), some (eI (q)), some (eI (r)), some (eI (s)), some (eI (u0)), some (eI (u1)), none]) (st' := [eI (r), eI (q), eI (p), eI (0), eI (2), eI (8), eR 98]) rfl rfl rfl ?_
  refine w_s (np := 40) (lv' := [some (eR 98), some (eI (8)), some (eI (p)), some (eI (q)), some (eI (r)), some (eI (s)), some (eI (u0)), some (eI (u1)), none]) (st' := [eI (s), eI (r), eI (q), eI (p), eI (0), eI (2), eI (8), eR 98]) rfl rfl rfl ?_
  refine w_cv (np := 43) (as := [eI (8), eI (2), eI (0), eI (p), eI (q), eI (r), eI (s)]) (lv' := [some (eR 98), some (eI (8)), some (eI (2)), some (eI (0)), some (eI (p)), some (eI (q)), some (eI (r)), some (eI (s)), none, none]) (rest := []) rfl rfl rfl (Nat.ble_eq.mp rfl) rfl rfl rfl q1.1 rfl ?_
  refine t265_8_2 q1 hp hq0 hr hs ?_
  intro m2 u2 s2 e2 w2
  have q2 := tQ_s q1 s2
  have b2 : -1 ≤ u2 ∧ u2 ≤ 1 := by omega
  show ex_fine fg rc rs (d + 5, (266, 43, [some (eR 98), some (eI (8)), some (eI (p)), some (eI (q)), some (eI (r)), some (eI (s)), some (eI (u0)), some (eI (u1)), none], [eI (u2)]), f :: F, m2)
  refine w_s (np := 45) (lv' := [some (eR 98), some (eI (8)), some (eI (p)), some (eI (q)), some (eI (r)), some (eI (s)), some (eI (u0)), some (eI (u1)), some (eI (u2))]) (st' := []) rfl rfl rfl ?_
  refine w_s (np := 47) (lv' := [some (eR 98), some (eI (8)), some (eI (p)), some (eI (q)), some (eI (r)), some (eI (s)), some (eI (u0)), some (eI (u1)), some (eI (u2))]) (st' := [eI (u0)]) rfl rfl rfl ?_
  refine b_ilt (t1 := 60) (t2 := 50) rfl rfl rfl (ev_w_in (by omega) (by omega)) (fun g1 => ?_) (fun g1 => ?_)
  · refine w_s (np := 62) (lv' := [some (eR 98), some (eI (8)), some (eI (p)), some (eI (q)), some (eI (r)), some (eI (s)), some (eI (u0)), some (eI (u1)), some (eI (u2))]) (st' := [eI (u0)]) rfl rfl rfl ?_
    refine b_igt (t1 := 79) (t2 := 65) rfl rfl rfl (ev_w_in (by omega) (by omega)) (fun g2 => ?_) (fun g2 => ?_)
    · refine w_s (np := 80) (lv' := [some (eR 98), some (eI (8)), some (eI (p)), some (eI (q)), some (eI (r)), some (eI (s)), some (eI (u0)), some (eI (u1)), some (eI (u2))]) (st' := [eI (0)]) rfl rfl rfl ?_
      refine b_rz rfl rfl (Or.inl rfl) ?_
      exact K0 _ (tS_tr (tS_tr s0 s1) s2) (by omega)
    · refine w_s (np := 67) (lv' := [some (eR 98), some (eI (8)), some (eI (p)), some (eI (q)), some (eI (r)), some (eI (s)), some (eI (u0)), some (eI (u1)), some (eI (u2))]) (st' := [eI (u1)]) rfl rfl rfl ?_
      refine b_igt (t1 := 79) (t2 := 70) rfl rfl rfl (ev_w_in (by omega) (by omega)) (fun g3 => ?_) (fun g3 => ?_)
      · refine w_s (np := 80) (lv' := [some (eR 98), some (eI (8)), some (eI (p)), some (eI (q)), some (eI (r)), some (eI (s)), some (eI (u0)), some (eI (u1)), some (eI (u2))]) (st' := [eI (0)]) rfl rfl rfl ?_
        refine b_rz rfl rfl (Or.inl rfl) ?_
        exact K0 _ (tS_tr (tS_tr s0 s1) s2) (by omega)
      · refine w_s (np := 72) (lv' := [some (eR 98), some (eI (8)), some (eI (p)), some (eI (q)), some (eI (r)), some (eI (s)), some (eI (u0)), some (eI (u1)), some (eI (u2))]) (st' := [eI (u2)]) rfl rfl rfl ?_
        refine b_igt (t1 := 79) (t2 := 75) rfl rfl rfl (ev_w_in (by omega) (by omega)) (fun g4 => ?_) (fun g4 => ?_)
        · refine w_s (np := 80) (lv' := [some (eR 98), some (eI (8)), some (eI (p)), some (eI (q)), some (eI (r)), some (eI (s)), some (eI (u0)), some (eI (u1)), some (eI (u2))]) (st' := [eI (0)]) rfl rfl rfl ?_
          refine b_rz rfl rfl (Or.inl rfl) ?_
          exact K0 _ (tS_tr (tS_tr s0 s1) s2) (by omega)
        · refine w_s (np := 76) (lv' := [some (eR 98), some (eI (8)), some (eI (p)), some (eI (q)), some (eI (r)), some (eI (s)), some (eI (u0)), some (eI (u1)), some (eI (u2))]) (st' := [eI (1)]) rfl rfl rfl ?_
          refine w_go (t1 := 80) rfl rfl ?_
          refine b_rz rfl rfl (Or.inr rfl) ?_
          exact K1 _ (tS_tr (tS_tr s0 s1) s2) (by omega)
  · refine w_s (np := 52) (lv' := [some (eR 98), some (eI (8)), some (eI (p)), some (eI (q)), some (eI (r)), some (eI (s)), some (eI (u0)), some (eI (u1)), some (eI (u2))]) (st' := [eI (u1)]) rfl rfl rfl ?_
    refine b_ilt (t1 := 60) (t2 := 55) rfl rfl rfl (ev_w_in (by omega) (by omega)) (fun g2 => ?_) (fun g2 => ?_)
    · refine w_s (np := 62) (lv' := [some (eR 98), some (eI (8)), some (eI (p)), some (eI (q)), some (eI (r)), some (eI (s)), some (eI (u0)), some (eI (u1)), some (eI (u2))]) (st' := [eI (u0)]) rfl rfl rfl ?_
      refine b_igt (t1 := 79) (t2 := 65) rfl rfl rfl (ev_w_in (by omega) (by omega)) (fun g3 => ?_) (fun g3 => ?_)
      · refine w_s (np := 80) (lv' := [some (eR 98), some (eI (8)), some (eI (p)), some (eI (q)), some (eI (r)), some (eI (s)), some (eI (u0)), some (eI (u1)), some (eI (u2))]) (st' := [eI (0)]) rfl rfl rfl ?_
        refine b_rz rfl rfl (Or.inl rfl) ?_
        exact K0 _ (tS_tr (tS_tr s0 s1) s2) (by omega)
      · refine w_s (np := 67) (lv' := [some (eR 98), some (eI (8)), some (eI (p)), some (eI (q)), some (eI (r)), some (eI (s)), some (eI (u0)), some (eI (u1)), some (eI (u2))]) (st' := [eI (u1)]) rfl rfl rfl ?_
        refine b_igt (t1 := 79) (t2 := 70) rfl rfl rfl (ev_w_in (by omega) (by omega)) (fun g4 => ?_) (fun g4 => ?_)
        · refine w_s (np := 80) (lv' := [some (eR 98), some (eI (8)), some (eI (p)), some (eI (q)), some (eI (r)), some (eI (s)), some (eI (u0)), some (eI (u1)), some (eI (u2))]) (st' := [eI (0)]) rfl rfl rfl ?_
          refine b_rz rfl rfl (Or.inl rfl) ?_
          exact K0 _ (tS_tr (tS_tr s0 s1) s2) (by omega)
        · refine w_s (np := 72) (lv' := [some (eR 98), some (eI (8)), some (eI (p)), some (eI (q)), some (eI (r)), some (eI (s)), some (eI (u0)), some (eI (u1)), some (eI (u2))]) (st' := [eI (u2)]) rfl rfl rfl ?_
          refine b_igt (t1 := 79) (t2 := 75) rfl rfl rfl (ev_w_in (by omega) (by omega)) (fun g5 => ?_) (fun g5 => ?_)
          · refine w_s (np := 80) (lv' := [some (eR 98), some (eI (8)), some (eI (p)), some (eI (q)), some (eI (r)), some (eI (s)), some (eI (u0)), some (eI (u1)), some (eI (u2))]) (st' := [eI (0)]) rfl rfl rfl ?_
            refine b_rz rfl rfl (Or.inl rfl) ?_
            exact K0 _ (tS_tr (tS_tr s0 s1) s2) (by omega)
          · refine w_s (np := 76) (lv' := [some (eR 98), some (eI (8)), some (eI (p)), some (eI (q)), some (eI (r)), some (eI (s)), some (eI (u0)), some (eI (u1)), some (eI (u2))]) (st' := [eI (1)]) rfl rfl rfl ?_
            refine w_go (t1 := 80) rfl rfl ?_
            refine b_rz rfl rfl (Or.inr rfl) ?_
            exact K1 _ (tS_tr (tS_tr s0 s1) s2) (by omega)
    · refine w_s (np := 57) (lv' := [some (eR 98), some (eI (8)), some (eI (p)), some (eI (q)), some (eI (r)), some (eI (s)), some (eI (u0)), some (eI (u1)), some (eI (u2))]) (st' := [eI (u2)]) rfl rfl rfl ?_
      refine b_ige (t1 := 75) (t2 := 60) rfl rfl rfl (ev_w_in (by omega) (by omega)) (fun g3 => ?_) (fun g3 => ?_)
      · refine w_s (np := 76) (lv' := [some (eR 98), some (eI (8)), some (eI (p)), some (eI (q)), some (eI (r)), some (eI (s)), some (eI (u0)), some (eI (u1)), some (eI (u2))]) (st' := [eI (1)]) rfl rfl rfl ?_
        refine w_go (t1 := 80) rfl rfl ?_
        refine b_rz rfl rfl (Or.inr rfl) ?_
        exact K1 _ (tS_tr (tS_tr s0 s1) s2) (by omega)
      · refine w_s (np := 62) (lv' := [some (eR 98), some (eI (8)), some (eI (p)), some (eI (q)), some (eI (r)), some (eI (s)), some (eI (u0)), some (eI (u1)), some (eI (u2))]) (st' := [eI (u0)]) rfl rfl rfl ?_
        refine b_igt (t1 := 79) (t2 := 65) rfl rfl rfl (ev_w_in (by omega) (by omega)) (fun g4 => ?_) (fun g4 => ?_)
        · refine w_s (np := 80) (lv' := [some (eR 98), some (eI (8)), some (eI (p)), some (eI (q)), some (eI (r)), some (eI (s)), some (eI (u0)), some (eI (u1)), some (eI (u2))]) (st' := [eI (0)]) rfl rfl rfl ?_
          refine b_rz rfl rfl (Or.inl rfl) ?_
          exact K0 _ (tS_tr (tS_tr s0 s1) s2) (by omega)
        · refine w_s (np := 67) (lv' := [some (eR 98), some (eI (8)), some (eI (p)), some (eI (q)), some (eI (r)), some (eI (s)), some (eI (u0)), some (eI (u1)), some (eI (u2))]) (st' := [eI (u1)]) rfl rfl rfl ?_
          refine b_igt (t1 := 79) (t2 := 70) rfl rfl rfl (ev_w_in (by omega) (by omega)) (fun g5 => ?_) (fun g5 => ?_)
          · refine w_s (np := 80) (lv' := [some (eR 98), some (eI (8)), some (eI (p)), some (eI (q)), some (eI (r)), some (eI (s)), some (eI (u0)), some (eI (u1)), some (eI (u2))]) (st' := [eI (0)]) rfl rfl rfl ?_
            refine b_rz rfl rfl (Or.inl rfl) ?_
            exact K0 _ (tS_tr (tS_tr s0 s1) s2) (by omega)
          · refine w_s (np := 72) (lv' := [some (eR 98), some (eI (8)), some (eI (p)), some (eI (q)), some (eI (r)), some (eI (s)), some (eI (u0)), some (eI (u1)), some (eI (u2))]) (st' := [eI (u2)]) rfl rfl rfl ?_
            refine b_igt (t1 := 79) (t2 := 75) rfl rfl rfl (ev_w_in (by omega) (by omega)) (fun g6 => ?_) (fun g6 => ?_)
            · refine w_s (np := 80) (lv' := [some (eR 98), some (eI (8)), some (eI (p)), some (eI (q)), some (eI (r)), some (eI (s)), some (eI (u0)), some (eI (u1)), some (eI (u2))]) (st' := [eI (0)]) rfl rfl rfl ?_
              refine b_rz rfl rfl (Or.inl rfl) ?_
              exact K0 _ (tS_tr (tS_tr s0 s1) s2) (by omega)
            · refine w_s (np := 76) (lv' := [some (eR 98), some (eI (8)), some (eI (p)), some (eI (q)), some (eI (r)), some (eI (s)), some (eI (u0)), some (eI (u1)), some (eI (u2))]) (st' := [eI (1)]) rfl rfl rfl ?_
              refine w_go (t1 := 80) rfl rfl ?_
              refine b_rz rfl rfl (Or.inr rfl) ?_
              exact K1 _ (tS_tr (tS_tr s0 s1) s2) (by omega)
theorem t266_9 {fg : eG} {rc rs d : Nat} {f : eFr} {F : List eFr} {μ : eM} {p q r s : Int} (hq : tQ μ) (hp : -9999 ≤ p ∧ p ≤ 9999) (hq0 : -9999 ≤ q ∧ q ≤ 9999) (hr : -9999 ≤ r ∧ r ≤ 9999) (hs : -9999 ≤ s ∧ s ≤ 9999) (K1 : ∀ μ2 : eM, tS μ μ2 → (((0 ≤ 832040 * p + 1346269 * q + 1346269 * r + 832040 * s) ∧ (0 ≤ (-832040) * p + (-514229) * q + 514229 * s + (832040)) ∧ (0 ≤ (-832040) * q + (-1346269) * r + (-1346269) * s)) ∨ ((832040 * p + 1346269 * q + 1346269 * r + 832040 * s ≤ 0) ∧ ((-832040) * p + (-514229) * q + 514229 * s + (832040) ≤ 0) ∧ ((-832040) * q + (-1346269) * r + (-1346269) * s ≤ 0))) → ex_fine fg rc rs (d + 6, (f.1, f.2.1, f.2.2.1, eI 1 :: f.2.2.2), F, μ2)) (K0 : ∀ μ2 : eM, tS μ μ2 → ¬ (((0 ≤ 832040 * p + 1346269 * q + 1346269 * r + 832040 * s) ∧ (0 ≤ (-832040) * p + (-514229) * q + 514229 * s + (832040)) ∧ (0 ≤ (-832040) * q + (-1346269) * r + (-1346269) * s)) ∨ ((832040 * p + 1346269 * q + 1346269 * r + 832040 * s ≤ 0) ∧ ((-832040) * p + (-514229) * q + 514229 * s + (832040) ≤ 0) ∧ ((-832040) * q + (-1346269) * r + (-1346269) * s ≤ 0))) → ex_fine fg rc rs (d + 6, (f.1, f.2.1, f.2.2.1, eI 0 :: f.2.2.2), F, μ2)) : ex_fine fg rc rs (d + 5, (266, 0, [some (eR 98), some (eI (9)), some (eI (p)), some (eI (q)), some (eI (r)), some (eI (s)), none, none, none], []), f :: F, μ) := by
  refine w_s (np := 1) (lv' := [some (eR 98), some (eI (9)), some (eI (p)), some (eI (q)), some (eI (r)), some (eI (s)), none, none, none]) (st' := [eR 98]) rfl (s_an rfl (by decide)) rfl ?_
  refine w_s (np := 2) (lv' := [some (eR 98), some (eI (9)), some (eI (p)), some (eI (q)), some (eI (r)), some (eI (s)), none, none, none]) (st' := [eI (9), eR 98]) rfl rfl rfl ?_
  refine w_s (np := 3) (lv' := [some (eR 98), some (eI (9)), some (eI (p)), some (eI (q)), some (eI (r)), some (eI (s)), none, none, none]) (st' := [eI (0), eI (9), eR 98]) rfl rfl rfl ?_
  refine w_s (np := 4) (lv' := [some (eR 98), some (eI (9)), some (eI (p)), some (eI (q)), some (eI (r)), some (eI (s)), none, none, none]) (st' := [eI (1), eI (0), eI (9), eR 98]) rfl rfl rfl ?_
  refine w_s (np := 5) (lv' := [some (eR 98), some (eI (9)), some (eI (p)), some (eI (q)), some (eI (r)), some (eI (s)), none, none, none]) (st' := [eI (p), eI (1), eI (0), eI (9), eR 98]) rfl rfl rfl ?_
  refine w_s (np := 6) (lv' := [some (eR 98), some (eI (9)), some (eI (p)), some (eI (q)), some (eI (r)), some (eI (s)), none, none, none]) (st' := [eI (q), eI (p), eI (1), eI (0), eI (9), eR 98]) rfl rfl rfl ?_
  refine w_s (np := 8) (lv' := [some (eR 98), some (eI (9)), some (eI (p)), some (eI (q)), some (eI (r)), some (eI (s)), none, none, none]) (st' := [eI (r), eI (q), eI (p), eI (1), eI (0), eI (9), eR 98]) rfl rfl rfl ?_
  refine w_s (np := 10) (lv' := [some (eR 98), some (eI (9)), some (eI (p)), some (eI (q)), some (eI (r)), some (eI (s)), none, none, none]) (st' := [eI (s), eI (r), eI (q), eI (p), eI (1), eI (0), eI (9), eR 98]) rfl rfl rfl ?_
  refine w_cv (np := 13) (as := [eI (9), eI (0), eI (1), eI (p), eI (q), eI (r), eI (s)]) (lv' := [some (eR 98), some (eI (9)), some (eI (0)), some (eI (1)), some (eI (p)), some (eI (q)), some (eI (r)), some (eI (s)), none, none]) (rest := []) rfl rfl rfl (Nat.ble_eq.mp rfl) rfl rfl rfl hq.1 rfl ?_
  refine t265_9_0 hq hp hq0 hr hs ?_
  intro m0 u0 s0 e0 w0
  have q0 := tQ_s hq s0
  have b0 : -1 ≤ u0 ∧ u0 ≤ 1 := by omega
  show ex_fine fg rc rs (d + 5, (266, 13, [some (eR 98), some (eI (9)), some (eI (p)), some (eI (q)), some (eI (r)), some (eI (s)), none, none, none], [eI (u0)]), f :: F, m0)
  refine w_s (np := 15) (lv' := [some (eR 98), some (eI (9)), some (eI (p)), some (eI (q)), some (eI (r)), some (eI (s)), some (eI (u0)), none, none]) (st' := []) rfl rfl rfl ?_
  refine w_s (np := 16) (lv' := [some (eR 98), some (eI (9)), some (eI (p)), some (eI (q)), some (eI (r)), some (eI (s)), some (eI (u0)), none, none]) (st' := [eR 98]) rfl (s_an rfl (by decide)) rfl ?_
  refine w_s (np := 17) (lv' := [some (eR 98), some (eI (9)), some (eI (p)), some (eI (q)), some (eI (r)), some (eI (s)), some (eI (u0)), none, none]) (st' := [eI (9), eR 98]) rfl rfl rfl ?_
  refine w_s (np := 18) (lv' := [some (eR 98), some (eI (9)), some (eI (p)), some (eI (q)), some (eI (r)), some (eI (s)), some (eI (u0)), none, none]) (st' := [eI (1), eI (9), eR 98]) rfl rfl rfl ?_
  refine w_s (np := 19) (lv' := [some (eR 98), some (eI (9)), some (eI (p)), some (eI (q)), some (eI (r)), some (eI (s)), some (eI (u0)), none, none]) (st' := [eI (2), eI (1), eI (9), eR 98]) rfl rfl rfl ?_
  refine w_s (np := 20) (lv' := [some (eR 98), some (eI (9)), some (eI (p)), some (eI (q)), some (eI (r)), some (eI (s)), some (eI (u0)), none, none]) (st' := [eI (p), eI (2), eI (1), eI (9), eR 98]) rfl rfl rfl ?_
  refine w_s (np := 21) (lv' := [some (eR 98), some (eI (9)), some (eI (p)), some (eI (q)), some (eI (r)), some (eI (s)), some (eI (u0)), none, none]) (st' := [eI (q), eI (p), eI (2), eI (1), eI (9), eR 98]) rfl rfl rfl ?_
  refine w_s (np := 23) (lv' := [some (eR 98), some (eI (9)), some (eI (p)), some (eI (q)), some (eI (r)), some (eI (s)), some (eI (u0)), none, none]) (st' := [eI (r), eI (q), eI (p), eI (2), eI (1), eI (9), eR 98]) rfl rfl rfl ?_
  refine w_s (np := 25) (lv' := [some (eR 98), some (eI (9)), some (eI (p)), some (eI (q)), some (eI (r)), some (eI (s)), some (eI (u0)), none, none]) (st' := [eI (s), eI (r), eI (q), eI (p), eI (2), eI (1), eI (9), eR 98]) rfl rfl rfl ?_
  refine w_cv (np := 28) (as := [eI (9), eI (1), eI (2), eI (p), eI (q), eI (r), eI (s)]) (lv' := [some (eR 98), some (eI (9)), some (eI (1)), some (eI (2)), some (eI (p)), some (eI (q)), some (eI (r)), some (eI (s)), none, none]) (rest := []) rfl rfl rfl (Nat.ble_eq.mp rfl) rfl rfl rfl q0.1 rfl ?_
  refine t265_9_1 q0 hp hq0 hr hs ?_
  intro m1 u1 s1 e1 w1
  have q1 := tQ_s q0 s1
  have b1 : -1 ≤ u1 ∧ u1 ≤ 1 := by omega
  show ex_fine fg rc rs (d + 5, (266, 28, [some (eR 98), some (eI (9)), some (eI (p)), some (eI (q)), some (eI (r)), some (eI (s)), some (eI (u0)), none, none], [eI (u1)]), f :: F, m1)
  refine w_s (np := 30) (lv' := [some (eR 98), some (eI (9)), some (eI (p)), some (eI (q)), some (eI (r)), some (eI (s)), some (eI (u0)), some (eI (u1)), none]) (st' := []) rfl rfl rfl ?_
  refine w_s (np := 31) (lv' := [some (eR 98), some (eI (9)), some (eI (p)), some (eI (q)), some (eI (r)), some (eI (s)), some (eI (u0)), some (eI (u1)), none]) (st' := [eR 98]) rfl (s_an rfl (by decide)) rfl ?_
  refine w_s (np := 32) (lv' := [some (eR 98), some (eI (9)), some (eI (p)), some (eI (q)), some (eI (r)), some (eI (s)), some (eI (u0)), some (eI (u1)), none]) (st' := [eI (9), eR 98]) rfl rfl rfl ?_
  refine w_s (np := 33) (lv' := [some (eR 98), some (eI (9)), some (eI (p)), some (eI (q)), some (eI (r)), some (eI (s)), some (eI (u0)), some (eI (u1)), none]) (st' := [eI (2), eI (9), eR 98]) rfl rfl rfl ?_
  refine w_s (np := 34) (lv' := [some (eR 98), some (eI (9)), some (eI (p)), some (eI (q)), some (eI (r)), some (eI (s)), some (eI (u0)), some (eI (u1)), none]) (st' := [eI (0), eI (2), eI (9), eR 98]) rfl rfl rfl ?_
  refine w_s (np := 35) (lv' := [some (eR 98), some (eI (9)), some (eI (p)), some (eI (q)), some (eI (r)), some (eI (s)), some (eI (u0)), some (eI (u1)), none]) (st' := [eI (p), eI (0), eI (2), eI (9), eR 98]) rfl rfl rfl ?_
  refine w_s (np := 36) (lv' := [some (eR 98), some (eI (9)), some (eI (p)), some (eI (q)), some (eI (r)), some (eI (s)), some (eI (u0)), some (eI (u1)), none]) (st' := [eI (q), eI (p), eI (0), eI (2), eI (9), eR 98]) rfl rfl rfl ?_
  refine w_s (np := 38) (lv' := [some (eR 98), some (eI (9)), some (eI (p)), some (eI (q)), some (eI (r)), some (eI (s)), some (eI (u0)), some (eI (u1)), none]) (st' := [eI (r), eI (q), eI (p), eI (0), eI (2), eI (9), eR 98]) rfl rfl rfl ?_
  refine w_s (np := 40) (lv' := [some (eR 98), some (eI (9)), some (eI (p)), some (eI (q)), some (eI (r)), some (eI (s)), some (eI (u0)), some (eI (u1)), none]) (st' := [eI (s), eI (r), eI (q), eI (p), eI (0), eI (2), eI (9), eR 98]) rfl rfl rfl ?_
  refine w_cv (np := 43) (as := [eI (9), eI (2), eI (0), eI (p), eI (q), eI (r), eI (s)]) (lv' := [some (eR 98), some (eI (9)), some (eI (2)), some (eI (0)), some (eI (p)), some (eI (q)), some (eI (r)), some (eI (s)), none, none]) (rest := []) rfl rfl rfl (Nat.ble_eq.mp rfl) rfl rfl rfl q1.1 rfl ?_
  refine t265_9_2 q1 hp hq0 hr hs ?_
  intro m2 u2 s2 e2 w2
  have q2 := tQ_s q1 s2
  have b2 : -1 ≤ u2 ∧ u2 ≤ 1 := by omega
  show ex_fine fg rc rs (d + 5, (266, 43, [some (eR 98), some (eI (9)), some (eI (p)), some (eI (q)), some (eI (r)), some (eI (s)), some (eI (u0)), some (eI (u1)), none], [eI (u2)]), f :: F, m2)
  refine w_s (np := 45) (lv' := [some (eR 98), some (eI (9)), some (eI (p)), some (eI (q)), some (eI (r)), some (eI (s)), some (eI (u0)), some (eI (u1)), some (eI (u2))]) (st' := []) rfl rfl rfl ?_
  refine w_s (np := 47) (lv' := [some (eR 98), some (eI (9)), some (eI (p)), some (eI (q)), some (eI (r)), some (eI (s)), some (eI (u0)), some (eI (u1)), some (eI (u2))]) (st' := [eI (u0)]) rfl rfl rfl ?_
  refine b_ilt (t1 := 60) (t2 := 50) rfl rfl rfl (ev_w_in (by omega) (by omega)) (fun g1 => ?_) (fun g1 => ?_)
  · refine w_s (np := 62) (lv' := [some (eR 98), some (eI (9)), some (eI (p)), some (eI (q)), some (eI (r)), some (eI (s)), some (eI (u0)), some (eI (u1)), some (eI (u2))]) (st' := [eI (u0)]) rfl rfl rfl ?_
    refine b_igt (t1 := 79) (t2 := 65) rfl rfl rfl (ev_w_in (by omega) (by omega)) (fun g2 => ?_) (fun g2 => ?_)
    · refine w_s (np := 80) (lv' := [some (eR 98), some (eI (9)), some (eI (p)), some (eI (q)), some (eI (r)), some (eI (s)), some (eI (u0)), some (eI (u1)), some (eI (u2))]) (st' := [eI (0)]) rfl rfl rfl ?_
      refine b_rz rfl rfl (Or.inl rfl) ?_
      exact K0 _ (tS_tr (tS_tr s0 s1) s2) (by omega)
    · refine w_s (np := 67) (lv' := [some (eR 98), some (eI (9)), some (eI (p)), some (eI (q)), some (eI (r)), some (eI (s)), some (eI (u0)), some (eI (u1)), some (eI (u2))]) (st' := [eI (u1)]) rfl rfl rfl ?_
      refine b_igt (t1 := 79) (t2 := 70) rfl rfl rfl (ev_w_in (by omega) (by omega)) (fun g3 => ?_) (fun g3 => ?_)
      · refine w_s (np := 80) (lv' := [some (eR 98), some (eI (9)), some (eI (p)), some (eI (q)), some (eI (r)), some (eI (s)), some (eI (u0)), some (eI (u1)), some (eI (u2))]) (st' := [eI (0)]) rfl rfl rfl ?_
        refine b_rz rfl rfl (Or.inl rfl) ?_
        exact K0 _ (tS_tr (tS_tr s0 s1) s2) (by omega)
      · refine w_s (np := 72) (lv' := [some (eR 98), some (eI (9)), some (eI (p)), some (eI (q)), some (eI (r)), some (eI (s)), some (eI (u0)), some (eI (u1)), some (eI (u2))]) (st' := [eI (u2)]) rfl rfl rfl ?_
        refine b_igt (t1 := 79) (t2 := 75) rfl rfl rfl (ev_w_in (by omega) (by omega)) (fun g4 => ?_) (fun g4 => ?_)
        · refine w_s (np := 80) (lv' := [some (eR 98), some (eI (9)), some (eI (p)), some (eI (q)), some (eI (r)), some (eI (s)), some (eI (u0)), some (eI (u1)), some (eI (u2))]) (st' := [eI (0)]) rfl rfl rfl ?_
          refine b_rz rfl rfl (Or.inl rfl) ?_
          exact K0 _ (tS_tr (tS_tr s0 s1) s2) (by omega)
        · refine w_s (np := 76) (lv' := [some (eR 98), some (eI (9)), some (eI (p)), some (eI (q)), some (eI (r)), some (eI (s)), some (eI (u0)), some (eI (u1)), some (eI (u2))]) (st' := [eI (1)]) rfl rfl rfl ?_
          refine w_go (t1 := 80) rfl rfl ?_
          refine b_rz rfl rfl (Or.inr rfl) ?_
          exact K1 _ (tS_tr (tS_tr s0 s1) s2) (by omega)
  · refine w_s (np := 52) (lv' := [some (eR 98), some (eI (9)), some (eI (p)), some (eI (q)), some (eI (r)), some (eI (s)), some (eI (u0)), some (eI (u1)), some (eI (u2))]) (st' := [eI (u1)]) rfl rfl rfl ?_
    refine b_ilt (t1 := 60) (t2 := 55) rfl rfl rfl (ev_w_in (by omega) (by omega)) (fun g2 => ?_) (fun g2 => ?_)
    · refine w_s (np := 62) (lv' := [some (eR 98), some (eI (9)), some (eI (p)), some (eI (q)), some (eI (r)), some (eI (s)), some (eI (u0)), some (eI (u1)), some (eI (u2))]) (st' := [eI (u0)]) rfl rfl rfl ?_
      refine b_igt (t1 := 79) (t2 := 65) rfl rfl rfl (ev_w_in (by omega) (by omega)) (fun g3 => ?_) (fun g3 => ?_)
      · refine w_s (np := 80) (lv' := [some (eR 98), some (eI (9)), some (eI (p)), some (eI (q)), some (eI (r)), some (eI (s)), some (eI (u0)), some (eI (u1)), some (eI (u2))]) (st' := [eI (0)]) rfl rfl rfl ?_
        refine b_rz rfl rfl (Or.inl rfl) ?_
        exact K0 _ (tS_tr (tS_tr s0 s1) s2) (by omega)
      · refine w_s (np := 67) (lv' := [some (eR 98), some (eI (9)), some (eI (p)), some (eI (q)), some (eI (r)), some (eI (s)), some (eI (u0)), some (eI (u1)), some (eI (u2))]) (st' := [eI (u1)]) rfl rfl rfl ?_
        refine b_igt (t1 := 79) (t2 := 70) rfl rfl rfl (ev_w_in (by omega) (by omega)) (fun g4 => ?_) (fun g4 => ?_)
        · refine w_s (np := 80) (lv' := [some (eR 98), some (eI (9)), some (eI (p)), some (eI (q)), some (eI (r)), some (eI (s)), some (eI (u0)), some (eI (u1)), some (eI (u2))]) (st' := [eI (0)]) rfl rfl rfl ?_
          refine b_rz rfl rfl (Or.inl rfl) ?_
          exact K0 _ (tS_tr (tS_tr s0 s1) s2) (by omega)
        · refine w_s (np := 72) (lv' := [some (eR 98), some (eI (9)), some (eI (p)), some (eI (q)), some (eI (r)), some (eI (s)), some (eI (u0)), some (eI (u1)), some (eI (u2))]) (st' := [eI (u2)]) rfl rfl rfl ?_
          refine b_igt (t1 := 79) (t2 := 75) rfl rfl rfl (ev_w_in (by omega) (by omega)) (fun g5 => ?_) (fun g5 => ?_)
          · refine w_s (np := 80) (lv' := [some (eR 98), some (eI (9)), some (eI (p)), some (eI (q)), some (eI (r)), some (eI (s)), some (eI (u0)), some (eI (u1)), some (eI (u2))]) (st' := [eI (0)]) rfl rfl rfl ?_
            refine b_rz rfl rfl (Or.inl rfl) ?_
            exact K0 _ (tS_tr (tS_tr s0 s1) s2) (by omega)
          · refine w_s (np := 76) (lv' := [some (eR 98), some (eI (9)), some (eI (p)), some (eI (q)), some (eI (r)), some (eI (s)), some (eI (u0)), some (eI (u1)), some (eI (u2))]) (st' := [eI (1)]) rfl rfl rfl ?_
            refine w_go (t1 := 80) rfl rfl ?_
            refine b_rz rfl rfl (Or.inr rfl) ?_
            exact K1 _ (tS_tr (tS_tr s0 s1) s2) (by omega)
    · refine w_s (np := 57) (lv' := [some (eR 98), some (eI (9)), some (eI (p)), some (eI (q)), some (eI (r)), some (eI (s)), some (eI (u0)), some (eI (u1)), some (eI (u2))]) (st' := [eI (u2)]) rfl rfl rfl ?_
      refine b_ige (t1 := 75) (t2 := 60) rfl rfl rfl (ev_w_in (by omega) (by omega)) (fun g3 => ?_) (fun g3 => ?_)
      · refine w_s (np := 76) (lv' := [some (eR 98), some (eI (9)), some (eI (p)), some (eI (q)), some (eI (r)), some (eI (s)), some (eI (u0)), some (eI (u1)), some (eI (u2))]) (st' := [eI (1)]) rfl rfl rfl ?_
        refine w_go (t1 := 80) rfl rfl ?_
        refine b_rz rfl rfl (Or.inr rfl) ?_
        exact K1 _ (tS_tr (tS_tr s0 s1) s2) (by omega)
      · refine w_s (np := 62) (lv' := [some (eR 98), some (eI (9)), some (eI (p)), some (eI (q)), some (eI (r)), some (eI (s)), some (eI (u0)), some (eI (u1)), some (eI (u2))]) (st' := [eI (u0)]) rfl rfl rfl ?_
        refine b_igt (t1 := 79) (t2 := 65) rfl rfl rfl (ev_w_in (by omega) (by omega)) (fun g4 => ?_) (fun g4 => ?_)
        · refine w_s (np := 80) (lv' := [some (eR 98), some (eI (9)), some (eI (p)), some (eI (q)), some (eI (r)), some (eI (s)), some (eI (u0)), some (eI (u1)), some (eI (u2))]) (st' := [eI (0)]) rfl rfl rfl ?_
          refine b_rz rfl rfl (Or.inl rfl) ?_
          exact K0 _ (tS_tr (tS_tr s0 s1) s2) (by omega)
        · refine w_s (np := 67) (lv' := [some (eR 98), some (eI (9)), some (eI (p)), some (eI (q)), some (eI (r)), some (eI (s)), some (eI (u0)), some (eI (u1)), some (eI (u2))]) (st' := [eI (u1)]) rfl rfl rfl ?_
          refine b_igt (t1 := 79) (t2 := 70) rfl rfl rfl (ev_w_in (by omega) (by omega)) (fun g5 => ?_) (fun g5 => ?_)
          · refine w_s (np := 80) (lv' := [some (eR 98), some (eI (9)), some (eI (p)), some (eI (q)), some (eI (r)), some (eI (s)), some (eI (u0)), some (eI (u1)), some (eI (u2))]) (st' := [eI (0)]) rfl rfl rfl ?_
            refine b_rz rfl rfl (Or.inl rfl) ?_
            exact K0 _ (tS_tr (tS_tr s0 s1) s2) (by omega)
          · refine w_s (np := 72) (lv' := [some (eR 98), some (eI (9)), some (eI (p)), some (eI (q)), some (eI (r)), some (eI (s)), some (eI (u0)), some (eI (u1)), some (eI (u2))]) (st' := [eI (u2)]) rfl rfl rfl ?_
            refine b_igt (t1 := 79) (t2 := 75) rfl rfl rfl (ev_w_in (by omega) (by omega)) (fun g6 => ?_) (fun g6 => ?_)
            · refine w_s (np := 80) (lv' := [some (eR 98), some (eI (9)), some (eI (p)), some (eI (q)), some (eI (r)), some (eI (s)), some (eI (u0)), some (eI (u1)), some (eI (u2))]) (st' := [eI (0)]) rfl rfl rfl ?_
              refine b_rz rfl rfl (Or.inl rfl) ?_
              exact K0 _ (tS_tr (tS_tr s0 s1) s2) (by omega)
            · refine w_s (np := 76) (lv' := [some (eR 98), some (eI (9)), some (eI (p)), some (eI (q)), some (eI (r)), some (eI (s)), some (eI (u0)), some (eI (u1)), some (eI (u2))]) (st' := [eI (1)]) rfl rfl rfl ?_
              refine w_go (t1 := 80) rfl rfl ?_
              refine b_rz rfl rfl (Or.inr rfl) ?_
              exact K1 _ (tS_tr (tS_tr s0 s1) s2) (by omega)
