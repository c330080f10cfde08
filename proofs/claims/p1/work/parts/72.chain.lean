/-! the chains: what comes asks of grow, START by START -/
theorem mg_55k {fg : eG} {rc rs d : Nat} {f : eFr} {F : List eFr} {μ0 : eM} {a0 a1 k : Nat} {H : yM} {K : yM → Bool} {i55 : Nat → yM → Bool} (hG : yG fg y_T) (hk : ev_kd μ0 a0 = some 1) (p0 : 0 < a0) (hb : mg_14_55b a0 a1 K i55 k H = true) (hK : ∀ (M : yM) (μ : eM), K M = true → yR M μ → y_le μ0 μ → ex_fine fg rc rs (d + 6, (f.1, f.2.1, f.2.2.1, f.2.2.2), F, μ)) (h55 : ∀ (a2 : Nat) (x3 : Option eV) (M : yM) (μ : eM), i55 a2 M = true → yR M μ → y_le μ0 μ → ex_fine fg rc rs (d + 5, (14, 55, [some (eR a0), some (eI (zI a1)), some (eI (zI a2)), x3], []), f :: F, μ)) : ∀ (a2 : Nat) (x3 : Option eV) (M : yM) (μ : eM), tH k H a2 M = true → yR M μ → y_le μ0 μ → ex_fine fg rc rs (d + 5, (14, 55, [some (eR a0), some (eI (zI a1)), some (eI (zI a2)), x3], []), f :: F, μ) := by
  intro a2 x3 M μ h hR hl
  obtain ⟨e, hA⟩ := tH_ok h hR
  rw [e]
  exact mg_14_55b_ok hG hk p0 hK h55 k x3 H μ hb hA hl
theorem gf_c30 {fg : eG} {rc rs : Nat} (hG : yG fg y_T) : ∀ (d : Nat) (f : eFr) (F : List eFr) (b0 b1 : Nat) (M : yM) (μ : eM) (K : yM → Bool), mo2 140 5 gm0_h5 gm0_e107 b0 b1 M K = true → yR M μ → ev_kd μ b0 = some 2 → 0 < b0 → (∀ (M : yM) (μ2 : eM), K M = true → yR M μ2 → y_le μ μ2 → ex_fine fg rc rs (d + 5, (f.1, f.2.1, f.2.2.1, f.2.2.2), F, μ2)) → ex_fine fg rc rs (d + 4, (30, 0, [some (eR b0), some (eI (zI b1)), none], []), f :: F, μ) := by
  intro d f F b0 b1 M μ K h hR hk p0 hK
  obtain ⟨g1, g2, hA, hB⟩ := mo2_ok h hR
  rw [g1] at hk p0 ⊢
  rw [g2]
  exact m_30_ok hG gf_30 hA hk p0 (fun M2 μ2 q hR2 hl2 => hK _ μ2 hB (y_sub_ok q hR2) hl2)
theorem gf_c107 {fg : eG} {rc rs : Nat} (hG : yG fg y_T) : ∀ (d : Nat) (f : eFr) (F : List eFr) (b0 : Nat) (M : yM) (μ : eM) (K : yM → Bool), mo1 149 gm0_e107 gn0_e2 b0 M K = true → yR M μ → ev_kd μ b0 = some 8 → 0 < b0 → (∀ (M : yM) (μ2 : eM), K M = true → yR M μ2 → y_le μ μ2 → ex_fine fg rc rs (d + 5, (f.1, f.2.1, f.2.2.1, f.2.2.2), F, μ2)) → ex_fine fg rc rs (d + 4, (107, 0, [some (eR b0), none], []), f :: F, μ) := by
  intro d f F b0 M μ K h hR hk p0 hK
  obtain ⟨g1, hA, hB⟩ := mo1_ok h hR
  rw [g1] at hk p0 ⊢
  refine mg_107_ok hG gf_e hA hk p0 (fun a1 M1 μ1 q1 hR1 hl1 => ?_) (fun M2 μ2 q hR2 hl2 => z_no1 q)
  obtain ⟨e1, hA1⟩ := tH_ok q1 hR1
  rw [e1]
  refine mg_107_10r_ok hG hk p0 (fun M2 μ2 q hR2 hl2 => z_no1 q) (fun a2 M2 μ2 q2 hR2 hl2 => ?_) 1000 0 _ μ1 gf_l0 hA1 hl1
  obtain ⟨e2, hA2⟩ := tH_ok q2 hR2
  rw [e2]
  refine mg_107_10r_ok hG hk p0 (fun M3 μ3 q hR3 hl3 => z_no1 q) (fun a3 M3 μ3 q3 hR3 hl3 => ?_) 1000 1000 _ μ2 gf_l1 hA2 hl2
  obtain ⟨e3, hA3⟩ := tH_ok q3 hR3
  rw [e3]
  exact mg_107_10r_ok hG hk p0 (fun M4 μ4 q hR4 hl4 => hK _ μ4 hB (y_sub_ok q hR4) hl4) (fun a4 M4 μ4 q hR4 hl4 => z_no1 q) 1000 2000 _ μ3 gf_l2 hA3 hl3
theorem gf_c2 {fg : eG} {rc rs : Nat} (hG : yG fg y_T) : ∀ (d : Nat) (f : eFr) (F : List eFr) (b0 : Nat) (M : yM) (μ : eM) (K : yM → Bool), mo1 148 gn0_e2 gn0_e88 b0 M K = true → yR M μ → ev_kd μ b0 = some 0 → 0 < b0 → (∀ (M : yM) (μ2 : eM), K M = true → yR M μ2 → y_le μ μ2 → ex_fine fg rc rs (d + 4, (f.1, f.2.1, f.2.2.1, f.2.2.2), F, μ2)) → ex_fine fg rc rs (d + 3, (2, 0, [some (eR b0), none, none], []), f :: F, μ) := by
  intro d f F b0 M μ K h hR hk p0 hK
  obtain ⟨g1, hA, hB⟩ := mo1_ok h hR
  rw [g1] at hk p0 ⊢
  exact m_2_ok hG gf_2 hA hk p0 (fun M2 μ2 q hR2 hl2 => hK _ μ2 hB (y_sub_ok q hR2) hl2)
theorem mh_55k {fg : eG} {rc rs d : Nat} {f : eFr} {F : List eFr} {μ0 : eM} {a0 a1 k : Nat} {H : yM} {K : yM → Bool} {i55 : Nat → yM → Bool} (hG : yG fg y_T) (hk : ev_kd μ0 a0 = some 1) (p0 : 0 < a0) (hb : mh_14_55b (mo2 140 5 gm0_h5 gm0_e107) (mo1 149 gm0_e107 gn0_e2) (mo1 148 gn0_e2 gn0_e88) a0 a1 K i55 k H = true) (hK : ∀ (M : yM) (μ : eM), K M = true → yR M μ → y_le μ0 μ → ex_fine fg rc rs (d + 6, (f.1, f.2.1, f.2.2.1, f.2.2.2), F, μ)) (h55 : ∀ (a2 : Nat) (x3 : Option eV) (M : yM) (μ : eM), i55 a2 M = true → yR M μ → y_le μ0 μ → ex_fine fg rc rs (d + 5, (14, 55, [some (eR a0), some (eI (zI a1)), some (eI (zI a2)), x3], []), f :: F, μ)) : ∀ (a2 : Nat) (x3 : Option eV) (M : yM) (μ : eM), tH k H a2 M = true → yR M μ → y_le μ0 μ → ex_fine fg rc rs (d + 5, (14, 55, [some (eR a0), some (eI (zI a1)), some (eI (zI a2)), x3], []), f :: F, μ) := by
  intro a2 x3 M μ h hR hl
  obtain ⟨e, hA⟩ := tH_ok h hR
  rw [e]
  exact mh_14_55b_ok (gf_c30 hG) (gf_c107 hG) (gf_c2 hG) hG hk p0 hK h55 k x3 H μ hb hA hl
theorem gc0 {fg : eG} {rc rs : Nat} (hG : yG fg y_T) : ∀ (d : Nat) (f : eFr) (F : List eFr) (b0 b1 : Nat) (M : yM) (μ : eM) (K : yM → Bool), mo2 136 0 gm0_a gm0_b b0 b1 M K = true → yR M μ → ev_kd μ b0 = some 1 → 0 < b0 → (∀ (M : yM) (μ2 : eM), K M = true → yR M μ2 → y_le μ μ2 → ex_fine fg rc rs (d + 6, (f.1, f.2.1, f.2.2.1, f.2.2.2), F, μ2)) → ex_fine fg rc rs (d + 5, (14, 0, [some (eR b0), some (eI (zI b1)), none, none], []), f :: F, μ) := by
  intro d f F b0 b1 M μ K h hR hk p0 hK
  obtain ⟨g1, g2, hA, hB⟩ := mo2_ok h hR
  rw [g1] at hk p0 ⊢
  rw [g2]
  have hF : ∀ (M : yM) (μ2 : eM), (fun _ : yM => false) M = true → yR M μ2 → y_le μ μ2 → ex_fine fg rc rs (d + 6, (f.1, f.2.1, f.2.2.1, f.2.2.2), F, μ2) := fun M2 μ2 q hR2 hl2 => z_no1 q
  have h6 := mg_55k (d := d) (f := f) (F := F) (rc := rc) (rs := rs) (μ0 := μ) hG hk p0 gk0_6 (fun M2 μ2 q hR2 hl2 => hK _ μ2 hB (y_sub_ok q hR2) hl2) (fun a2 x3 M2 μ2 q hR2 hl2 => z_no1 q)
  have h5 := mh_55k (d := d) (f := f) (F := F) (rc := rc) (rs := rs) (μ0 := μ) hG hk p0 gf_5 hF h6
  have h4 := mg_55k (d := d) (f := f) (F := F) (rc := rc) (rs := rs) (μ0 := μ) hG hk p0 gk0_4 hF h5
  have h3 := mg_55k (d := d) (f := f) (F := F) (rc := rc) (rs := rs) (μ0 := μ) hG hk p0 gk0_3 hF h4
  have h2 := mg_55k (d := d) (f := f) (F := F) (rc := rc) (rs := rs) (μ0 := μ) hG hk p0 gk0_2 hF h3
  have h1 := mg_55k (d := d) (f := f) (F := F) (rc := rc) (rs := rs) (μ0 := μ) hG hk p0 gk0_1 hF h2
  have h0 := mg_55k (d := d) (f := f) (F := F) (rc := rc) (rs := rs) (μ0 := μ) hG hk p0 gk0_0 hF h1
  exact mg_14_ok hG gk0_e hA hk p0 h0 hF
theorem gc1 {fg : eG} {rc rs : Nat} (hG : yG fg y_T) : ∀ (d : Nat) (f : eFr) (F : List eFr) (b0 b1 : Nat) (M : yM) (μ : eM) (K : yM → Bool), mo2 136 1 gm1_a gm1_b b0 b1 M K = true → yR M μ → ev_kd μ b0 = some 1 → 0 < b0 → (∀ (M : yM) (μ2 : eM), K M = true → yR M μ2 → y_le μ μ2 → ex_fine fg rc rs (d + 6, (f.1, f.2.1, f.2.2.1, f.2.2.2), F, μ2)) → ex_fine fg rc rs (d + 5, (14, 0, [some (eR b0), some (eI (zI b1)), none, none], []), f :: F, μ) := by
  intro d f F b0 b1 M μ K h hR hk p0 hK
  obtain ⟨g1, g2, hA, hB⟩ := mo2_ok h hR
  rw [g1] at hk p0 ⊢
  rw [g2]
  have hF : ∀ (M : yM) (μ2 : eM), (fun _ : yM => false) M = true → yR M μ2 → y_le μ μ2 → ex_fine fg rc rs (d + 6, (f.1, f.2.1, f.2.2.1, f.2.2.2), F, μ2) := fun M2 μ2 q hR2 hl2 => z_no1 q
  have h6 := mg_55k (d := d) (f := f) (F := F) (rc := rc) (rs := rs) (μ0 := μ) hG hk p0 gk1_6 (fun M2 μ2 q hR2 hl2 => hK _ μ2 hB (y_sub_ok q hR2) hl2) (fun a2 x3 M2 μ2 q hR2 hl2 => z_no1 q)
  have h5 := mg_55k (d := d) (f := f) (F := F) (rc := rc) (rs := rs) (μ0 := μ) hG hk p0 gk1_5 hF h6
  have h4 := mg_55k (d := d) (f := f) (F := F) (rc := rc) (rs := rs) (μ0 := μ) hG hk p0 gk1_4 hF h5
  have h3 := mg_55k (d := d) (f := f) (F := F) (rc := rc) (rs := rs) (μ0 := μ) hG hk p0 gk1_3 hF h4
  have h2 := mg_55k (d := d) (f := f) (F := F) (rc := rc) (rs := rs) (μ0 := μ) hG hk p0 gk1_2 hF h3
  have h1 := mg_55k (d := d) (f := f) (F := F) (rc := rc) (rs := rs) (μ0 := μ) hG hk p0 gk1_1 hF h2
  have h0 := mg_55k (d := d) (f := f) (F := F) (rc := rc) (rs := rs) (μ0 := μ) hG hk p0 gk1_0 hF h1
  exact mg_14_ok hG gk1_e hA hk p0 h0 hF
theorem gc2 {fg : eG} {rc rs : Nat} (hG : yG fg y_T) : ∀ (d : Nat) (f : eFr) (F : List eFr) (b0 b1 : Nat) (M : yM) (μ : eM) (K : yM → Bool), mo2 136 2 gm2_a gm2_b b0 b1 M K = true → yR M μ → ev_kd μ b0 = some 1 → 0 < b0 → (∀ (M : yM) (μ2 : eM), K M = true → yR M μ2 → y_le μ μ2 → ex_fine fg rc rs (d + 6, (f.1, f.2.1, f.2.2.1, f.2.2.2), F, μ2)) → ex_fine fg rc rs (d + 5, (14, 0, [some (eR b0), some (eI (zI b1)), none, none], []), f :: F, μ) := by
  intro d f F b0 b1 M μ K h hR hk p0 hK
  obtain ⟨g1, g2, hA, hB⟩ := mo2_ok h hR
  rw [g1] at hk p0 ⊢
  rw [g2]
  have hF : ∀ (M : yM) (μ2 : eM), (fun _ : yM => false) M = true → yR M μ2 → y_le μ μ2 → ex_fine fg rc rs (d + 6, (f.1, f.2.1, f.2.2.1, f.2.2.2), F, μ2) := fun M2 μ2 q hR2 hl2 => z_no1 q
  have h6 := mg_55k (d := d) (f := f) (F := F) (rc := rc) (rs := rs) (μ0 := μ) hG hk p0 gk2_6 (fun M2 μ2 q hR2 hl2 => hK _ μ2 hB (y_sub_ok q hR2) hl2) (fun a2 x3 M2 μ2 q hR2 hl2 => z_no1 q)
  have h5 := mg_55k (d := d) (f := f) (F := F) (rc := rc) (rs := rs) (μ0 := μ) hG hk p0 gk2_5 hF h6
  have h4 := mg_55k (d := d) (f := f) (F := F) (rc := rc) (rs := rs) (μ0 := μ) hG hk p0 gk2_4 hF h5
  have h3 := mg_55k (d := d) (f := f) (F := F) (rc := rc) (rs := rs) (μ0 := μ) hG hk p0 gk2_3 hF h4
  have h2 := mg_55k (d := d) (f := f) (F := F) (rc := rc) (rs := rs) (μ0 := μ) hG hk p0 gk2_2 hF h3
  have h1 := mg_55k (d := d) (f := f) (F := F) (rc := rc) (rs := rs) (μ0 := μ) hG hk p0 gk2_1 hF h2
  have h0 := mg_55k (d := d) (f := f) (F := F) (rc := rc) (rs := rs) (μ0 := μ) hG hk p0 gk2_0 hF h1
  exact mg_14_ok hG gk2_e hA hk p0 h0 hF
theorem gc3 {fg : eG} {rc rs : Nat} (hG : yG fg y_T) : ∀ (d : Nat) (f : eFr) (F : List eFr) (b0 b1 : Nat) (M : yM) (μ : eM) (K : yM → Bool), mo2 136 3 gm3_a gm3_b b0 b1 M K = true → yR M μ → ev_kd μ b0 = some 1 → 0 < b0 → (∀ (M : yM) (μ2 : eM), K M = true → yR M μ2 → y_le μ μ2 → ex_fine fg rc rs (d + 6, (f.1, f.2.1, f.2.2.1, f.2.2.2), F, μ2)) → ex_fine fg rc rs (d + 5, (14, 0, [some (eR b0), some (eI (zI b1)), none, none], []), f :: F, μ) := by
  intro d f F b0 b1 M μ K h hR hk p0 hK
  obtain ⟨g1, g2, hA, hB⟩ := mo2_ok h hR
  rw [g1] at hk p0 ⊢
  rw [g2]
  have hF : ∀ (M : yM) (μ2 : eM), (fun _ : yM => false) M = true → yR M μ2 → y_le μ μ2 → ex_fine fg rc rs (d + 6, (f.1, f.2.1, f.2.2.1, f.2.2.2), F, μ2) := fun M2 μ2 q hR2 hl2 => z_no1 q
  have h6 := mg_55k (d := d) (f := f) (F := F) (rc := rc) (rs := rs) (μ0 := μ) hG hk p0 gk3_6 (fun M2 μ2 q hR2 hl2 => hK _ μ2 hB (y_sub_ok q hR2) hl2) (fun a2 x3 M2 μ2 q hR2 hl2 => z_no1 q)
  have h5 := mg_55k (d := d) (f := f) (F := F) (rc := rc) (rs := rs) (μ0 := μ) hG hk p0 gk3_5 hF h6
  have h4 := mg_55k (d := d) (f := f) (F := F) (rc := rc) (rs := rs) (μ0 := μ) hG hk p0 gk3_4 hF h5
  have h3 := mg_55k (d := d) (f := f) (F := F) (rc := rc) (rs := rs) (μ0 := μ) hG hk p0 gk3_3 hF h4
  have h2 := mg_55k (d := d) (f := f) (F := F) (rc := rc) (rs := rs) (μ0 := μ) hG hk p0 gk3_2 hF h3
  have h1 := mg_55k (d := d) (f := f) (F := F) (rc := rc) (rs := rs) (μ0 := μ) hG hk p0 gk3_1 hF h2
  have h0 := mg_55k (d := d) (f := f) (F := F) (rc := rc) (rs := rs) (μ0 := μ) hG hk p0 gk3_0 hF h1
  exact mg_14_ok hG gk3_e hA hk p0 h0 hF
