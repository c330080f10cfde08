/-! comes: the reference, figure by figure -/
theorem mo3_ok {r b c : Nat} {A B : yM} {a a1 a2 : Nat} {M : yM} {K : yM → Bool} {μ : eM} (h : mo3 r b c A B a a1 a2 M K = true) (hR : yR M μ) : a = r ∧ a1 = b ∧ a2 = c ∧ yR A μ ∧ K B = true := by
  obtain ⟨g1, h⟩ := f_if_ok h
  obtain ⟨g2, h⟩ := f_if_ok h
  obtain ⟨g3, h⟩ := f_if_ok h
  obtain ⟨g4, h⟩ := f_if_ok h
  exact ⟨Nat.eq_of_beq_eq_true g1, Nat.eq_of_beq_eq_true g2, Nat.eq_of_beq_eq_true g3, y_sub_ok g4 hR, h⟩
theorem tR_ok {x l : Nat} {H : yM} {a3 a4 a5 a6 : Nat} {M : yM} {μ : eM} (h : tR x l H a3 a4 a5 a6 M = true) (hR : yR M μ) : a3 = 0 ∧ a4 = 0 ∧ a5 = x ∧ a6 = l ∧ yR H μ := by
  obtain ⟨g1, h⟩ := f_if_ok h
  obtain ⟨g2, h⟩ := f_if_ok h
  obtain ⟨g3, h⟩ := f_if_ok h
  obtain ⟨g4, h⟩ := f_if_ok h
  exact ⟨Nat.eq_of_beq_eq_true g1, Nat.eq_of_beq_eq_true g2, Nat.eq_of_beq_eq_true g3, Nat.eq_of_beq_eq_true g4, y_sub_ok h hR⟩
theorem mr_44k {fg : eG} {rc rs d : Nat} {f : eFr} {F : List eFr} {μ0 : eM} {T : Nat → Bool → Bool → Bool} {c239 : Nat → Nat → Nat → yM → (yM → Bool) → Bool} {a0 a1 a2 x l : Nat} {H : yM} {K : Nat → yM → Bool} {i44 : Nat → Nat → Nat → Nat → yM → Bool} (hT : zT a2 T) (hn : z_l0 a2 = false) (hc239 : (∀ (d : Nat) (f : eFr) (F : List eFr) (b0 b1 b2 : Nat) (M : yM) (μ : eM) (K : yM → Bool), c239 b0 b1 b2 M K = true → yR M μ → ev_kd μ b0 = some 11 → 0 < b0 → (∀ (M : yM) (μ2 : eM), K M = true → yR M μ2 → y_le μ μ2 → ex_fine fg rc rs (d + 6, (f.1, f.2.1, f.2.2.1, f.2.2.2), F, μ2)) → ex_fine fg rc rs (d + 5, (239, 0, [some (eR b0), some (eI (zI b1)), some (eI (zI b2)), none, none], []), f :: F, μ))) (hG : yG fg y_T) (hk : ev_kd μ0 a0 = some 11) (p0 : 0 < a0) (hb : mr_300_44b T c239 a0 a1 K i44 0 0 x l H = true) (hK : ∀ (r : Nat) (M : yM) (μ : eM), K r M = true → yR M μ → y_le μ0 μ → ex_fine fg rc rs (d + 7, (f.1, f.2.1, f.2.2.1, eI (zI r) :: f.2.2.2), F, μ)) (h44 : ∀ (a3 a4 a5 a6 : Nat) (M : yM) (μ : eM), i44 a3 a4 a5 a6 M = true → yR M μ → y_le μ0 μ → ex_fine fg rc rs (d + 6, (300, 44, [some (eR a0), some (eI (zI a1)), some (eI (zI a2)), some (eI (zI a3)), some (eI (zI a4)), some (eI (zI a5)), some (eI (zI a6))], []), f :: F, μ)) : ∀ (a3 a4 a5 a6 : Nat) (M : yM) (μ : eM), tR x l H a3 a4 a5 a6 M = true → yR M μ → y_le μ0 μ → ex_fine fg rc rs (d + 6, (300, 44, [some (eR a0), some (eI (zI a1)), some (eI (zI a2)), some (eI (zI a3)), some (eI (zI a4)), some (eI (zI a5)), some (eI (zI a6))], []), f :: F, μ) := by
  intro a3 a4 a5 a6 M μ h hR hl
  obtain ⟨e3, e4, e5, e6, hA⟩ := tR_ok h hR
  rw [e3, e4, e5, e6]
  exact mr_300_44b_ok hT hn hc239 hG hk p0 hK h44 0 0 x l H μ hb hA hl
theorem hm_0 {fg : eG} {rc rs : Nat} (hG : yG fg y_T) : ∀ (d : Nat) (f : eFr) (F : List eFr) (b0 b1 b2 : Nat) (M : yM) (μ : eM) (K : yM → Bool), m_239 b0 b1 b2 M K = true → yR M μ → ev_kd μ b0 = some 11 → 0 < b0 → (∀ (M : yM) (μ2 : eM), K M = true → yR M μ2 → y_le μ μ2 → ex_fine fg rc rs (d + 6, (f.1, f.2.1, f.2.2.1, f.2.2.2), F, μ2)) → ex_fine fg rc rs (d + 5, (239, 0, [some (eR b0), some (eI (zI b1)), some (eI (zI b2)), none, none], []), f :: F, μ) := fun d f F b0 b1 b2 M μ K h hR hk p0 hK => m_239_ok hG h hR hk p0 hK
theorem hm_g {fg : eG} {rc rs s l : Nat} {A B : yM} (hG : yG fg y_T) (hb : m_239 98 s l A (fun M => y_sub M B) = true) : ∀ (d : Nat) (f : eFr) (F : List eFr) (b0 b1 b2 : Nat) (M : yM) (μ : eM) (K : yM → Bool), (mo3 98 s l A B) b0 b1 b2 M K = true → yR M μ → ev_kd μ b0 = some 11 → 0 < b0 → (∀ (M : yM) (μ2 : eM), K M = true → yR M μ2 → y_le μ μ2 → ex_fine fg rc rs (d + 6, (f.1, f.2.1, f.2.2.1, f.2.2.2), F, μ2)) → ex_fine fg rc rs (d + 5, (239, 0, [some (eR b0), some (eI (zI b1)), some (eI (zI b2)), none, none], []), f :: F, μ) := by
  intro d f F b0 b1 b2 M μ K h hR hk p0 hK
  obtain ⟨g1, g2, g3, hA, hB⟩ := mo3_ok h hR
  rw [g1] at hk p0 ⊢
  rw [g2, g3]
  exact m_239_ok hG hb hA hk p0 (fun M2 μ2 q hR2 hl2 => hK _ μ2 hB (y_sub_ok q hR2) hl2)
theorem hm_05 {fg : eG} {rc rs : Nat} (hG : yG fg y_T) : ∀ (d : Nat) (f : eFr) (F : List eFr) (b0 b1 b2 : Nat) (M : yM) (μ : eM) (K : yM → Bool), (mo3 98 0 5 rm0_5 rl0_5) b0 b1 b2 M K = true → yR M μ → ev_kd μ b0 = some 11 → 0 < b0 → (∀ (M : yM) (μ2 : eM), K M = true → yR M μ2 → y_le μ μ2 → ex_fine fg rc rs (d + 6, (f.1, f.2.1, f.2.2.1, f.2.2.2), F, μ2)) → ex_fine fg rc rs (d + 5, (239, 0, [some (eR b0), some (eI (zI b1)), some (eI (zI b2)), none, none], []), f :: F, μ) := by
  intro d f F b0 b1 b2 M μ K h hR hk p0 hK
  obtain ⟨g1, g2, g3, hA, hB⟩ := mo3_ok h hR
  rw [g1] at hk p0 ⊢
  rw [g2, g3]
  have hm : ∀ (d : Nat) (f : eFr) (F : List eFr) (b0 : Nat) (M : yM) (μ : eM) (K : yM → Bool), m_234 b0 M K = true → yR M μ → ev_kd μ b0 = some 11 → 0 < b0 → (∀ (M : yM) (μ2 : eM), K M = true → yR M μ2 → y_le μ μ2 → ex_fine fg rc rs (d + 5, (f.1, f.2.1, f.2.2.1, f.2.2.2), F, μ2)) → ex_fine fg rc rs (d + 4, (234, 0, [some (eR b0), none, none], []), f :: F, μ) := fun d f F b0 M μ K h hR hk p0 hK => m_234_ok hG h hR hk p0 hK
  have hm5 : ∀ (d : Nat) (f : eFr) (F : List eFr) (b0 : Nat) (M : yM) (μ : eM) (K : yM → Bool), mo1 98 sk_4 sk_5 b0 M K = true → yR M μ → ev_kd μ b0 = some 11 → 0 < b0 → (∀ (M : yM) (μ2 : eM), K M = true → yR M μ2 → y_le μ μ2 → ex_fine fg rc rs (d + 5, (f.1, f.2.1, f.2.2.1, f.2.2.2), F, μ2)) → ex_fine fg rc rs (d + 4, (234, 0, [some (eR b0), none, none], []), f :: F, μ) := by
    intro d f F b0 M μ K h hR hk p0 hK
    obtain ⟨g1, hA, hB⟩ := mo1_ok h hR
    rw [g1] at hk p0 ⊢
    refine mg_234_ok hG hp_e hA hk p0 (fun a1 x2 M1 μ1 q1 hR1 hl1 => ?_) (fun a1 x2 M1 μ1 q1 hR1 hl1 => z_no1 q1) (fun M2 μ2 q hR2 hl2 => z_no1 q)
    refine mg_234_17r_ok hG hk p0 (fun M2 μ2 q hR2 hl2 => z_no1 q) (fun a1 x2 M1 μ1 q1 hR1 hl1 => z_no1 q1) (fun a2 x3 M2 μ2 q2 hR2 hl2 => ?_) 170 a1 x2 M1 μ1 q1 hR1 hl1
    obtain ⟨e2, hA2⟩ := tH_ok q2 hR2
    rw [e2]
    refine mg_234_17r_ok hG hk p0 (fun M2 μ2 q hR2 hl2 => z_no1 q) (fun a3 x4 M3 μ3 q3 hR3 hl3 => ?_) (fun a3 x4 M3 μ3 q3 hR3 hl3 => z_no1 q3) 1000 170 x3 _ μ2 hp_17 hA2 hl2
    obtain ⟨e3, hA3⟩ := tH_ok q3 hR3
    rw [e3]
    exact mg_234_190r_ok hG hk p0 (fun M4 μ4 q hR4 hl4 => hK _ μ4 hB (y_sub_ok q hR4) hl4) (fun a4 x5 M4 μ4 q hR4 hl4 => z_no1 q) (fun a4 x5 M4 μ4 q hR4 hl4 => z_no1 q) 20000 0 x4 _ μ3 hp_190 hA3 hl3
  refine mg_239_ok hm hG hk_e hA hk p0 (fun M1 μ1 q1 hR1 hl1 => ?_) (fun a1 M1 μ1 q1 hR1 hl1 => z_no1 q1) (fun a1 M1 μ1 q1 hR1 hl1 => z_no1 q1) (fun M2 μ2 q hR2 hl2 => z_no1 q)
  refine mg_239_10r_ok hm hG hk p0 (fun M2 μ2 q hR2 hl2 => z_no1 q) (fun a1 M1 μ1 q1 hR1 hl1 => z_no1 q1) (fun a1 M1 μ1 q1 hR1 hl1 => z_no1 q1) (fun M2 μ2 q2 hR2 hl2 => ?_) 4 M1 μ1 q1 hR1 hl1
  refine mg_239_10r_ok hm5 hG hk p0 (fun M3 μ3 q hR3 hl3 => z_no1 q) (fun a3 M3 μ3 q3 hR3 hl3 => ?_) (fun a3 M3 μ3 q3 hR3 hl3 => z_no1 q3) (fun M3 μ3 q3 hR3 hl3 => z_no1 q3) 2 _ μ2 hk_4 (y_sub_ok q2 hR2) hl2
  obtain ⟨e3, hA3⟩ := tH_ok q3 hR3
  rw [e3]
  refine mg_239_77r_ok hm hG hk p0 (fun M4 μ4 q hR4 hl4 => z_no1 q) (fun M4 μ4 q4 hR4 hl4 => z_no1 q4) (fun a4 M4 μ4 q4 hR4 hl4 => ?_) (fun a4 M4 μ4 q4 hR4 hl4 => z_no1 q4) 5000 0 _ μ3 hk_77 hA3 hl3
  obtain ⟨e4, hA4⟩ := tH_ok q4 hR4
  rw [e4]
  exact mg_239_135r_ok hm hG hk p0 (fun M5 μ5 q hR5 hl5 => hK _ μ5 hB (y_sub_ok q hR5) hl5) (fun M5 μ5 q5 hR5 hl5 => z_no1 q5) (fun a5 M5 μ5 q5 hR5 hl5 => z_no1 q5) (fun a5 M5 μ5 q5 hR5 hl5 => z_no1 q5) 5000 0 _ μ4 hk_135 hA4 hl4
theorem mq_44k {fg : eG} {rc rs d : Nat} {f : eFr} {F : List eFr} {μ0 : eM} {T : Nat → Bool → Bool → Bool} {c239 : Nat → Nat → Nat → yM → (yM → Bool) → Bool} {c299 : Nat → yM → (Nat → yM → Bool) → Bool} {a0 a1 a2 x l : Nat} {H : yM} {K : Nat → yM → Bool} {i44 : Nat → Nat → Nat → Nat → yM → Bool} (hT : zT a2 T) (hn : z_l0 a2 = false) (hc239 : (∀ (d : Nat) (f : eFr) (F : List eFr) (b0 b1 b2 : Nat) (M : yM) (μ : eM) (K : yM → Bool), c239 b0 b1 b2 M K = true → yR M μ → ev_kd μ b0 = some 11 → 0 < b0 → (∀ (M : yM) (μ2 : eM), K M = true → yR M μ2 → y_le μ μ2 → ex_fine fg rc rs (d + 6, (f.1, f.2.1, f.2.2.1, f.2.2.2), F, μ2)) → ex_fine fg rc rs (d + 5, (239, 0, [some (eR b0), some (eI (zI b1)), some (eI (zI b2)), none, none], []), f :: F, μ))) (hc299 : (∀ (d : Nat) (f : eFr) (F : List eFr) (b0 : Nat) (M : yM) (μ : eM) (K : Nat → yM → Bool), c299 b0 M K = true → yR M μ → ev_kd μ b0 = some 11 → 0 < b0 → (∀ (r : Nat) (M : yM) (μ2 : eM), K r M = true → yR M μ2 → y_le μ μ2 → ex_fine fg rc rs (d + 6, (f.1, f.2.1, f.2.2.1, eI (zI r) :: f.2.2.2), F, μ2)) → ex_fine fg rc rs (d + 5, (299, 0, [some (eR b0), some (eI (zI a2)), none], []), f :: F, μ))) (hG : yG fg y_T) (hk : ev_kd μ0 a0 = some 11) (p0 : 0 < a0) (hb : mq_300_44b T c239 c299 a0 a1 K i44 0 0 x l H = true) (hK : ∀ (r : Nat) (M : yM) (μ : eM), K r M = true → yR M μ → y_le μ0 μ → ex_fine fg rc rs (d + 7, (f.1, f.2.1, f.2.2.1, eI (zI r) :: f.2.2.2), F, μ)) (h44 : ∀ (a3 a4 a5 a6 : Nat) (M : yM) (μ : eM), i44 a3 a4 a5 a6 M = true → yR M μ → y_le μ0 μ → ex_fine fg rc rs (d + 6, (300, 44, [some (eR a0), some (eI (zI a1)), some (eI (zI a2)), some (eI (zI a3)), some (eI (zI a4)), some (eI (zI a5)), some (eI (zI a6))], []), f :: F, μ)) : ∀ (a3 a4 a5 a6 : Nat) (M : yM) (μ : eM), tR x l H a3 a4 a5 a6 M = true → yR M μ → y_le μ0 μ → ex_fine fg rc rs (d + 6, (300, 44, [some (eR a0), some (eI (zI a1)), some (eI (zI a2)), some (eI (zI a3)), some (eI (zI a4)), some (eI (zI a5)), some (eI (zI a6))], []), f :: F, μ) := by
  intro a3 a4 a5 a6 M μ h hR hl
  obtain ⟨e3, e4, e5, e6, hA⟩ := tR_ok h hR
  rw [e3, e4, e5, e6]
  exact mq_300_44b_ok hT hn hc239 hc299 hG hk p0 hK h44 0 0 x l H μ hb hA hl
theorem mo1n_ok {r v : Nat} {A B : yM} {a : Nat} {M : yM} {K : Nat → yM → Bool} {μ : eM} (h : mo1n r A v B a M K = true) (hR : yR M μ) : a = r ∧ yR A μ ∧ K v B = true := by
  obtain ⟨g1, h⟩ := f_if_ok h
  obtain ⟨g2, h⟩ := f_if_ok h
  exact ⟨Nat.eq_of_beq_eq_true g1, y_sub_ok g2 hR, h⟩
theorem hm_299 {fg : eG} {rc rs φ : Nat} (hG : yG fg y_T) (hn : z_l0 φ = false) (hT : zT φ (z_no [4294967295, 130, 174, 1371, 3981, 14005, 16806, 21208, 146893])) : (∀ (d : Nat) (f : eFr) (F : List eFr) (b0 : Nat) (M : yM) (μ : eM) (K : Nat → yM → Bool), mo1n 98 rl0_5 0 rm0_6 b0 M K = true → yR M μ → ev_kd μ b0 = some 11 → 0 < b0 → (∀ (r : Nat) (M : yM) (μ2 : eM), K r M = true → yR M μ2 → y_le μ μ2 → ex_fine fg rc rs (d + 6, (f.1, f.2.1, f.2.2.1, eI (zI r) :: f.2.2.2), F, μ2)) → ex_fine fg rc rs (d + 5, (299, 0, [some (eR b0), some (eI (zI φ)), none], []), f :: F, μ)) := by
  intro d f F b0 M μ K h hR hk p0 hK
  obtain ⟨g1, hA, hB⟩ := mo1n_ok h hR
  rw [g1] at hk p0 ⊢
  have hF : ∀ (r : Nat) (M : yM) (μ2 : eM), (fun (_ : Nat) (_ : yM) => false) r M = true → yR M μ2 → y_le μ μ2 → ex_fine fg rc rs (d + 6, (f.1, f.2.1, f.2.2.1, eI (zI r) :: f.2.2.2), F, μ2) := fun r M2 μ2 q hR2 hl2 => z_no1 q
  refine mq_299_ok hT hn hG hj_0 hA hk p0 (fun a1 M1 μ1 q1 hR1 hl1 => ?_) hF
  refine mq_299_2r_ok hT hn hG hk p0 hF (fun a2 M2 μ2 q2 hR2 hl2 => ?_) 154 a1 M1 μ1 q1 hR1 hl1
  obtain ⟨e2, hA2⟩ := tH_ok q2 hR2
  rw [e2]
  refine mq_299_2r_ok hT hn hG hk p0 hF (fun a3 M3 μ3 q3 hR3 hl3 => ?_) 160 154 _ μ2 hj_1 hA2 hl2
  obtain ⟨e3, hA3⟩ := tH_ok q3 hR3
  rw [e3]
  refine mq_299_2r_ok hT hn hG hk p0 (fun r M4 μ4 q hR4 hl4 => ?_) (fun a4 M4 μ4 q hR4 hl4 => z_no1 q) 5000 314 _ μ3 hj_2 hA3 hl3
  obtain ⟨g4, q⟩ := f_if_ok q
  rw [Nat.eq_of_beq_eq_true g4]
  exact hK 0 _ μ4 hB (y_sub_ok q hR4) hl4
theorem hR0_n {L φ : Nat} {ρ : Nat → Int} (hn : z_l0 φ = false) (hF : ∀ v ∈ [130, 16806, 174, 3981, 14005, 1371, 146893, 21208], z_eq v φ = false) : RRes (dt_fg L ρ) 0 φ 4294967295 gm0_z := by
  intro d f F μ0 hR K
  have hG := y_T_ok L ρ
  have hk := (y_is_ok gx_0 hR).1
  have p0 : 0 < 98 := by decide
  have hK : ∀ (r : Nat) (M : yM) (μ : eM), kE 4294967295 r M = true → yR M μ → y_le μ0 μ → ex_fine (dt_fg L ρ) 4096 1000000 (d + 7, (f.1, f.2.1, f.2.2.1, eI (zI r) :: f.2.2.2), F, μ) := by
    intro r M μ h hR2 hl2
    obtain ⟨g, h⟩ := f_if_ok h
    rw [Nat.eq_of_beq_eq_true g]
    exact K M μ hR2 h
  have h6 := mr_44k (d := d) (f := f) (F := F) (rc := 4096) (rs := 1000000) (μ0 := μ0) (a0 := 98) (a2 := φ) (z_no_ok z_nil) hn (hm_0 hG) hG hk p0 hz0_n hK (fun a3 a4 a5 a6 M μ q hR2 hl2 => z_no1 q)
  have hT5 := z_no_ok (z_cons (z_m1 hn) (z_cons (hF 130 (by decide)) (z_cons (hF 174 (by decide)) (z_cons (hF 1371 (by decide)) (z_cons (hF 3981 (by decide)) (z_cons (hF 14005 (by decide)) (z_cons (hF 16806 (by decide)) (z_cons (hF 21208 (by decide)) (z_cons (hF 146893 (by decide)) z_nil)))))))))
  have h5 := mq_44k (d := d) (f := f) (F := F) (rc := 4096) (rs := 1000000) (μ0 := μ0) (a0 := 98) (a2 := φ) hT5 hn (hm_05 hG) (hm_299 hG hn hT5) hG hk p0 hn0_5 (fun r M μ q hR2 hl2 => z_no1 q) h6
  have h4 := mr_44k (d := d) (f := f) (F := F) (rc := 4096) (rs := 1000000) (μ0 := μ0) (a0 := 98) (a2 := φ) (z_no_ok (z_cons (z_m1 hn) (z_cons (hF 130 (by decide)) (z_cons (hF 174 (by decide)) (z_cons (hF 1371 (by decide)) (z_cons (hF 3981 (by decide)) (z_cons (hF 14005 (by decide)) (z_cons (hF 16806 (by decide)) (z_cons (hF 21208 (by decide)) (z_cons (hF 146893 (by decide)) z_nil)))))))))) hn (hm_g hG hl0_4) hG hk p0 hn0_4 (fun r M μ q hR2 hl2 => z_no1 q) h5
  have h3 := mr_44k (d := d) (f := f) (F := F) (rc := 4096) (rs := 1000000) (μ0 := μ0) (a0 := 98) (a2 := φ) (z_no_ok (z_cons (z_m1 hn) (z_cons (hF 130 (by decide)) (z_cons (hF 174 (by decide)) (z_cons (hF 1371 (by decide)) (z_cons (hF 3981 (by decide)) (z_cons (hF 16806 (by decide)) (z_cons (hF 146893 (by decide)) z_nil)))))))) hn (hm_g hG hl0_3) hG hk p0 hn0_3 (fun r M μ q hR2 hl2 => z_no1 q) h4
  have h2 := mr_44k (d := d) (f := f) (F := F) (rc := 4096) (rs := 1000000) (μ0 := μ0) (a0 := 98) (a2 := φ) (z_no_ok (z_cons (z_m1 hn) (z_cons (hF 174 (by decide)) (z_cons (hF 3981 (by decide)) (z_cons (hF 14005 (by decide)) z_nil))))) hn (hm_g hG hl0_2) hG hk p0 hn0_2 (fun r M μ q hR2 hl2 => z_no1 q) h3
  have h1 := mr_44k (d := d) (f := f) (F := F) (rc := 4096) (rs := 1000000) (μ0 := μ0) (a0 := 98) (a2 := φ) (z_no_ok (z_cons (z_m1 hn) (z_cons (hF 130 (by decide)) (z_cons (hF 16806 (by decide)) z_nil)))) hn (hm_g hG hl0_1) hG hk p0 hn0_1 (fun r M μ q hR2 hl2 => z_no1 q) h2
  have h0 := mr_44k (d := d) (f := f) (F := F) (rc := 4096) (rs := 1000000) (μ0 := μ0) (a0 := 98) (a2 := φ) (z_no_ok (z_cons (z_m1 hn) z_nil)) hn (hm_g hG hl0_0) hG hk p0 hn0_0 (fun r M μ q hR2 hl2 => z_no1 q) h1
  exact mr_300_ok (z_no_ok z_nil) hn (hm_0 hG) hG hr0_e hR hk p0 h0 (fun r M μ q hR2 hl2 => z_no1 q)
theorem hR0_130 {L φ : Nat} {ρ : Nat → Int} (hn : z_l0 φ = false) (hv : z_eq 130 φ = true) : RRes (dt_fg L ρ) 0 φ 1 gm0_z := by
  intro d f F μ0 hR K
  have hG := y_T_ok L ρ
  have hk := (y_is_ok gx_0 hR).1
  have p0 : 0 < 98 := by decide
  have hK : ∀ (r : Nat) (M : yM) (μ : eM), kE 1 r M = true → yR M μ → y_le μ0 μ → ex_fine (dt_fg L ρ) 4096 1000000 (d + 7, (f.1, f.2.1, f.2.2.1, eI (zI r) :: f.2.2.2), F, μ) := by
    intro r M μ h hR2 hl2
    obtain ⟨g, h⟩ := f_if_ok h
    rw [Nat.eq_of_beq_eq_true g]
    exact K M μ hR2 h
  have hz := mr_44k (d := d) (f := f) (F := F) (rc := 4096) (rs := 1000000) (μ0 := μ0) (a0 := 98) (a2 := φ) (z_no_ok z_nil) hn (hm_0 hG) hG hk p0 hz0_130 hK (fun a3 a4 a5 a6 M μ q hR2 hl2 => z_no1 q)
  have h1 := mr_44k (d := d) (f := f) (F := F) (rc := 4096) (rs := 1000000) (μ0 := μ0) (a0 := 98) (a2 := φ) (zT_is hv) hn (hm_g hG hl0_1) hG hk p0 hf0_130 (fun r M μ q hR2 hl2 => z_no1 q) hz
  have h0 := mr_44k (d := d) (f := f) (F := F) (rc := 4096) (rs := 1000000) (μ0 := μ0) (a0 := 98) (a2 := φ) (z_no_ok (z_cons ((z_eq_tr hv 4294967295).trans rfl) z_nil)) hn (hm_g hG hl0_0) hG hk p0 hn0_0 (fun r M μ q hR2 hl2 => z_no1 q) h1
  exact mr_300_ok (z_no_ok z_nil) hn (hm_0 hG) hG hr0_e hR hk p0 h0 (fun r M μ q hR2 hl2 => z_no1 q)
theorem hR0_16806 {L φ : Nat} {ρ : Nat → Int} (hn : z_l0 φ = false) (hv : z_eq 16806 φ = true) : RRes (dt_fg L ρ) 0 φ 1 gm0_z := by
  intro d f F μ0 hR K
  have hG := y_T_ok L ρ
  have hk := (y_is_ok gx_0 hR).1
  have p0 : 0 < 98 := by decide
  have hK : ∀ (r : Nat) (M : yM) (μ : eM), kE 1 r M = true → yR M μ → y_le μ0 μ → ex_fine (dt_fg L ρ) 4096 1000000 (d + 7, (f.1, f.2.1, f.2.2.1, eI (zI r) :: f.2.2.2), F, μ) := by
    intro r M μ h hR2 hl2
    obtain ⟨g, h⟩ := f_if_ok h
    rw [Nat.eq_of_beq_eq_true g]
    exact K M μ hR2 h
  have hz := mr_44k (d := d) (f := f) (F := F) (rc := 4096) (rs := 1000000) (μ0 := μ0) (a0 := 98) (a2 := φ) (z_no_ok z_nil) hn (hm_0 hG) hG hk p0 hz0_16806 hK (fun a3 a4 a5 a6 M μ q hR2 hl2 => z_no1 q)
  have h1 := mr_44k (d := d) (f := f) (F := F) (rc := 4096) (rs := 1000000) (μ0 := μ0) (a0 := 98) (a2 := φ) (zT_is hv) hn (hm_g hG hl0_1) hG hk p0 hf0_16806 (fun r M μ q hR2 hl2 => z_no1 q) hz
  have h0 := mr_44k (d := d) (f := f) (F := F) (rc := 4096) (rs := 1000000) (μ0 := μ0) (a0 := 98) (a2 := φ) (z_no_ok (z_cons ((z_eq_tr hv 4294967295).trans rfl) z_nil)) hn (hm_g hG hl0_0) hG hk p0 hn0_0 (fun r M μ q hR2 hl2 => z_no1 q) h1
  exact mr_300_ok (z_no_ok z_nil) hn (hm_0 hG) hG hr0_e hR hk p0 h0 (fun r M μ q hR2 hl2 => z_no1 q)
theorem hR0_174 {L φ : Nat} {ρ : Nat → Int} (hn : z_l0 φ = false) (hv : z_eq 174 φ = true) : RRes (dt_fg L ρ) 0 φ 2 gm0_z := by
  intro d f F μ0 hR K
  have hG := y_T_ok L ρ
  have hk := (y_is_ok gx_0 hR).1
  have p0 : 0 < 98 := by decide
  have hK : ∀ (r : Nat) (M : yM) (μ : eM), kE 2 r M = true → yR M μ → y_le μ0 μ → ex_fine (dt_fg L ρ) 4096 1000000 (d + 7, (f.1, f.2.1, f.2.2.1, eI (zI r) :: f.2.2.2), F, μ) := by
    intro r M μ h hR2 hl2
    obtain ⟨g, h⟩ := f_if_ok h
    rw [Nat.eq_of_beq_eq_true g]
    exact K M μ hR2 h
  have hz := mr_44k (d := d) (f := f) (F := F) (rc := 4096) (rs := 1000000) (μ0 := μ0) (a0 := 98) (a2 := φ) (z_no_ok z_nil) hn (hm_0 hG) hG hk p0 hz0_174 hK (fun a3 a4 a5 a6 M μ q hR2 hl2 => z_no1 q)
  have h2 := mr_44k (d := d) (f := f) (F := F) (rc := 4096) (rs := 1000000) (μ0 := μ0) (a0 := 98) (a2 := φ) (zT_is hv) hn (hm_g hG hl0_2) hG hk p0 hf0_174 (fun r M μ q hR2 hl2 => z_no1 q) hz
  have h1 := mr_44k (d := d) (f := f) (F := F) (rc := 4096) (rs := 1000000) (μ0 := μ0) (a0 := 98) (a2 := φ) (z_no_ok (z_cons ((z_eq_tr hv 4294967295).trans rfl) (z_cons ((z_eq_tr hv 130).trans rfl) (z_cons ((z_eq_tr hv 16806).trans rfl) z_nil)))) hn (hm_g hG hl0_1) hG hk p0 hn0_1 (fun r M μ q hR2 hl2 => z_no1 q) h2
  have h0 := mr_44k (d := d) (f := f) (F := F) (rc := 4096) (rs := 1000000) (μ0 := μ0) (a0 := 98) (a2 := φ) (z_no_ok (z_cons ((z_eq_tr hv 4294967295).trans rfl) z_nil)) hn (hm_g hG hl0_0) hG hk p0 hn0_0 (fun r M μ q hR2 hl2 => z_no1 q) h1
  exact mr_300_ok (z_no_ok z_nil) hn (hm_0 hG) hG hr0_e hR hk p0 h0 (fun r M μ q hR2 hl2 => z_no1 q)
theorem hR0_3981 {L φ : Nat} {ρ : Nat → Int} (hn : z_l0 φ = false) (hv : z_eq 3981 φ = true) : RRes (dt_fg L ρ) 0 φ 2 gm0_z := by
  intro d f F μ0 hR K
  have hG := y_T_ok L ρ
  have hk := (y_is_ok gx_0 hR).1
  have p0 : 0 < 98 := by decide
  have hK : ∀ (r : Nat) (M : yM) (μ : eM), kE 2 r M = true → yR M μ → y_le μ0 μ → ex_fine (dt_fg L ρ) 4096 1000000 (d + 7, (f.1, f.2.1, f.2.2.1, eI (zI r) :: f.2.2.2), F, μ) := by
    intro r M μ h hR2 hl2
    obtain ⟨g, h⟩ := f_if_ok h
    rw [Nat.eq_of_beq_eq_true g]
    exact K M μ hR2 h
  have hz := mr_44k (d := d) (f := f) (F := F) (rc := 4096) (rs := 1000000) (μ0 := μ0) (a0 := 98) (a2 := φ) (z_no_ok z_nil) hn (hm_0 hG) hG hk p0 hz0_3981 hK (fun a3 a4 a5 a6 M μ q hR2 hl2 => z_no1 q)
  have h2 := mr_44k (d := d) (f := f) (F := F) (rc := 4096) (rs := 1000000) (μ0 := μ0) (a0 := 98) (a2 := φ) (zT_is hv) hn (hm_g hG hl0_2) hG hk p0 hf0_3981 (fun r M μ q hR2 hl2 => z_no1 q) hz
  have h1 := mr_44k (d := d) (f := f) (F := F) (rc := 4096) (rs := 1000000) (μ0 := μ0) (a0 := 98) (a2 := φ) (z_no_ok (z_cons ((z_eq_tr hv 4294967295).trans rfl) (z_cons ((z_eq_tr hv 130).trans rfl) (z_cons ((z_eq_tr hv 16806).trans rfl) z_nil)))) hn (hm_g hG hl0_1) hG hk p0 hn0_1 (fun r M μ q hR2 hl2 => z_no1 q) h2
  have h0 := mr_44k (d := d) (f := f) (F := F) (rc := 4096) (rs := 1000000) (μ0 := μ0) (a0 := 98) (a2 := φ) (z_no_ok (z_cons ((z_eq_tr hv 4294967295).trans rfl) z_nil)) hn (hm_g hG hl0_0) hG hk p0 hn0_0 (fun r M μ q hR2 hl2 => z_no1 q) h1
  exact mr_300_ok (z_no_ok z_nil) hn (hm_0 hG) hG hr0_e hR hk p0 h0 (fun r M μ q hR2 hl2 => z_no1 q)
theorem hR0_14005 {L φ : Nat} {ρ : Nat → Int} (hn : z_l0 φ = false) (hv : z_eq 14005 φ = true) : RRes (dt_fg L ρ) 0 φ 2 gm0_z := by
  intro d f F μ0 hR K
  have hG := y_T_ok L ρ
  have hk := (y_is_ok gx_0 hR).1
  have p0 : 0 < 98 := by decide
  have hK : ∀ (r : Nat) (M : yM) (μ : eM), kE 2 r M = true → yR M μ → y_le μ0 μ → ex_fine (dt_fg L ρ) 4096 1000000 (d + 7, (f.1, f.2.1, f.2.2.1, eI (zI r) :: f.2.2.2), F, μ) := by
    intro r M μ h hR2 hl2
    obtain ⟨g, h⟩ := f_if_ok h
    rw [Nat.eq_of_beq_eq_true g]
    exact K M μ hR2 h
  have hz := mr_44k (d := d) (f := f) (F := F) (rc := 4096) (rs := 1000000) (μ0 := μ0) (a0 := 98) (a2 := φ) (z_no_ok z_nil) hn (hm_0 hG) hG hk p0 hz0_14005 hK (fun a3 a4 a5 a6 M μ q hR2 hl2 => z_no1 q)
  have h2 := mr_44k (d := d) (f := f) (F := F) (rc := 4096) (rs := 1000000) (μ0 := μ0) (a0 := 98) (a2 := φ) (zT_is hv) hn (hm_g hG hl0_2) hG hk p0 hf0_14005 (fun r M μ q hR2 hl2 => z_no1 q) hz
  have h1 := mr_44k (d := d) (f := f) (F := F) (rc := 4096) (rs := 1000000) (μ0 := μ0) (a0 := 98) (a2 := φ) (z_no_ok (z_cons ((z_eq_tr hv 4294967295).trans rfl) (z_cons ((z_eq_tr hv 130).trans rfl) (z_cons ((z_eq_tr hv 16806).trans rfl) z_nil)))) hn (hm_g hG hl0_1) hG hk p0 hn0_1 (fun r M μ q hR2 hl2 => z_no1 q) h2
  have h0 := mr_44k (d := d) (f := f) (F := F) (rc := 4096) (rs := 1000000) (μ0 := μ0) (a0 := 98) (a2 := φ) (z_no_ok (z_cons ((z_eq_tr hv 4294967295).trans rfl) z_nil)) hn (hm_g hG hl0_0) hG hk p0 hn0_0 (fun r M μ q hR2 hl2 => z_no1 q) h1
  exact mr_300_ok (z_no_ok z_nil) hn (hm_0 hG) hG hr0_e hR hk p0 h0 (fun r M μ q hR2 hl2 => z_no1 q)
theorem hR0_1371 {L φ : Nat} {ρ : Nat → Int} (hn : z_l0 φ = false) (hv : z_eq 1371 φ = true) : RRes (dt_fg L ρ) 0 φ 3 gm0_z := by
  intro d f F μ0 hR K
  have hG := y_T_ok L ρ
  have hk := (y_is_ok gx_0 hR).1
  have p0 : 0 < 98 := by decide
  have hK : ∀ (r : Nat) (M : yM) (μ : eM), kE 3 r M = true → yR M μ → y_le μ0 μ → ex_fine (dt_fg L ρ) 4096 1000000 (d + 7, (f.1, f.2.1, f.2.2.1, eI (zI r) :: f.2.2.2), F, μ) := by
    intro r M μ h hR2 hl2
    obtain ⟨g, h⟩ := f_if_ok h
    rw [Nat.eq_of_beq_eq_true g]
    exact K M μ hR2 h
  have hz := mr_44k (d := d) (f := f) (F := F) (rc := 4096) (rs := 1000000) (μ0 := μ0) (a0 := 98) (a2 := φ) (z_no_ok z_nil) hn (hm_0 hG) hG hk p0 hz0_1371 hK (fun a3 a4 a5 a6 M μ q hR2 hl2 => z_no1 q)
  have h3 := mr_44k (d := d) (f := f) (F := F) (rc := 4096) (rs := 1000000) (μ0 := μ0) (a0 := 98) (a2 := φ) (zT_is hv) hn (hm_g hG hl0_3) hG hk p0 hf0_1371 (fun r M μ q hR2 hl2 => z_no1 q) hz
  have h2 := mr_44k (d := d) (f := f) (F := F) (rc := 4096) (rs := 1000000) (μ0 := μ0) (a0 := 98) (a2 := φ) (z_no_ok (z_cons ((z_eq_tr hv 4294967295).trans rfl) (z_cons ((z_eq_tr hv 174).trans rfl) (z_cons ((z_eq_tr hv 3981).trans rfl) (z_cons ((z_eq_tr hv 14005).trans rfl) z_nil))))) hn (hm_g hG hl0_2) hG hk p0 hn0_2 (fun r M μ q hR2 hl2 => z_no1 q) h3
  have h1 := mr_44k (d := d) (f := f) (F := F) (rc := 4096) (rs := 1000000) (μ0 := μ0) (a0 := 98) (a2 := φ) (z_no_ok (z_cons ((z_eq_tr hv 4294967295).trans rfl) (z_cons ((z_eq_tr hv 130).trans rfl) (z_cons ((z_eq_tr hv 16806).trans rfl) z_nil)))) hn (hm_g hG hl0_1) hG hk p0 hn0_1 (fun r M μ q hR2 hl2 => z_no1 q) h2
  have h0 := mr_44k (d := d) (f := f) (F := F) (rc := 4096) (rs := 1000000) (μ0 := μ0) (a0 := 98) (a2 := φ) (z_no_ok (z_cons ((z_eq_tr hv 4294967295).trans rfl) z_nil)) hn (hm_g hG hl0_0) hG hk p0 hn0_0 (fun r M μ q hR2 hl2 => z_no1 q) h1
  exact mr_300_ok (z_no_ok z_nil) hn (hm_0 hG) hG hr0_e hR hk p0 h0 (fun r M μ q hR2 hl2 => z_no1 q)
theorem hR0_146893 {L φ : Nat} {ρ : Nat → Int} (hn : z_l0 φ = false) (hv : z_eq 146893 φ = true) : RRes (dt_fg L ρ) 0 φ 3 gm0_z := by
  intro d f F μ0 hR K
  have hG := y_T_ok L ρ
  have hk := (y_is_ok gx_0 hR).1
  have p0 : 0 < 98 := by decide
  have hK : ∀ (r : Nat) (M : yM) (μ : eM), kE 3 r M = true → yR M μ → y_le μ0 μ → ex_fine (dt_fg L ρ) 4096 1000000 (d + 7, (f.1, f.2.1, f.2.2.1, eI (zI r) :: f.2.2.2), F, μ) := by
    intro r M μ h hR2 hl2
    obtain ⟨g, h⟩ := f_if_ok h
    rw [Nat.eq_of_beq_eq_true g]
    exact K M μ hR2 h
  have hz := mr_44k (d := d) (f := f) (F := F) (rc := 4096) (rs := 1000000) (μ0 := μ0) (a0 := 98) (a2 := φ) (z_no_ok z_nil) hn (hm_0 hG) hG hk p0 hz0_146893 hK (fun a3 a4 a5 a6 M μ q hR2 hl2 => z_no1 q)
  have h3 := mr_44k (d := d) (f := f) (F := F) (rc := 4096) (rs := 1000000) (μ0 := μ0) (a0 := 98) (a2 := φ) (zT_is hv) hn (hm_g hG hl0_3) hG hk p0 hf0_146893 (fun r M μ q hR2 hl2 => z_no1 q) hz
  have h2 := mr_44k (d := d) (f := f) (F := F) (rc := 4096) (rs := 1000000) (μ0 := μ0) (a0 := 98) (a2 := φ) (z_no_ok (z_cons ((z_eq_tr hv 4294967295).trans rfl) (z_cons ((z_eq_tr hv 174).trans rfl) (z_cons ((z_eq_tr hv 3981).trans rfl) (z_cons ((z_eq_tr hv 14005).trans rfl) z_nil))))) hn (hm_g hG hl0_2) hG hk p0 hn0_2 (fun r M μ q hR2 hl2 => z_no1 q) h3
  have h1 := mr_44k (d := d) (f := f) (F := F) (rc := 4096) (rs := 1000000) (μ0 := μ0) (a0 := 98) (a2 := φ) (z_no_ok (z_cons ((z_eq_tr hv 4294967295).trans rfl) (z_cons ((z_eq_tr hv 130).trans rfl) (z_cons ((z_eq_tr hv 16806).trans rfl) z_nil)))) hn (hm_g hG hl0_1) hG hk p0 hn0_1 (fun r M μ q hR2 hl2 => z_no1 q) h2
  have h0 := mr_44k (d := d) (f := f) (F := F) (rc := 4096) (rs := 1000000) (μ0 := μ0) (a0 := 98) (a2 := φ) (z_no_ok (z_cons ((z_eq_tr hv 4294967295).trans rfl) z_nil)) hn (hm_g hG hl0_0) hG hk p0 hn0_0 (fun r M μ q hR2 hl2 => z_no1 q) h1
  exact mr_300_ok (z_no_ok z_nil) hn (hm_0 hG) hG hr0_e hR hk p0 h0 (fun r M μ q hR2 hl2 => z_no1 q)
theorem hR0_21208 {L φ : Nat} {ρ : Nat → Int} (hn : z_l0 φ = false) (hv : z_eq 21208 φ = true) : RRes (dt_fg L ρ) 0 φ 4 gm0_z := by
  intro d f F μ0 hR K
  have hG := y_T_ok L ρ
  have hk := (y_is_ok gx_0 hR).1
  have p0 : 0 < 98 := by decide
  have hK : ∀ (r : Nat) (M : yM) (μ : eM), kE 4 r M = true → yR M μ → y_le μ0 μ → ex_fine (dt_fg L ρ) 4096 1000000 (d + 7, (f.1, f.2.1, f.2.2.1, eI (zI r) :: f.2.2.2), F, μ) := by
    intro r M μ h hR2 hl2
    obtain ⟨g, h⟩ := f_if_ok h
    rw [Nat.eq_of_beq_eq_true g]
    exact K M μ hR2 h
  have hz := mr_44k (d := d) (f := f) (F := F) (rc := 4096) (rs := 1000000) (μ0 := μ0) (a0 := 98) (a2 := φ) (z_no_ok z_nil) hn (hm_0 hG) hG hk p0 hz0_21208 hK (fun a3 a4 a5 a6 M μ q hR2 hl2 => z_no1 q)
  have h4 := mr_44k (d := d) (f := f) (F := F) (rc := 4096) (rs := 1000000) (μ0 := μ0) (a0 := 98) (a2 := φ) (zT_is hv) hn (hm_g hG hl0_4) hG hk p0 hf0_21208 (fun r M μ q hR2 hl2 => z_no1 q) hz
  have h3 := mr_44k (d := d) (f := f) (F := F) (rc := 4096) (rs := 1000000) (μ0 := μ0) (a0 := 98) (a2 := φ) (z_no_ok (z_cons ((z_eq_tr hv 4294967295).trans rfl) (z_cons ((z_eq_tr hv 130).trans rfl) (z_cons ((z_eq_tr hv 174).trans rfl) (z_cons ((z_eq_tr hv 1371).trans rfl) (z_cons ((z_eq_tr hv 3981).trans rfl) (z_cons ((z_eq_tr hv 16806).trans rfl) (z_cons ((z_eq_tr hv 146893).trans rfl) z_nil)))))))) hn (hm_g hG hl0_3) hG hk p0 hn0_3 (fun r M μ q hR2 hl2 => z_no1 q) h4
  have h2 := mr_44k (d := d) (f := f) (F := F) (rc := 4096) (rs := 1000000) (μ0 := μ0) (a0 := 98) (a2 := φ) (z_no_ok (z_cons ((z_eq_tr hv 4294967295).trans rfl) (z_cons ((z_eq_tr hv 174).trans rfl) (z_cons ((z_eq_tr hv 3981).trans rfl) (z_cons ((z_eq_tr hv 14005).trans rfl) z_nil))))) hn (hm_g hG hl0_2) hG hk p0 hn0_2 (fun r M μ q hR2 hl2 => z_no1 q) h3
  have h1 := mr_44k (d := d) (f := f) (F := F) (rc := 4096) (rs := 1000000) (μ0 := μ0) (a0 := 98) (a2 := φ) (z_no_ok (z_cons ((z_eq_tr hv 4294967295).trans rfl) (z_cons ((z_eq_tr hv 130).trans rfl) (z_cons ((z_eq_tr hv 16806).trans rfl) z_nil)))) hn (hm_g hG hl0_1) hG hk p0 hn0_1 (fun r M μ q hR2 hl2 => z_no1 q) h2
  have h0 := mr_44k (d := d) (f := f) (F := F) (rc := 4096) (rs := 1000000) (μ0 := μ0) (a0 := 98) (a2 := φ) (z_no_ok (z_cons ((z_eq_tr hv 4294967295).trans rfl) z_nil)) hn (hm_g hG hl0_0) hG hk p0 hn0_0 (fun r M μ q hR2 hl2 => z_no1 q) h1
  exact mr_300_ok (z_no_ok z_nil) hn (hm_0 hG) hG hr0_e hR hk p0 h0 (fun r M μ q hR2 hl2 => z_no1 q)
theorem hR1_n {L φ : Nat} {ρ : Nat → Int} (hn : z_l0 φ = false) (hF : ∀ v ∈ [174, 130, 146893, 1371, 3981, 16806], z_eq v φ = false) : RRes (dt_fg L ρ) 1 φ 4294967295 gm1_z := by
  intro d f F μ0 hR K
  have hG := y_T_ok L ρ
  have hk := (y_is_ok gx_1 hR).1
  have p0 : 0 < 98 := by decide
  have hK : ∀ (r : Nat) (M : yM) (μ : eM), kE 4294967295 r M = true → yR M μ → y_le μ0 μ → ex_fine (dt_fg L ρ) 4096 1000000 (d + 7, (f.1, f.2.1, f.2.2.1, eI (zI r) :: f.2.2.2), F, μ) := by
    intro r M μ h hR2 hl2
    obtain ⟨g, h⟩ := f_if_ok h
    rw [Nat.eq_of_beq_eq_true g]
    exact K M μ hR2 h
  have h6 := mr_44k (d := d) (f := f) (F := F) (rc := 4096) (rs := 1000000) (μ0 := μ0) (a0 := 98) (a2 := φ) (z_no_ok z_nil) hn (hm_0 hG) hG hk p0 hz1_n hK (fun a3 a4 a5 a6 M μ q hR2 hl2 => z_no1 q)
  have h5 := mr_44k (d := d) (f := f) (F := F) (rc := 4096) (rs := 1000000) (μ0 := μ0) (a0 := 98) (a2 := φ) (z_no_ok (z_cons (z_m1 hn) (z_cons (hF 130 (by decide)) (z_cons (hF 174 (by decide)) (z_cons (hF 1371 (by decide)) (z_cons (hF 3981 (by decide)) (z_cons (hF 16806 (by decide)) (z_cons (hF 146893 (by decide)) z_nil)))))))) hn (hm_g hG hl1_5) hG hk p0 hn1_5 (fun r M μ q hR2 hl2 => z_no1 q) h6
  have h4 := mr_44k (d := d) (f := f) (F := F) (rc := 4096) (rs := 1000000) (μ0 := μ0) (a0 := 98) (a2 := φ) (z_no_ok (z_cons (z_m1 hn) (z_cons (hF 130 (by decide)) (z_cons (hF 174 (by decide)) (z_cons (hF 146893 (by decide)) z_nil))))) hn (hm_g hG hl1_4) hG hk p0 hn1_4 (fun r M μ q hR2 hl2 => z_no1 q) h5
  have h3 := mr_44k (d := d) (f := f) (F := F) (rc := 4096) (rs := 1000000) (μ0 := μ0) (a0 := 98) (a2 := φ) (z_no_ok (z_cons (z_m1 hn) (z_cons (hF 174 (by decide)) z_nil))) hn (hm_g hG hl1_3) hG hk p0 hn1_3 (fun r M μ q hR2 hl2 => z_no1 q) h4
  have h2 := mr_44k (d := d) (f := f) (F := F) (rc := 4096) (rs := 1000000) (μ0 := μ0) (a0 := 98) (a2 := φ) (z_no_ok (z_cons (z_m1 hn) z_nil)) hn (hm_g hG hl1_2) hG hk p0 hn1_2 (fun r M μ q hR2 hl2 => z_no1 q) h3
  have h1 := mr_44k (d := d) (f := f) (F := F) (rc := 4096) (rs := 1000000) (μ0 := μ0) (a0 := 98) (a2 := φ) (z_no_ok (z_cons (z_m1 hn) z_nil)) hn (hm_g hG hl1_1) hG hk p0 hn1_1 (fun r M μ q hR2 hl2 => z_no1 q) h2
  have h0 := mr_44k (d := d) (f := f) (F := F) (rc := 4096) (rs := 1000000) (μ0 := μ0) (a0 := 98) (a2 := φ) (z_no_ok (z_cons (z_m1 hn) z_nil)) hn (hm_g hG hl1_0) hG hk p0 hn1_0 (fun r M μ q hR2 hl2 => z_no1 q) h1
  exact mr_300_ok (z_no_ok z_nil) hn (hm_0 hG) hG hr1_e hR hk p0 h0 (fun r M μ q hR2 hl2 => z_no1 q)
theorem hR1_174 {L φ : Nat} {ρ : Nat → Int} (hn : z_l0 φ = false) (hv : z_eq 174 φ = true) : RRes (dt_fg L ρ) 1 φ 3 gm1_z := by
  intro d f F μ0 hR K
  have hG := y_T_ok L ρ
  have hk := (y_is_ok gx_1 hR).1
  have p0 : 0 < 98 := by decide
  have hK : ∀ (r : Nat) (M : yM) (μ : eM), kE 3 r M = true → yR M μ → y_le μ0 μ → ex_fine (dt_fg L ρ) 4096 1000000 (d + 7, (f.1, f.2.1, f.2.2.1, eI (zI r) :: f.2.2.2), F, μ) := by
    intro r M μ h hR2 hl2
    obtain ⟨g, h⟩ := f_if_ok h
    rw [Nat.eq_of_beq_eq_true g]
    exact K M μ hR2 h
  have hz := mr_44k (d := d) (f := f) (F := F) (rc := 4096) (rs := 1000000) (μ0 := μ0) (a0 := 98) (a2 := φ) (z_no_ok z_nil) hn (hm_0 hG) hG hk p0 hz1_174 hK (fun a3 a4 a5 a6 M μ q hR2 hl2 => z_no1 q)
  have h3 := mr_44k (d := d) (f := f) (F := F) (rc := 4096) (rs := 1000000) (μ0 := μ0) (a0 := 98) (a2 := φ) (zT_is hv) hn (hm_g hG hl1_3) hG hk p0 hf1_174 (fun r M μ q hR2 hl2 => z_no1 q) hz
  have h2 := mr_44k (d := d) (f := f) (F := F) (rc := 4096) (rs := 1000000) (μ0 := μ0) (a0 := 98) (a2 := φ) (z_no_ok (z_cons ((z_eq_tr hv 4294967295).trans rfl) z_nil)) hn (hm_g hG hl1_2) hG hk p0 hn1_2 (fun r M μ q hR2 hl2 => z_no1 q) h3
  have h1 := mr_44k (d := d) (f := f) (F := F) (rc := 4096) (rs := 1000000) (μ0 := μ0) (a0 := 98) (a2 := φ) (z_no_ok (z_cons ((z_eq_tr hv 4294967295).trans rfl) z_nil)) hn (hm_g hG hl1_1) hG hk p0 hn1_1 (fun r M μ q hR2 hl2 => z_no1 q) h2
  have h0 := mr_44k (d := d) (f := f) (F := F) (rc := 4096) (rs := 1000000) (μ0 := μ0) (a0 := 98) (a2 := φ) (z_no_ok (z_cons ((z_eq_tr hv 4294967295).trans rfl) z_nil)) hn (hm_g hG hl1_0) hG hk p0 hn1_0 (fun r M μ q hR2 hl2 => z_no1 q) h1
  exact mr_300_ok (z_no_ok z_nil) hn (hm_0 hG) hG hr1_e hR hk p0 h0 (fun r M μ q hR2 hl2 => z_no1 q)
theorem hR1_130 {L φ : Nat} {ρ : Nat → Int} (hn : z_l0 φ = false) (hv : z_eq 130 φ = true) : RRes (dt_fg L ρ) 1 φ 4 gm1_z := by
  intro d f F μ0 hR K
  have hG := y_T_ok L ρ
  have hk := (y_is_ok gx_1 hR).1
  have p0 : 0 < 98 := by decide
  have hK : ∀ (r : Nat) (M : yM) (μ : eM), kE 4 r M = true → yR M μ → y_le μ0 μ → ex_fine (dt_fg L ρ) 4096 1000000 (d + 7, (f.1, f.2.1, f.2.2.1, eI (zI r) :: f.2.2.2), F, μ) := by
    intro r M μ h hR2 hl2
    obtain ⟨g, h⟩ := f_if_ok h
    rw [Nat.eq_of_beq_eq_true g]
    exact K M μ hR2 h
  have hz := mr_44k (d := d) (f := f) (F := F) (rc := 4096) (rs := 1000000) (μ0 := μ0) (a0 := 98) (a2 := φ) (z_no_ok z_nil) hn (hm_0 hG) hG hk p0 hz1_130 hK (fun a3 a4 a5 a6 M μ q hR2 hl2 => z_no1 q)
  have h4 := mr_44k (d := d) (f := f) (F := F) (rc := 4096) (rs := 1000000) (μ0 := μ0) (a0 := 98) (a2 := φ) (zT_is hv) hn (hm_g hG hl1_4) hG hk p0 hf1_130 (fun r M μ q hR2 hl2 => z_no1 q) hz
  have h3 := mr_44k (d := d) (f := f) (F := F) (rc := 4096) (rs := 1000000) (μ0 := μ0) (a0 := 98) (a2 := φ) (z_no_ok (z_cons ((z_eq_tr hv 4294967295).trans rfl) (z_cons ((z_eq_tr hv 174).trans rfl) z_nil))) hn (hm_g hG hl1_3) hG hk p0 hn1_3 (fun r M μ q hR2 hl2 => z_no1 q) h4
  have h2 := mr_44k (d := d) (f := f) (F := F) (rc := 4096) (rs := 1000000) (μ0 := μ0) (a0 := 98) (a2 := φ) (z_no_ok (z_cons ((z_eq_tr hv 4294967295).trans rfl) z_nil)) hn (hm_g hG hl1_2) hG hk p0 hn1_2 (fun r M μ q hR2 hl2 => z_no1 q) h3
  have h1 := mr_44k (d := d) (f := f) (F := F) (rc := 4096) (rs := 1000000) (μ0 := μ0) (a0 := 98) (a2 := φ) (z_no_ok (z_cons ((z_eq_tr hv 4294967295).trans rfl) z_nil)) hn (hm_g hG hl1_1) hG hk p0 hn1_1 (fun r M μ q hR2 hl2 => z_no1 q) h2
  have h0 := mr_44k (d := d) (f := f) (F := F) (rc := 4096) (rs := 1000000) (μ0 := μ0) (a0 := 98) (a2 := φ) (z_no_ok (z_cons ((z_eq_tr hv 4294967295).trans rfl) z_nil)) hn (hm_g hG hl1_0) hG hk p0 hn1_0 (fun r M μ q hR2 hl2 => z_no1 q) h1
  exact mr_300_ok (z_no_ok z_nil) hn (hm_0 hG) hG hr1_e hR hk p0 h0 (fun r M μ q hR2 hl2 => z_no1 q)
theorem hR1_146893 {L φ : Nat} {ρ : Nat → Int} (hn : z_l0 φ = false) (hv : z_eq 146893 φ = true) : RRes (dt_fg L ρ) 1 φ 4 gm1_z := by
  intro d f F μ0 hR K
  have hG := y_T_ok L ρ
  have hk := (y_is_ok gx_1 hR).1
  have p0 : 0 < 98 := by decide
  have hK : ∀ (r : Nat) (M : yM) (μ : eM), kE 4 r M = true → yR M μ → y_le μ0 μ → ex_fine (dt_fg L ρ) 4096 1000000 (d + 7, (f.1, f.2.1, f.2.2.1, eI (zI r) :: f.2.2.2), F, μ) := by
    intro r M μ h hR2 hl2
    obtain ⟨g, h⟩ := f_if_ok h
    rw [Nat.eq_of_beq_eq_true g]
    exact K M μ hR2 h
  have hz := mr_44k (d := d) (f := f) (F := F) (rc := 4096) (rs := 1000000) (μ0 := μ0) (a0 := 98) (a2 := φ) (z_no_ok z_nil) hn (hm_0 hG) hG hk p0 hz1_146893 hK (fun a3 a4 a5 a6 M μ q hR2 hl2 => z_no1 q)
  have h4 := mr_44k (d := d) (f := f) (F := F) (rc := 4096) (rs := 1000000) (μ0 := μ0) (a0 := 98) (a2 := φ) (zT_is hv) hn (hm_g hG hl1_4) hG hk p0 hf1_146893 (fun r M μ q hR2 hl2 => z_no1 q) hz
  have h3 := mr_44k (d := d) (f := f) (F := F) (rc := 4096) (rs := 1000000) (μ0 := μ0) (a0 := 98) (a2 := φ) (z_no_ok (z_cons ((z_eq_tr hv 4294967295).trans rfl) (z_cons ((z_eq_tr hv 174).trans rfl) z_nil))) hn (hm_g hG hl1_3) hG hk p0 hn1_3 (fun r M μ q hR2 hl2 => z_no1 q) h4
  have h2 := mr_44k (d := d) (f := f) (F := F) (rc := 4096) (rs := 1000000) (μ0 := μ0) (a0 := 98) (a2 := φ) (z_no_ok (z_cons ((z_eq_tr hv 4294967295).trans rfl) z_nil)) hn (hm_g hG hl1_2) hG hk p0 hn1_2 (fun r M μ q hR2 hl2 => z_no1 q) h3
  have h1 := mr_44k (d := d) (f := f) (F := F) (rc := 4096) (rs := 1000000) (μ0 := μ0) (a0 := 98) (a2 := φ) (z_no_ok (z_cons ((z_eq_tr hv 4294967295).trans rfl) z_nil)) hn (hm_g hG hl1_1) hG hk p0 hn1_1 (fun r M μ q hR2 hl2 => z_no1 q) h2
  have h0 := mr_44k (d := d) (f := f) (F := F) (rc := 4096) (rs := 1000000) (μ0 := μ0) (a0 := 98) (a2 := φ) (z_no_ok (z_cons ((z_eq_tr hv 4294967295).trans rfl) z_nil)) hn (hm_g hG hl1_0) hG hk p0 hn1_0 (fun r M μ q hR2 hl2 => z_no1 q) h1
  exact mr_300_ok (z_no_ok z_nil) hn (hm_0 hG) hG hr1_e hR hk p0 h0 (fun r M μ q hR2 hl2 => z_no1 q)
theorem hR1_1371 {L φ : Nat} {ρ : Nat → Int} (hn : z_l0 φ = false) (hv : z_eq 1371 φ = true) : RRes (dt_fg L ρ) 1 φ 5 gm1_z := by
  intro d f F μ0 hR K
  have hG := y_T_ok L ρ
  have hk := (y_is_ok gx_1 hR).1
  have p0 : 0 < 98 := by decide
  have hK : ∀ (r : Nat) (M : yM) (μ : eM), kE 5 r M = true → yR M μ → y_le μ0 μ → ex_fine (dt_fg L ρ) 4096 1000000 (d + 7, (f.1, f.2.1, f.2.2.1, eI (zI r) :: f.2.2.2), F, μ) := by
    intro r M μ h hR2 hl2
    obtain ⟨g, h⟩ := f_if_ok h
    rw [Nat.eq_of_beq_eq_true g]
    exact K M μ hR2 h
  have hz := mr_44k (d := d) (f := f) (F := F) (rc := 4096) (rs := 1000000) (μ0 := μ0) (a0 := 98) (a2 := φ) (z_no_ok z_nil) hn (hm_0 hG) hG hk p0 hz1_1371 hK (fun a3 a4 a5 a6 M μ q hR2 hl2 => z_no1 q)
  have h5 := mr_44k (d := d) (f := f) (F := F) (rc := 4096) (rs := 1000000) (μ0 := μ0) (a0 := 98) (a2 := φ) (zT_is hv) hn (hm_g hG hl1_5) hG hk p0 hf1_1371 (fun r M μ q hR2 hl2 => z_no1 q) hz
  have h4 := mr_44k (d := d) (f := f) (F := F) (rc := 4096) (rs := 1000000) (μ0 := μ0) (a0 := 98) (a2 := φ) (z_no_ok (z_cons ((z_eq_tr hv 4294967295).trans rfl) (z_cons ((z_eq_tr hv 130).trans rfl) (z_cons ((z_eq_tr hv 174).trans rfl) (z_cons ((z_eq_tr hv 146893).trans rfl) z_nil))))) hn (hm_g hG hl1_4) hG hk p0 hn1_4 (fun r M μ q hR2 hl2 => z_no1 q) h5
  have h3 := mr_44k (d := d) (f := f) (F := F) (rc := 4096) (rs := 1000000) (μ0 := μ0) (a0 := 98) (a2 := φ) (z_no_ok (z_cons ((z_eq_tr hv 4294967295).trans rfl) (z_cons ((z_eq_tr hv 174).trans rfl) z_nil))) hn (hm_g hG hl1_3) hG hk p0 hn1_3 (fun r M μ q hR2 hl2 => z_no1 q) h4
  have h2 := mr_44k (d := d) (f := f) (F := F) (rc := 4096) (rs := 1000000) (μ0 := μ0) (a0 := 98) (a2 := φ) (z_no_ok (z_cons ((z_eq_tr hv 4294967295).trans rfl) z_nil)) hn (hm_g hG hl1_2) hG hk p0 hn1_2 (fun r M μ q hR2 hl2 => z_no1 q) h3
  have h1 := mr_44k (d := d) (f := f) (F := F) (rc := 4096) (rs := 1000000) (μ0 := μ0) (a0 := 98) (a2 := φ) (z_no_ok (z_cons ((z_eq_tr hv 4294967295).trans rfl) z_nil)) hn (hm_g hG hl1_1) hG hk p0 hn1_1 (fun r M μ q hR2 hl2 => z_no1 q) h2
  have h0 := mr_44k (d := d) (f := f) (F := F) (rc := 4096) (rs := 1000000) (μ0 := μ0) (a0 := 98) (a2 := φ) (z_no_ok (z_cons ((z_eq_tr hv 4294967295).trans rfl) z_nil)) hn (hm_g hG hl1_0) hG hk p0 hn1_0 (fun r M μ q hR2 hl2 => z_no1 q) h1
  exact mr_300_ok (z_no_ok z_nil) hn (hm_0 hG) hG hr1_e hR hk p0 h0 (fun r M μ q hR2 hl2 => z_no1 q)
theorem hR1_3981 {L φ : Nat} {ρ : Nat → Int} (hn : z_l0 φ = false) (hv : z_eq 3981 φ = true) : RRes (dt_fg L ρ) 1 φ 5 gm1_z := by
  intro d f F μ0 hR K
  have hG := y_T_ok L ρ
  have hk := (y_is_ok gx_1 hR).1
  have p0 : 0 < 98 := by decide
  have hK : ∀ (r : Nat) (M : yM) (μ : eM), kE 5 r M = true → yR M μ → y_le μ0 μ → ex_fine (dt_fg L ρ) 4096 1000000 (d + 7, (f.1, f.2.1, f.2.2.1, eI (zI r) :: f.2.2.2), F, μ) := by
    intro r M μ h hR2 hl2
    obtain ⟨g, h⟩ := f_if_ok h
    rw [Nat.eq_of_beq_eq_true g]
    exact K M μ hR2 h
  have hz := mr_44k (d := d) (f := f) (F := F) (rc := 4096) (rs := 1000000) (μ0 := μ0) (a0 := 98) (a2 := φ) (z_no_ok z_nil) hn (hm_0 hG) hG hk p0 hz1_3981 hK (fun a3 a4 a5 a6 M μ q hR2 hl2 => z_no1 q)
  have h5 := mr_44k (d := d) (f := f) (F := F) (rc := 4096) (rs := 1000000) (μ0 := μ0) (a0 := 98) (a2 := φ) (zT_is hv) hn (hm_g hG hl1_5) hG hk p0 hf1_3981 (fun r M μ q hR2 hl2 => z_no1 q) hz
  have h4 := mr_44k (d := d) (f := f) (F := F) (rc := 4096) (rs := 1000000) (μ0 := μ0) (a0 := 98) (a2 := φ) (z_no_ok (z_cons ((z_eq_tr hv 4294967295).trans rfl) (z_cons ((z_eq_tr hv 130).trans rfl) (z_cons ((z_eq_tr hv 174).trans rfl) (z_cons ((z_eq_tr hv 146893).trans rfl) z_nil))))) hn (hm_g hG hl1_4) hG hk p0 hn1_4 (fun r M μ q hR2 hl2 => z_no1 q) h5
  have h3 := mr_44k (d := d) (f := f) (F := F) (rc := 4096) (rs := 1000000) (μ0 := μ0) (a0 := 98) (a2 := φ) (z_no_ok (z_cons ((z_eq_tr hv 4294967295).trans rfl) (z_cons ((z_eq_tr hv 174).trans rfl) z_nil))) hn (hm_g hG hl1_3) hG hk p0 hn1_3 (fun r M μ q hR2 hl2 => z_no1 q) h4
  have h2 := mr_44k (d := d) (f := f) (F := F) (rc := 4096) (rs := 1000000) (μ0 := μ0) (a0 := 98) (a2 := φ) (z_no_ok (z_cons ((z_eq_tr hv 4294967295).trans rfl) z_nil)) hn (hm_g hG hl1_2) hG hk p0 hn1_2 (fun r M μ q hR2 hl2 => z_no1 q) h3
  have h1 := mr_44k (d := d) (f := f) (F := F) (rc := 4096) (rs := 1000000) (μ0 := μ0) (a0 := 98) (a2 := φ) (z_no_ok (z_cons ((z_eq_tr hv 4294967295).trans rfl) z_nil)) hn (hm_g hG hl1_1) hG hk p0 hn1_1 (fun r M μ q hR2 hl2 => z_no1 q) h2
  have h0 := mr_44k (d := d) (f := f) (F := F) (rc := 4096) (rs := 1000000) (μ0 := μ0) (a0 := 98) (a2 := φ) (z_no_ok (z_cons ((z_eq_tr hv 4294967295).trans rfl) z_nil)) hn (hm_g hG hl1_0) hG hk p0 hn1_0 (fun r M μ q hR2 hl2 => z_no1 q) h1
  exact mr_300_ok (z_no_ok z_nil) hn (hm_0 hG) hG hr1_e hR hk p0 h0 (fun r M μ q hR2 hl2 => z_no1 q)
theorem hR1_16806 {L φ : Nat} {ρ : Nat → Int} (hn : z_l0 φ = false) (hv : z_eq 16806 φ = true) : RRes (dt_fg L ρ) 1 φ 5 gm1_z := by
  intro d f F μ0 hR K
  have hG := y_T_ok L ρ
  have hk := (y_is_ok gx_1 hR).1
  have p0 : 0 < 98 := by decide
  have hK : ∀ (r : Nat) (M : yM) (μ : eM), kE 5 r M = true → yR M μ → y_le μ0 μ → ex_fine (dt_fg L ρ) 4096 1000000 (d + 7, (f.1, f.2.1, f.2.2.1, eI (zI r) :: f.2.2.2), F, μ) := by
    intro r M μ h hR2 hl2
    obtain ⟨g, h⟩ := f_if_ok h
    rw [Nat.eq_of_beq_eq_true g]
    exact K M μ hR2 h
  have hz := mr_44k (d := d) (f := f) (F := F) (rc := 4096) (rs := 1000000) (μ0 := μ0) (a0 := 98) (a2 := φ) (z_no_ok z_nil) hn (hm_0 hG) hG hk p0 hz1_16806 hK (fun a3 a4 a5 a6 M μ q hR2 hl2 => z_no1 q)
  have h5 := mr_44k (d := d) (f := f) (F := F) (rc := 4096) (rs := 1000000) (μ0 := μ0) (a0 := 98) (a2 := φ) (zT_is hv) hn (hm_g hG hl1_5) hG hk p0 hf1_16806 (fun r M μ q hR2 hl2 => z_no1 q) hz
  have h4 := mr_44k (d := d) (f := f) (F := F) (rc := 4096) (rs := 1000000) (μ0 := μ0) (a0 := 98) (a2 := φ) (z_no_ok (z_cons ((z_eq_tr hv 4294967295).trans rfl) (z_cons ((z_eq_tr hv 130).trans rfl) (z_cons ((z_eq_tr hv 174).trans rfl) (z_cons ((z_eq_tr hv 146893).trans rfl) z_nil))))) hn (hm_g hG hl1_4) hG hk p0 hn1_4 (fun r M μ q hR2 hl2 => z_no1 q) h5
  have h3 := mr_44k (d := d) (f := f) (F := F) (rc := 4096) (rs := 1000000) (μ0 := μ0) (a0 := 98) (a2 := φ) (z_no_ok (z_cons ((z_eq_tr hv 4294967295).trans rfl) (z_cons ((z_eq_tr hv 174).trans rfl) z_nil))) hn (hm_g hG hl1_3) hG hk p0 hn1_3 (fun r M μ q hR2 hl2 => z_no1 q) h4
  have h2 := mr_44k (d := d) (f := f) (F := F) (rc := 4096) (rs := 1000000) (μ0 := μ0) (a0 := 98) (a2 := φ) (z_no_ok (z_cons ((z_eq_tr hv 4294967295).trans rfl) z_nil)) hn (hm_g hG hl1_2) hG hk p0 hn1_2 (fun r M μ q hR2 hl2 => z_no1 q) h3
  have h1 := mr_44k (d := d) (f := f) (F := F) (rc := 4096) (rs := 1000000) (μ0 := μ0) (a0 := 98) (a2 := φ) (z_no_ok (z_cons ((z_eq_tr hv 4294967295).trans rfl) z_nil)) hn (hm_g hG hl1_1) hG hk p0 hn1_1 (fun r M μ q hR2 hl2 => z_no1 q) h2
  have h0 := mr_44k (d := d) (f := f) (F := F) (rc := 4096) (rs := 1000000) (μ0 := μ0) (a0 := 98) (a2 := φ) (z_no_ok (z_cons ((z_eq_tr hv 4294967295).trans rfl) z_nil)) hn (hm_g hG hl1_0) hG hk p0 hn1_0 (fun r M μ q hR2 hl2 => z_no1 q) h1
  exact mr_300_ok (z_no_ok z_nil) hn (hm_0 hG) hG hr1_e hR hk p0 h0 (fun r M μ q hR2 hl2 => z_no1 q)
theorem hR2_n {L φ : Nat} {ρ : Nat → Int} (hn : z_l0 φ = false) (hF : ∀ v ∈ [174, 130, 1371, 3981, 146893, 16806, 21208], z_eq v φ = false) : RRes (dt_fg L ρ) 2 φ 4294967295 gm2_z := by
  intro d f F μ0 hR K
  have hG := y_T_ok L ρ
  have hk := (y_is_ok gx_2 hR).1
  have p0 : 0 < 98 := by decide
  have hK : ∀ (r : Nat) (M : yM) (μ : eM), kE 4294967295 r M = true → yR M μ → y_le μ0 μ → ex_fine (dt_fg L ρ) 4096 1000000 (d + 7, (f.1, f.2.1, f.2.2.1, eI (zI r) :: f.2.2.2), F, μ) := by
    intro r M μ h hR2 hl2
    obtain ⟨g, h⟩ := f_if_ok h
    rw [Nat.eq_of_beq_eq_true g]
    exact K M μ hR2 h
  have h6 := mr_44k (d := d) (f := f) (F := F) (rc := 4096) (rs := 1000000) (μ0 := μ0) (a0 := 98) (a2 := φ) (z_no_ok z_nil) hn (hm_0 hG) hG hk p0 hz2_n hK (fun a3 a4 a5 a6 M μ q hR2 hl2 => z_no1 q)
  have h5 := mr_44k (d := d) (f := f) (F := F) (rc := 4096) (rs := 1000000) (μ0 := μ0) (a0 := 98) (a2 := φ) (z_no_ok (z_cons (z_m1 hn) (z_cons (hF 130 (by decide)) (z_cons (hF 174 (by decide)) (z_cons (hF 1371 (by decide)) (z_cons (hF 3981 (by decide)) (z_cons (hF 16806 (by decide)) (z_cons (hF 21208 (by decide)) (z_cons (hF 146893 (by decide)) z_nil))))))))) hn (hm_g hG hl2_5) hG hk p0 hn2_5 (fun r M μ q hR2 hl2 => z_no1 q) h6
  have h4 := mr_44k (d := d) (f := f) (F := F) (rc := 4096) (rs := 1000000) (μ0 := μ0) (a0 := 98) (a2 := φ) (z_no_ok (z_cons (z_m1 hn) (z_cons (hF 130 (by decide)) (z_cons (hF 174 (by decide)) (z_cons (hF 1371 (by decide)) (z_cons (hF 3981 (by decide)) (z_cons (hF 146893 (by decide)) z_nil))))))) hn (hm_g hG hl2_4) hG hk p0 hn2_4 (fun r M μ q hR2 hl2 => z_no1 q) h5
  have h3 := mr_44k (d := d) (f := f) (F := F) (rc := 4096) (rs := 1000000) (μ0 := μ0) (a0 := 98) (a2 := φ) (z_no_ok (z_cons (z_m1 hn) (z_cons (hF 174 (by decide)) z_nil))) hn (hm_g hG hl2_3) hG hk p0 hn2_3 (fun r M μ q hR2 hl2 => z_no1 q) h4
  have h2 := mr_44k (d := d) (f := f) (F := F) (rc := 4096) (rs := 1000000) (μ0 := μ0) (a0 := 98) (a2 := φ) (z_no_ok (z_cons (z_m1 hn) z_nil)) hn (hm_g hG hl2_2) hG hk p0 hn2_2 (fun r M μ q hR2 hl2 => z_no1 q) h3
  have h1 := mr_44k (d := d) (f := f) (F := F) (rc := 4096) (rs := 1000000) (μ0 := μ0) (a0 := 98) (a2 := φ) (z_no_ok (z_cons (z_m1 hn) z_nil)) hn (hm_g hG hl2_1) hG hk p0 hn2_1 (fun r M μ q hR2 hl2 => z_no1 q) h2
  have h0 := mr_44k (d := d) (f := f) (F := F) (rc := 4096) (rs := 1000000) (μ0 := μ0) (a0 := 98) (a2 := φ) (z_no_ok (z_cons (z_m1 hn) z_nil)) hn (hm_g hG hl2_0) hG hk p0 hn2_0 (fun r M μ q hR2 hl2 => z_no1 q) h1
  exact mr_300_ok (z_no_ok z_nil) hn (hm_0 hG) hG hr2_e hR hk p0 h0 (fun r M μ q hR2 hl2 => z_no1 q)
theorem hR2_174 {L φ : Nat} {ρ : Nat → Int} (hn : z_l0 φ = false) (hv : z_eq 174 φ = true) : RRes (dt_fg L ρ) 2 φ 3 gm2_z := by
  intro d f F μ0 hR K
  have hG := y_T_ok L ρ
  have hk := (y_is_ok gx_2 hR).1
  have p0 : 0 < 98 := by decide
  have hK : ∀ (r : Nat) (M : yM) (μ : eM), kE 3 r M = true → yR M μ → y_le μ0 μ → ex_fine (dt_fg L ρ) 4096 1000000 (d + 7, (f.1, f.2.1, f.2.2.1, eI (zI r) :: f.2.2.2), F, μ) := by
    intro r M μ h hR2 hl2
    obtain ⟨g, h⟩ := f_if_ok h
    rw [Nat.eq_of_beq_eq_true g]
    exact K M μ hR2 h
  have hz := mr_44k (d := d) (f := f) (F := F) (rc := 4096) (rs := 1000000) (μ0 := μ0) (a0 := 98) (a2 := φ) (z_no_ok z_nil) hn (hm_0 hG) hG hk p0 hz2_174 hK (fun a3 a4 a5 a6 M μ q hR2 hl2 => z_no1 q)
  have h3 := mr_44k (d := d) (f := f) (F := F) (rc := 4096) (rs := 1000000) (μ0 := μ0) (a0 := 98) (a2 := φ) (zT_is hv) hn (hm_g hG hl2_3) hG hk p0 hf2_174 (fun r M μ q hR2 hl2 => z_no1 q) hz
  have h2 := mr_44k (d := d) (f := f) (F := F) (rc := 4096) (rs := 1000000) (μ0 := μ0) (a0 := 98) (a2 := φ) (z_no_ok (z_cons ((z_eq_tr hv 4294967295).trans rfl) z_nil)) hn (hm_g hG hl2_2) hG hk p0 hn2_2 (fun r M μ q hR2 hl2 => z_no1 q) h3
  have h1 := mr_44k (d := d) (f := f) (F := F) (rc := 4096) (rs := 1000000) (μ0 := μ0) (a0 := 98) (a2 := φ) (z_no_ok (z_cons ((z_eq_tr hv 4294967295).trans rfl) z_nil)) hn (hm_g hG hl2_1) hG hk p0 hn2_1 (fun r M μ q hR2 hl2 => z_no1 q) h2
  have h0 := mr_44k (d := d) (f := f) (F := F) (rc := 4096) (rs := 1000000) (μ0 := μ0) (a0 := 98) (a2 := φ) (z_no_ok (z_cons ((z_eq_tr hv 4294967295).trans rfl) z_nil)) hn (hm_g hG hl2_0) hG hk p0 hn2_0 (fun r M μ q hR2 hl2 => z_no1 q) h1
  exact mr_300_ok (z_no_ok z_nil) hn (hm_0 hG) hG hr2_e hR hk p0 h0 (fun r M μ q hR2 hl2 => z_no1 q)
theorem hR2_130 {L φ : Nat} {ρ : Nat → Int} (hn : z_l0 φ = false) (hv : z_eq 130 φ = true) : RRes (dt_fg L ρ) 2 φ 4 gm2_z := by
  intro d f F μ0 hR K
  have hG := y_T_ok L ρ
  have hk := (y_is_ok gx_2 hR).1
  have p0 : 0 < 98 := by decide
  have hK : ∀ (r : Nat) (M : yM) (μ : eM), kE 4 r M = true → yR M μ → y_le μ0 μ → ex_fine (dt_fg L ρ) 4096 1000000 (d + 7, (f.1, f.2.1, f.2.2.1, eI (zI r) :: f.2.2.2), F, μ) := by
    intro r M μ h hR2 hl2
    obtain ⟨g, h⟩ := f_if_ok h
    rw [Nat.eq_of_beq_eq_true g]
    exact K M μ hR2 h
  have hz := mr_44k (d := d) (f := f) (F := F) (rc := 4096) (rs := 1000000) (μ0 := μ0) (a0 := 98) (a2 := φ) (z_no_ok z_nil) hn (hm_0 hG) hG hk p0 hz2_130 hK (fun a3 a4 a5 a6 M μ q hR2 hl2 => z_no1 q)
  have h4 := mr_44k (d := d) (f := f) (F := F) (rc := 4096) (rs := 1000000) (μ0 := μ0) (a0 := 98) (a2 := φ) (zT_is hv) hn (hm_g hG hl2_4) hG hk p0 hf2_130 (fun r M μ q hR2 hl2 => z_no1 q) hz
  have h3 := mr_44k (d := d) (f := f) (F := F) (rc := 4096) (rs := 1000000) (μ0 := μ0) (a0 := 98) (a2 := φ) (z_no_ok (z_cons ((z_eq_tr hv 4294967295).trans rfl) (z_cons ((z_eq_tr hv 174).trans rfl) z_nil))) hn (hm_g hG hl2_3) hG hk p0 hn2_3 (fun r M μ q hR2 hl2 => z_no1 q) h4
  have h2 := mr_44k (d := d) (f := f) (F := F) (rc := 4096) (rs := 1000000) (μ0 := μ0) (a0 := 98) (a2 := φ) (z_no_ok (z_cons ((z_eq_tr hv 4294967295).trans rfl) z_nil)) hn (hm_g hG hl2_2) hG hk p0 hn2_2 (fun r M μ q hR2 hl2 => z_no1 q) h3
  have h1 := mr_44k (d := d) (f := f) (F := F) (rc := 4096) (rs := 1000000) (μ0 := μ0) (a0 := 98) (a2 := φ) (z_no_ok (z_cons ((z_eq_tr hv 4294967295).trans rfl) z_nil)) hn (hm_g hG hl2_1) hG hk p0 hn2_1 (fun r M μ q hR2 hl2 => z_no1 q) h2
  have h0 := mr_44k (d := d) (f := f) (F := F) (rc := 4096) (rs := 1000000) (μ0 := μ0) (a0 := 98) (a2 := φ) (z_no_ok (z_cons ((z_eq_tr hv 4294967295).trans rfl) z_nil)) hn (hm_g hG hl2_0) hG hk p0 hn2_0 (fun r M μ q hR2 hl2 => z_no1 q) h1
  exact mr_300_ok (z_no_ok z_nil) hn (hm_0 hG) hG hr2_e hR hk p0 h0 (fun r M μ q hR2 hl2 => z_no1 q)
theorem hR2_1371 {L φ : Nat} {ρ : Nat → Int} (hn : z_l0 φ = false) (hv : z_eq 1371 φ = true) : RRes (dt_fg L ρ) 2 φ 4 gm2_z := by
  intro d f F μ0 hR K
  have hG := y_T_ok L ρ
  have hk := (y_is_ok gx_2 hR).1
  have p0 : 0 < 98 := by decide
  have hK : ∀ (r : Nat) (M : yM) (μ : eM), kE 4 r M = true → yR M μ → y_le μ0 μ → ex_fine (dt_fg L ρ) 4096 1000000 (d + 7, (f.1, f.2.1, f.2.2.1, eI (zI r) :: f.2.2.2), F, μ) := by
    intro r M μ h hR2 hl2
    obtain ⟨g, h⟩ := f_if_ok h
    rw [Nat.eq_of_beq_eq_true g]
    exact K M μ hR2 h
  have hz := mr_44k (d := d) (f := f) (F := F) (rc := 4096) (rs := 1000000) (μ0 := μ0) (a0 := 98) (a2 := φ) (z_no_ok z_nil) hn (hm_0 hG) hG hk p0 hz2_1371 hK (fun a3 a4 a5 a6 M μ q hR2 hl2 => z_no1 q)
  have h4 := mr_44k (d := d) (f := f) (F := F) (rc := 4096) (rs := 1000000) (μ0 := μ0) (a0 := 98) (a2 := φ) (zT_is hv) hn (hm_g hG hl2_4) hG hk p0 hf2_1371 (fun r M μ q hR2 hl2 => z_no1 q) hz
  have h3 := mr_44k (d := d) (f := f) (F := F) (rc := 4096) (rs := 1000000) (μ0 := μ0) (a0 := 98) (a2 := φ) (z_no_ok (z_cons ((z_eq_tr hv 4294967295).trans rfl) (z_cons ((z_eq_tr hv 174).trans rfl) z_nil))) hn (hm_g hG hl2_3) hG hk p0 hn2_3 (fun r M μ q hR2 hl2 => z_no1 q) h4
  have h2 := mr_44k (d := d) (f := f) (F := F) (rc := 4096) (rs := 1000000) (μ0 := μ0) (a0 := 98) (a2 := φ) (z_no_ok (z_cons ((z_eq_tr hv 4294967295).trans rfl) z_nil)) hn (hm_g hG hl2_2) hG hk p0 hn2_2 (fun r M μ q hR2 hl2 => z_no1 q) h3
  have h1 := mr_44k (d := d) (f := f) (F := F) (rc := 4096) (rs := 1000000) (μ0 := μ0) (a0 := 98) (a2 := φ) (z_no_ok (z_cons ((z_eq_tr hv 4294967295).trans rfl) z_nil)) hn (hm_g hG hl2_1) hG hk p0 hn2_1 (fun r M μ q hR2 hl2 => z_no1 q) h2
  have h0 := mr_44k (d := d) (f := f) (F := F) (rc := 4096) (rs := 1000000) (μ0 := μ0) (a0 := 98) (a2 := φ) (z_no_ok (z_cons ((z_eq_tr hv 4294967295).trans rfl) z_nil)) hn (hm_g hG hl2_0) hG hk p0 hn2_0 (fun r M μ q hR2 hl2 => z_no1 q) h1
  exact mr_300_ok (z_no_ok z_nil) hn (hm_0 hG) hG hr2_e hR hk p0 h0 (fun r M μ q hR2 hl2 => z_no1 q)
theorem hR2_3981 {L φ : Nat} {ρ : Nat → Int} (hn : z_l0 φ = false) (hv : z_eq 3981 φ = true) : RRes (dt_fg L ρ) 2 φ 4 gm2_z := by
  intro d f F μ0 hR K
  have hG := y_T_ok L ρ
  have hk := (y_is_ok gx_2 hR).1
  have p0 : 0 < 98 := by decide
  have hK : ∀ (r : Nat) (M : yM) (μ : eM), kE 4 r M = true → yR M μ → y_le μ0 μ → ex_fine (dt_fg L ρ) 4096 1000000 (d + 7, (f.1, f.2.1, f.2.2.1, eI (zI r) :: f.2.2.2), F, μ) := by
    intro r M μ h hR2 hl2
    obtain ⟨g, h⟩ := f_if_ok h
    rw [Nat.eq_of_beq_eq_true g]
    exact K M μ hR2 h
  have hz := mr_44k (d := d) (f := f) (F := F) (rc := 4096) (rs := 1000000) (μ0 := μ0) (a0 := 98) (a2 := φ) (z_no_ok z_nil) hn (hm_0 hG) hG hk p0 hz2_3981 hK (fun a3 a4 a5 a6 M μ q hR2 hl2 => z_no1 q)
  have h4 := mr_44k (d := d) (f := f) (F := F) (rc := 4096) (rs := 1000000) (μ0 := μ0) (a0 := 98) (a2 := φ) (zT_is hv) hn (hm_g hG hl2_4) hG hk p0 hf2_3981 (fun r M μ q hR2 hl2 => z_no1 q) hz
  have h3 := mr_44k (d := d) (f := f) (F := F) (rc := 4096) (rs := 1000000) (μ0 := μ0) (a0 := 98) (a2 := φ) (z_no_ok (z_cons ((z_eq_tr hv 4294967295).trans rfl) (z_cons ((z_eq_tr hv 174).trans rfl) z_nil))) hn (hm_g hG hl2_3) hG hk p0 hn2_3 (fun r M μ q hR2 hl2 => z_no1 q) h4
  have h2 := mr_44k (d := d) (f := f) (F := F) (rc := 4096) (rs := 1000000) (μ0 := μ0) (a0 := 98) (a2 := φ) (z_no_ok (z_cons ((z_eq_tr hv 4294967295).trans rfl) z_nil)) hn (hm_g hG hl2_2) hG hk p0 hn2_2 (fun r M μ q hR2 hl2 => z_no1 q) h3
  have h1 := mr_44k (d := d) (f := f) (F := F) (rc := 4096) (rs := 1000000) (μ0 := μ0) (a0 := 98) (a2 := φ) (z_no_ok (z_cons ((z_eq_tr hv 4294967295).trans rfl) z_nil)) hn (hm_g hG hl2_1) hG hk p0 hn2_1 (fun r M μ q hR2 hl2 => z_no1 q) h2
  have h0 := mr_44k (d := d) (f := f) (F := F) (rc := 4096) (rs := 1000000) (μ0 := μ0) (a0 := 98) (a2 := φ) (z_no_ok (z_cons ((z_eq_tr hv 4294967295).trans rfl) z_nil)) hn (hm_g hG hl2_0) hG hk p0 hn2_0 (fun r M μ q hR2 hl2 => z_no1 q) h1
  exact mr_300_ok (z_no_ok z_nil) hn (hm_0 hG) hG hr2_e hR hk p0 h0 (fun r M μ q hR2 hl2 => z_no1 q)
theorem hR2_146893 {L φ : Nat} {ρ : Nat → Int} (hn : z_l0 φ = false) (hv : z_eq 146893 φ = true) : RRes (dt_fg L ρ) 2 φ 4 gm2_z := by
  intro d f F μ0 hR K
  have hG := y_T_ok L ρ
  have hk := (y_is_ok gx_2 hR).1
  have p0 : 0 < 98 := by decide
  have hK : ∀ (r : Nat) (M : yM) (μ : eM), kE 4 r M = true → yR M μ → y_le μ0 μ → ex_fine (dt_fg L ρ) 4096 1000000 (d + 7, (f.1, f.2.1, f.2.2.1, eI (zI r) :: f.2.2.2), F, μ) := by
    intro r M μ h hR2 hl2
    obtain ⟨g, h⟩ := f_if_ok h
    rw [Nat.eq_of_beq_eq_true g]
    exact K M μ hR2 h
  have hz := mr_44k (d := d) (f := f) (F := F) (rc := 4096) (rs := 1000000) (μ0 := μ0) (a0 := 98) (a2 := φ) (z_no_ok z_nil) hn (hm_0 hG) hG hk p0 hz2_146893 hK (fun a3 a4 a5 a6 M μ q hR2 hl2 => z_no1 q)
  have h4 := mr_44k (d := d) (f := f) (F := F) (rc := 4096) (rs := 1000000) (μ0 := μ0) (a0 := 98) (a2 := φ) (zT_is hv) hn (hm_g hG hl2_4) hG hk p0 hf2_146893 (fun r M μ q hR2 hl2 => z_no1 q) hz
  have h3 := mr_44k (d := d) (f := f) (F := F) (rc := 4096) (rs := 1000000) (μ0 := μ0) (a0 := 98) (a2 := φ) (z_no_ok (z_cons ((z_eq_tr hv 4294967295).trans rfl) (z_cons ((z_eq_tr hv 174).trans rfl) z_nil))) hn (hm_g hG hl2_3) hG hk p0 hn2_3 (fun r M μ q hR2 hl2 => z_no1 q) h4
  have h2 := mr_44k (d := d) (f := f) (F := F) (rc := 4096) (rs := 1000000) (μ0 := μ0) (a0 := 98) (a2 := φ) (z_no_ok (z_cons ((z_eq_tr hv 4294967295).trans rfl) z_nil)) hn (hm_g hG hl2_2) hG hk p0 hn2_2 (fun r M μ q hR2 hl2 => z_no1 q) h3
  have h1 := mr_44k (d := d) (f := f) (F := F) (rc := 4096) (rs := 1000000) (μ0 := μ0) (a0 := 98) (a2 := φ) (z_no_ok (z_cons ((z_eq_tr hv 4294967295).trans rfl) z_nil)) hn (hm_g hG hl2_1) hG hk p0 hn2_1 (fun r M μ q hR2 hl2 => z_no1 q) h2
  have h0 := mr_44k (d := d) (f := f) (F := F) (rc := 4096) (rs := 1000000) (μ0 := μ0) (a0 := 98) (a2 := φ) (z_no_ok (z_cons ((z_eq_tr hv 4294967295).trans rfl) z_nil)) hn (hm_g hG hl2_0) hG hk p0 hn2_0 (fun r M μ q hR2 hl2 => z_no1 q) h1
  exact mr_300_ok (z_no_ok z_nil) hn (hm_0 hG) hG hr2_e hR hk p0 h0 (fun r M μ q hR2 hl2 => z_no1 q)
theorem hR2_16806 {L φ : Nat} {ρ : Nat → Int} (hn : z_l0 φ = false) (hv : z_eq 16806 φ = true) : RRes (dt_fg L ρ) 2 φ 5 gm2_z := by
  intro d f F μ0 hR K
  have hG := y_T_ok L ρ
  have hk := (y_is_ok gx_2 hR).1
  have p0 : 0 < 98 := by decide
  have hK : ∀ (r : Nat) (M : yM) (μ : eM), kE 5 r M = true → yR M μ → y_le μ0 μ → ex_fine (dt_fg L ρ) 4096 1000000 (d + 7, (f.1, f.2.1, f.2.2.1, eI (zI r) :: f.2.2.2), F, μ) := by
    intro r M μ h hR2 hl2
    obtain ⟨g, h⟩ := f_if_ok h
    rw [Nat.eq_of_beq_eq_true g]
    exact K M μ hR2 h
  have hz := mr_44k (d := d) (f := f) (F := F) (rc := 4096) (rs := 1000000) (μ0 := μ0) (a0 := 98) (a2 := φ) (z_no_ok z_nil) hn (hm_0 hG) hG hk p0 hz2_16806 hK (fun a3 a4 a5 a6 M μ q hR2 hl2 => z_no1 q)
  have h5 := mr_44k (d := d) (f := f) (F := F) (rc := 4096) (rs := 1000000) (μ0 := μ0) (a0 := 98) (a2 := φ) (zT_is hv) hn (hm_g hG hl2_5) hG hk p0 hf2_16806 (fun r M μ q hR2 hl2 => z_no1 q) hz
  have h4 := mr_44k (d := d) (f := f) (F := F) (rc := 4096) (rs := 1000000) (μ0 := μ0) (a0 := 98) (a2 := φ) (z_no_ok (z_cons ((z_eq_tr hv 4294967295).trans rfl) (z_cons ((z_eq_tr hv 130).trans rfl) (z_cons ((z_eq_tr hv 174).trans rfl) (z_cons ((z_eq_tr hv 1371).trans rfl) (z_cons ((z_eq_tr hv 3981).trans rfl) (z_cons ((z_eq_tr hv 146893).trans rfl) z_nil))))))) hn (hm_g hG hl2_4) hG hk p0 hn2_4 (fun r M μ q hR2 hl2 => z_no1 q) h5
  have h3 := mr_44k (d := d) (f := f) (F := F) (rc := 4096) (rs := 1000000) (μ0 := μ0) (a0 := 98) (a2 := φ) (z_no_ok (z_cons ((z_eq_tr hv 4294967295).trans rfl) (z_cons ((z_eq_tr hv 174).trans rfl) z_nil))) hn (hm_g hG hl2_3) hG hk p0 hn2_3 (fun r M μ q hR2 hl2 => z_no1 q) h4
  have h2 := mr_44k (d := d) (f := f) (F := F) (rc := 4096) (rs := 1000000) (μ0 := μ0) (a0 := 98) (a2 := φ) (z_no_ok (z_cons ((z_eq_tr hv 4294967295).trans rfl) z_nil)) hn (hm_g hG hl2_2) hG hk p0 hn2_2 (fun r M μ q hR2 hl2 => z_no1 q) h3
  have h1 := mr_44k (d := d) (f := f) (F := F) (rc := 4096) (rs := 1000000) (μ0 := μ0) (a0 := 98) (a2 := φ) (z_no_ok (z_cons ((z_eq_tr hv 4294967295).trans rfl) z_nil)) hn (hm_g hG hl2_1) hG hk p0 hn2_1 (fun r M μ q hR2 hl2 => z_no1 q) h2
  have h0 := mr_44k (d := d) (f := f) (F := F) (rc := 4096) (rs := 1000000) (μ0 := μ0) (a0 := 98) (a2 := φ) (z_no_ok (z_cons ((z_eq_tr hv 4294967295).trans rfl) z_nil)) hn (hm_g hG hl2_0) hG hk p0 hn2_0 (fun r M μ q hR2 hl2 => z_no1 q) h1
  exact mr_300_ok (z_no_ok z_nil) hn (hm_0 hG) hG hr2_e hR hk p0 h0 (fun r M μ q hR2 hl2 => z_no1 q)
theorem hR2_21208 {L φ : Nat} {ρ : Nat → Int} (hn : z_l0 φ = false) (hv : z_eq 21208 φ = true) : RRes (dt_fg L ρ) 2 φ 5 gm2_z := by
  intro d f F μ0 hR K
  have hG := y_T_ok L ρ
  have hk := (y_is_ok gx_2 hR).1
  have p0 : 0 < 98 := by decide
  have hK : ∀ (r : Nat) (M : yM) (μ : eM), kE 5 r M = true → yR M μ → y_le μ0 μ → ex_fine (dt_fg L ρ) 4096 1000000 (d + 7, (f.1, f.2.1, f.2.2.1, eI (zI r) :: f.2.2.2), F, μ) := by
    intro r M μ h hR2 hl2
    obtain ⟨g, h⟩ := f_if_ok h
    rw [Nat.eq_of_beq_eq_true g]
    exact K M μ hR2 h
  have hz := mr_44k (d := d) (f := f) (F := F) (rc := 4096) (rs := 1000000) (μ0 := μ0) (a0 := 98) (a2 := φ) (z_no_ok z_nil) hn (hm_0 hG) hG hk p0 hz2_21208 hK (fun a3 a4 a5 a6 M μ q hR2 hl2 => z_no1 q)
  have h5 := mr_44k (d := d) (f := f) (F := F) (rc := 4096) (rs := 1000000) (μ0 := μ0) (a0 := 98) (a2 := φ) (zT_is hv) hn (hm_g hG hl2_5) hG hk p0 hf2_21208 (fun r M μ q hR2 hl2 => z_no1 q) hz
  have h4 := mr_44k (d := d) (f := f) (F := F) (rc := 4096) (rs := 1000000) (μ0 := μ0) (a0 := 98) (a2 := φ) (z_no_ok (z_cons ((z_eq_tr hv 4294967295).trans rfl) (z_cons ((z_eq_tr hv 130).trans rfl) (z_cons ((z_eq_tr hv 174).trans rfl) (z_cons ((z_eq_tr hv 1371).trans rfl) (z_cons ((z_eq_tr hv 3981).trans rfl) (z_cons ((z_eq_tr hv 146893).trans rfl) z_nil))))))) hn (hm_g hG hl2_4) hG hk p0 hn2_4 (fun r M μ q hR2 hl2 => z_no1 q) h5
  have h3 := mr_44k (d := d) (f := f) (F := F) (rc := 4096) (rs := 1000000) (μ0 := μ0) (a0 := 98) (a2 := φ) (z_no_ok (z_cons ((z_eq_tr hv 4294967295).trans rfl) (z_cons ((z_eq_tr hv 174).trans rfl) z_nil))) hn (hm_g hG hl2_3) hG hk p0 hn2_3 (fun r M μ q hR2 hl2 => z_no1 q) h4
  have h2 := mr_44k (d := d) (f := f) (F := F) (rc := 4096) (rs := 1000000) (μ0 := μ0) (a0 := 98) (a2 := φ) (z_no_ok (z_cons ((z_eq_tr hv 4294967295).trans rfl) z_nil)) hn (hm_g hG hl2_2) hG hk p0 hn2_2 (fun r M μ q hR2 hl2 => z_no1 q) h3
  have h1 := mr_44k (d := d) (f := f) (F := F) (rc := 4096) (rs := 1000000) (μ0 := μ0) (a0 := 98) (a2 := φ) (z_no_ok (z_cons ((z_eq_tr hv 4294967295).trans rfl) z_nil)) hn (hm_g hG hl2_1) hG hk p0 hn2_1 (fun r M μ q hR2 hl2 => z_no1 q) h2
  have h0 := mr_44k (d := d) (f := f) (F := F) (rc := 4096) (rs := 1000000) (μ0 := μ0) (a0 := 98) (a2 := φ) (z_no_ok (z_cons ((z_eq_tr hv 4294967295).trans rfl) z_nil)) hn (hm_g hG hl2_0) hG hk p0 hn2_0 (fun r M μ q hR2 hl2 => z_no1 q) h1
  exact mr_300_ok (z_no_ok z_nil) hn (hm_0 hG) hG hr2_e hR hk p0 h0 (fun r M μ q hR2 hl2 => z_no1 q)
theorem hR3_n {L φ : Nat} {ρ : Nat → Int} (hn : z_l0 φ = false) (hF : ∀ v ∈ [130, 1371, 174, 3981, 21208, 16806, 146893, 14005], z_eq v φ = false) : RRes (dt_fg L ρ) 3 φ 4294967295 gm3_z := by
  intro d f F μ0 hR K
  have hG := y_T_ok L ρ
  have hk := (y_is_ok gx_3 hR).1
  have p0 : 0 < 98 := by decide
  have hK : ∀ (r : Nat) (M : yM) (μ : eM), kE 4294967295 r M = true → yR M μ → y_le μ0 μ → ex_fine (dt_fg L ρ) 4096 1000000 (d + 7, (f.1, f.2.1, f.2.2.1, eI (zI r) :: f.2.2.2), F, μ) := by
    intro r M μ h hR2 hl2
    obtain ⟨g, h⟩ := f_if_ok h
    rw [Nat.eq_of_beq_eq_true g]
    exact K M μ hR2 h
  have h6 := mr_44k (d := d) (f := f) (F := F) (rc := 4096) (rs := 1000000) (μ0 := μ0) (a0 := 98) (a2 := φ) (z_no_ok z_nil) hn (hm_0 hG) hG hk p0 hz3_n hK (fun a3 a4 a5 a6 M μ q hR2 hl2 => z_no1 q)
  have h5 := mr_44k (d := d) (f := f) (F := F) (rc := 4096) (rs := 1000000) (μ0 := μ0) (a0 := 98) (a2 := φ) (z_no_ok (z_cons (z_m1 hn) (z_cons (hF 130 (by decide)) (z_cons (hF 174 (by decide)) (z_cons (hF 1371 (by decide)) (z_cons (hF 3981 (by decide)) (z_cons (hF 14005 (by decide)) (z_cons (hF 16806 (by decide)) (z_cons (hF 21208 (by decide)) (z_cons (hF 146893 (by decide)) z_nil)))))))))) hn (hm_g hG hl3_5) hG hk p0 hn3_5 (fun r M μ q hR2 hl2 => z_no1 q) h6
  have h4 := mr_44k (d := d) (f := f) (F := F) (rc := 4096) (rs := 1000000) (μ0 := μ0) (a0 := 98) (a2 := φ) (z_no_ok (z_cons (z_m1 hn) (z_cons (hF 130 (by decide)) (z_cons (hF 174 (by decide)) (z_cons (hF 1371 (by decide)) (z_cons (hF 3981 (by decide)) (z_cons (hF 16806 (by decide)) (z_cons (hF 21208 (by decide)) (z_cons (hF 146893 (by decide)) z_nil))))))))) hn (hm_g hG hl3_4) hG hk p0 hn3_4 (fun r M μ q hR2 hl2 => z_no1 q) h5
  have h3 := mr_44k (d := d) (f := f) (F := F) (rc := 4096) (rs := 1000000) (μ0 := μ0) (a0 := 98) (a2 := φ) (z_no_ok (z_cons (z_m1 hn) (z_cons (hF 130 (by decide)) (z_cons (hF 174 (by decide)) (z_cons (hF 1371 (by decide)) (z_cons (hF 3981 (by decide)) (z_cons (hF 21208 (by decide)) z_nil))))))) hn (hm_g hG hl3_3) hG hk p0 hn3_3 (fun r M μ q hR2 hl2 => z_no1 q) h4
  have h2 := mr_44k (d := d) (f := f) (F := F) (rc := 4096) (rs := 1000000) (μ0 := μ0) (a0 := 98) (a2 := φ) (z_no_ok (z_cons (z_m1 hn) (z_cons (hF 130 (by decide)) (z_cons (hF 1371 (by decide)) z_nil)))) hn (hm_g hG hl3_2) hG hk p0 hn3_2 (fun r M μ q hR2 hl2 => z_no1 q) h3
  have h1 := mr_44k (d := d) (f := f) (F := F) (rc := 4096) (rs := 1000000) (μ0 := μ0) (a0 := 98) (a2 := φ) (z_no_ok (z_cons (z_m1 hn) z_nil)) hn (hm_g hG hl3_1) hG hk p0 hn3_1 (fun r M μ q hR2 hl2 => z_no1 q) h2
  have h0 := mr_44k (d := d) (f := f) (F := F) (rc := 4096) (rs := 1000000) (μ0 := μ0) (a0 := 98) (a2 := φ) (z_no_ok (z_cons (z_m1 hn) z_nil)) hn (hm_g hG hl3_0) hG hk p0 hn3_0 (fun r M μ q hR2 hl2 => z_no1 q) h1
  exact mr_300_ok (z_no_ok z_nil) hn (hm_0 hG) hG hr3_e hR hk p0 h0 (fun r M μ q hR2 hl2 => z_no1 q)
theorem hR3_130 {L φ : Nat} {ρ : Nat → Int} (hn : z_l0 φ = false) (hv : z_eq 130 φ = true) : RRes (dt_fg L ρ) 3 φ 2 gm3_z := by
  intro d f F μ0 hR K
  have hG := y_T_ok L ρ
  have hk := (y_is_ok gx_3 hR).1
  have p0 : 0 < 98 := by decide
  have hK : ∀ (r : Nat) (M : yM) (μ : eM), kE 2 r M = true → yR M μ → y_le μ0 μ → ex_fine (dt_fg L ρ) 4096 1000000 (d + 7, (f.1, f.2.1, f.2.2.1, eI (zI r) :: f.2.2.2), F, μ) := by
    intro r M μ h hR2 hl2
    obtain ⟨g, h⟩ := f_if_ok h
    rw [Nat.eq_of_beq_eq_true g]
    exact K M μ hR2 h
  have hz := mr_44k (d := d) (f := f) (F := F) (rc := 4096) (rs := 1000000) (μ0 := μ0) (a0 := 98) (a2 := φ) (z_no_ok z_nil) hn (hm_0 hG) hG hk p0 hz3_130 hK (fun a3 a4 a5 a6 M μ q hR2 hl2 => z_no1 q)
  have h2 := mr_44k (d := d) (f := f) (F := F) (rc := 4096) (rs := 1000000) (μ0 := μ0) (a0 := 98) (a2 := φ) (zT_is hv) hn (hm_g hG hl3_2) hG hk p0 hf3_130 (fun r M μ q hR2 hl2 => z_no1 q) hz
  have h1 := mr_44k (d := d) (f := f) (F := F) (rc := 4096) (rs := 1000000) (μ0 := μ0) (a0 := 98) (a2 := φ) (z_no_ok (z_cons ((z_eq_tr hv 4294967295).trans rfl) z_nil)) hn (hm_g hG hl3_1) hG hk p0 hn3_1 (fun r M μ q hR2 hl2 => z_no1 q) h2
  have h0 := mr_44k (d := d) (f := f) (F := F) (rc := 4096) (rs := 1000000) (μ0 := μ0) (a0 := 98) (a2 := φ) (z_no_ok (z_cons ((z_eq_tr hv 4294967295).trans rfl) z_nil)) hn (hm_g hG hl3_0) hG hk p0 hn3_0 (fun r M μ q hR2 hl2 => z_no1 q) h1
  exact mr_300_ok (z_no_ok z_nil) hn (hm_0 hG) hG hr3_e hR hk p0 h0 (fun r M μ q hR2 hl2 => z_no1 q)
theorem hR3_1371 {L φ : Nat} {ρ : Nat → Int} (hn : z_l0 φ = false) (hv : z_eq 1371 φ = true) : RRes (dt_fg L ρ) 3 φ 2 gm3_z := by
  intro d f F μ0 hR K
  have hG := y_T_ok L ρ
  have hk := (y_is_ok gx_3 hR).1
  have p0 : 0 < 98 := by decide
  have hK : ∀ (r : Nat) (M : yM) (μ : eM), kE 2 r M = true → yR M μ → y_le μ0 μ → ex_fine (dt_fg L ρ) 4096 1000000 (d + 7, (f.1, f.2.1, f.2.2.1, eI (zI r) :: f.2.2.2), F, μ) := by
    intro r M μ h hR2 hl2
    obtain ⟨g, h⟩ := f_if_ok h
    rw [Nat.eq_of_beq_eq_true g]
    exact K M μ hR2 h
  have hz := mr_44k (d := d) (f := f) (F := F) (rc := 4096) (rs := 1000000) (μ0 := μ0) (a0 := 98) (a2 := φ) (z_no_ok z_nil) hn (hm_0 hG) hG hk p0 hz3_1371 hK (fun a3 a4 a5 a6 M μ q hR2 hl2 => z_no1 q)
  have h2 := mr_44k (d := d) (f := f) (F := F) (rc := 4096) (rs := 1000000) (μ0 := μ0) (a0 := 98) (a2 := φ) (zT_is hv) hn (hm_g hG hl3_2) hG hk p0 hf3_1371 (fun r M μ q hR2 hl2 => z_no1 q) hz
  have h1 := mr_44k (d := d) (f := f) (F := F) (rc := 4096) (rs := 1000000) (μ0 := μ0) (a0 := 98) (a2 := φ) (z_no_ok (z_cons ((z_eq_tr hv 4294967295).trans rfl) z_nil)) hn (hm_g hG hl3_1) hG hk p0 hn3_1 (fun r M μ q hR2 hl2 => z_no1 q) h2
  have h0 := mr_44k (d := d) (f := f) (F := F) (rc := 4096) (rs := 1000000) (μ0 := μ0) (a0 := 98) (a2 := φ) (z_no_ok (z_cons ((z_eq_tr hv 4294967295).trans rfl) z_nil)) hn (hm_g hG hl3_0) hG hk p0 hn3_0 (fun r M μ q hR2 hl2 => z_no1 q) h1
  exact mr_300_ok (z_no_ok z_nil) hn (hm_0 hG) hG hr3_e hR hk p0 h0 (fun r M μ q hR2 hl2 => z_no1 q)
theorem hR3_174 {L φ : Nat} {ρ : Nat → Int} (hn : z_l0 φ = false) (hv : z_eq 174 φ = true) : RRes (dt_fg L ρ) 3 φ 3 gm3_z := by
  intro d f F μ0 hR K
  have hG := y_T_ok L ρ
  have hk := (y_is_ok gx_3 hR).1
  have p0 : 0 < 98 := by decide
  have hK : ∀ (r : Nat) (M : yM) (μ : eM), kE 3 r M = true → yR M μ → y_le μ0 μ → ex_fine (dt_fg L ρ) 4096 1000000 (d + 7, (f.1, f.2.1, f.2.2.1, eI (zI r) :: f.2.2.2), F, μ) := by
    intro r M μ h hR2 hl2
    obtain ⟨g, h⟩ := f_if_ok h
    rw [Nat.eq_of_beq_eq_true g]
    exact K M μ hR2 h
  have hz := mr_44k (d := d) (f := f) (F := F) (rc := 4096) (rs := 1000000) (μ0 := μ0) (a0 := 98) (a2 := φ) (z_no_ok z_nil) hn (hm_0 hG) hG hk p0 hz3_174 hK (fun a3 a4 a5 a6 M μ q hR2 hl2 => z_no1 q)
  have h3 := mr_44k (d := d) (f := f) (F := F) (rc := 4096) (rs := 1000000) (μ0 := μ0) (a0 := 98) (a2 := φ) (zT_is hv) hn (hm_g hG hl3_3) hG hk p0 hf3_174 (fun r M μ q hR2 hl2 => z_no1 q) hz
  have h2 := mr_44k (d := d) (f := f) (F := F) (rc := 4096) (rs := 1000000) (μ0 := μ0) (a0 := 98) (a2 := φ) (z_no_ok (z_cons ((z_eq_tr hv 4294967295).trans rfl) (z_cons ((z_eq_tr hv 130).trans rfl) (z_cons ((z_eq_tr hv 1371).trans rfl) z_nil)))) hn (hm_g hG hl3_2) hG hk p0 hn3_2 (fun r M μ q hR2 hl2 => z_no1 q) h3
  have h1 := mr_44k (d := d) (f := f) (F := F) (rc := 4096) (rs := 1000000) (μ0 := μ0) (a0 := 98) (a2 := φ) (z_no_ok (z_cons ((z_eq_tr hv 4294967295).trans rfl) z_nil)) hn (hm_g hG hl3_1) hG hk p0 hn3_1 (fun r M μ q hR2 hl2 => z_no1 q) h2
  have h0 := mr_44k (d := d) (f := f) (F := F) (rc := 4096) (rs := 1000000) (μ0 := μ0) (a0 := 98) (a2 := φ) (z_no_ok (z_cons ((z_eq_tr hv 4294967295).trans rfl) z_nil)) hn (hm_g hG hl3_0) hG hk p0 hn3_0 (fun r M μ q hR2 hl2 => z_no1 q) h1
  exact mr_300_ok (z_no_ok z_nil) hn (hm_0 hG) hG hr3_e hR hk p0 h0 (fun r M μ q hR2 hl2 => z_no1 q)
theorem hR3_3981 {L φ : Nat} {ρ : Nat → Int} (hn : z_l0 φ = false) (hv : z_eq 3981 φ = true) : RRes (dt_fg L ρ) 3 φ 3 gm3_z := by
  intro d f F μ0 hR K
  have hG := y_T_ok L ρ
  have hk := (y_is_ok gx_3 hR).1
  have p0 : 0 < 98 := by decide
  have hK : ∀ (r : Nat) (M : yM) (μ : eM), kE 3 r M = true → yR M μ → y_le μ0 μ → ex_fine (dt_fg L ρ) 4096 1000000 (d + 7, (f.1, f.2.1, f.2.2.1, eI (zI r) :: f.2.2.2), F, μ) := by
    intro r M μ h hR2 hl2
    obtain ⟨g, h⟩ := f_if_ok h
    rw [Nat.eq_of_beq_eq_true g]
    exact K M μ hR2 h
  have hz := mr_44k (d := d) (f := f) (F := F) (rc := 4096) (rs := 1000000) (μ0 := μ0) (a0 := 98) (a2 := φ) (z_no_ok z_nil) hn (hm_0 hG) hG hk p0 hz3_3981 hK (fun a3 a4 a5 a6 M μ q hR2 hl2 => z_no1 q)
  have h3 := mr_44k (d := d) (f := f) (F := F) (rc := 4096) (rs := 1000000) (μ0 := μ0) (a0 := 98) (a2 := φ) (zT_is hv) hn (hm_g hG hl3_3) hG hk p0 hf3_3981 (fun r M μ q hR2 hl2 => z_no1 q) hz
  have h2 := mr_44k (d := d) (f := f) (F := F) (rc := 4096) (rs := 1000000) (μ0 := μ0) (a0 := 98) (a2 := φ) (z_no_ok (z_cons ((z_eq_tr hv 4294967295).trans rfl) (z_cons ((z_eq_tr hv 130).trans rfl) (z_cons ((z_eq_tr hv 1371).trans rfl) z_nil)))) hn (hm_g hG hl3_2) hG hk p0 hn3_2 (fun r M μ q hR2 hl2 => z_no1 q) h3
  have h1 := mr_44k (d := d) (f := f) (F := F) (rc := 4096) (rs := 1000000) (μ0 := μ0) (a0 := 98) (a2 := φ) (z_no_ok (z_cons ((z_eq_tr hv 4294967295).trans rfl) z_nil)) hn (hm_g hG hl3_1) hG hk p0 hn3_1 (fun r M μ q hR2 hl2 => z_no1 q) h2
  have h0 := mr_44k (d := d) (f := f) (F := F) (rc := 4096) (rs := 1000000) (μ0 := μ0) (a0 := 98) (a2 := φ) (z_no_ok (z_cons ((z_eq_tr hv 4294967295).trans rfl) z_nil)) hn (hm_g hG hl3_0) hG hk p0 hn3_0 (fun r M μ q hR2 hl2 => z_no1 q) h1
  exact mr_300_ok (z_no_ok z_nil) hn (hm_0 hG) hG hr3_e hR hk p0 h0 (fun r M μ q hR2 hl2 => z_no1 q)
theorem hR3_21208 {L φ : Nat} {ρ : Nat → Int} (hn : z_l0 φ = false) (hv : z_eq 21208 φ = true) : RRes (dt_fg L ρ) 3 φ 3 gm3_z := by
  intro d f F μ0 hR K
  have hG := y_T_ok L ρ
  have hk := (y_is_ok gx_3 hR).1
  have p0 : 0 < 98 := by decide
  have hK : ∀ (r : Nat) (M : yM) (μ : eM), kE 3 r M = true → yR M μ → y_le μ0 μ → ex_fine (dt_fg L ρ) 4096 1000000 (d + 7, (f.1, f.2.1, f.2.2.1, eI (zI r) :: f.2.2.2), F, μ) := by
    intro r M μ h hR2 hl2
    obtain ⟨g, h⟩ := f_if_ok h
    rw [Nat.eq_of_beq_eq_true g]
    exact K M μ hR2 h
  have hz := mr_44k (d := d) (f := f) (F := F) (rc := 4096) (rs := 1000000) (μ0 := μ0) (a0 := 98) (a2 := φ) (z_no_ok z_nil) hn (hm_0 hG) hG hk p0 hz3_21208 hK (fun a3 a4 a5 a6 M μ q hR2 hl2 => z_no1 q)
  have h3 := mr_44k (d := d) (f := f) (F := F) (rc := 4096) (rs := 1000000) (μ0 := μ0) (a0 := 98) (a2 := φ) (zT_is hv) hn (hm_g hG hl3_3) hG hk p0 hf3_21208 (fun r M μ q hR2 hl2 => z_no1 q) hz
  have h2 := mr_44k (d := d) (f := f) (F := F) (rc := 4096) (rs := 1000000) (μ0 := μ0) (a0 := 98) (a2 := φ) (z_no_ok (z_cons ((z_eq_tr hv 4294967295).trans rfl) (z_cons ((z_eq_tr hv 130).trans rfl) (z_cons ((z_eq_tr hv 1371).trans rfl) z_nil)))) hn (hm_g hG hl3_2) hG hk p0 hn3_2 (fun r M μ q hR2 hl2 => z_no1 q) h3
  have h1 := mr_44k (d := d) (f := f) (F := F) (rc := 4096) (rs := 1000000) (μ0 := μ0) (a0 := 98) (a2 := φ) (z_no_ok (z_cons ((z_eq_tr hv 4294967295).trans rfl) z_nil)) hn (hm_g hG hl3_1) hG hk p0 hn3_1 (fun r M μ q hR2 hl2 => z_no1 q) h2
  have h0 := mr_44k (d := d) (f := f) (F := F) (rc := 4096) (rs := 1000000) (μ0 := μ0) (a0 := 98) (a2 := φ) (z_no_ok (z_cons ((z_eq_tr hv 4294967295).trans rfl) z_nil)) hn (hm_g hG hl3_0) hG hk p0 hn3_0 (fun r M μ q hR2 hl2 => z_no1 q) h1
  exact mr_300_ok (z_no_ok z_nil) hn (hm_0 hG) hG hr3_e hR hk p0 h0 (fun r M μ q hR2 hl2 => z_no1 q)
theorem hR3_16806 {L φ : Nat} {ρ : Nat → Int} (hn : z_l0 φ = false) (hv : z_eq 16806 φ = true) : RRes (dt_fg L ρ) 3 φ 4 gm3_z := by
  intro d f F μ0 hR K
  have hG := y_T_ok L ρ
  have hk := (y_is_ok gx_3 hR).1
  have p0 : 0 < 98 := by decide
  have hK : ∀ (r : Nat) (M : yM) (μ : eM), kE 4 r M = true → yR M μ → y_le μ0 μ → ex_fine (dt_fg L ρ) 4096 1000000 (d + 7, (f.1, f.2.1, f.2.2.1, eI (zI r) :: f.2.2.2), F, μ) := by
    intro r M μ h hR2 hl2
    obtain ⟨g, h⟩ := f_if_ok h
    rw [Nat.eq_of_beq_eq_true g]
    exact K M μ hR2 h
  have hz := mr_44k (d := d) (f := f) (F := F) (rc := 4096) (rs := 1000000) (μ0 := μ0) (a0 := 98) (a2 := φ) (z_no_ok z_nil) hn (hm_0 hG) hG hk p0 hz3_16806 hK (fun a3 a4 a5 a6 M μ q hR2 hl2 => z_no1 q)
  have h4 := mr_44k (d := d) (f := f) (F := F) (rc := 4096) (rs := 1000000) (μ0 := μ0) (a0 := 98) (a2 := φ) (zT_is hv) hn (hm_g hG hl3_4) hG hk p0 hf3_16806 (fun r M μ q hR2 hl2 => z_no1 q) hz
  have h3 := mr_44k (d := d) (f := f) (F := F) (rc := 4096) (rs := 1000000) (μ0 := μ0) (a0 := 98) (a2 := φ) (z_no_ok (z_cons ((z_eq_tr hv 4294967295).trans rfl) (z_cons ((z_eq_tr hv 130).trans rfl) (z_cons ((z_eq_tr hv 174).trans rfl) (z_cons ((z_eq_tr hv 1371).trans rfl) (z_cons ((z_eq_tr hv 3981).trans rfl) (z_cons ((z_eq_tr hv 21208).trans rfl) z_nil))))))) hn (hm_g hG hl3_3) hG hk p0 hn3_3 (fun r M μ q hR2 hl2 => z_no1 q) h4
  have h2 := mr_44k (d := d) (f := f) (F := F) (rc := 4096) (rs := 1000000) (μ0 := μ0) (a0 := 98) (a2 := φ) (z_no_ok (z_cons ((z_eq_tr hv 4294967295).trans rfl) (z_cons ((z_eq_tr hv 130).trans rfl) (z_cons ((z_eq_tr hv 1371).trans rfl) z_nil)))) hn (hm_g hG hl3_2) hG hk p0 hn3_2 (fun r M μ q hR2 hl2 => z_no1 q) h3
  have h1 := mr_44k (d := d) (f := f) (F := F) (rc := 4096) (rs := 1000000) (μ0 := μ0) (a0 := 98) (a2 := φ) (z_no_ok (z_cons ((z_eq_tr hv 4294967295).trans rfl) z_nil)) hn (hm_g hG hl3_1) hG hk p0 hn3_1 (fun r M μ q hR2 hl2 => z_no1 q) h2
  have h0 := mr_44k (d := d) (f := f) (F := F) (rc := 4096) (rs := 1000000) (μ0 := μ0) (a0 := 98) (a2 := φ) (z_no_ok (z_cons ((z_eq_tr hv 4294967295).trans rfl) z_nil)) hn (hm_g hG hl3_0) hG hk p0 hn3_0 (fun r M μ q hR2 hl2 => z_no1 q) h1
  exact mr_300_ok (z_no_ok z_nil) hn (hm_0 hG) hG hr3_e hR hk p0 h0 (fun r M μ q hR2 hl2 => z_no1 q)
theorem hR3_146893 {L φ : Nat} {ρ : Nat → Int} (hn : z_l0 φ = false) (hv : z_eq 146893 φ = true) : RRes (dt_fg L ρ) 3 φ 4 gm3_z := by
  intro d f F μ0 hR K
  have hG := y_T_ok L ρ
  have hk := (y_is_ok gx_3 hR).1
  have p0 : 0 < 98 := by decide
  have hK : ∀ (r : Nat) (M : yM) (μ : eM), kE 4 r M = true → yR M μ → y_le μ0 μ → ex_fine (dt_fg L ρ) 4096 1000000 (d + 7, (f.1, f.2.1, f.2.2.1, eI (zI r) :: f.2.2.2), F, μ) := by
    intro r M μ h hR2 hl2
    obtain ⟨g, h⟩ := f_if_ok h
    rw [Nat.eq_of_beq_eq_true g]
    exact K M μ hR2 h
  have hz := mr_44k (d := d) (f := f) (F := F) (rc := 4096) (rs := 1000000) (μ0 := μ0) (a0 := 98) (a2 := φ) (z_no_ok z_nil) hn (hm_0 hG) hG hk p0 hz3_146893 hK (fun a3 a4 a5 a6 M μ q hR2 hl2 => z_no1 q)
  have h4 := mr_44k (d := d) (f := f) (F := F) (rc := 4096) (rs := 1000000) (μ0 := μ0) (a0 := 98) (a2 := φ) (zT_is hv) hn (hm_g hG hl3_4) hG hk p0 hf3_146893 (fun r M μ q hR2 hl2 => z_no1 q) hz
  have h3 := mr_44k (d := d) (f := f) (F := F) (rc := 4096) (rs := 1000000) (μ0 := μ0) (a0 := 98) (a2 := φ) (z_no_ok (z_cons ((z_eq_tr hv 4294967295).trans rfl) (z_cons ((z_eq_tr hv 130).trans rfl) (z_cons ((z_eq_tr hv 174).trans rfl) (z_cons ((z_eq_tr hv 1371).trans rfl) (z_cons ((z_eq_tr hv 3981).trans rfl) (z_cons ((z_eq_tr hv 21208).trans rfl) z_nil))))))) hn (hm_g hG hl3_3) hG hk p0 hn3_3 (fun r M μ q hR2 hl2 => z_no1 q) h4
  have h2 := mr_44k (d := d) (f := f) (F := F) (rc := 4096) (rs := 1000000) (μ0 := μ0) (a0 := 98) (a2 := φ) (z_no_ok (z_cons ((z_eq_tr hv 4294967295).trans rfl) (z_cons ((z_eq_tr hv 130).trans rfl) (z_cons ((z_eq_tr hv 1371).trans rfl) z_nil)))) hn (hm_g hG hl3_2) hG hk p0 hn3_2 (fun r M μ q hR2 hl2 => z_no1 q) h3
  have h1 := mr_44k (d := d) (f := f) (F := F) (rc := 4096) (rs := 1000000) (μ0 := μ0) (a0 := 98) (a2 := φ) (z_no_ok (z_cons ((z_eq_tr hv 4294967295).trans rfl) z_nil)) hn (hm_g hG hl3_1) hG hk p0 hn3_1 (fun r M μ q hR2 hl2 => z_no1 q) h2
  have h0 := mr_44k (d := d) (f := f) (F := F) (rc := 4096) (rs := 1000000) (μ0 := μ0) (a0 := 98) (a2 := φ) (z_no_ok (z_cons ((z_eq_tr hv 4294967295).trans rfl) z_nil)) hn (hm_g hG hl3_0) hG hk p0 hn3_0 (fun r M μ q hR2 hl2 => z_no1 q) h1
  exact mr_300_ok (z_no_ok z_nil) hn (hm_0 hG) hG hr3_e hR hk p0 h0 (fun r M μ q hR2 hl2 => z_no1 q)
theorem hR3_14005 {L φ : Nat} {ρ : Nat → Int} (hn : z_l0 φ = false) (hv : z_eq 14005 φ = true) : RRes (dt_fg L ρ) 3 φ 5 gm3_z := by
  intro d f F μ0 hR K
  have hG := y_T_ok L ρ
  have hk := (y_is_ok gx_3 hR).1
  have p0 : 0 < 98 := by decide
  have hK : ∀ (r : Nat) (M : yM) (μ : eM), kE 5 r M = true → yR M μ → y_le μ0 μ → ex_fine (dt_fg L ρ) 4096 1000000 (d + 7, (f.1, f.2.1, f.2.2.1, eI (zI r) :: f.2.2.2), F, μ) := by
    intro r M μ h hR2 hl2
    obtain ⟨g, h⟩ := f_if_ok h
    rw [Nat.eq_of_beq_eq_true g]
    exact K M μ hR2 h
  have hz := mr_44k (d := d) (f := f) (F := F) (rc := 4096) (rs := 1000000) (μ0 := μ0) (a0 := 98) (a2 := φ) (z_no_ok z_nil) hn (hm_0 hG) hG hk p0 hz3_14005 hK (fun a3 a4 a5 a6 M μ q hR2 hl2 => z_no1 q)
  have h5 := mr_44k (d := d) (f := f) (F := F) (rc := 4096) (rs := 1000000) (μ0 := μ0) (a0 := 98) (a2 := φ) (zT_is hv) hn (hm_g hG hl3_5) hG hk p0 hf3_14005 (fun r M μ q hR2 hl2 => z_no1 q) hz
  have h4 := mr_44k (d := d) (f := f) (F := F) (rc := 4096) (rs := 1000000) (μ0 := μ0) (a0 := 98) (a2 := φ) (z_no_ok (z_cons ((z_eq_tr hv 4294967295).trans rfl) (z_cons ((z_eq_tr hv 130).trans rfl) (z_cons ((z_eq_tr hv 174).trans rfl) (z_cons ((z_eq_tr hv 1371).trans rfl) (z_cons ((z_eq_tr hv 3981).trans rfl) (z_cons ((z_eq_tr hv 16806).trans rfl) (z_cons ((z_eq_tr hv 21208).trans rfl) (z_cons ((z_eq_tr hv 146893).trans rfl) z_nil))))))))) hn (hm_g hG hl3_4) hG hk p0 hn3_4 (fun r M μ q hR2 hl2 => z_no1 q) h5
  have h3 := mr_44k (d := d) (f := f) (F := F) (rc := 4096) (rs := 1000000) (μ0 := μ0) (a0 := 98) (a2 := φ) (z_no_ok (z_cons ((z_eq_tr hv 4294967295).trans rfl) (z_cons ((z_eq_tr hv 130).trans rfl) (z_cons ((z_eq_tr hv 174).trans rfl) (z_cons ((z_eq_tr hv 1371).trans rfl) (z_cons ((z_eq_tr hv 3981).trans rfl) (z_cons ((z_eq_tr hv 21208).trans rfl) z_nil))))))) hn (hm_g hG hl3_3) hG hk p0 hn3_3 (fun r M μ q hR2 hl2 => z_no1 q) h4
  have h2 := mr_44k (d := d) (f := f) (F := F) (rc := 4096) (rs := 1000000) (μ0 := μ0) (a0 := 98) (a2 := φ) (z_no_ok (z_cons ((z_eq_tr hv 4294967295).trans rfl) (z_cons ((z_eq_tr hv 130).trans rfl) (z_cons ((z_eq_tr hv 1371).trans rfl) z_nil)))) hn (hm_g hG hl3_2) hG hk p0 hn3_2 (fun r M μ q hR2 hl2 => z_no1 q) h3
  have h1 := mr_44k (d := d) (f := f) (F := F) (rc := 4096) (rs := 1000000) (μ0 := μ0) (a0 := 98) (a2 := φ) (z_no_ok (z_cons ((z_eq_tr hv 4294967295).trans rfl) z_nil)) hn (hm_g hG hl3_1) hG hk p0 hn3_1 (fun r M μ q hR2 hl2 => z_no1 q) h2
  have h0 := mr_44k (d := d) (f := f) (F := F) (rc := 4096) (rs := 1000000) (μ0 := μ0) (a0 := 98) (a2 := φ) (z_no_ok (z_cons ((z_eq_tr hv 4294967295).trans rfl) z_nil)) hn (hm_g hG hl3_0) hG hk p0 hn3_0 (fun r M μ q hR2 hl2 => z_no1 q) h1
  exact mr_300_ok (z_no_ok z_nil) hn (hm_0 hG) hG hr3_e hR hk p0 h0 (fun r M μ q hR2 hl2 => z_no1 q)
