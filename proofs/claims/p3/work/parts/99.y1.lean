/-! Arrays.copyOf into a new row of the bigger region -/
theorem s_co3 {L : Nat} {ρ : Nat → Int} {rc : eQ} {d : Nat} {f : eFr} {F : List eFr} {μ : eM} {g : Nat → Nat} {H : List Nat} {x q : Nat} (hI : SH H x g μ) (hx0 : g x ≠ 0) (hx : g x ≠ 3) (hq : g q = 3) (K : ∀ (r : Nat) (g2 : Nat → Nat) (μ2 : eM), SH H x g2 μ2 → GE g g2 → g2 r = 8 → Fr [] 1 890 g μ μ2 → (∀ k, k < 50 → μ2.1 r k = μ.1 q k) → ex_q (dt_fg L ρ) rc (d + 2, (f.1, f.2.1, f.2.2.1, eR r :: f.2.2.2), F, μ2)) : ex_q (dt_fg L ρ) rc (d + 1, (366, 0, [some (eR q), some (eI (890)), none], []), f :: F, μ) := by
  have hq0 := hI.pos hq (by decide)
  have hkq : ev_kn μ q = some (100, 50) := hI.kn hq (by decide)
  refine w_t (np := 1) (l2 := [some (eR q), some (eI (890)), none]) (s2 := [eI (890)]) rfl rfl rfl ?_
  refine w_t (np := 2) (l2 := [some (eR q), some (eI (890)), none]) (s2 := [eR q, eI (890)]) rfl (s_an rfl hq0) rfl ?_
  refine k_len (np := 3) (n := 50) rfl rfl hkq rfl rfl ?_
  rw [show ((50 : Nat) : Int) = 50 from rfl]
  refine b_cne (t1 := 14) (t2 := 6) rfl rfl rfl rfl rfl (fun _ => ?_) (fun z => absurd z (by decide))
  refine w_t (np := 15) (l2 := [some (eR q), some (eI (890)), none]) (s2 := [eI (890)]) rfl rfl rfl ?_
  refine x_na (np := 17) (n := 890) rfl rfl rfl ?_
  obtain ⟨g2, h1, h2, h3, h4, h5⟩ := hI.nw (ρ := 8) (c := 100) (n := 890) (lo := 0) (hi := 1) rfl (by decide) (by decide) (fun _ => rfl) (by decide)
  have hqr : q ≠ μ.2.1.length + 64 := kn_ne hkq
  have hsame : ∀ k, (ev_nw μ 100 890).1 q k = μ.1 q k := fun k => nw_sl hqr
  have hgx : x ≠ μ.2.1.length + 64 := kn_ne (hI.2.1 x hx0)
  have hall : ∀ a, g a ≠ 0 → a ≠ μ.2.1.length + 64 := fun a ha => kn_ne (hI.2.1 a ha)
  generalize hm : ev_nw μ 100 890 = m at h1 h4 h5 hsame ⊢
  generalize hr : μ.2.1.length + 64 = r at h3 h5 hqr hgx hall ⊢
  have hr0 := h1.pos h3 (by decide)
  have hq2 := h2.g hq (by decide)
  refine w_t (np := 18) (l2 := [some (eR q), some (eI (890)), some (eR r)]) (s2 := []) rfl (s_sn (Nat.ble_eq.mp rfl) hr0 rfl) rfl ?_
  refine w_t (np := 19) (l2 := [some (eR q), some (eI (890)), some (eR r)]) (s2 := [eR q]) rfl (s_an rfl hq0) rfl ?_
  refine w_t (np := 20) (l2 := [some (eR q), some (eI (890)), some (eR r)]) (s2 := [eI 0, eR q]) rfl rfl rfl ?_
  refine w_t (np := 21) (l2 := [some (eR q), some (eI (890)), some (eR r)]) (s2 := [eR r, eI 0, eR q]) rfl (s_an rfl hr0) rfl ?_
  refine w_t (np := 22) (l2 := [some (eR q), some (eI (890)), some (eR r)]) (s2 := [eI 0, eR r, eI 0, eR q]) rfl rfl rfl ?_
  refine w_t (np := 23) (l2 := [some (eR q), some (eI (890)), some (eR r)]) (s2 := [eR q, eI 0, eR r, eI 0, eR q]) rfl (s_an rfl hq0) rfl ?_
  refine k_len (np := 24) (n := 50) rfl rfl (h1.kn hq2 (by decide)) rfl rfl ?_
  rw [show ((50 : Nat) : Int) = 50 from rfl]
  refine w_t (np := 25) (l2 := [some (eR q), some (eI (890)), some (eR r)]) (s2 := [eI (890), eI (50), eI 0, eR r, eI 0, eR q]) rfl rfl rfl ?_
  refine w_cu (np := 28) (as := [eI (50), eI (890)]) (l2 := [some (eI (50)), some (eI (890))]) (rest := [eI 0, eR r, eI 0, eR q]) rfl rfl rfl (Nat.ble_eq.mp rfl) rfl rfl rfl rfl ?_
  refine w_t (np := 1) (l2 := [some (eI (50)), some (eI (890))]) (s2 := [eI (50)]) rfl rfl rfl ?_
  refine w_t (np := 2) (l2 := [some (eI (50)), some (eI (890))]) (s2 := [eI (890), eI (50)]) rfl rfl rfl ?_
  refine b_cgt (t1 := 9) (t2 := 5) rfl rfl rfl rfl rfl (fun z => absurd z (by decide)) (fun _ => ?_)
  refine w_t (np := 6) (l2 := [some (eI (50)), some (eI (890))]) (s2 := [eI (50)]) rfl rfl rfl ?_
  refine w_go (t1 := 10) rfl rfl ?_
  refine b_ri rfl rfl ?_
  show ex_q (dt_fg L ρ) rc (d + 1, (366, 28, [some (eR q), some (eI (890)), some (eR r)], [eI (50), eI 0, eR r, eI 0, eR q]), f :: F, m)
  refine x_cp (np := 31) (n := 50) rfl rfl (h1.kn hq2 (by decide)) (h1.kn h3 (by decide)) (by decide) rfl rfl rfl rfl ?_
  have h6 := h1.cp (lo := 0) (hi := 1) (lo2 := 0) (hi2 := 1) hq2 h3 (by decide) (by decide) (k := 100) (n := 50) (n2 := 890) rfl rfl (fun _ => rfl) (fun _ => rfl) (by decide) (by decide) (fun z => hx (by rw [← z]; exact hq)) (fun z => hgx z.symm)
  refine w_t (np := 32) (l2 := [some (eR q), some (eI (890)), some (eR r)]) (s2 := [eR r]) rfl (s_an rfl hr0) rfl ?_
  refine v_ra rfl rfl (K r g2 _ h6 h2 h3 ⟨h4.1, h4.2.1, fun a k ha hn => ?_⟩ (fun k hk => ?_))
  · show ev_ur m.1 r _ a k = _
    unfold ev_ur
    rw [if_neg (hall a ha)]
    exact h4.2.2 a k ha hn
  · show ev_ur m.1 r _ r k = _
    unfold ev_ur
    rw [if_pos rfl]
    unfold ev_cp
    rw [if_pos hk]
    exact hsame k
theorem s_co4 {L : Nat} {ρ : Nat → Int} {rc : eQ} {d : Nat} {f : eFr} {F : List eFr} {μ : eM} {g : Nat → Nat} {H : List Nat} {x q : Nat} (hI : SH H x g μ) (hx0 : g x ≠ 0) (hx : g x ≠ 4) (hq : g q = 4) (K : ∀ (r : Nat) (g2 : Nat → Nat) (μ2 : eM), SH H x g2 μ2 → GE g g2 → g2 r = 9 → Fr [] 1 890 g μ μ2 → (∀ k, k < 50 → μ2.1 r k = μ.1 q k) → ex_q (dt_fg L ρ) rc (d + 2, (f.1, f.2.1, f.2.2.1, eR r :: f.2.2.2), F, μ2)) : ex_q (dt_fg L ρ) rc (d + 1, (366, 0, [some (eR q), some (eI (890)), none], []), f :: F, μ) := by
  have hq0 := hI.pos hq (by decide)
  have hkq : ev_kn μ q = some (100, 50) := hI.kn hq (by decide)
  refine w_t (np := 1) (l2 := [some (eR q), some (eI (890)), none]) (s2 := [eI (890)]) rfl rfl rfl ?_
  refine w_t (np := 2) (l2 := [some (eR q), some (eI (890)), none]) (s2 := [eR q, eI (890)]) rfl (s_an rfl hq0) rfl ?_
  refine k_len (np := 3) (n := 50) rfl rfl hkq rfl rfl ?_
  rw [show ((50 : Nat) : Int) = 50 from rfl]
  refine b_cne (t1 := 14) (t2 := 6) rfl rfl rfl rfl rfl (fun _ => ?_) (fun z => absurd z (by decide))
  refine w_t (np := 15) (l2 := [some (eR q), some (eI (890)), none]) (s2 := [eI (890)]) rfl rfl rfl ?_
  refine x_na (np := 17) (n := 890) rfl rfl rfl ?_
  obtain ⟨g2, h1, h2, h3, h4, h5⟩ := hI.nw (ρ := 9) (c := 100) (n := 890) (lo := -2147483648) (hi := 2147483647) rfl (by decide) (by decide) (fun _ => rfl) (by decide)
  have hqr : q ≠ μ.2.1.length + 64 := kn_ne hkq
  have hsame : ∀ k, (ev_nw μ 100 890).1 q k = μ.1 q k := fun k => nw_sl hqr
  have hgx : x ≠ μ.2.1.length + 64 := kn_ne (hI.2.1 x hx0)
  have hall : ∀ a, g a ≠ 0 → a ≠ μ.2.1.length + 64 := fun a ha => kn_ne (hI.2.1 a ha)
  generalize hm : ev_nw μ 100 890 = m at h1 h4 h5 hsame ⊢
  generalize hr : μ.2.1.length + 64 = r at h3 h5 hqr hgx hall ⊢
  have hr0 := h1.pos h3 (by decide)
  have hq2 := h2.g hq (by decide)
  refine w_t (np := 18) (l2 := [some (eR q), some (eI (890)), some (eR r)]) (s2 := []) rfl (s_sn (Nat.ble_eq.mp rfl) hr0 rfl) rfl ?_
  refine w_t (np := 19) (l2 := [some (eR q), some (eI (890)), some (eR r)]) (s2 := [eR q]) rfl (s_an rfl hq0) rfl ?_
  refine w_t (np := 20) (l2 := [some (eR q), some (eI (890)), some (eR r)]) (s2 := [eI 0, eR q]) rfl rfl rfl ?_
  refine w_t (np := 21) (l2 := [some (eR q), some (eI (890)), some (eR r)]) (s2 := [eR r, eI 0, eR q]) rfl (s_an rfl hr0) rfl ?_
  refine w_t (np := 22) (l2 := [some (eR q), some (eI (890)), some (eR r)]) (s2 := [eI 0, eR r, eI 0, eR q]) rfl rfl rfl ?_
  refine w_t (np := 23) (l2 := [some (eR q), some (eI (890)), some (eR r)]) (s2 := [eR q, eI 0, eR r, eI 0, eR q]) rfl (s_an rfl hq0) rfl ?_
  refine k_len (np := 24) (n := 50) rfl rfl (h1.kn hq2 (by decide)) rfl rfl ?_
  rw [show ((50 : Nat) : Int) = 50 from rfl]
  refine w_t (np := 25) (l2 := [some (eR q), some (eI (890)), some (eR r)]) (s2 := [eI (890), eI (50), eI 0, eR r, eI 0, eR q]) rfl rfl rfl ?_
  refine w_cu (np := 28) (as := [eI (50), eI (890)]) (l2 := [some (eI (50)), some (eI (890))]) (rest := [eI 0, eR r, eI 0, eR q]) rfl rfl rfl (Nat.ble_eq.mp rfl) rfl rfl rfl rfl ?_
  refine w_t (np := 1) (l2 := [some (eI (50)), some (eI (890))]) (s2 := [eI (50)]) rfl rfl rfl ?_
  refine w_t (np := 2) (l2 := [some (eI (50)), some (eI (890))]) (s2 := [eI (890), eI (50)]) rfl rfl rfl ?_
  refine b_cgt (t1 := 9) (t2 := 5) rfl rfl rfl rfl rfl (fun z => absurd z (by decide)) (fun _ => ?_)
  refine w_t (np := 6) (l2 := [some (eI (50)), some (eI (890))]) (s2 := [eI (50)]) rfl rfl rfl ?_
  refine w_go (t1 := 10) rfl rfl ?_
  refine b_ri rfl rfl ?_
  show ex_q (dt_fg L ρ) rc (d + 1, (366, 28, [some (eR q), some (eI (890)), some (eR r)], [eI (50), eI 0, eR r, eI 0, eR q]), f :: F, m)
  refine x_cp (np := 31) (n := 50) rfl rfl (h1.kn hq2 (by decide)) (h1.kn h3 (by decide)) (by decide) rfl rfl rfl rfl ?_
  have h6 := h1.cp (lo := -2147483648) (hi := 2147483647) (lo2 := -2147483648) (hi2 := 2147483647) hq2 h3 (by decide) (by decide) (k := 100) (n := 50) (n2 := 890) rfl rfl (fun _ => rfl) (fun _ => rfl) (by decide) (by decide) (fun z => hx (by rw [← z]; exact hq)) (fun z => hgx z.symm)
  refine w_t (np := 32) (l2 := [some (eR q), some (eI (890)), some (eR r)]) (s2 := [eR r]) rfl (s_an rfl hr0) rfl ?_
  refine v_ra rfl rfl (K r g2 _ h6 h2 h3 ⟨h4.1, h4.2.1, fun a k ha hn => ?_⟩ (fun k hk => ?_))
  · show ev_ur m.1 r _ a k = _
    unfold ev_ur
    rw [if_neg (hall a ha)]
    exact h4.2.2 a k ha hn
  · show ev_ur m.1 r _ r k = _
    unfold ev_ur
    rw [if_pos rfl]
    unfold ev_cp
    rw [if_pos hk]
    exact hsame k
theorem s_co5 {L : Nat} {ρ : Nat → Int} {rc : eQ} {d : Nat} {f : eFr} {F : List eFr} {μ : eM} {g : Nat → Nat} {H : List Nat} {x q : Nat} (hI : SH H x g μ) (hx0 : g x ≠ 0) (hx : g x ≠ 5) (hq : g q = 5) (K : ∀ (r : Nat) (g2 : Nat → Nat) (μ2 : eM), SH H x g2 μ2 → GE g g2 → g2 r = 10 → Fr [] 1 2670 g μ μ2 → (∀ k, k < 150 → μ2.1 r k = μ.1 q k) → ex_q (dt_fg L ρ) rc (d + 2, (f.1, f.2.1, f.2.2.1, eR r :: f.2.2.2), F, μ2)) : ex_q (dt_fg L ρ) rc (d + 1, (366, 0, [some (eR q), some (eI (2670)), none], []), f :: F, μ) := by
  have hq0 := hI.pos hq (by decide)
  have hkq : ev_kn μ q = some (100, 150) := hI.kn hq (by decide)
  refine w_t (np := 1) (l2 := [some (eR q), some (eI (2670)), none]) (s2 := [eI (2670)]) rfl rfl rfl ?_
  refine w_t (np := 2) (l2 := [some (eR q), some (eI (2670)), none]) (s2 := [eR q, eI (2670)]) rfl (s_an rfl hq0) rfl ?_
  refine k_len (np := 3) (n := 150) rfl rfl hkq rfl rfl ?_
  rw [show ((150 : Nat) : Int) = 150 from rfl]
  refine b_cne (t1 := 14) (t2 := 6) rfl rfl rfl rfl rfl (fun _ => ?_) (fun z => absurd z (by decide))
  refine w_t (np := 15) (l2 := [some (eR q), some (eI (2670)), none]) (s2 := [eI (2670)]) rfl rfl rfl ?_
  refine x_na (np := 17) (n := 2670) rfl rfl rfl ?_
  obtain ⟨g2, h1, h2, h3, h4, h5⟩ := hI.nw (ρ := 10) (c := 100) (n := 2670) (lo := 0) (hi := 511) rfl (by decide) (by decide) (fun _ => rfl) (by decide)
  have hqr : q ≠ μ.2.1.length + 64 := kn_ne hkq
  have hsame : ∀ k, (ev_nw μ 100 2670).1 q k = μ.1 q k := fun k => nw_sl hqr
  have hgx : x ≠ μ.2.1.length + 64 := kn_ne (hI.2.1 x hx0)
  have hall : ∀ a, g a ≠ 0 → a ≠ μ.2.1.length + 64 := fun a ha => kn_ne (hI.2.1 a ha)
  generalize hm : ev_nw μ 100 2670 = m at h1 h4 h5 hsame ⊢
  generalize hr : μ.2.1.length + 64 = r at h3 h5 hqr hgx hall ⊢
  have hr0 := h1.pos h3 (by decide)
  have hq2 := h2.g hq (by decide)
  refine w_t (np := 18) (l2 := [some (eR q), some (eI (2670)), some (eR r)]) (s2 := []) rfl (s_sn (Nat.ble_eq.mp rfl) hr0 rfl) rfl ?_
  refine w_t (np := 19) (l2 := [some (eR q), some (eI (2670)), some (eR r)]) (s2 := [eR q]) rfl (s_an rfl hq0) rfl ?_
  refine w_t (np := 20) (l2 := [some (eR q), some (eI (2670)), some (eR r)]) (s2 := [eI 0, eR q]) rfl rfl rfl ?_
  refine w_t (np := 21) (l2 := [some (eR q), some (eI (2670)), some (eR r)]) (s2 := [eR r, eI 0, eR q]) rfl (s_an rfl hr0) rfl ?_
  refine w_t (np := 22) (l2 := [some (eR q), some (eI (2670)), some (eR r)]) (s2 := [eI 0, eR r, eI 0, eR q]) rfl rfl rfl ?_
  refine w_t (np := 23) (l2 := [some (eR q), some (eI (2670)), some (eR r)]) (s2 := [eR q, eI 0, eR r, eI 0, eR q]) rfl (s_an rfl hq0) rfl ?_
  refine k_len (np := 24) (n := 150) rfl rfl (h1.kn hq2 (by decide)) rfl rfl ?_
  rw [show ((150 : Nat) : Int) = 150 from rfl]
  refine w_t (np := 25) (l2 := [some (eR q), some (eI (2670)), some (eR r)]) (s2 := [eI (2670), eI (150), eI 0, eR r, eI 0, eR q]) rfl rfl rfl ?_
  refine w_cu (np := 28) (as := [eI (150), eI (2670)]) (l2 := [some (eI (150)), some (eI (2670))]) (rest := [eI 0, eR r, eI 0, eR q]) rfl rfl rfl (Nat.ble_eq.mp rfl) rfl rfl rfl rfl ?_
  refine w_t (np := 1) (l2 := [some (eI (150)), some (eI (2670))]) (s2 := [eI (150)]) rfl rfl rfl ?_
  refine w_t (np := 2) (l2 := [some (eI (150)), some (eI (2670))]) (s2 := [eI (2670), eI (150)]) rfl rfl rfl ?_
  refine b_cgt (t1 := 9) (t2 := 5) rfl rfl rfl rfl rfl (fun z => absurd z (by decide)) (fun _ => ?_)
  refine w_t (np := 6) (l2 := [some (eI (150)), some (eI (2670))]) (s2 := [eI (150)]) rfl rfl rfl ?_
  refine w_go (t1 := 10) rfl rfl ?_
  refine b_ri rfl rfl ?_
  show ex_q (dt_fg L ρ) rc (d + 1, (366, 28, [some (eR q), some (eI (2670)), some (eR r)], [eI (150), eI 0, eR r, eI 0, eR q]), f :: F, m)
  refine x_cp (np := 31) (n := 150) rfl rfl (h1.kn hq2 (by decide)) (h1.kn h3 (by decide)) (by decide) rfl rfl rfl rfl ?_
  have h6 := h1.cp (lo := 0) (hi := 511) (lo2 := 0) (hi2 := 511) hq2 h3 (by decide) (by decide) (k := 100) (n := 150) (n2 := 2670) rfl rfl (fun _ => rfl) (fun _ => rfl) (by decide) (by decide) (fun z => hx (by rw [← z]; exact hq)) (fun z => hgx z.symm)
  refine w_t (np := 32) (l2 := [some (eR q), some (eI (2670)), some (eR r)]) (s2 := [eR r]) rfl (s_an rfl hr0) rfl ?_
  refine v_ra rfl rfl (K r g2 _ h6 h2 h3 ⟨h4.1, h4.2.1, fun a k ha hn => ?_⟩ (fun k hk => ?_))
  · show ev_ur m.1 r _ a k = _
    unfold ev_ur
    rw [if_neg (hall a ha)]
    exact h4.2.2 a k ha hn
  · show ev_ur m.1 r _ r k = _
    unfold ev_ur
    rw [if_pos rfl]
    unfold ev_cp
    rw [if_pos hk]
    exact hsame k
theorem s_co6 {L : Nat} {ρ : Nat → Int} {rc : eQ} {d : Nat} {f : eFr} {F : List eFr} {μ : eM} {g : Nat → Nat} {H : List Nat} {x q : Nat} (hI : SH H x g μ) (hx0 : g x ≠ 0) (hx : g x ≠ 6) (hq : g q = 6) (K : ∀ (r : Nat) (g2 : Nat → Nat) (μ2 : eM), SH H x g2 μ2 → GE g g2 → g2 r = 11 → Fr [] 1 1780 g μ μ2 → (∀ k, k < 100 → μ2.1 r k = μ.1 q k) → ex_q (dt_fg L ρ) rc (d + 2, (f.1, f.2.1, f.2.2.1, eR r :: f.2.2.2), F, μ2)) : ex_q (dt_fg L ρ) rc (d + 1, (366, 0, [some (eR q), some (eI (1780)), none], []), f :: F, μ) := by
  have hq0 := hI.pos hq (by decide)
  have hkq : ev_kn μ q = some (100, 100) := hI.kn hq (by decide)
  refine w_t (np := 1) (l2 := [some (eR q), some (eI (1780)), none]) (s2 := [eI (1780)]) rfl rfl rfl ?_
  refine w_t (np := 2) (l2 := [some (eR q), some (eI (1780)), none]) (s2 := [eR q, eI (1780)]) rfl (s_an rfl hq0) rfl ?_
  refine k_len (np := 3) (n := 100) rfl rfl hkq rfl rfl ?_
  rw [show ((100 : Nat) : Int) = 100 from rfl]
  refine b_cne (t1 := 14) (t2 := 6) rfl rfl rfl rfl rfl (fun _ => ?_) (fun z => absurd z (by decide))
  refine w_t (np := 15) (l2 := [some (eR q), some (eI (1780)), none]) (s2 := [eI (1780)]) rfl rfl rfl ?_
  refine x_na (np := 17) (n := 1780) rfl rfl rfl ?_
  obtain ⟨g2, h1, h2, h3, h4, h5⟩ := hI.nw (ρ := 11) (c := 100) (n := 1780) (lo := 0) (hi := 9) rfl (by decide) (by decide) (fun _ => rfl) (by decide)
  have hqr : q ≠ μ.2.1.length + 64 := kn_ne hkq
  have hsame : ∀ k, (ev_nw μ 100 1780).1 q k = μ.1 q k := fun k => nw_sl hqr
  have hgx : x ≠ μ.2.1.length + 64 := kn_ne (hI.2.1 x hx0)
  have hall : ∀ a, g a ≠ 0 → a ≠ μ.2.1.length + 64 := fun a ha => kn_ne (hI.2.1 a ha)
  generalize hm : ev_nw μ 100 1780 = m at h1 h4 h5 hsame ⊢
  generalize hr : μ.2.1.length + 64 = r at h3 h5 hqr hgx hall ⊢
  have hr0 := h1.pos h3 (by decide)
  have hq2 := h2.g hq (by decide)
  refine w_t (np := 18) (l2 := [some (eR q), some (eI (1780)), some (eR r)]) (s2 := []) rfl (s_sn (Nat.ble_eq.mp rfl) hr0 rfl) rfl ?_
  refine w_t (np := 19) (l2 := [some (eR q), some (eI (1780)), some (eR r)]) (s2 := [eR q]) rfl (s_an rfl hq0) rfl ?_
  refine w_t (np := 20) (l2 := [some (eR q), some (eI (1780)), some (eR r)]) (s2 := [eI 0, eR q]) rfl rfl rfl ?_
  refine w_t (np := 21) (l2 := [some (eR q), some (eI (1780)), some (eR r)]) (s2 := [eR r, eI 0, eR q]) rfl (s_an rfl hr0) rfl ?_
  refine w_t (np := 22) (l2 := [some (eR q), some (eI (1780)), some (eR r)]) (s2 := [eI 0, eR r, eI 0, eR q]) rfl rfl rfl ?_
  refine w_t (np := 23) (l2 := [some (eR q), some (eI (1780)), some (eR r)]) (s2 := [eR q, eI 0, eR r, eI 0, eR q]) rfl (s_an rfl hq0) rfl ?_
  refine k_len (np := 24) (n := 100) rfl rfl (h1.kn hq2 (by decide)) rfl rfl ?_
  rw [show ((100 : Nat) : Int) = 100 from rfl]
  refine w_t (np := 25) (l2 := [some (eR q), some (eI (1780)), some (eR r)]) (s2 := [eI (1780), eI (100), eI 0, eR r, eI 0, eR q]) rfl rfl rfl ?_
  refine w_cu (np := 28) (as := [eI (100), eI (1780)]) (l2 := [some (eI (100)), some (eI (1780))]) (rest := [eI 0, eR r, eI 0, eR q]) rfl rfl rfl (Nat.ble_eq.mp rfl) rfl rfl rfl rfl ?_
  refine w_t (np := 1) (l2 := [some (eI (100)), some (eI (1780))]) (s2 := [eI (100)]) rfl rfl rfl ?_
  refine w_t (np := 2) (l2 := [some (eI (100)), some (eI (1780))]) (s2 := [eI (1780), eI (100)]) rfl rfl rfl ?_
  refine b_cgt (t1 := 9) (t2 := 5) rfl rfl rfl rfl rfl (fun z => absurd z (by decide)) (fun _ => ?_)
  refine w_t (np := 6) (l2 := [some (eI (100)), some (eI (1780))]) (s2 := [eI (100)]) rfl rfl rfl ?_
  refine w_go (t1 := 10) rfl rfl ?_
  refine b_ri rfl rfl ?_
  show ex_q (dt_fg L ρ) rc (d + 1, (366, 28, [some (eR q), some (eI (1780)), some (eR r)], [eI (100), eI 0, eR r, eI 0, eR q]), f :: F, m)
  refine x_cp (np := 31) (n := 100) rfl rfl (h1.kn hq2 (by decide)) (h1.kn h3 (by decide)) (by decide) rfl rfl rfl rfl ?_
  have h6 := h1.cp (lo := 0) (hi := 9) (lo2 := 0) (hi2 := 9) hq2 h3 (by decide) (by decide) (k := 100) (n := 100) (n2 := 1780) rfl rfl (fun _ => rfl) (fun _ => rfl) (by decide) (by decide) (fun z => hx (by rw [← z]; exact hq)) (fun z => hgx z.symm)
  refine w_t (np := 32) (l2 := [some (eR q), some (eI (1780)), some (eR r)]) (s2 := [eR r]) rfl (s_an rfl hr0) rfl ?_
  refine v_ra rfl rfl (K r g2 _ h6 h2 h3 ⟨h4.1, h4.2.1, fun a k ha hn => ?_⟩ (fun k hk => ?_))
  · show ev_ur m.1 r _ a k = _
    unfold ev_ur
    rw [if_neg (hall a ha)]
    exact h4.2.2 a k ha hn
  · show ev_ur m.1 r _ r k = _
    unfold ev_ur
    rw [if_pos rfl]
    unfold ev_cp
    rw [if_pos hk]
    exact hsame k
theorem s_co13 {L : Nat} {ρ : Nat → Int} {rc : eQ} {d : Nat} {f : eFr} {F : List eFr} {μ : eM} {g : Nat → Nat} {H : List Nat} {x q : Nat} (hI : SH H x g μ) (hx0 : g x ≠ 0) (hx : g x ≠ 13) (hq : g q = 13) (K : ∀ (r : Nat) (g2 : Nat → Nat) (μ2 : eM), SH H x g2 μ2 → GE g g2 → g2 r = 16 → Fr [] 1 512 g μ μ2 → (∀ k, k < 64 → μ2.1 r k = μ.1 q k) → ex_q (dt_fg L ρ) rc (d + 2, (f.1, f.2.1, f.2.2.1, eR r :: f.2.2.2), F, μ2)) : ex_q (dt_fg L ρ) rc (d + 1, (367, 0, [some (eR q), some (eI (512)), none], []), f :: F, μ) := by
  have hq0 := hI.pos hq (by decide)
  have hkq : ev_kn μ q = some (101, 64) := hI.kn hq (by decide)
  refine w_t (np := 1) (l2 := [some (eR q), some (eI (512)), none]) (s2 := [eI (512)]) rfl rfl rfl ?_
  refine w_t (np := 2) (l2 := [some (eR q), some (eI (512)), none]) (s2 := [eR q, eI (512)]) rfl (s_an rfl hq0) rfl ?_
  refine k_len (np := 3) (n := 64) rfl rfl hkq rfl rfl ?_
  rw [show ((64 : Nat) : Int) = 64 from rfl]
  refine b_cne (t1 := 14) (t2 := 6) rfl rfl rfl rfl rfl (fun _ => ?_) (fun z => absurd z (by decide))
  refine w_t (np := 15) (l2 := [some (eR q), some (eI (512)), none]) (s2 := [eI (512)]) rfl rfl rfl ?_
  refine x_na (np := 17) (n := 512) rfl rfl rfl ?_
  obtain ⟨g2, h1, h2, h3, h4, h5⟩ := hI.nw (ρ := 16) (c := 101) (n := 512) (lo := -9223372036854775808) (hi := 9223372036854775807) rfl (by decide) (by decide) (fun _ => rfl) (by decide)
  have hqr : q ≠ μ.2.1.length + 64 := kn_ne hkq
  have hsame : ∀ k, (ev_nw μ 101 512).1 q k = μ.1 q k := fun k => nw_sl hqr
  have hgx : x ≠ μ.2.1.length + 64 := kn_ne (hI.2.1 x hx0)
  have hall : ∀ a, g a ≠ 0 → a ≠ μ.2.1.length + 64 := fun a ha => kn_ne (hI.2.1 a ha)
  generalize hm : ev_nw μ 101 512 = m at h1 h4 h5 hsame ⊢
  generalize hr : μ.2.1.length + 64 = r at h3 h5 hqr hgx hall ⊢
  have hr0 := h1.pos h3 (by decide)
  have hq2 := h2.g hq (by decide)
  refine w_t (np := 18) (l2 := [some (eR q), some (eI (512)), some (eR r)]) (s2 := []) rfl (s_sn (Nat.ble_eq.mp rfl) hr0 rfl) rfl ?_
  refine w_t (np := 19) (l2 := [some (eR q), some (eI (512)), some (eR r)]) (s2 := [eR q]) rfl (s_an rfl hq0) rfl ?_
  refine w_t (np := 20) (l2 := [some (eR q), some (eI (512)), some (eR r)]) (s2 := [eI 0, eR q]) rfl rfl rfl ?_
  refine w_t (np := 21) (l2 := [some (eR q), some (eI (512)), some (eR r)]) (s2 := [eR r, eI 0, eR q]) rfl (s_an rfl hr0) rfl ?_
  refine w_t (np := 22) (l2 := [some (eR q), some (eI (512)), some (eR r)]) (s2 := [eI 0, eR r, eI 0, eR q]) rfl rfl rfl ?_
  refine w_t (np := 23) (l2 := [some (eR q), some (eI (512)), some (eR r)]) (s2 := [eR q, eI 0, eR r, eI 0, eR q]) rfl (s_an rfl hq0) rfl ?_
  refine k_len (np := 24) (n := 64) rfl rfl (h1.kn hq2 (by decide)) rfl rfl ?_
  rw [show ((64 : Nat) : Int) = 64 from rfl]
  refine w_t (np := 25) (l2 := [some (eR q), some (eI (512)), some (eR r)]) (s2 := [eI (512), eI (64), eI 0, eR r, eI 0, eR q]) rfl rfl rfl ?_
  refine w_cu (np := 28) (as := [eI (64), eI (512)]) (l2 := [some (eI (64)), some (eI (512))]) (rest := [eI 0, eR r, eI 0, eR q]) rfl rfl rfl (Nat.ble_eq.mp rfl) rfl rfl rfl rfl ?_
  refine w_t (np := 1) (l2 := [some (eI (64)), some (eI (512))]) (s2 := [eI (64)]) rfl rfl rfl ?_
  refine w_t (np := 2) (l2 := [some (eI (64)), some (eI (512))]) (s2 := [eI (512), eI (64)]) rfl rfl rfl ?_
  refine b_cgt (t1 := 9) (t2 := 5) rfl rfl rfl rfl rfl (fun z => absurd z (by decide)) (fun _ => ?_)
  refine w_t (np := 6) (l2 := [some (eI (64)), some (eI (512))]) (s2 := [eI (64)]) rfl rfl rfl ?_
  refine w_go (t1 := 10) rfl rfl ?_
  refine b_ri rfl rfl ?_
  show ex_q (dt_fg L ρ) rc (d + 1, (367, 28, [some (eR q), some (eI (512)), some (eR r)], [eI (64), eI 0, eR r, eI 0, eR q]), f :: F, m)
  refine x_cp (np := 31) (n := 64) rfl rfl (h1.kn hq2 (by decide)) (h1.kn h3 (by decide)) (by decide) rfl rfl rfl rfl ?_
  have h6 := h1.cp (lo := -9223372036854775808) (hi := 9223372036854775807) (lo2 := -9223372036854775808) (hi2 := 9223372036854775807) hq2 h3 (by decide) (by decide) (k := 101) (n := 64) (n2 := 512) rfl rfl (fun _ => rfl) (fun _ => rfl) (by decide) (by decide) (fun z => hx (by rw [← z]; exact hq)) (fun z => hgx z.symm)
  refine w_t (np := 32) (l2 := [some (eR q), some (eI (512)), some (eR r)]) (s2 := [eR r]) rfl (s_an rfl hr0) rfl ?_
  refine v_ra rfl rfl (K r g2 _ h6 h2 h3 ⟨h4.1, h4.2.1, fun a k ha hn => ?_⟩ (fun k hk => ?_))
  · show ev_ur m.1 r _ a k = _
    unfold ev_ur
    rw [if_neg (hall a ha)]
    exact h4.2.2 a k ha hn
  · show ev_ur m.1 r _ r k = _
    unfold ev_ur
    rw [if_pos rfl]
    unfold ev_cp
    rw [if_pos hk]
    exact hsame k
