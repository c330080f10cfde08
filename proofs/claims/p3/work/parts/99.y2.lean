/-! makeRoom, growAll -/
theorem gs_p {g : Nat → Nat} {x : Nat} (h0 : g 0 = 0) (hg : g x = 2) : GP g (gs g x 7) ∧ gs g x 7 x = 7 ∧ ∀ a, a ≠ x → gs g x 7 a = g a := by
  have e : ∀ a, a ≠ x → gs g x 7 a = g a := fun a ha => if_neg ha
  have ex : gs g x 7 x = 7 := if_pos rfl
  have hx0 : 0 ≠ x := fun q => by rw [← q, h0] at hg; cases hg
  refine ⟨⟨(e 0 hx0).trans h0, fun a ha => ?_⟩, ex, e⟩
  by_cases q : a = x
  · subst q
    exact Or.inr (Or.inl ⟨hg, ex⟩)
  · exact Or.inl (e a q)
theorem gs_q {g : Nat → Nat} {x : Nat} (h0 : g 0 = 0) (hg : g x = 12) : GP g (gs g x 15) ∧ gs g x 15 x = 15 ∧ ∀ a, a ≠ x → gs g x 15 a = g a := by
  have e : ∀ a, a ≠ x → gs g x 15 a = g a := fun a ha => if_neg ha
  have ex : gs g x 15 x = 15 := if_pos rfl
  have hx0 : 0 ≠ x := fun q => by rw [← q, h0] at hg; cases hg
  refine ⟨⟨(e 0 hx0).trans h0, fun a ha => ?_⟩, ex, e⟩
  by_cases q : a = x
  · subst q
    exact Or.inr (Or.inr ⟨hg, ex⟩)
  · exact Or.inl (e a q)
theorem Fr.pe {l : List Nat} {c s c2 s2 : Nat} {g g3 : Nat → Nat} {μ m m2 : eM} (h : Fr l c s g μ m) (hE : GP g g3) (h2 : Fr [] c2 s2 g3 m m2) : Fr l (c + c2) (s + s2) g μ m2 := by
  obtain ⟨e1, e2, e3⟩ := h
  obtain ⟨f1, f2, f3⟩ := h2
  refine ⟨by omega, by omega, fun a k ha hn => ?_⟩
  rw [f3 a k (by rcases hE.2 a ha with e | ⟨e, e2⟩ | ⟨e, e2⟩ <;> omega) (fun q => by cases q), e3 a k ha hn]
theorem k_pf {fg : eG} {rc : eQ} {d y pc np a b t pl idx c : Nat} {x w : Int} {v : eV} {lv : List (Option eV)} {st : List eV} {F : List eFr} {μ : eM} (hr : (dt_co y).get pc = (pc, .putfield idx, 3, (c, b, t, pl), x)) (hp : pc + 3 = np) (hk : ev_kd μ a = some c) (hv : ev_qv t v = some w) (K : ∀ μ2 : eM, Wr μ μ2 a b w → ex_q fg rc (d, (y, np, lv, st), F, μ2)) : ex_q fg rc (d, (y, pc, lv, v :: eR a :: st), F, μ) := b_pf (w := w) hr hp hk hv (K _ rfl)
theorem SH.same {l : List Nat} {c s a k : Nat} {g : Nat → Nat} {m m2 : eM} {v : Int} (h : Fr l c s g m m2) (hl : l = []) (ha : g a ≠ 0) (hv : m.1 a k = v) : m2.1 a k = v := by
  subst hl
  rw [h.2.2 a k ha (fun q => by cases q)]
  exact hv
def l_17 : List Nat := [513, 514, 515, 516]
theorem s_17 {L : Nat} {ρ : Nat → Int} {rc : eQ} {d : Nat} {f : eFr} {F : List eFr} {μ : eM} {g : Nat → Nat} {a0 : Nat} (hI : SI g μ) (gA0 : g a0 = 2) (K : ∀ (g2 : Nat → Nat) (μ2 : eM) (r r2 : Nat), GP g g2 → SI g2 μ2 → Fr l_17 4 6230 g μ μ2 → g2 a0 = 7 → μ.1 a0 0 = (r : Int) → μ2.1 a0 0 = (r2 : Int) → (∀ k, k < 50 → μ2.1 r2 k = μ.1 r k) → g r = 3 → g2 r2 = 8 → (∀ a, g a ≠ 0 → a ≠ a0 → g2 a = g a) → ex_q (dt_fg L ρ) rc (d + 3, (f.1, f.2.1, f.2.2.1, f.2.2.2), F, μ2)) : ex_q (dt_fg L ρ) rc (d + 2, (17, 0, [some (eR a0)], []), f :: F, μ) := by
  obtain ⟨q0, e0, b0, z0⟩ := hI.ref (k := 0) gA0 (by decide) (n := 8) rfl (by decide) rfl
  have b0 : g q0 = 3 := Nat.eq_of_beq_eq_true b0
  obtain ⟨q1, e1, b1, z1⟩ := hI.ref (k := 1) gA0 (by decide) (n := 8) rfl (by decide) rfl
  have b1 : g q1 = 4 := Nat.eq_of_beq_eq_true b1
  obtain ⟨q2, e2, b2, z2⟩ := hI.ref (k := 2) gA0 (by decide) (n := 8) rfl (by decide) rfl
  have b2 : g q2 = 5 := Nat.eq_of_beq_eq_true b2
  obtain ⟨q3, e3, b3, z3⟩ := hI.ref (k := 3) gA0 (by decide) (n := 8) rfl (by decide) rfl
  have b3 : g q3 = 6 := Nat.eq_of_beq_eq_true b3
  obtain ⟨hP, gx0, he⟩ := gs_p (x := a0) hI.1 gA0
  have h0 : SH [0, 1, 2, 3] a0 (gs g a0 7) μ := hI.sh gA0 (by decide) (by decide) (by decide) (by decide) rfl (ref_of rck_2) (fun k hk hn => by
    match k, hk, hn with
    | 0, _, hn => exact absurd (show 0 ∈ [0, 1, 2, 3] by decide) hn
    | 1, _, hn => exact absurd (show 1 ∈ [0, 1, 2, 3] by decide) hn
    | 2, _, hn => exact absurd (show 2 ∈ [0, 1, 2, 3] by decide) hn
    | 3, _, hn => exact absurd (show 3 ∈ [0, 1, 2, 3] by decide) hn
    | 4, _, _ => exact fun w h => h
    | 5, _, _ => exact fun w h => h
    | 6, _, _ => exact fun w h => h
    | 7, _, _ => exact fun w h => ⟨h.1, Int.le_trans h.2 (by decide)⟩
    | k + 8, hk, _ => exact absurd (show k + 8 < 8 from hk) (by omega))
  have c0_0 : gs g a0 7 q0 = 3 := (he q0 (fun q => by rw [q, gA0] at b0; cases b0)).trans b0
  have c1_0 : gs g a0 7 q1 = 4 := (he q1 (fun q => by rw [q, gA0] at b1; cases b1)).trans b1
  have c2_0 : gs g a0 7 q2 = 5 := (he q2 (fun q => by rw [q, gA0] at b2; cases b2)).trans b2
  have c3_0 : gs g a0 7 q3 = 6 := (he q3 (fun q => by rw [q, gA0] at b3; cases b3)).trans b3
  have F_0 : Fr l_17 0 0 g μ μ := Fr.r
  refine w_t (np := 1) (l2 := [some (eR a0)]) (s2 := [eR a0]) rfl (s_an rfl (h0.pos gx0 (by decide))) rfl ?_
  refine w_t (np := 2) (l2 := [some (eR a0)]) (s2 := [eR a0, eR a0]) rfl (s_an rfl (h0.pos gx0 (by decide))) rfl ?_
  refine w_gf (np := 5) (v := eR q0) rfl rfl (h0.kd gx0 (by decide) (n := 8) rfl) (by rw [e0]; rfl) ?_
  refine w_t (np := 8) (l2 := [some (eR a0)]) (s2 := [eI (890), eR q0, eR a0]) rfl rfl rfl ?_
  refine w_cu (np := 11) (as := [eR q0, eI (890)]) (l2 := [some (eR q0), some (eI (890)), none]) (rest := [eR a0]) rfl rfl rfl (Nat.ble_eq.mp rfl) rfl rfl rfl rfl ?_
  refine s_co3 h0 (by rw [gx0]; decide) (by rw [gx0]; decide) c0_0 ?_
  intro r0 g1 m0 k0 hE0 hr0 hF0 hc0
  show ex_q (dt_fg L ρ) rc (d + 2, (17, 11, [some (eR a0)], [eR r0, eR a0]), f :: F, m0)
  have gy1 : g1 a0 = 7 := hE0.g gx0 (by decide)
  refine k_pf (np := 14) (w := ((r0 : Nat) : Int)) rfl rfl (k0.kd gy1 (by decide) (n := 8) rfl) rfl ?_
  intro w0 W0
  have h1 := k0.put gy1 W0 (hO_r (b := r0) rfl (by rw [hr0]; rfl) (fun q => absurd q (by rw [hr0]; decide)))
  have F_1 : Fr l_17 1 890 g μ w0 := (F_0.pe hP hF0).w W0 gA0 rfl
  have hP1 := hP.t hE0.p
  have c0_1 : g1 q0 = 3 := hE0.g c0_0 (by decide)
  have c1_1 : g1 q1 = 4 := hE0.g c1_0 (by decide)
  have e1 := W0.slot (SH.same hF0 rfl (by rw [gx0]; decide) e1) (by decide : 1 ≠ 0)
  have c2_1 : g1 q2 = 5 := hE0.g c2_0 (by decide)
  have e2 := W0.slot (SH.same hF0 rfl (by rw [gx0]; decide) e2) (by decide : 2 ≠ 0)
  have c3_1 : g1 q3 = 6 := hE0.g c3_0 (by decide)
  have e3 := W0.slot (SH.same hF0 rfl (by rw [gx0]; decide) e3) (by decide : 3 ≠ 0)
  have t0 := W0.at
  have y0 : g1 r0 = 8 := hr0
  have u0 : ∀ k, k < 50 → w0.1 r0 k = μ.1 q0 k := fun k hk => W0.addr (hc0 k hk) gy1 hr0 (by decide)
  have eK := e0
  refine w_t (np := 15) (l2 := [some (eR a0)]) (s2 := [eR a0]) rfl (s_an rfl (h1.pos gy1 (by decide))) rfl ?_
  refine w_t (np := 16) (l2 := [some (eR a0)]) (s2 := [eR a0, eR a0]) rfl (s_an rfl (h1.pos gy1 (by decide))) rfl ?_
  refine w_gf (np := 19) (v := eR q1) rfl rfl (h1.kd gy1 (by decide) (n := 8) rfl) (by rw [e1]; rfl) ?_
  refine w_t (np := 22) (l2 := [some (eR a0)]) (s2 := [eI (890), eR q1, eR a0]) rfl rfl rfl ?_
  refine w_cu (np := 25) (as := [eR q1, eI (890)]) (l2 := [some (eR q1), some (eI (890)), none]) (rest := [eR a0]) rfl rfl rfl (Nat.ble_eq.mp rfl) rfl rfl rfl rfl ?_
  refine s_co4 h1 (by rw [gy1]; decide) (by rw [gy1]; decide) c1_1 ?_
  intro r1 g2 m1 k1 hE1 hr1 hF1 hc1
  show ex_q (dt_fg L ρ) rc (d + 2, (17, 25, [some (eR a0)], [eR r1, eR a0]), f :: F, m1)
  have gy2 : g2 a0 = 7 := hE1.g gy1 (by decide)
  refine k_pf (np := 28) (w := ((r1 : Nat) : Int)) rfl rfl (k1.kd gy2 (by decide) (n := 8) rfl) rfl ?_
  intro w1 W1
  have h2 := k1.put gy2 W1 (hO_r (b := r1) rfl (by rw [hr1]; rfl) (fun q => absurd q (by rw [hr1]; decide)))
  have F_2 : Fr l_17 2 1780 g μ w1 := (F_1.pe hP1 hF1).w W1 gA0 rfl
  have hP2 := hP1.t hE1.p
  have c0_2 : g2 q0 = 3 := hE1.g c0_1 (by decide)
  have c1_2 : g2 q1 = 4 := hE1.g c1_1 (by decide)
  have c2_2 : g2 q2 = 5 := hE1.g c2_1 (by decide)
  have e2 := W1.slot (SH.same hF1 rfl (by rw [gy1]; decide) e2) (by decide : 2 ≠ 1)
  have c3_2 : g2 q3 = 6 := hE1.g c3_1 (by decide)
  have e3 := W1.slot (SH.same hF1 rfl (by rw [gy1]; decide) e3) (by decide : 3 ≠ 1)
  have t0 := W1.slot (SH.same hF1 rfl (by rw [gy1]; decide) t0) (by decide : 0 ≠ 1)
  have u0 : ∀ k, k < 50 → w1.1 r0 k = μ.1 q0 k := fun k hk => W1.addr (SH.same hF1 rfl (by rw [y0]; decide) (u0 k hk)) gy2 (hE1.g y0 (by decide)) (by decide)
  have y0 := hE1.g y0 (by decide)
  refine w_t (np := 29) (l2 := [some (eR a0)]) (s2 := [eR a0]) rfl (s_an rfl (h2.pos gy2 (by decide))) rfl ?_
  refine w_t (np := 30) (l2 := [some (eR a0)]) (s2 := [eR a0, eR a0]) rfl (s_an rfl (h2.pos gy2 (by decide))) rfl ?_
  refine w_gf (np := 33) (v := eR q2) rfl rfl (h2.kd gy2 (by decide) (n := 8) rfl) (by rw [e2]; rfl) ?_
  refine w_t (np := 36) (l2 := [some (eR a0)]) (s2 := [eI (2670), eR q2, eR a0]) rfl rfl rfl ?_
  refine w_cu (np := 39) (as := [eR q2, eI (2670)]) (l2 := [some (eR q2), some (eI (2670)), none]) (rest := [eR a0]) rfl rfl rfl (Nat.ble_eq.mp rfl) rfl rfl rfl rfl ?_
  refine s_co5 h2 (by rw [gy2]; decide) (by rw [gy2]; decide) c2_2 ?_
  intro r2 g3 m2 k2 hE2 hr2 hF2 hc2
  show ex_q (dt_fg L ρ) rc (d + 2, (17, 39, [some (eR a0)], [eR r2, eR a0]), f :: F, m2)
  have gy3 : g3 a0 = 7 := hE2.g gy2 (by decide)
  refine k_pf (np := 42) (w := ((r2 : Nat) : Int)) rfl rfl (k2.kd gy3 (by decide) (n := 8) rfl) rfl ?_
  intro w2 W2
  have h3 := k2.put gy3 W2 (hO_r (b := r2) rfl (by rw [hr2]; rfl) (fun q => absurd q (by rw [hr2]; decide)))
  have F_3 : Fr l_17 3 4450 g μ w2 := (F_2.pe hP2 hF2).w W2 gA0 rfl
  have hP3 := hP2.t hE2.p
  have c0_3 : g3 q0 = 3 := hE2.g c0_2 (by decide)
  have c1_3 : g3 q1 = 4 := hE2.g c1_2 (by decide)
  have c2_3 : g3 q2 = 5 := hE2.g c2_2 (by decide)
  have c3_3 : g3 q3 = 6 := hE2.g c3_2 (by decide)
  have e3 := W2.slot (SH.same hF2 rfl (by rw [gy2]; decide) e3) (by decide : 3 ≠ 2)
  have t0 := W2.slot (SH.same hF2 rfl (by rw [gy2]; decide) t0) (by decide : 0 ≠ 2)
  have u0 : ∀ k, k < 50 → w2.1 r0 k = μ.1 q0 k := fun k hk => W2.addr (SH.same hF2 rfl (by rw [y0]; decide) (u0 k hk)) gy3 (hE2.g y0 (by decide)) (by decide)
  have y0 := hE2.g y0 (by decide)
  refine w_t (np := 43) (l2 := [some (eR a0)]) (s2 := [eR a0]) rfl (s_an rfl (h3.pos gy3 (by decide))) rfl ?_
  refine w_t (np := 44) (l2 := [some (eR a0)]) (s2 := [eR a0, eR a0]) rfl (s_an rfl (h3.pos gy3 (by decide))) rfl ?_
  refine w_gf (np := 47) (v := eR q3) rfl rfl (h3.kd gy3 (by decide) (n := 8) rfl) (by rw [e3]; rfl) ?_
  refine w_t (np := 50) (l2 := [some (eR a0)]) (s2 := [eI (1780), eR q3, eR a0]) rfl rfl rfl ?_
  refine w_cu (np := 53) (as := [eR q3, eI (1780)]) (l2 := [some (eR q3), some (eI (1780)), none]) (rest := [eR a0]) rfl rfl rfl (Nat.ble_eq.mp rfl) rfl rfl rfl rfl ?_
  refine s_co6 h3 (by rw [gy3]; decide) (by rw [gy3]; decide) c3_3 ?_
  intro r3 g4 m3 k3 hE3 hr3 hF3 hc3
  show ex_q (dt_fg L ρ) rc (d + 2, (17, 53, [some (eR a0)], [eR r3, eR a0]), f :: F, m3)
  have gy4 : g4 a0 = 7 := hE3.g gy3 (by decide)
  refine k_pf (np := 56) (w := ((r3 : Nat) : Int)) rfl rfl (k3.kd gy4 (by decide) (n := 8) rfl) rfl ?_
  intro w3 W3
  have h4 := k3.put gy4 W3 (hO_r (b := r3) rfl (by rw [hr3]; rfl) (fun q => absurd q (by rw [hr3]; decide)))
  have F_4 : Fr l_17 4 6230 g μ w3 := (F_3.pe hP3 hF3).w W3 gA0 rfl
  have hP4 := hP3.t hE3.p
  have c0_4 : g4 q0 = 3 := hE3.g c0_3 (by decide)
  have c1_4 : g4 q1 = 4 := hE3.g c1_3 (by decide)
  have c2_4 : g4 q2 = 5 := hE3.g c2_3 (by decide)
  have c3_4 : g4 q3 = 6 := hE3.g c3_3 (by decide)
  have t0 := W3.slot (SH.same hF3 rfl (by rw [gy3]; decide) t0) (by decide : 0 ≠ 3)
  have u0 : ∀ k, k < 50 → w3.1 r0 k = μ.1 q0 k := fun k hk => W3.addr (SH.same hF3 rfl (by rw [y0]; decide) (u0 k hk)) gy4 (hE3.g y0 (by decide)) (by decide)
  have y0 := hE3.g y0 (by decide)
  exact v_rv rfl rfl (K g4 w3 q0 r0 hP4 h4.out F_4 gy4 eK t0 u0 b0 y0 (fun a ha hn => ((((hE0.t hE1).t hE2).t hE3).2 a (by rw [he a hn]; exact ha)).trans (he a hn)))
