/-! growAll -/
def l_47 : List Nat := [3073, 3074, 3328, 3584, 4096, 4352]
theorem l_47p (k : Nat) (h : fc 7 k ∈ l_47) : fc 2 k ∈ l_47 := by
  have e : fc 7 k = 1793 + k % 255 := (if_neg (by decide)).trans (by omega)
  have e2 : fc 2 k = 513 + k % 255 := (if_neg (by decide)).trans (by omega)
  rw [e] at h
  rw [e2]
  unfold l_47 at h ⊢
  simp only [List.mem_cons, List.not_mem_nil, or_false] at h ⊢
  omega
theorem l_47q (k : Nat) (h : fc 15 k ∈ l_47) : fc 12 k ∈ l_47 := by
  have e : fc 15 k = 3841 + k % 255 := (if_neg (by decide)).trans (by omega)
  have e2 : fc 12 k = 3073 + k % 255 := (if_neg (by decide)).trans (by omega)
  rw [e] at h
  rw [e2]
  unfold l_47 at h ⊢
  simp only [List.mem_cons, List.not_mem_nil, or_false] at h ⊢
  omega
theorem s_47 {L : Nat} {ρ : Nat → Int} {rc : eQ} {d : Nat} {f : eFr} {F : List eFr} {μ : eM} {g : Nat → Nat} {a0 : Nat} {a1 : Int} (hI : SI g μ) (gA0 : g a0 = 12) (bA1 : -2147483648 ≤ a1 ∧ a1 ≤ 2147483647) (K : ∀ (g2 : Nat → Nat) (μ2 : eM) (c s : Nat), GP g g2 → SI g2 μ2 → Fr l_47 c s g μ μ2 → (g2 a0 = 12 ∧ c = 0 ∧ s = 0 ∨ g2 a0 = 15 ∧ c = 2 ∧ s = 1536) → (∀ a, g a ≠ 0 → a ≠ a0 → g2 a = g a) → ex_q (dt_fg L ρ) rc (d + 3, (f.1, f.2.1, f.2.2.1, f.2.2.2), F, μ2)) : ex_q (dt_fg L ρ) rc (d + 2, (47, 0, [some (eR a0), some (eI (a1)), none], []), f :: F, μ) := by
  obtain ⟨q0, e0, b0, z0⟩ := hI.ref (k := 0) gA0 (by decide) (n := 3) rfl (by decide) rfl
  have b0 : g q0 = 13 := Nat.eq_of_beq_eq_true b0
  obtain ⟨q1, e1, b1, z1⟩ := hI.ref (k := 1) gA0 (by decide) (n := 3) rfl (by decide) rfl
  have b1 : g q1 = 14 := Nat.eq_of_beq_eq_true b1
  have pa := pos_g hI gA0 (by decide)
  have A : ex_q (dt_fg L ρ) rc (d + 2, (47, 48, [some (eR a0), some (eI (a1)), none], []), f :: F, μ) := by
    refine w_t (np := 49) (l2 := [some (eR a0), some (eI (a1)), none]) (s2 := [eR a0]) rfl (s_an rfl pa) rfl ?_
    refine w_gf (np := 52) (v := eR q1) rfl rfl (hI.kd gA0 (by decide) (n := 3) rfl) (by rw [e1]; rfl) ?_
    refine w_t (np := 53) (l2 := [some (eR a0), some (eI (a1)), none]) (s2 := [eI (0), eR q1]) rfl rfl rfl ?_
    refine w_cu (np := 56) (as := [eR q1, eI (0)]) (l2 := [some (eR q1), some (eI (0)), none, none]) (rest := []) rfl rfl rfl (Nat.ble_eq.mp rfl) rfl rfl rfl rfl ?_
    refine s_365 (a1 := 0) hI b1 (by decide) ?_
    intro m I1 F1
    show ex_q (dt_fg L ρ) rc (d + 2, (47, 56, [some (eR a0), some (eI (a1)), none], []), f :: F, m)
    exact s_47t I1 gA0 bA1 (fun μ2 I2 F2 => K g μ2 0 0 hI.re.p I2 (((Fr.r (l := l_47)).t F1 rfl).t F2 rfl) (Or.inl ⟨gA0, rfl, rfl⟩) (fun _ _ _ => rfl))
  refine w_t (np := 1) (l2 := [some (eR a0), some (eI (a1)), none]) (s2 := [eI (a1)]) rfl rfl rfl ?_
  refine w_t (np := 2) (l2 := [some (eR a0), some (eI (a1)), none]) (s2 := [eI (2), eI (a1)]) rfl rfl rfl ?_
  obtain ⟨v, ev, bv⟩ : ∃ zz : Int, ev_w ((a1) + (2)) = zz ∧ (-2147483648 ≤ zz ∧ zz ≤ 2147483647) := ⟨_, rfl, hw_bd _⟩
  refine w_t (np := 3) (l2 := [some (eR a0), some (eI (a1)), none]) (s2 := [eI (v)]) rfl (b_iadd ev) rfl ?_
  refine w_t (np := 4) (l2 := [some (eR a0), some (eI (a1)), none]) (s2 := [eR a0, eI (v)]) rfl (s_an rfl pa) rfl ?_
  refine w_gf (np := 7) (v := eR q0) rfl rfl (hI.kd gA0 (by decide) (n := 3) rfl) (by rw [e0]; rfl) ?_
  refine j_len (np := 8) rfl rfl hI b0 (by decide) (c := 101) (n := 64) rfl rfl rfl ?_
  rw [show ((64 : Nat) : Int) = 64 from rfl]
  refine b_cle (t1 := 48) (t2 := 11) rfl rfl rfl (ev_w_in (by omega) (by omega)) rfl (fun _ => A) (fun _ => ?_)
  refine w_t (np := 12) (l2 := [some (eR a0), some (eI (a1)), none]) (s2 := [eR a0]) rfl (s_an rfl pa) rfl ?_
  refine w_gf (np := 15) (v := eR q0) rfl rfl (hI.kd gA0 (by decide) (n := 3) rfl) (by rw [e0]; rfl) ?_
  refine j_len (np := 16) rfl rfl hI b0 (by decide) (c := 101) (n := 64) rfl rfl rfl ?_
  rw [show ((64 : Nat) : Int) = 64 from rfl]
  refine w_t (np := 19) (l2 := [some (eR a0), some (eI (a1)), none]) (s2 := [eI (512), eI (64)]) rfl rfl rfl ?_
  refine b_cge (t1 := 48) (t2 := 22) rfl rfl rfl rfl rfl (fun z => absurd z (by decide)) (fun _ => ?_)
  obtain ⟨hP, gx0, he⟩ := gs_q (x := a0) hI.1 gA0
  have h0 : SH [0, 1] a0 (gs g a0 15) μ := hI.sh gA0 (by decide) (by decide) (by decide) (by decide) rfl (ref_of rck_12) (fun k hk hn => by
    match k, hk, hn with
    | 0, _, hn => exact absurd (show 0 ∈ [0, 1] by decide) hn
    | 1, _, hn => exact absurd (show 1 ∈ [0, 1] by decide) hn
    | 2, _, _ => exact fun w h => ⟨h.1, Int.le_trans h.2 (by decide)⟩
    | k + 3, hk, _ => exact absurd (show k + 3 < 3 from hk) (by omega))
  have c0 : gs g a0 15 q0 = 13 := (he q0 (fun q => by rw [q, gA0] at b0; cases b0)).trans b0
  refine w_t (np := 23) (l2 := [some (eR a0), some (eI (a1)), none]) (s2 := [eR a0]) rfl (s_an rfl pa) rfl ?_
  refine w_t (np := 24) (l2 := [some (eR a0), some (eI (a1)), none]) (s2 := [eR a0, eR a0]) rfl (s_an rfl pa) rfl ?_
  refine w_gf (np := 27) (v := eR q0) rfl rfl (h0.kd gx0 (by decide) (n := 3) rfl) (by rw [e0]; rfl) ?_
  refine w_t (np := 30) (l2 := [some (eR a0), some (eI (a1)), none]) (s2 := [eI (512), eR q0, eR a0]) rfl rfl rfl ?_
  refine w_cu (np := 33) (as := [eR q0, eI (512)]) (l2 := [some (eR q0), some (eI (512)), none]) (rest := [eR a0]) rfl rfl rfl (Nat.ble_eq.mp rfl) rfl rfl rfl rfl ?_
  refine s_co13 h0 (by rw [gx0]; decide) (by rw [gx0]; decide) c0 ?_
  intro r0 g1 m0 k0 hE0 hr0 hF0 _
  show ex_q (dt_fg L ρ) rc (d + 2, (47, 33, [some (eR a0), some (eI (a1)), none], [eR r0, eR a0]), f :: F, m0)
  have gy1 : g1 a0 = 15 := hE0.g gx0 (by decide)
  refine k_pf (np := 36) (w := ((r0 : Nat) : Int)) rfl rfl (k0.kd gy1 (by decide) (n := 3) rfl) rfl ?_
  intro w0 W0
  have h1 := k0.put gy1 W0 (hO_r (b := r0) rfl (by rw [hr0]; rfl) (fun q => absurd q (by rw [hr0]; decide)))
  have F_1 : Fr l_47 1 512 g μ w0 := ((Fr.r (l := l_47)).pe hP hF0).w W0 gA0 rfl
  have hP1 := hP.t hE0.p
  refine w_t (np := 37) (l2 := [some (eR a0), some (eI (a1)), none]) (s2 := [eR a0]) rfl (s_an rfl pa) rfl ?_
  refine w_t (np := 40) (l2 := [some (eR a0), some (eI (a1)), none]) (s2 := [eI (1024), eR a0]) rfl rfl rfl ?_
  refine x_na (np := 42) (n := 1024) rfl rfl rfl ?_
  obtain ⟨g2, k1, hE1, hr1, hF1, _⟩ := h1.nw (ρ := 17) (c := 100) (n := 1024) (lo := 0) (hi := 512) rfl (by decide) (by decide) (fun _ => rfl) (by decide)
  generalize w0.2.1.length + 64 = r1 at hr1 ⊢
  generalize ev_nw w0 100 1024 = m1 at k1 hF1 ⊢
  have gy2 : g2 a0 = 15 := hE1.g gy1 (by decide)
  refine k_pf (np := 45) (w := ((r1 : Nat) : Int)) rfl rfl (k1.kd gy2 (by decide) (n := 3) rfl) rfl ?_
  intro w1 W1
  have h2 := (k1.put gy2 W1 (hO_r (b := r1) rfl (by rw [hr1]; rfl) (fun q => absurd q (by rw [hr1]; decide)))).out
  have F_2 : Fr l_47 2 1536 g μ w1 := (F_1.pe hP1 hF1).w W1 gA0 rfl
  have hP2 := hP1.t hE1.p
  refine w_go (t1 := 56) rfl rfl ?_
  exact s_47u h2 gy2 bA1 (fun μ2 I2 F2 => K g2 μ2 2 1536 hP2 I2 (F_2.p hP2 F2 rfl l_47p l_47q) (Or.inr ⟨gy2, rfl, rfl⟩) (fun a ha hn => ((hE0.t hE1).2 a (by rw [he a hn]; exact ha)).trans (he a hn)))
