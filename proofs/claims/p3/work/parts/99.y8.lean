/-! bringTo -/
def l_30 : List Nat := [513, 514, 515, 516, 518, 519, 520, 768, 1024, 1280, 1536, 1798, 1799, 1800, 2048, 2304, 2560, 2816, 3073, 3074, 3075, 3328, 3584, 3843, 4096, 4352]
theorem l_30p (k : Nat) (h : fc 7 k ∈ l_30) : fc 2 k ∈ l_30 := by
  have e : fc 7 k = 1793 + k % 255 := (if_neg (by decide)).trans (by omega)
  have e2 : fc 2 k = 513 + k % 255 := (if_neg (by decide)).trans (by omega)
  rw [e] at h
  rw [e2]
  unfold l_30 at h ⊢
  simp only [List.mem_cons, List.not_mem_nil, or_false] at h ⊢
  omega
theorem l_30q (k : Nat) (h : fc 15 k ∈ l_30) : fc 12 k ∈ l_30 := by
  have e : fc 15 k = 3841 + k % 255 := (if_neg (by decide)).trans (by omega)
  have e2 : fc 12 k = 3073 + k % 255 := (if_neg (by decide)).trans (by omega)
  rw [e] at h
  rw [e2]
  unfold l_30 at h ⊢
  simp only [List.mem_cons, List.not_mem_nil, or_false] at h ⊢
  omega
theorem s_30L {L : Nat} {ρ : Nat → Int} {rc : eQ} {d : Nat} {f : eFr} {F : List eFr} {μ : eM} {g : Nat → Nat} {a0 : Nat} {a1 : Int} (bA1 : 0 ≤ a1 ∧ a1 ≤ 5) (K : ∀ (g2 : Nat → Nat) (μ2 : eM) (c s : Nat), GP g g2 → SI g2 μ2 → Fr l_30 c s g μ μ2 → c ≤ 30 → s + PHI g2 μ2 a0 ≤ PHI g μ a0 → (g2 a0 = 2 ∨ g2 a0 = 7) → ex_q (dt_fg L ρ) rc (d + 6, (f.1, f.2.1, f.2.2.1, f.2.2.2), F, μ2)) : ∀ (n : Nat) (i : Int) (g1 : Nat → Nat) (μ1 : eM) (c s : Nat), GP g g1 → SI g1 μ1 → (g1 a0 = 2 ∨ g1 a0 = 7) → Fr l_30 c s g μ μ1 → (0 ≤ i ∧ i ≤ 5) → n = (5 - i).toNat → (c : Int) ≤ 6 * i → s + PHI g1 μ1 a0 ≤ PHI g μ a0 → ex_q (dt_fg L ρ) rc (d + 5, (30, 18, [some (eR a0), some (eI (a1)), some (eI (i))], []), f :: F, μ1) := by
  intro n
  induction n using Nat.strongRecOn with
  | _ n ih =>
  intro i g1 μ1 c s hP hI hreg hF bi hn hc hs
  have pa : 0 < a0 := by
    rcases hreg with h | h
    · exact pos_g hI h (by decide)
    · exact pos_g hI h (by decide)
  refine w_t (np := 19) (l2 := [some (eR a0), some (eI (a1)), some (eI (i))]) (s2 := [eI (i)]) rfl rfl rfl ?_
  refine w_t (np := 20) (l2 := [some (eR a0), some (eI (a1)), some (eI (i))]) (s2 := [eI (5), eI (i)]) rfl rfl rfl ?_
  refine b_cge (t1 := 41) (t2 := 23) rfl rfl rfl (ev_w_in (by omega) (by omega)) rfl (fun _ => v_rv rfl rfl (K g1 μ1 c s hP hI hF (by omega) hs hreg)) (fun g5 => ?_)
  refine w_t (np := 24) (l2 := [some (eR a0), some (eI (a1)), some (eI (i))]) (s2 := [eR a0]) rfl (s_an rfl pa) rfl ?_
  obtain ⟨de, ede, bde⟩ : ∃ de : Int, μ1.1 a0 6 = de ∧ 0 ≤ de ∧ de ≤ 5 := by
    rcases hreg with h | h
    · exact hI.pk (k := 6) h (by decide) (n := 8) rfl rfl (lo := 0) (hi := 5) rfl
    · exact hI.pk (k := 6) h (by decide) (n := 8) rfl rfl (lo := 0) (hi := 5) rfl
  have hkd : ev_kd μ1 a0 = some 2 := by
    rcases hreg with h | h
    · exact hI.kd h (by decide) (n := 8) rfl
    · exact hI.kd h (by decide) (n := 8) rfl
  refine w_gf (np := 27) (v := eI (de)) rfl rfl hkd (by rw [ede]; rfl) ?_
  refine w_t (np := 28) (l2 := [some (eR a0), some (eI (a1)), some (eI (i))]) (s2 := [eI (a1), eI (de)]) rfl rfl rfl ?_
  refine b_cge (t1 := 41) (t2 := 31) rfl rfl rfl (ev_w_in (by omega) (by omega)) (ev_w_in (by omega) (by omega)) (fun _ => v_rv rfl rfl (K g1 μ1 c s hP hI hF (by omega) hs hreg)) (fun g6 => ?_)
  refine w_t (np := 32) (l2 := [some (eR a0), some (eI (a1)), some (eI (i))]) (s2 := [eR a0]) rfl (s_an rfl pa) rfl ?_
  refine w_cw (np := 35) (as := []) (l2 := [some (eR a0), none, none, none]) (rest := []) rfl rfl rfl (Nat.ble_eq.mp rfl) rfl rfl rfl hkd rfl ?_
  have after : ∀ (g2 : Nat → Nat) (μ2 : eM) (c2 s2 : Nat), GP g1 g2 → SI g2 μ2 → Fr l_31 c2 s2 g1 μ1 μ2 → c2 ≤ 6 → s2 + PHI g2 μ2 a0 ≤ PHI g1 μ1 a0 → (g2 a0 = 2 ∨ g2 a0 = 7) → ex_q (dt_fg L ρ) rc (d + 5, (30, 35, [some (eR a0), some (eI (a1)), some (eI (i))], []), f :: F, μ2) := by
    intro g2 μ2 c2 s2 P2 I2 F2 hc2 hs2 hr2
    obtain ⟨i2, ei2⟩ : ∃ zz : Int, zz = (i) + (1) := ⟨_, rfl⟩
    refine w_t (np := 38) (l2 := [some (eR a0), some (eI (a1)), some (eI (i2))]) (s2 := []) rfl (b_iinc rfl (by rw [← ei2]; exact ev_w_in (by omega) (by omega)) rfl) rfl ?_
    refine w_go (t1 := 18) rfl rfl ?_
    exact ih (5 - i2).toNat (by omega) i2 g2 μ2 (c + c2) (s + s2) (hP.t P2) I2 hr2 (hF.p hP F2 rfl l_30p l_30q) (by omega) rfl (by omega) (by omega)
  rcases hreg with ga | ga
  · obtain ⟨p, ep, bp, zp⟩ := hI.ref (k := 4) ga (by decide) (n := 8) rfl (by decide) rfl
    rcases hor2 bp with bp | bp
    · exact s_31_ss hI ga ep bp ede (by omega) (fun g2 μ2 c2 s2 P2 I2 F2 hc2 hs2 hr2 => after g2 μ2 c2 s2 P2 I2 F2 hc2 hs2 hr2)
    · exact s_31_sb hI ga ep bp ede (by omega) (fun g2 μ2 c2 s2 P2 I2 F2 hc2 hs2 hr2 => after g2 μ2 c2 s2 P2 I2 F2 hc2 hs2 hr2)
  · obtain ⟨p, ep, bp, zp⟩ := hI.ref (k := 4) ga (by decide) (n := 8) rfl (by decide) rfl
    rcases hor2 bp with bp | bp
    · exact s_31_bs hI ga ep bp ede (by omega) (fun g2 μ2 c2 s2 P2 I2 F2 hc2 hs2 hr2 => after g2 μ2 c2 s2 P2 I2 F2 hc2 hs2 hr2)
    · exact s_31_bb hI ga ep bp ede (by omega) (fun g2 μ2 c2 s2 P2 I2 F2 hc2 hs2 hr2 => after g2 μ2 c2 s2 P2 I2 F2 hc2 hs2 hr2)
theorem s_30 {L : Nat} {ρ : Nat → Int} {rc : eQ} {d : Nat} {f : eFr} {F : List eFr} {μ : eM} {g : Nat → Nat} {a0 : Nat} {a1 : Int} (hI : SI g μ) (hreg : g a0 = 2 ∨ g a0 = 7) (bA1 : 0 ≤ a1 ∧ a1 ≤ 5) (K : ∀ (g2 : Nat → Nat) (μ2 : eM) (c s : Nat), GP g g2 → SI g2 μ2 → Fr l_30 c s g μ μ2 → c ≤ 30 → s + PHI g2 μ2 a0 ≤ PHI g μ a0 → (g2 a0 = 2 ∨ g2 a0 = 7) → ex_q (dt_fg L ρ) rc (d + 6, (f.1, f.2.1, f.2.2.1, f.2.2.2), F, μ2)) : ex_q (dt_fg L ρ) rc (d + 5, (30, 0, [some (eR a0), some (eI (a1)), none], []), f :: F, μ) := by
  have pa : 0 < a0 := by
    rcases hreg with h | h
    · exact pos_g hI h (by decide)
    · exact pos_g hI h (by decide)
  have hkd : ev_kd μ a0 = some 2 := by
    rcases hreg with h | h
    · exact hI.kd h (by decide) (n := 8) rfl
    · exact hI.kd h (by decide) (n := 8) rfl
  obtain ⟨de, ede, bde⟩ : ∃ de : Int, μ.1 a0 6 = de ∧ 0 ≤ de ∧ de ≤ 5 := by
    rcases hreg with h | h
    · exact hI.pk (k := 6) h (by decide) (n := 8) rfl rfl (lo := 0) (hi := 5) rfl
    · exact hI.pk (k := 6) h (by decide) (n := 8) rfl rfl (lo := 0) (hi := 5) rfl
  obtain ⟨ro, ero, bro⟩ : ∃ de : Int, μ.1 a0 5 = de ∧ 0 ≤ de ∧ de ≤ 3 := by
    rcases hreg with h | h
    · exact hI.pk (k := 5) h (by decide) (n := 8) rfl rfl (lo := 0) (hi := 3) rfl
    · exact hI.pk (k := 5) h (by decide) (n := 8) rfl rfl (lo := 0) (hi := 3) rfl
  have tail : ∀ μ1 : eM, SI g μ1 → Fr l_30 0 0 g μ μ1 → μ1.1 a0 4 = μ.1 a0 4 → ex_q (dt_fg L ρ) rc (d + 5, (30, 16, [some (eR a0), some (eI (a1)), none], []), f :: F, μ1) := by
    intro μ1 I1 F1 e4
    refine w_t (np := 17) (l2 := [some (eR a0), some (eI (a1)), none]) (s2 := [eI (0)]) rfl rfl rfl ?_
    refine w_t (np := 18) (l2 := [some (eR a0), some (eI (a1)), some (eI (0))]) (s2 := []) rfl rfl rfl ?_
    exact s_30L bA1 K 5 0 g μ1 0 0 hI.re.p I1 hreg F1 (by decide) rfl (by decide) (by unfold PHI; rw [e4]; omega)
  refine w_t (np := 1) (l2 := [some (eR a0), some (eI (a1)), none]) (s2 := [eI (a1)]) rfl rfl rfl ?_
  refine w_t (np := 2) (l2 := [some (eR a0), some (eI (a1)), none]) (s2 := [eR a0, eI (a1)]) rfl (s_an rfl pa) rfl ?_
  refine w_gf (np := 5) (v := eI (de)) rfl rfl hkd (by rw [ede]; rfl) ?_
  refine b_cge (t1 := 16) (t2 := 8) rfl rfl rfl (ev_w_in (by omega) (by omega)) (ev_w_in (by omega) (by omega)) (fun _ => tail μ hI Fr.r rfl) (fun _ => ?_)
  refine w_t (np := 9) (l2 := [some (eR a0), some (eI (a1)), none]) (s2 := [eR a0]) rfl (s_an rfl pa) rfl ?_
  refine w_t (np := 10) (l2 := [some (eR a0), some (eI (a1)), none]) (s2 := [eR a0, eR a0]) rfl (s_an rfl pa) rfl ?_
  refine w_gf (np := 13) (v := eI (ro)) rfl rfl hkd (by rw [ero]; rfl) ?_
  refine w_cw (np := 16) (as := [eI (ro)]) (l2 := [some (eR a0), some (eI (ro)), none]) (rest := []) rfl rfl rfl (Nat.ble_eq.mp rfl) rfl rfl rfl hkd rfl ?_
  rcases hreg with ga | ga
  · refine s_26 (a1 := ro) hI ga (by omega) rfl ?_
    intro m co2 I1 F1 _ _
    exact tail m I1 (Fr.r.t F1 rfl) (F1.k rfl ga (by decide) rfl)
  · refine s_26_2 (a1 := ro) hI ga (by omega) rfl ?_
    intro m co2 I1 F1 _ _
    exact tail m I1 (Fr.r.t F1 rfl) (F1.k rfl ga (by decide) rfl)
