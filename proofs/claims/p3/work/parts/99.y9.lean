/-! R.level -/
def l_157a : List Nat := [270]
theorem s_157a {L : Nat} {ρ : Nat → Int} {rc : eQ} {d : Nat} {f : eFr} {F : List eFr} {μ : eM} {g : Nat → Nat} {a0 : Nat} {a1 : Int} (hI : SI g μ) (gA0 : g a0 = 1) (bA1 : -2147483648 ≤ a1 ∧ a1 ≤ 2147483647) (K : ∀ (μ2 : eM) (v : Int), SI g μ2 → Fr l_157a 0 0 g μ μ2 → (-2147483648 ≤ v ∧ v ≤ 2147483647) → ex_q (dt_fg L ρ) rc (d + 2, (f.1, f.2.1, f.2.2.1, eI v :: f.2.2.2), F, μ2)) : ex_q (dt_fg L ρ) rc (d + 1, (157, 9, [some (eR a0), some (eI (a1))], []), f :: F, μ) := by
  have F0 : Fr l_157a 0 0 g μ μ := Fr.r
  refine w_t (np := 10) (l2 := [some (eR a0), some (eI (a1))]) (s2 := [eR a0]) rfl (s_an rfl (pos_g hI gA0 (by decide))) rfl ?_
  refine w_t (np := 11) (l2 := [some (eR a0), some (eI (a1))]) (s2 := [eI (1), eR a0]) rfl rfl rfl ?_
  refine w_cw (np := 14) (as := [eI (1)]) (l2 := [some (eR a0), some (eI (1))]) (rest := []) rfl rfl rfl (Nat.ble_eq.mp rfl) rfl rfl rfl (hI.kd gA0 (by decide) (n := 14) rfl) rfl ?_
  refine w_t (np := 1) (l2 := [some (eR a0), some (eI (1))]) (s2 := [eR a0]) rfl (s_an rfl (pos_g hI gA0 (by decide))) rfl ?_
  refine w_t (np := 2) (l2 := [some (eR a0), some (eI (1))]) (s2 := [eI (1), eR a0]) rfl rfl rfl ?_
  refine j_pf (np := 5) (w := 1) rfl rfl hI gA0 (by decide) (n := 14) rfl rfl (hO_i (lo := -2147483648) (hi := 2147483647) rfl (by decide)) ?_
  intro m1 I2 W3
  have F4 : Fr l_157a 0 0 g μ m1 := F0.w W3 gA0 rfl
  refine w_t (np := 6) (l2 := [some (eR a0), some (eI (1))]) (s2 := [eI (-1)]) rfl rfl rfl ?_
  refine b_ri rfl rfl ?_
  show ex_q (dt_fg L ρ) rc (d + 1, (157, 14, [some (eR a0), some (eI (a1))], [eI (-1)]), f :: F, m1)
  exact b_ri rfl rfl (K m1 (-1) I2 F4 (by decide))
def l_157t : List Nat := [268, 269, 270]
theorem s_157t {L : Nat} {ρ : Nat → Int} {rc : eQ} {d : Nat} {f : eFr} {F : List eFr} {μ : eM} {g : Nat → Nat} {a0 : Nat} {a1 : Int} (hI : SI g μ) (gA0 : g a0 = 1) (bA1 : -2147483648 ≤ a1 ∧ a1 ≤ 2147483647) (K : ∀ (μ2 : eM) (v : Int), SI g μ2 → Fr l_157t 0 0 g μ μ2 → (-2147483648 ≤ v ∧ v ≤ 2147483647) → ex_q (dt_fg L ρ) rc (d + 2, (f.1, f.2.1, f.2.2.1, eI v :: f.2.2.2), F, μ2)) : ex_q (dt_fg L ρ) rc (d + 1, (157, 23, [some (eR a0), some (eI (a1))], []), f :: F, μ) := by
  have F0 : Fr l_157t 0 0 g μ μ := Fr.r
  refine w_t (np := 24) (l2 := [some (eR a0), some (eI (a1))]) (s2 := [eR a0]) rfl (s_an rfl (pos_g hI gA0 (by decide))) rfl ?_
  refine w_cw (np := 27) (as := []) (l2 := [some (eR a0)]) (rest := []) rfl rfl rfl (Nat.ble_eq.mp rfl) rfl rfl rfl (hI.kd gA0 (by decide) (n := 14) rfl) rfl ?_
  refine w_t (np := 1) (l2 := [some (eR a0)]) (s2 := [eR a0]) rfl (s_an rfl (pos_g hI gA0 (by decide))) rfl ?_
  refine w_t (np := 2) (l2 := [some (eR a0)]) (s2 := [eI (0), eR a0]) rfl rfl rfl ?_
  refine j_pf (np := 5) (w := 0) rfl rfl hI gA0 (by decide) (n := 14) rfl rfl (hO_i (lo := 0) (hi := 1) rfl (by decide)) ?_
  intro m1 I2 W3
  have F4 : Fr l_157t 0 0 g μ m1 := F0.w W3 gA0 rfl
  refine w_t (np := 6) (l2 := [some (eR a0)]) (s2 := [eR a0]) rfl (s_an rfl (pos_g I2 gA0 (by decide))) rfl ?_
  refine w_t (np := 7) (l2 := [some (eR a0)]) (s2 := [eI (0), eR a0]) rfl rfl rfl ?_
  refine j_pf (np := 10) (w := 0) rfl rfl I2 gA0 (by decide) (n := 14) rfl rfl (hO_i (lo := 0) (hi := 1) rfl (by decide)) ?_
  intro m5 I6 W7
  have F8 : Fr l_157t 0 0 g μ m5 := F4.w W7 gA0 rfl
  refine v_rv rfl rfl ?_
  show ex_q (dt_fg L ρ) rc (d + 1, (157, 27, [some (eR a0), some (eI (a1))], []), f :: F, m5)
  refine w_t (np := 28) (l2 := [some (eR a0), some (eI (a1))]) (s2 := [eR a0]) rfl (s_an rfl (pos_g I6 gA0 (by decide))) rfl ?_
  refine w_t (np := 29) (l2 := [some (eR a0), some (eI (a1))]) (s2 := [eR a0, eR a0]) rfl (s_an rfl (pos_g I6 gA0 (by decide))) rfl ?_
  refine j_gr (np := 32) rfl rfl I6 gA0 (by decide) (n := 14) rfl rfl rfl ?_
  intro v9 e10 b11 z12
  rcases hor2 b11 with b11 | b11
  · refine j_gi (np := 35) rfl rfl rfl I6 b11 (by decide) (n := 8) rfl rfl (lo := 0) (hi := 50) rfl ?_
    intro v13 e14 b15
    refine w_cw (np := 38) (as := [eI (v13)]) (l2 := [some (eR a0), some (eI (v13))]) (rest := []) rfl rfl rfl (Nat.ble_eq.mp rfl) rfl rfl rfl (I6.kd gA0 (by decide) (n := 14) rfl) rfl ?_
    refine w_t (np := 1) (l2 := [some (eR a0), some (eI (v13))]) (s2 := [eR a0]) rfl (s_an rfl (pos_g I6 gA0 (by decide))) rfl ?_
    refine w_t (np := 2) (l2 := [some (eR a0), some (eI (v13))]) (s2 := [eI (0), eR a0]) rfl rfl rfl ?_
    refine j_pf (np := 5) (w := 0) rfl rfl I6 gA0 (by decide) (n := 14) rfl rfl (hO_i (lo := -2147483648) (hi := 2147483647) rfl (by decide)) ?_
    intro m16 I17 W18
    have F19 : Fr l_157t 0 0 g μ m16 := F8.w W18 gA0 rfl
    refine w_t (np := 6) (l2 := [some (eR a0), some (eI (v13))]) (s2 := [eI (v13)]) rfl rfl rfl ?_
    refine b_ri rfl rfl ?_
    show ex_q (dt_fg L ρ) rc (d + 1, (157, 38, [some (eR a0), some (eI (a1))], [eI (v13)]), f :: F, m16)
    exact b_ri rfl rfl (K m16 (v13) I17 F19 (by omega))
  · refine j_gi (np := 35) rfl rfl rfl I6 b11 (by decide) (n := 8) rfl rfl (lo := 0) (hi := 890) rfl ?_
    intro v13 e14 b15
    refine w_cw (np := 38) (as := [eI (v13)]) (l2 := [some (eR a0), some (eI (v13))]) (rest := []) rfl rfl rfl (Nat.ble_eq.mp rfl) rfl rfl rfl (I6.kd gA0 (by decide) (n := 14) rfl) rfl ?_
    refine w_t (np := 1) (l2 := [some (eR a0), some (eI (v13))]) (s2 := [eR a0]) rfl (s_an rfl (pos_g I6 gA0 (by decide))) rfl ?_
    refine w_t (np := 2) (l2 := [some (eR a0), some (eI (v13))]) (s2 := [eI (0), eR a0]) rfl rfl rfl ?_
    refine j_pf (np := 5) (w := 0) rfl rfl I6 gA0 (by decide) (n := 14) rfl rfl (hO_i (lo := -2147483648) (hi := 2147483647) rfl (by decide)) ?_
    intro m16 I17 W18
    have F19 : Fr l_157t 0 0 g μ m16 := F8.w W18 gA0 rfl
    refine w_t (np := 6) (l2 := [some (eR a0), some (eI (v13))]) (s2 := [eI (v13)]) rfl rfl rfl ?_
    refine b_ri rfl rfl ?_
    show ex_q (dt_fg L ρ) rc (d + 1, (157, 38, [some (eR a0), some (eI (a1))], [eI (v13)]), f :: F, m16)
    exact b_ri rfl rfl (K m16 (v13) I17 F19 (by omega))
def l_157 : List Nat := [268, 269, 270, 513, 514, 515, 516, 518, 519, 520, 768, 1024, 1280, 1536, 1798, 1799, 1800, 2048, 2304, 2560, 2816, 3073, 3074, 3075, 3328, 3584, 3843, 4096, 4352]
theorem l_157p (k : Nat) (h : fc 7 k ∈ l_157) : fc 2 k ∈ l_157 := by
  have e : fc 7 k = 1793 + k % 255 := (if_neg (by decide)).trans (by omega)
  have e2 : fc 2 k = 513 + k % 255 := (if_neg (by decide)).trans (by omega)
  rw [e] at h
  rw [e2]
  unfold l_157 at h ⊢
  simp only [List.mem_cons, List.not_mem_nil, or_false] at h ⊢
  omega
theorem l_157q (k : Nat) (h : fc 15 k ∈ l_157) : fc 12 k ∈ l_157 := by
  have e : fc 15 k = 3841 + k % 255 := (if_neg (by decide)).trans (by omega)
  have e2 : fc 12 k = 3073 + k % 255 := (if_neg (by decide)).trans (by omega)
  rw [e] at h
  rw [e2]
  unfold l_157 at h ⊢
  simp only [List.mem_cons, List.not_mem_nil, or_false] at h ⊢
  omega
theorem s_157 {L : Nat} {ρ : Nat → Int} {rc : eQ} {d : Nat} {f : eFr} {F : List eFr} {μ : eM} {g : Nat → Nat} {a0 : Nat} {a1 : Int} (hI : SI g μ) (gA0 : g a0 = 1) (bA1 : -2147483648 ≤ a1 ∧ a1 ≤ 2147483647) (K : ∀ (g2 : Nat → Nat) (μ2 : eM) (v : Int) (c s : Nat), GP g g2 → SI g2 μ2 → Fr l_157 c s g μ μ2 → c ≤ 30 → s ≤ 7766 → (-2147483648 ≤ v ∧ v ≤ 2147483647) → ex_q (dt_fg L ρ) rc (d + 7, (f.1, f.2.1, f.2.2.1, eI v :: f.2.2.2), F, μ2)) : ex_q (dt_fg L ρ) rc (d + 6, (157, 0, [some (eR a0), some (eI (a1))], []), f :: F, μ) := by
  have pa := pos_g hI gA0 (by decide)
  have no : ex_q (dt_fg L ρ) rc (d + 6, (157, 9, [some (eR a0), some (eI (a1))], []), f :: F, μ) := s_157a hI gA0 bA1 (fun μ2 v I2 F2 b => K g μ2 v 0 0 hI.re.p I2 ((Fr.r (l := l_157)).t F2 rfl) (by decide) (by decide) b)
  obtain ⟨p, ep, bp, zp⟩ := hI.ref (k := 0) gA0 (by decide) (n := 14) rfl (by decide) rfl
  have bp := hor2 bp
  refine w_t (np := 1) (l2 := [some (eR a0), some (eI (a1))]) (s2 := [eI (a1)]) rfl rfl rfl ?_
  refine b_ilt (t1 := 9) (t2 := 4) rfl rfl rfl (ev_w_in (by omega) (by omega)) (fun _ => no) (fun g1 => ?_)
  refine w_t (np := 5) (l2 := [some (eR a0), some (eI (a1))]) (s2 := [eI (a1)]) rfl rfl rfl ?_
  refine w_t (np := 6) (l2 := [some (eR a0), some (eI (a1))]) (s2 := [eI (5), eI (a1)]) rfl rfl rfl ?_
  refine b_cle (t1 := 15) (t2 := 9) rfl rfl rfl (ev_w_in (by omega) (by omega)) rfl (fun g2 => ?_) (fun _ => no)
  refine w_t (np := 16) (l2 := [some (eR a0), some (eI (a1))]) (s2 := [eR a0]) rfl (s_an rfl pa) rfl ?_
  refine w_gf (np := 19) (v := eR p) rfl rfl (hI.kd gA0 (by decide) (n := 14) rfl) (by rw [ep]; rfl) ?_
  refine w_t (np := 20) (l2 := [some (eR a0), some (eI (a1))]) (s2 := [eI (a1), eR p]) rfl rfl rfl ?_
  have hkd : ev_kd μ p = some 2 := by
    rcases bp with h | h
    · exact hI.kd h (by decide) (n := 8) rfl
    · exact hI.kd h (by decide) (n := 8) rfl
  refine w_cw (np := 23) (as := [eI (a1)]) (l2 := [some (eR p), some (eI (a1)), none]) (rest := []) rfl rfl rfl (Nat.ble_eq.mp rfl) rfl rfl rfl hkd rfl ?_
  refine s_30 hI bp (by omega) ?_
  intro g2 μ2 c s P2 I2 F2 hc hs hr
  show ex_q (dt_fg L ρ) rc (d + 6, (157, 23, [some (eR a0), some (eI (a1))], []), f :: F, μ2)
  have hphi : PHI g μ p ≤ 7766 := by
    unfold PHI
    split <;> split <;> omega
  exact s_157t I2 (P2.g gA0 (by decide) (by decide) (by decide)) bA1 (fun μ3 v I3 F3 b => K g2 μ3 v _ _ P2 I3 (((Fr.r (l := l_157)).t F2 rfl).p P2 F3 rfl l_157p l_157q) (by omega) (by omega) b)
