/-! depthOf, comes -/
theorem s_12 {L : Nat} {ρ : Nat → Int} {rc : eQ} {d : Nat} {f : eFr} {F : List eFr} {μ : eM} {g : Nat → Nat} {a0 : Nat} {a1 a2 : Int} (hI : SI g μ) (gA0 : g a0 = 48) (bA1 : 0 ≤ a1 ∧ a1 ≤ 3) (bA2 : -2147483648 ≤ a2 ∧ a2 ≤ 2147483647) (hT : (∃ t : Nat, μ.1 a0 3 = (t : Int) ∧ g t = 42) ∨ ∃ r : Nat, μ.1 a0 2 = (r : Int) ∧ ∀ j : Nat, j < 4 → μ.1 r j = -1) (K : ∀ (g2 : Nat → Nat) (μ2 : eM) (v : Int) (c s : Nat), GP g g2 → SI g2 μ2 → Fr l_14 c s g μ μ2 → c ≤ 240 → (s ≤ 7766 ∨ μ.1 a0 3 = 0 ∧ s ≤ 19166) → (-2147483648 ≤ v ∧ v ≤ 2147483647) → (∃ t : Nat, μ2.1 a0 3 = (t : Int) ∧ g2 t = 42) → ex_q (dt_fg L ρ) rc (d + 8, (f.1, f.2.1, f.2.2.1, eI v :: f.2.2.2), F, μ2)) : ex_q (dt_fg L ρ) rc (d + 7, (12, 0, [some (eR a0), some (eI (a1)), some (eI (a2)), none], []), f :: F, μ) := by
  have pa := pos_g hI gA0 (by decide)
  obtain ⟨r, er, br, zr⟩ := hI.ref (k := 2) gA0 (by decide) (n := 4) rfl (by decide) rfl
  have br : g r = 51 := Nat.eq_of_beq_eq_true br
  refine w_t (np := 1) (l2 := [some (eR a0), some (eI (a1)), some (eI (a2)), none]) (s2 := [eI (a1)]) rfl rfl rfl ?_
  refine b_ilt (t1 := 9) (t2 := 4) rfl rfl rfl (ev_w_in (by omega) (by omega)) (fun z => False.elim (by omega)) (fun _ => ?_)
  refine w_t (np := 5) (l2 := [some (eR a0), some (eI (a1)), some (eI (a2)), none]) (s2 := [eI (a1)]) rfl rfl rfl ?_
  refine w_t (np := 6) (l2 := [some (eR a0), some (eI (a1)), some (eI (a2)), none]) (s2 := [eI (3), eI (a1)]) rfl rfl rfl ?_
  refine b_cle (t1 := 11) (t2 := 9) rfl rfl rfl (ev_w_in (by omega) (by omega)) rfl (fun _ => ?_) (fun z => False.elim (by omega))
  refine w_t (np := 12) (l2 := [some (eR a0), some (eI (a1)), some (eI (a2)), none]) (s2 := [eR a0]) rfl (s_an rfl pa) rfl ?_
  refine w_gf (np := 15) (v := eR r) rfl rfl (hI.kd gA0 (by decide) (n := 4) rfl) (by rw [er]; rfl) ?_
  refine w_t (np := 16) (l2 := [some (eR a0), some (eI (a1)), some (eI (a2)), none]) (s2 := [eI (a1), eR r]) rfl rfl rfl ?_
  refine j_al (np := 17) rfl rfl hI br (by decide) (n := 4) rfl rfl (lo := -1) (hi := 64) (fun _ => rfl) (by omega) (by omega) ?_
  intro v ev bv
  refine b_ige (t1 := 25) (t2 := 20) rfl rfl rfl (ev_w_in (by omega) (by omega)) (fun gv => ?_) (fun gv => ?_)
  · refine s_12t hI gA0 bA1 bA2 (fun w bw => K g μ w 0 0 hI.re.p hI Fr.r (by decide) (Or.inl (by decide)) bw ?_)
    rcases hT with h | ⟨r2, h2, h3⟩
    · exact h
    · have e2 : r2 = r := by rw [er] at h2; omega
      subst e2
      have h4 := h3 a1.toNat (by omega)
      rw [ev] at h4
      omega
  · refine w_t (np := 21) (l2 := [some (eR a0), some (eI (a1)), some (eI (a2)), none]) (s2 := [eR a0]) rfl (s_an rfl pa) rfl ?_
    refine w_t (np := 22) (l2 := [some (eR a0), some (eI (a1)), some (eI (a2)), none]) (s2 := [eI (a1), eR a0]) rfl rfl rfl ?_
    refine w_cw (np := 25) (as := [eI (a1)]) (l2 := [some (eR a0), some (eI (a1)), none, none]) (rest := []) rfl rfl rfl (Nat.ble_eq.mp rfl) rfl rfl rfl (hI.kd gA0 (by decide) (n := 4) rfl) rfl ?_
    have tail : ∀ (g2 : Nat → Nat) (μ2 : eM) (t c s : Nat), GP g g2 → SI g2 μ2 → Fr l_14 c s g μ μ2 → c ≤ 240 → (s ≤ 7766 ∨ μ.1 a0 3 = 0 ∧ s ≤ 19166) → μ2.1 a0 3 = (t : Int) → g2 t = 42 → ex_q (dt_fg L ρ) rc (d + 7, (12, 25, [some (eR a0), some (eI (a1)), some (eI (a2)), none], []), f :: F, μ2) := by
      intro g2 μ2 t c s P2 I2 F2 hc hs et ht
      exact s_12t I2 (P2.g gA0 (by decide) (by decide) (by decide)) bA1 bA2 (fun w bw => K g2 μ2 w c s P2 I2 F2 hc hs bw ⟨t, et, ht⟩)
    rcases (show a1 = 0 ∨ a1 = 1 ∨ a1 = 2 ∨ a1 = 3 by omega) with q | q | q | q
    · subst q
      exact s_14_0 hI gA0 (fun g2 μ2 t c s P2 I2 F2 hc hs et ht => tail g2 μ2 t c s P2 I2 F2 hc hs et ht)
    · subst q
      exact s_14_1 hI gA0 (fun g2 μ2 t c s P2 I2 F2 hc hs et ht => tail g2 μ2 t c s P2 I2 F2 hc hs et ht)
    · subst q
      exact s_14_2 hI gA0 (fun g2 μ2 t c s P2 I2 F2 hc hs et ht => tail g2 μ2 t c s P2 I2 F2 hc hs et ht)
    · subst q
      exact s_14_3 hI gA0 (fun g2 μ2 t c s P2 I2 F2 hc hs et ht => tail g2 μ2 t c s P2 I2 F2 hc hs et ht)
def l_184 : List Nat := [267, 270, 513, 514, 515, 516, 518, 519, 520, 768, 1024, 1280, 1536, 1798, 1799, 1800, 2048, 2304, 2560, 2816, 3073, 3074, 3075, 3328, 3584, 3843, 4096, 4352, 8968, 8969, 8970, 8971, 8972, 8973, 9216, 9472, 9728, 10760, 10761, 10762, 11008, 11264, 11520, 11776, 12032, 12292, 12544, 12800, 13056]
theorem l_184zp (k : Nat) (h : fc 7 k ∈ l_184) : fc 2 k ∈ l_184 := by
  have e : fc 7 k = 1793 + k % 255 := (if_neg (by decide)).trans (by omega)
  have e2 : fc 2 k = 513 + k % 255 := (if_neg (by decide)).trans (by omega)
  rw [e] at h
  rw [e2]
  unfold l_184 at h ⊢
  simp only [List.mem_cons, List.not_mem_nil, or_false] at h ⊢
  omega
theorem l_184zq (k : Nat) (h : fc 15 k ∈ l_184) : fc 12 k ∈ l_184 := by
  have e : fc 15 k = 3841 + k % 255 := (if_neg (by decide)).trans (by omega)
  have e2 : fc 12 k = 3073 + k % 255 := (if_neg (by decide)).trans (by omega)
  rw [e] at h
  rw [e2]
  unfold l_184 at h ⊢
  simp only [List.mem_cons, List.not_mem_nil, or_false] at h ⊢
  omega
/-- the trial stands where Firsts does -/
def HB (g : Nat → Nat) (μ : eM) (a0 : Nat) : Prop := μ.1 a0 10 = 0 ∨ ∃ fi t : Nat, μ.1 a0 10 = (fi : Int) ∧ g fi = 48 ∧ μ.1 fi 3 = (t : Int) ∧ g t = 42
theorem s_184 {L : Nat} {ρ : Nat → Int} {rc : eQ} {d : Nat} {f : eFr} {F : List eFr} {μ : eM} {g : Nat → Nat} {a0 : Nat} {a1 a2 : Int} (hI : SI g μ) (gA0 : g a0 = 1) (bA1 : -2147483648 ≤ a1 ∧ a1 ≤ 2147483647) (bA2 : -2147483648 ≤ a2 ∧ a2 ≤ 2147483647) (hB : HB g μ a0) (K : ∀ (g2 : Nat → Nat) (μ2 : eM) (v : Int) (c s : Nat), GP g g2 → SI g2 μ2 → Fr l_184 c s g μ μ2 → c ≤ 250 → (s ≤ 7766 ∧ (μ.1 a0 10 ≠ 0 → μ2.1 a0 10 ≠ 0) ∨ μ.1 a0 10 = 0 ∧ μ2.1 a0 10 ≠ 0 ∧ s ≤ 19700) → (-2147483648 ≤ v ∧ v ≤ 2147483647) → HB g2 μ2 a0 → ex_q (dt_fg L ρ) rc (d + 9, (f.1, f.2.1, f.2.2.1, eI v :: f.2.2.2), F, μ2)) : ex_q (dt_fg L ρ) rc (d + 8, (184, 0, [some (eR a0), some (eI (a1)), some (eI (a2))], []), f :: F, μ) := by
  have pa := pos_g hI gA0 (by decide)
  have no : ex_q (dt_fg L ρ) rc (d + 8, (184, 13, [some (eR a0), some (eI (a1)), some (eI (a2))], []), f :: F, μ) := by
    refine w_t (np := 14) (l2 := [some (eR a0), some (eI (a1)), some (eI (a2))]) (s2 := [eR a0]) rfl (s_an rfl pa) rfl ?_
    refine w_t (np := 15) (l2 := [some (eR a0), some (eI (a1)), some (eI (a2))]) (s2 := [eI (1), eR a0]) rfl rfl rfl ?_
    refine w_cw (np := 18) (as := [eI (1)]) (l2 := [some (eR a0), some (eI (1))]) (rest := []) rfl rfl rfl (Nat.ble_eq.mp rfl) rfl rfl rfl (hI.kd gA0 (by decide) (n := 14) rfl) rfl ?_
    refine s_205 (a1 := 1) hI gA0 (by decide) ?_
    intro μ5 w I5 F5 bw
    show ex_q (dt_fg L ρ) rc (d + 8, (184, 18, [some (eR a0), some (eI (a1)), some (eI (a2))], [eI w]), f :: F, μ5)
    refine b_ri rfl rfl (K g μ5 w _ _ hI.re.p I5 ((Fr.r (l := l_184)).t F5 rfl) (by decide) (Or.inl ⟨by decide, fun q => by rw [F5.k (v := μ.1 a0 10) rfl gA0 (by decide) rfl]; exact q⟩) bw ?_)
    rcases hB with h | ⟨fi, t, h1, h2, h3, h4⟩
    · exact Or.inl (F5.k h gA0 (by decide) rfl)
    · exact Or.inr ⟨fi, t, F5.k h1 gA0 (by decide) rfl, h2, F5.k h3 h2 (by decide) rfl, h4⟩
  refine w_t (np := 1) (l2 := [some (eR a0), some (eI (a1)), some (eI (a2))]) (s2 := [eI (a1)]) rfl rfl rfl ?_
  refine b_ilt (t1 := 13) (t2 := 4) rfl rfl rfl (ev_w_in (by omega) (by omega)) (fun _ => no) (fun g1 => ?_)
  refine w_t (np := 5) (l2 := [some (eR a0), some (eI (a1)), some (eI (a2))]) (s2 := [eI (a1)]) rfl rfl rfl ?_
  refine w_t (np := 6) (l2 := [some (eR a0), some (eI (a1)), some (eI (a2))]) (s2 := [eI (3), eI (a1)]) rfl rfl rfl ?_
  refine b_cgt (t1 := 13) (t2 := 9) rfl rfl rfl (ev_w_in (by omega) (by omega)) rfl (fun _ => no) (fun g2 => ?_)
  refine w_t (np := 10) (l2 := [some (eR a0), some (eI (a1)), some (eI (a2))]) (s2 := [eI (a2)]) rfl rfl rfl ?_
  refine b_ige (t1 := 19) (t2 := 13) rfl rfl rfl (ev_w_in (by omega) (by omega)) (fun _ => ?_) (fun _ => no)
  refine s_184p hI gA0 (by omega) bA2 ?_
  intro g3 μ3 fi c3 s3 E3 I3 F3 hfi ef hw
  have ha3 := E3.g gA0 (by decide)
  have pf := pos_g I3 hfi (by decide)
  show ex_q (dt_fg L ρ) rc (d + 8, (184, 37, [some (eR a0), some (eI (a1)), some (eI (a2))], []), f :: F, μ3)
  refine w_t (np := 38) (l2 := [some (eR a0), some (eI (a1)), some (eI (a2))]) (s2 := [eR a0]) rfl (s_an rfl pa) rfl ?_
  refine w_t (np := 39) (l2 := [some (eR a0), some (eI (a1)), some (eI (a2))]) (s2 := [eR a0, eR a0]) rfl (s_an rfl pa) rfl ?_
  refine w_gf (np := 42) (v := eR fi) rfl rfl (I3.kd ha3 (by decide) (n := 14) rfl) (by rw [ef]; rfl) ?_
  refine w_t (np := 43) (l2 := [some (eR a0), some (eI (a1)), some (eI (a2))]) (s2 := [eI (a1), eR fi, eR a0]) rfl rfl rfl ?_
  refine w_t (np := 44) (l2 := [some (eR a0), some (eI (a1)), some (eI (a2))]) (s2 := [eI (a2), eI (a1), eR fi, eR a0]) rfl rfl rfl ?_
  refine w_cw (np := 47) (as := [eI (a1), eI (a2)]) (l2 := [some (eR fi), some (eI (a1)), some (eI (a2)), none]) (rest := [eR a0]) rfl rfl rfl (Nat.ble_eq.mp rfl) rfl rfl rfl (I3.kd hfi (by decide) (n := 4) rfl) rfl ?_
  refine s_12 I3 hfi (by omega) bA2 ?_ ?_
  · rcases hw with ⟨h1, h2, -, -⟩ | ⟨h1, h2, h3, h4, h5⟩
    · subst h1
      subst h2
      rcases hB with h | ⟨fj, t, h3, h4, h5, h6⟩
      · rw [ef] at h
        omega
      · have e : fj = fi := by rw [ef] at h3; omega
        subst e
        exact Or.inl ⟨t, h5, h6⟩
    · exact Or.inr h5
  · intro g4 μ4 v c4 s4 P4 I4 F4 hc4 hs4 bv ⟨t, et, ht⟩
    show ex_q (dt_fg L ρ) rc (d + 8, (184, 47, [some (eR a0), some (eI (a1)), some (eI (a2))], [eI v, eR a0]), f :: F, μ4)
    have ha4 := P4.g ha3 (by decide) (by decide) (by decide)
    refine w_cw (np := 50) (as := [eI v]) (l2 := [some (eR a0), some (eI v)]) (rest := []) rfl rfl rfl (Nat.ble_eq.mp rfl) rfl rfl rfl (I4.kd ha4 (by decide) (n := 14) rfl) rfl ?_
    refine s_207 (a1 := v) I4 ha4 bv ?_
    intro μ5 w I5 F5 bw
    show ex_q (dt_fg L ρ) rc (d + 8, (184, 50, [some (eR a0), some (eI (a1)), some (eI (a2))], [eI w]), f :: F, μ5)
    have hfi4 := P4.g hfi (by decide) (by decide) (by decide)
    have ef5 := F5.k (F4.k ef ha3 (by decide) rfl) ha4 (by decide) rfl
    refine b_ri rfl rfl (K g4 μ5 w _ _ (E3.p.t P4) I5 ((((Fr.r (l := l_184)).t F3 rfl).p E3.p F4 rfl l_184zp l_184zq).p (E3.p.t P4) F5 rfl l_184zp l_184zq) ?_ ?_ bw (Or.inr ⟨fi, t, ef5, hfi4, F5.k et hfi4 (by decide) rfl, ht⟩))
    · rcases hw with ⟨-, -, h3, h4⟩ | ⟨-, h3, h4, -⟩ <;> omega
    · rcases hw with ⟨h1, h2, h3, h4⟩ | ⟨h1, h2, h3, h4, h5⟩
      · refine Or.inl ⟨?_, fun _ => by rw [ef5]; omega⟩
        rcases hs4 with q | ⟨q1, q2⟩
        · omega
        · exfalso
          subst h1
          subst h2
          rcases hB with h | ⟨fj, t2, h5, h6, h7, h8⟩
          · rw [ef] at h
            omega
          · have e : fj = fi := by rw [ef] at h5; omega
            subst e
            rw [q1] at h7
            have := pos_g hI h8 (by decide)
            omega
      · exact Or.inr ⟨h1, by rw [ef5]; omega, by rcases hs4 with q | q <;> omega⟩
