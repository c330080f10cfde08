/-! LAYS: its exact run, to its end -/
noncomputable def x_l0 (t : Lean.RArray Nat) : Bool := @Lean.RArray.rec Nat (fun _ => Bool) (fun x => Nat.beq x 0) (fun _ _ _ _ _ => false) t
theorem x_l0_ok {t : Lean.RArray Nat} (h : x_l0 t = true) : t = .leaf 0 := by
  cases t with
  | leaf x =>
    have h : Nat.beq x 0 = true := h
    rw [Nat.eq_of_beq_eq_true h]
  | branch p l r => cases (show false = true from h)
noncomputable def x_lf (t : Lean.RArray Nat) : Bool := @Lean.RArray.rec Nat (fun _ => Bool) (fun _ => true) (fun _ _ _ _ _ => false) t
noncomputable def x_ln (t1 t2 : Lean.RArray Nat) (n : Nat) : Bool := @Nat.rec (fun _ => Bool) true (fun k ih => @Bool.rec (fun _ => Bool) (@Bool.rec (fun _ => Bool) false ih (Nat.beq (y_rg t1 k) (y_rg t2 k))) ih (Nat.beq (y_rg t1 k) 0)) n
theorem x_ln_ok {t1 t2 : Lean.RArray Nat} : ∀ n, x_ln t1 t2 n = true → ∀ k, k < n → y_rg t1 k = 0 ∨ y_rg t1 k = y_rg t2 k := by
  intro n
  induction n with
  | zero =>
    intro _ k hk
    omega
  | succ n ih =>
    intro h k hk
    have h : @Bool.rec (fun _ => Bool) (@Bool.rec (fun _ => Bool) false (x_ln t1 t2 n) (Nat.beq (y_rg t1 n) (y_rg t2 n))) (x_ln t1 t2 n) (Nat.beq (y_rg t1 n) 0) = true := h
    cases hq : Nat.beq (y_rg t1 n) 0 with
    | true =>
      rw [hq] at h
      by_cases hk2 : k = n
      · rw [hk2]
        exact Or.inl (Nat.eq_of_beq_eq_true hq)
      · exact ih h k (by omega)
    | false =>
      rw [hq] at h
      have h : @Bool.rec (fun _ => Bool) false (x_ln t1 t2 n) (Nat.beq (y_rg t1 n) (y_rg t2 n)) = true := h
      cases hq2 : Nat.beq (y_rg t1 n) (y_rg t2 n) with
      | false =>
        rw [hq2] at h
        cases h
      | true =>
        rw [hq2] at h
        by_cases hk2 : k = n
        · rw [hk2]
          exact Or.inr (Nat.eq_of_beq_eq_true hq2)
        · exact ih h k (by omega)
noncomputable def x_c1 (c1 c2 : yC) : Bool := z_if (Nat.beq c1.1 104) (f_if false (Nat.beq c1.2.1 0) (x_l0 c1.2.2)) (z_if (Nat.beq c1.1 11) (f_if false (Nat.beq c2.1 11) (f_if false (Nat.beq c2.2.1 c1.2.1) (f_if false (Nat.ble c1.2.1 256) (f_if false (x_lf c1.2.2) (x_ln c1.2.2 c2.2.2 256))))) (y_cs c1 c2))
theorem x_c1_ok {c1 c2 : yC} {f : Nat → Int} (h : x_c1 c1 c2 = true) (hr : c2 = xD ∨ y_row c2.1 c2.2.1 c2.2.2 f) : c1 = xD ∨ (c2 ≠ xD ∧ c1.1 = c2.1 ∧ c1.2.1 = c2.2.1 ∧ y_row c1.1 c1.2.1 c1.2.2 f) := by
  obtain ⟨k1, n1, t1⟩ := c1
  obtain ⟨k2, n2, t2⟩ := c2
  rcases z_if_t h with ⟨g1, h⟩ | ⟨g1, h⟩
  · have g1 := Nat.eq_of_beq_eq_true g1
    obtain ⟨g2, h⟩ := f_if_ok h
    have g2 := Nat.eq_of_beq_eq_true g2
    have g3 := x_l0_ok h
    have g1 : k1 = 104 := g1
    have g2 : n1 = 0 := g2
    have g3 : t1 = .leaf 0 := g3
    subst g1
    subst g2
    subst g3
    exact Or.inl rfl
  · have g1 : k1 ≠ 104 := z_bne g1
    rcases z_if_t h with ⟨g2, h⟩ | ⟨g2, h⟩
    · obtain ⟨g3, h⟩ := f_if_ok h
      obtain ⟨g4, h⟩ := f_if_ok h
      obtain ⟨g5, h⟩ := f_if_ok h
      obtain ⟨g6, h⟩ := f_if_ok h
      have e2 : k1 = 11 := Nat.eq_of_beq_eq_true g2
      have e3 : k2 = 11 := Nat.eq_of_beq_eq_true g3
      have e4 : n2 = n1 := Nat.eq_of_beq_eq_true g4
      have e5 : n1 ≤ 256 := Nat.ble_eq.mp g5
      subst e2
      subst e3
      subst e4
      have hne : ((11, n2, t2) : yC) ≠ xD := fun q => by
        have e : (11 : Nat) = 104 := congrArg Prod.fst q
        omega
      have hrow := hr.resolve_left hne
      obtain ⟨d, p1, p2, p3, p4⟩ := hrow
      refine Or.inr ⟨hne, rfl, rfl, ?_⟩
      cases t1 with
      | branch p l r => cases (show false = true from g6)
      | leaf x =>
        refine ⟨0, True.intro, by omega, p3, fun k c hk hc => ?_⟩
        have hk : k < 256 := by omega
        have hp : 0 < 2 ^ d := Nat.pow_pos (by decide)
        rcases x_ln_ok 256 h k hk with e | e
        · have hc : y_rg (.leaf x) k = c + 1 := hc
          have e : y_rg (.leaf x) k = 0 := e
          omega
        · have hc : y_rg (.leaf x) k = c + 1 := hc
          have e : y_rg (.leaf x) k = y_rg t2 k := e
          exact p4 k c (by omega) (by rw [← e]; exact hc)
    · have hk : k1 = k2 := by
        obtain ⟨q1, -⟩ := f_if_ok (show f_if false (Nat.beq k1 k2) (f_if false (Nat.beq n1 n2) (y_ts t1 t2)) = true from h)
        exact Nat.eq_of_beq_eq_true q1
      have hne : ((k2, n2, t2) : yC) ≠ xD := fun q => by
        have e : k2 = 104 := congrArg Prod.fst q
        omega
      obtain ⟨b1, b2, b3⟩ := y_cs_ok h (hr.resolve_left hne)
      exact Or.inr ⟨hne, b1, b2, b3⟩
noncomputable def x_sb1 (T1 T2 : nC7) (n : Nat) : Bool := @Nat.rec (fun _ => Bool) true (fun j ih => @Bool.rec (fun _ => Bool) false ih (x_c1 (n_get T1 j) (n_get T2 j))) n
theorem x_sb1_ok {T1 T2 : nC7} : ∀ n, x_sb1 T1 T2 n = true → ∀ j, j < n → x_c1 (n_get T1 j) (n_get T2 j) = true := by
  intro n
  induction n with
  | zero =>
    intro _ j hj
    omega
  | succ n ih =>
    intro h j hj
    have h : @Bool.rec (fun _ => Bool) false (x_sb1 T1 T2 n) (x_c1 (n_get T1 n) (n_get T2 n)) = true := h
    cases hq : x_c1 (n_get T1 n) (n_get T2 n) with
    | false =>
      rw [hq] at h
      exact absurd h Bool.false_ne_true
    | true =>
      rw [hq] at h
      by_cases hjn : j = n
      · rw [hjn]
        exact hq
      · exact ih h j (by omega)
/-- what M2 knows is all that pk knows, and more -/
noncomputable def x_sub (M2 pk : yM) : Bool := f_if false (Nat.ble pk.2.1 M2.2.1) (x_sb1 pk.1 M2.1 pk.2.1)
theorem x_sub_ok {M2 pk : yM} {μ : eM} (h : x_sub M2 pk = true) (hR : xR M2 μ) : xR pk μ := by
  obtain ⟨g1, h⟩ := f_if_ok h
  have g1 := Nat.ble_eq.mp g1
  refine ⟨by have := hR.1; omega, fun j hj => ?_⟩
  have h1 := x_sb1_ok _ h j hj
  have h2 := hR.2 j (by omega)
  rcases x_c1_ok (f := μ.1 (j + 64)) h1 (h2.imp id And.right) with e | ⟨e, e1, e2, e3⟩
  · exact Or.inl e
  · have h3 := (h2.resolve_left e).1
    rw [e1, e2] at e3 ⊢
    exact Or.inr ⟨h3, e3⟩
/-- known things are kept where they are not written -/
theorem xR.fr {pk : yM} {μ m : eM} (h : xR pk μ) (h2 : ∀ j q, j < pk.2.1 → μ.2.1[j]? = some q → m.2.1[j]? = some q) (h1 : ∀ j k c, j < pk.2.1 → k < 256 * 2 ^ 6 → y_rg (n_get pk.1 j).2.2 k = c + 1 → m.1 (j + 64) k = μ.1 (j + 64) k) (h6 : ∀ j, j < pk.2.1 → ∀ d, y_pf d (n_get pk.1 j).2.2 → d ≤ 6) : xR pk m := by
  refine ⟨h.1, fun j hj => ?_⟩
  rcases h.2 j hj with e | ⟨e1, d, p1, p2, p3, p4⟩
  · exact Or.inl e
  · refine Or.inr ⟨h2 j _ hj e1, d, p1, p2, p3, fun k c hk hc => ?_⟩
    have hd := h6 j hj d p1
    have hle : 2 ^ d ≤ 2 ^ 6 := Nat.pow_le_pow_right (by decide) hd
    rw [h1 j k c hj (by omega) hc]
    exact p4 k c hk hc
theorem h_it_r {p κ : Nat → Int} {i n : Nat} : ∀ (t j : Nat) (m : Int), j + t ≤ n → (m = -1 ∨ ∃ q : Nat, q < n ∧ m = (q : Int) ∧ hC p κ i q = true) → (h_it p κ i t j m = -1 ∨ ∃ q : Nat, q < n ∧ h_it p κ i t j m = (q : Int) ∧ hC p κ i q = true) := by
  intro t
  induction t with
  | zero =>
    intro j m _ h
    exact h
  | succ t ih =>
    intro j m hj h
    refine ih (j + 1) _ (by omega) ?_
    split
    · exact h
    · unfold h_nx
      split
      · rename_i hc
        exact Or.inr ⟨j, by omega, rfl, hc.2⟩
      · exact h
noncomputable def x_K (q : Nat) (pk : yM) : Nat → yM → Bool := fun a3 M => f_if false (Nat.beq a3 0) (f_if false (x_ck M) (f_if false (x_cl q M) (q_ho M fun M1 => x_sub M1 pk)))
def l_239b : List Nat := 13348 :: l_239
/-- behind holds: what it has written -/
theorem x_holds {μ m : eM} {g : Nat → Nat} {n : Nat} {p κ : Nat → Int} (hI : SI g μ) (hP : PA g) (k1 : hM n p κ μ) (m1 : hT n μ m) (m3 : ∀ k, 0 ≤ k → k < n → m.1 113 k = h_it p κ k n 0 (-1)) (m4 : ∀ k, n ≤ k → m.1 113 k = μ.1 113 k) (hl : ∀ k : Nat, (k : Int) < μ.1 98 8 → μ.1 114 k = -1 ∧ μ.1 115 k = -1) : SI g m ∧ Fr [17152, 17408, 17664] 0 0 g μ m ∧ MT g m ∧ LB g m := by
  obtain ⟨w1, w2, w3⟩ := m1
  have hn := k1.1
  have g113 : g 113 = 67 := hP 49 (by omega) (by omega)
  have g114 : g 114 = 68 := hP 50 (by omega) (by omega)
  have g115 : g 115 = 69 := hP 51 (by omega) (by omega)
  have n8 : μ.1 98 8 = (n : Int) := k1.2.2.1.1
  have e98 : m.1 98 = μ.1 98 := w2 98 (by decide) (by decide) (by decide)
  have e110 : m.1 110 = μ.1 110 := w2 110 (by decide) (by decide) (by decide)
  have e2 : ∀ a, ev_kn m a = ev_kn μ a := fun a => by
    unfold ev_kn
    rw [w1]
  have hmt : ∀ k, k < n → m.1 113 k = -1 ∨ ∃ q : Nat, q < n ∧ m.1 113 k = (q : Int) ∧ hC p κ k q = true := fun k hk => by
    rw [m3 k (Nat.zero_le k) hk]
    exact h_it_r n 0 (-1) (by omega) (Or.inl rfl)
  have hbc : ∀ a k, a = 114 ∨ a = 115 → k < n → -1 ≤ m.1 a k ∧ m.1 a k < (n : Int) := fun a k ha hk => by
    rcases w3 a k ha with e | e
    · have := hl k (by omega)
      rcases ha with rfl | rfl
      · rw [e, this.1]
        omega
      · rw [e, this.2]
        omega
    · omega
  have hbd : ∀ a k, a = 114 ∨ a = 115 → ¬ k < n → m.1 a k = μ.1 a k := fun a k ha hk => by
    rcases w3 a k ha with e | e
    · exact e
    · omega
  refine ⟨⟨hI.1, fun a ha => by rw [e2]; exact hI.2.1 a ha, fun a k ha hk => ?_, hI.2.2.2⟩, ⟨by rw [w1]; exact Nat.le_refl _, by rw [w1]; exact Nat.le_refl _, fun a k ha hk => ?_⟩, fun a po mt ha hpo hmt2 i hi h0 => ?_, fun a lb lc ha hlb hlc i hi => ?_⟩
  · by_cases h3 : a = 113
    · subst h3
      by_cases hkn : k < n
      · rw [g113]
        show -1 ≤ m.1 113 k ∧ m.1 113 k ≤ 889
        rcases hmt k hkn with e | ⟨q, q1, q2, -⟩
        · omega
        · omega
      · rw [m4 k (by omega)]
        exact hI.2.2.1 113 k ha hk
    · by_cases h4 : a = 114
      · subst h4
        by_cases hkn : k < n
        · rw [g114]
          show -1 ≤ m.1 114 k ∧ m.1 114 k ≤ 889
          have := hbc 114 k (Or.inl rfl) hkn
          omega
        · rw [hbd 114 k (Or.inl rfl) hkn]
          exact hI.2.2.1 114 k ha hk
      · by_cases h5 : a = 115
        · subst h5
          by_cases hkn : k < n
          · rw [g115]
            show -1 ≤ m.1 115 k ∧ m.1 115 k ≤ 889
            have := hbc 115 k (Or.inr rfl) hkn
            omega
          · rw [hbd 115 k (Or.inr rfl) hkn]
            exact hI.2.2.1 115 k ha hk
        · rw [w2 a h3 h4 h5]
          exact hI.2.2.1 a k ha hk
  · have h3 : a ≠ 113 := fun q => by
      subst q
      rw [g113] at hk
      exact hk (by rw [fc_row rfl]; decide)
    have h4 : a ≠ 114 := fun q => by
      subst q
      rw [g114] at hk
      exact hk (by rw [fc_row rfl]; decide)
    have h5 : a ≠ 115 := fun q => by
      subst q
      rw [g115] at hk
      exact hk (by rw [fc_row rfl]; decide)
    rw [w2 a h3 h4 h5]
  · have q1 := hP.at hI (by decide) (by decide) ha
    have q2 := hP.at hI (by decide) (by decide) hpo
    have q3 := hP.at hI (by decide) (by decide) hmt2
    subst q1
    subst q2
    subst q3
    have hi : (i : Int) < m.1 98 8 := hi
    have h0 : 0 ≤ m.1 113 i := h0
    rw [e98, n8] at hi
    show m.1 113 i < m.1 98 8 ∧ m.1 110 (3 * (m.1 113 i).toNat + 1) = m.1 110 (3 * i + 1) ∧ m.1 110 (3 * (m.1 113 i).toNat + 2) = m.1 110 (3 * i + 2)
    rcases hmt i (by omega) with e | ⟨q, q1, q2, q3⟩
    · omega
    · have hp := k1.2.2.2.2.1
      unfold hC at q3
      rw [Bool.and_eq_true, Bool.and_eq_true, decide_eq_true_eq, decide_eq_true_eq, decide_eq_true_eq] at q3
      rw [q2, e98, n8, e110, Int.toNat_natCast, hp (3 * q + 1) (by omega), hp (3 * q + 2) (by omega), hp (3 * i + 1) (by omega), hp (3 * i + 2) (by omega)]
      exact ⟨by omega, q3.2.1.symm, q3.2.2.symm⟩
  · have q1 := hP.at hI (by decide) (by decide) ha
    have q2 := hP.at hI (by decide) (by decide) hlb
    have q3 := hP.at hI (by decide) (by decide) hlc
    subst q1
    subst q2
    subst q3
    have hi : (i : Int) < m.1 98 8 := hi
    rw [e98, n8] at hi
    show m.1 114 i < m.1 98 8 ∧ m.1 115 i < m.1 98 8
    rw [e98, n8]
    exact ⟨(hbc 114 i (Or.inl rfl) (by omega)).2, (hbc 115 i (Or.inr rfl) (by omega)).2⟩
theorem r_239 {L : Nat} {ρ : Nat → Int} {rc : eQ} {d : Nat} {f : eFr} {F : List eFr} {z : eM} {g : Nat → Nat} {s l q : Nat} {pk : yM} (hI : SI g z) (hP : PA g) (hck : mi_239 (x_K q pk) 98 s l mx0 (fun _ => false) = true) (K : ∀ m1 m, SI g m → Fr l_239b 0 0 g z m → LY g m → xR pk m1 → Wr m1 m 98 35 0 → m.1 98 35 = 0 → ex_q (dt_fg L ρ) rc (d + 6, (f.1, f.2.1, f.2.2.1, f.2.2.2), F, m)) : ex_q (dt_fg L ρ) rc (d + 5, (239, 0, [some (eR 98), some (eI (zI s)), some (eI (zI l)), none, none], []), f :: F, z) := by
  have h98 : g 98 = 52 := hP 34 (by omega) (by omega)
  refine mi_239_ok (μz := z) (y_T_ok L ρ) hck (mx0_ok hI hP) (hI.kd h98 (by decide) rfl) (by decide) ?_ (fun M μ h _ _ => absurd h Bool.false_ne_true)
  intro a3 x4 M μ h hQ hl
  obtain ⟨g1, h_1⟩ := f_if_ok h
  obtain ⟨g2, h_2⟩ := f_if_ok h_1
  obtain ⟨g3, h_3⟩ := f_if_ok h_2
  have e3 := Nat.eq_of_beq_eq_true g1
  subst e3
  obtain ⟨hI1, hF1⟩ := x_SI hQ hI hP g2
  have hM : M.2.1 = 72 := by
    unfold x_ck at g2
    exact Nat.eq_of_beq_eq_true (f_if_ok g2).1
  obtain ⟨l1, l2, l3, l4, l5⟩ := x_cl_ok hQ.1 hI1 hP hM g3
  obtain ⟨n, p, κ, k1, k2, k3⟩ := r_ho_ok h_3 hQ.1
  rw [show zI 0 = ((0 : Nat) : Int) from z_c0]
  refine h_out (n := n) (p := p) (κ := κ) n 0 μ x4 (by omega) k1 (fun k _ hk => k2 k hk) ?_
  intro μ1 x5 m1 m2 m3 m4
  obtain ⟨M1, h5, hR1⟩ := k3 μ1 m1 (fun k hk => m3 k (Nat.zero_le k) hk)
  obtain ⟨hI2, hF2, l6, l7⟩ := x_holds hI1 hP k1 m1 m3 m4 l5
  have hkd : ev_kd μ1 98 = some 11 := hI2.kd h98 (by decide) rfl
  refine w_s (np := 264) (lv' := [some (eR 98), some (eI (zI s)), some (eI (zI l)), some (eI (n : Int)), x5]) (st' := [eR 98]) rfl rfl rfl ?_
  refine w_s (np := 265) (lv' := [some (eR 98), some (eI (zI s)), some (eI (zI l)), some (eI (n : Int)), x5]) (st' := [eI (zI 0), eR 98]) rfl rfl rfl ?_
  refine v_pf1 (np := 268) rfl rfl hkd rfl ?_
  refine v_rv rfl rfl ?_
  have hW : Wr μ1 (ev_up μ1.1 98 35 (y_dec 1 0), μ1.2) 98 35 0 := rfl
  have hI3 := hI2.put h98 hW (by show (0 : Int) ≤ 0 ∧ (0 : Int) ≤ 1; omega)
  have hF3 : Fr [13348] 0 0 g μ1 (ev_up μ1.1 98 35 (y_dec 1 0), μ1.2) := Fr.f hW h98
  have hF12 : Fr l_239b 0 0 g z μ1 := (Fr.t (Fr.t (Fr.r (l := l_239b)) hF1 (by decide)) hF2 (by decide))
  refine K μ1 _ hI3 (Fr.t hF12 hF3 (by decide)) ⟨?_, ?_, ?_, ?_, ?_, ?_⟩ (x_sub_ok h5 hR1) hW hW.at
  · exact LG.fr (LG.fr l1 hF2 rfl) hF3 rfl
  · exact MT.fr l6 hF3 rfl
  · exact LB.fr l7 hF3 rfl
  · exact FS.fr (FS.fr l2 hF2 rfl) hF3 rfl
  · exact PO.fr (PO.fr l3 hF2 rfl) hF3 rfl
  · exact SP.fr (SP.fr l4 hF2 rfl) hF3 rfl
