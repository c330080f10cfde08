/-! LAYS of START 0, LEVEL 5: in pieces -/
noncomputable def x_q1 (T1 T2 : nC7) (n : Nat) : Bool := @Nat.rec (fun _ => Bool) true (fun j ih => @Bool.rec (fun _ => Bool) false (@Bool.rec (fun _ => Bool) false ih (y_cs (n_get T1 j) (n_get T2 j))) (y_cs (n_get T2 j) (n_get T1 j))) n
theorem x_q1_ok {T1 T2 : nC7} : ∀ n, x_q1 T1 T2 n = true → ∀ j, j < n → y_cs (n_get T1 j) (n_get T2 j) = true ∧ y_cs (n_get T2 j) (n_get T1 j) = true := by
  intro n
  induction n with
  | zero =>
    intro _ j hj
    omega
  | succ n ih =>
    intro h j hj
    have h : @Bool.rec (fun _ => Bool) false (@Bool.rec (fun _ => Bool) false (x_q1 T1 T2 n) (y_cs (n_get T1 n) (n_get T2 n))) (y_cs (n_get T2 n) (n_get T1 n)) = true := h
    cases hq : y_cs (n_get T2 n) (n_get T1 n) with
    | false =>
      rw [hq] at h
      exact absurd h Bool.false_ne_true
    | true =>
      rw [hq] at h
      have h : @Bool.rec (fun _ => Bool) false (x_q1 T1 T2 n) (y_cs (n_get T1 n) (n_get T2 n)) = true := h
      cases hq2 : y_cs (n_get T1 n) (n_get T2 n) with
      | false =>
        rw [hq2] at h
        exact absurd h Bool.false_ne_true
      | true =>
        rw [hq2] at h
        by_cases hjn : j = n
        · rw [hjn]
          exact ⟨hq2, hq⟩
        · exact ih h j (by omega)
/-- the two know the same -/
noncomputable def x_eq (M A : yM) : Bool := f_if false (Nat.beq M.2.1 A.2.1) (x_q1 M.1 A.1 A.2.1)
theorem y_cs_parts {c1 c2 : yC} (h : y_cs c1 c2 = true) : c1.1 = c2.1 ∧ c1.2.1 = c2.2.1 ∧ y_ts c1.2.2 c2.2.2 = true := by
  obtain ⟨k1, n1, t1⟩ := c1
  obtain ⟨k2, n2, t2⟩ := c2
  obtain ⟨g1, h⟩ := f_if_ok (show f_if false (Nat.beq k1 k2) (f_if false (Nat.beq n1 n2) (y_ts t1 t2)) = true from h)
  obtain ⟨g2, h⟩ := f_if_ok h
  exact ⟨Nat.eq_of_beq_eq_true g1, Nat.eq_of_beq_eq_true g2, h⟩
theorem x_xD {c : yC} (h : y_cs c xD = true) : c = xD := by
  obtain ⟨k, n, t⟩ := c
  obtain ⟨h1, h2, h3⟩ := y_cs_parts h
  have h1 : k = 104 := h1
  have h2 : n = 0 := h2
  have h3 : y_ts t (.leaf 0) = true := h3
  subst h1
  subst h2
  cases t with
  | branch p l r => exact absurd h3 Bool.false_ne_true
  | leaf x =>
    have h3 : @Bool.rec (fun _ => Bool) (Nat.beq x 0) true (Nat.beq x 0) = true := h3
    have h4 : x = 0 := by
      cases hq : Nat.beq x 0 with
      | true => exact Nat.eq_of_beq_eq_true hq
      | false =>
        rw [hq] at h3
        cases h3
    subst h4
    rfl
theorem x_eq_ok {z μ : eM} {M A : yM} (h : x_eq M A = true) (hQ : xQ z M μ) : xQ z A μ := by
  obtain ⟨g1, h⟩ := f_if_ok h
  have g1 := Nat.eq_of_beq_eq_true g1
  have hA : xR A μ := by
    refine ⟨by have := hQ.1.1; omega, fun j hj => ?_⟩
    obtain ⟨h1, h2⟩ := x_q1_ok _ h j hj
    rcases hQ.1.2 j (by omega) with e | ⟨e1, e2⟩
    · rw [e] at h2
      exact Or.inl (x_xD h2)
    · obtain ⟨b1, b2, b3⟩ := y_cs_ok h2 e2
      refine Or.inr ⟨?_, b3⟩
      rw [b1, b2]
      exact e1
  refine ⟨hA, hQ.2.1, fun a k hk => hQ.2.2 a k fun j hj ha hn => ?_⟩
  obtain ⟨h1, h2⟩ := x_q1_ok _ h j (by omega)
  obtain ⟨e1, e2, e3⟩ := y_cs_parts h1
  have h3 := hk j (by omega) ha (by omega)
  rcases hA.2 j (by omega) with e | ⟨-, d, p1, -⟩
  · rw [e] at e2
    have e2 : (n_get M.1 j).2.1 = 0 := e2
    omega
  · have h4 := (y_ts_ok d _ _ e3 p1).2 (k / 256)
    show n_at (y_get (n_get M.1 j).2.2 (k / 256)) (k % 256) = 0
    rcases h4 with e | e
    · rw [e]
      exact q_lane0 _
    · rw [e]
      exact h3
noncomputable def xH (k : Nat) (H : yM) : Nat → yM → Bool := fun a M => f_if false (Nat.beq a k) (x_eq M H)
theorem xH_ok {k a : Nat} {H M : yM} {z μ : eM} (h : xH k H a M = true) (hQ : xQ z M μ) : a = k ∧ xQ z H μ := by
  obtain ⟨g1, h⟩ := f_if_ok h
  exact ⟨Nat.eq_of_beq_eq_true g1, x_eq_ok h hQ⟩
noncomputable def xo1 (r : Nat) (A B : yM) : Nat → yM → (yM → Bool) → Bool := fun a M K => f_if false (Nat.beq a r) (f_if false (x_eq M A) (K B))
theorem xo1_ok {r : Nat} {A B : yM} {a : Nat} {M : yM} {K : yM → Bool} {z μ : eM} (h : xo1 r A B a M K = true) (hQ : xQ z M μ) : a = r ∧ xQ z A μ ∧ K B = true := by
  obtain ⟨g1, h⟩ := f_if_ok h
  obtain ⟨g2, h⟩ := f_if_ok h
  exact ⟨Nat.eq_of_beq_eq_true g1, x_eq_ok g2 hQ, h⟩
theorem z_no1 {P : Prop} (h : false = true) : P := absurd h Bool.false_ne_true
/-- from holds on -/
theorem r_218 {L : Nat} {ρ : Nat → Int} {rc : eQ} {d : Nat} {f : eFr} {F : List eFr} {z μ : eM} {M : yM} {g : Nat → Nat} {s l q a3 : Nat} {x4 : Option eV} {pk : yM} (hI : SI g z) (hP : PA g) (h : x_K q pk a3 M = true) (hQ : xQ z M μ) (K : ∀ m1 m, SI g m → Fr l_239b 0 0 g z m → LY g m → xR pk m1 → Wr m1 m 98 35 0 → m.1 98 35 = 0 → ex_q (dt_fg L ρ) rc (d + 6, (f.1, f.2.1, f.2.2.1, f.2.2.2), F, m)) : ex_q (dt_fg L ρ) rc (d + 5, (239, 218, [some (eR 98), some (eI (zI s)), some (eI (zI l)), some (eI (zI a3)), x4], []), f :: F, μ) := by
  have h98 : g 98 = 52 := hP 34 (by omega) (by omega)
  obtain ⟨g1, h_1⟩ := f_if_ok h
  obtain ⟨g2, h_2⟩ := f_if_ok h_1
  obtain ⟨g3, h_3⟩ := f_if_ok h_2
  have e3 := Nat.eq_of_beq_eq_true g1
  subst e3
  obtain ⟨hI1, hF1⟩ := x_SI hQ hI hP g2
  have hM : M.2.1 = 72 := by
    unfold x_ck at g2
    exact Nat.eq_of_beq_eq_true (f_if_ok g2).1
  obtain ⟨l1, l2, l3, l4, l5⟩ := x_cl_ok hQ.1 hI1 hP hM g3
  obtain ⟨n, p, κ, k1, k2, k3⟩ := r_ho_ok h_3 hQ.1
  rw [show zI 0 = ((0 : Nat) : Int) from z_c0]
  refine h_out (n := n) (p := p) (κ := κ) n 0 μ x4 (by omega) k1 (fun k _ hk => k2 k hk) ?_
  intro μ1 x5 m1 m2 m3 m4
  obtain ⟨M1, h5, hR1⟩ := k3 μ1 m1 (fun k hk => m3 k (Nat.zero_le k) hk)
  obtain ⟨hI2, hF2, l6, l7⟩ := x_holds hI1 hP k1 m1 m3 m4 l5
  have hkd : ev_kd μ1 98 = some 11 := hI2.kd h98 (by decide) rfl
  refine w_s (np := 264) (lv' := [some (eR 98), some (eI (zI s)), some (eI (zI l)), some (eI (n : Int)), x5]) (st' := [eR 98]) rfl rfl rfl ?_
  refine w_s (np := 265) (lv' := [some (eR 98), some (eI (zI s)), some (eI (zI l)), some (eI (n : Int)), x5]) (st' := [eI (zI 0), eR 98]) rfl rfl rfl ?_
  refine v_pf1 (np := 268) rfl rfl hkd rfl ?_
  refine v_rv rfl rfl ?_
  have hW : Wr μ1 (ev_up μ1.1 98 35 (y_dec 1 0), μ1.2) 98 35 0 := rfl
  have hI3 := hI2.put h98 hW (by show (0 : Int) ≤ 0 ∧ (0 : Int) ≤ 1; omega)
  have hF3 : Fr [13348] 0 0 g μ1 (ev_up μ1.1 98 35 (y_dec 1 0), μ1.2) := Fr.f hW h98
  have hF12 : Fr l_239b 0 0 g z μ1 := (Fr.t (Fr.t (Fr.r (l := l_239b)) hF1 (by decide)) hF2 (by decide))
  refine K μ1 _ hI3 (Fr.t hF12 hF3 (by decide)) ⟨?_, ?_, ?_, ?_, ?_, ?_⟩ (x_sub_ok h5 hR1) hW hW.at
  · exact LG.fr (LG.fr l1 hF2 rfl) hF3 rfl
  · exact MT.fr l6 hF3 rfl
  · exact LB.fr l7 hF3 rfl
  · exact FS.fr (FS.fr l2 hF2 rfl) hF3 rfl
  · exact PO.fr (PO.fr l3 hF2 rfl) hF3 rfl
  · exact SP.fr (SP.fr l4 hF2 rfl) hF3 rfl
theorem r_05 {L : Nat} {ρ : Nat → Int} {rc : eQ} {d : Nat} {f : eFr} {F : List eFr} {z : eM} {g : Nat → Nat} {q : Nat} {pk A4 A5 P17 P190 A77 A218 : yM} (hI : SI g z) (hP : PA g)
  (c_e : mg_239 m_234 (mg_239_10r m_234 98 0 5 (fun _ => false) (fun _ _ => false) (fun _ _ => false) (fun _ _ => false) (fun M => x_eq M A4) 4) (fun _ _ => false) (fun _ _ => false) (fun _ _ => false) 98 0 5 mx0 (fun _ => false) = true)
  (c_pe : mg_234 (mg_234_17r 98 (fun _ => false) (fun _ _ => false) (xH 170 P17) 170) (fun _ _ => false) 98 A4 (fun _ => false) = true)
  (c_17 : mg_234_17r 98 (fun _ => false) (xH 0 P190) (fun _ _ => false) 1000 170 P17 = true)
  (c_190 : mg_234_190r 98 (fun M => x_eq M A5) (fun _ _ => false) (fun _ _ => false) 20000 0 P190 = true)
  (c_4 : mg_239_10r (xo1 98 A4 A5) 98 0 5 (fun _ => false) (xH 0 A77) (fun _ _ => false) (fun _ _ => false) (fun _ => false) 2 A4 = true)
  (c_77 : mg_239_77r m_234 98 0 5 (fun _ => false) (fun _ => false) (mg_239_135r m_234 98 0 5 (fun _ => false) (fun _ => false) (fun _ _ => false) (xH 0 A218) (fun _ _ => false) 5000) (fun _ _ => false) (fun _ _ => false) 5000 0 A77 = true)
  (c_K : x_K q pk 0 A218 = true)
  (K : ∀ m1 m, SI g m → Fr l_239b 0 0 g z m → LY g m → xR pk m1 → Wr m1 m 98 35 0 → m.1 98 35 = 0 → ex_q (dt_fg L ρ) rc (d + 6, (f.1, f.2.1, f.2.2.1, f.2.2.2), F, m)) : ex_q (dt_fg L ρ) rc (d + 5, (239, 0, [some (eR 98), some (eI (zI 0)), some (eI (zI 5)), none, none], []), f :: F, z) := by
  have h98 : g 98 = 52 := hP 34 (by omega) (by omega)
  have hk : ev_kd z 98 = some 11 := hI.kd h98 (by decide) rfl
  have p0 : 0 < 98 := by decide
  have hG := y_T_ok L ρ
  have hm : ∀ (d : Nat) (f : eFr) (F : List eFr) (b0 : Nat) (M : yM) (μ : eM) (K : yM → Bool), m_234 b0 M K = true → xQ z M μ → ev_kd μ b0 = some 11 → 0 < b0 → (∀ (M : yM) (μ2 : eM), K M = true → xQ z M μ2 → y_le μ μ2 → ex_q (dt_fg L ρ) rc (d + 5, (f.1, f.2.1, f.2.2.1, f.2.2.2), F, μ2)) → ex_q (dt_fg L ρ) rc (d + 4, (234, 0, [some (eR b0), none, none], []), f :: F, μ) := fun d f F b0 M μ K h hR hk p0 hK => m_234_ok hG h hR hk p0 hK
  have hm5 : ∀ (d : Nat) (f : eFr) (F : List eFr) (b0 : Nat) (M : yM) (μ : eM) (K : yM → Bool), xo1 98 A4 A5 b0 M K = true → xQ z M μ → ev_kd μ b0 = some 11 → 0 < b0 → (∀ (M : yM) (μ2 : eM), K M = true → xQ z M μ2 → y_le μ μ2 → ex_q (dt_fg L ρ) rc (d + 5, (f.1, f.2.1, f.2.2.1, f.2.2.2), F, μ2)) → ex_q (dt_fg L ρ) rc (d + 4, (234, 0, [some (eR b0), none, none], []), f :: F, μ) := by
    intro d f F b0 M μ K h hR hk p0 hK
    obtain ⟨g1, hA, hB⟩ := xo1_ok h hR
    rw [g1] at hk p0 ⊢
    refine mg_234_ok hG c_pe hA hk p0 (fun a1 x2 M1 μ1 q1 hR1 hl1 => ?_) (fun a1 x2 M1 μ1 q1 hR1 hl1 => z_no1 q1) (fun M2 μ2 q hR2 hl2 => z_no1 q)
    refine mg_234_17r_ok hG hk p0 (fun M2 μ2 q hR2 hl2 => z_no1 q) (fun a1 x2 M1 μ1 q1 hR1 hl1 => z_no1 q1) (fun a2 x3 M2 μ2 q2 hR2 hl2 => ?_) 170 a1 x2 M1 μ1 q1 hR1 hl1
    obtain ⟨e2, hA2⟩ := xH_ok q2 hR2
    rw [e2]
    refine mg_234_17r_ok hG hk p0 (fun M2 μ2 q hR2 hl2 => z_no1 q) (fun a3 x4 M3 μ3 q3 hR3 hl3 => ?_) (fun a3 x4 M3 μ3 q3 hR3 hl3 => z_no1 q3) 1000 170 x3 _ μ2 c_17 hA2 hl2
    obtain ⟨e3, hA3⟩ := xH_ok q3 hR3
    rw [e3]
    exact mg_234_190r_ok hG hk p0 (fun M4 μ4 q hR4 hl4 => hK _ μ4 hB (x_eq_ok q hR4) hl4) (fun a4 x5 M4 μ4 q hR4 hl4 => z_no1 q) (fun a4 x5 M4 μ4 q hR4 hl4 => z_no1 q) 20000 0 x4 _ μ3 c_190 hA3 hl3
  refine mg_239_ok hm hG c_e (mx0_ok hI hP) hk p0 (fun M1 μ1 q1 hR1 hl1 => ?_) (fun a1 M1 μ1 q1 hR1 hl1 => z_no1 q1) (fun a1 M1 μ1 q1 hR1 hl1 => z_no1 q1) (fun a1 x1 M1 μ1 q1 hR1 hl1 => z_no1 q1) (fun M2 μ2 q hR2 hl2 => z_no1 q)
  refine mg_239_10r_ok hm hG hk p0 (fun M2 μ2 q hR2 hl2 => z_no1 q) (fun a1 M1 μ1 q1 hR1 hl1 => z_no1 q1) (fun a1 M1 μ1 q1 hR1 hl1 => z_no1 q1) (fun a1 x1 M1 μ1 q1 hR1 hl1 => z_no1 q1) (fun M2 μ2 q2 hR2 hl2 => ?_) 4 M1 μ1 q1 hR1 hl1
  refine mg_239_10r_ok hm5 hG hk p0 (fun M3 μ3 q hR3 hl3 => z_no1 q) (fun a3 M3 μ3 q3 hR3 hl3 => ?_) (fun a3 M3 μ3 q3 hR3 hl3 => z_no1 q3) (fun a1 x1 M1 μ1 q1 hR1 hl1 => z_no1 q1) (fun M3 μ3 q3 hR3 hl3 => z_no1 q3) 2 _ μ2 c_4 (x_eq_ok q2 hR2) hl2
  obtain ⟨e3, hA3⟩ := xH_ok q3 hR3
  rw [e3]
  refine mg_239_77r_ok hm hG hk p0 (fun M4 μ4 q hR4 hl4 => z_no1 q) (fun M4 μ4 q4 hR4 hl4 => z_no1 q4) (fun a4 M4 μ4 q4 hR4 hl4 => ?_) (fun a1 x1 M1 μ1 q1 hR1 hl1 => z_no1 q1) (fun a4 M4 μ4 q4 hR4 hl4 => z_no1 q4) 5000 0 _ μ3 c_77 hA3 hl3
  exact mg_239_135r_ok hm hG hk p0 (fun M5 μ5 q hR5 hl5 => z_no1 q) (fun M5 μ5 q5 hR5 hl5 => z_no1 q5) (fun a5 M5 μ5 q5 hR5 hl5 => z_no1 q5) (fun a5 x5 M5 μ5 q5 hR5 hl5 => by
    obtain ⟨e5, hA5⟩ := xH_ok q5 hR5
    rw [e5]
    exact r_218 hI hP c_K hA5 K) (fun a5 M5 μ5 q5 hR5 hl5 => z_no1 q5) 5000 a4 M4 μ4 q4 hR4 hl4
theorem r_cut {L : Nat} {ρ : Nat → Int} {rc : eQ} {d : Nat} {f : eFr} {F : List eFr} {z : eM} {g : Nat → Nat} {s l n q : Nat} {pk A77 A218 : yM} (hI : SI g z) (hP : PA g)
  (c_e : mg_239 m_234 (mg_239_10r m_234 98 s l (fun _ => false) (xH 0 A77) (fun _ _ => false) (fun _ _ => false) (fun _ => false) n) (fun _ _ => false) (fun _ _ => false) (fun _ _ => false) 98 s l mx0 (fun _ => false) = true)
  (c_77 : mg_239_77r m_234 98 s l (fun _ => false) (fun _ => false) (mg_239_135r m_234 98 s l (fun _ => false) (fun _ => false) (fun _ _ => false) (xH 0 A218) (fun _ _ => false) 5000) (fun _ _ => false) (fun _ _ => false) 5000 0 A77 = true)
  (c_K : x_K q pk 0 A218 = true)
  (K : ∀ m1 m, SI g m → Fr l_239b 0 0 g z m → LY g m → xR pk m1 → Wr m1 m 98 35 0 → m.1 98 35 = 0 → ex_q (dt_fg L ρ) rc (d + 6, (f.1, f.2.1, f.2.2.1, f.2.2.2), F, m)) : ex_q (dt_fg L ρ) rc (d + 5, (239, 0, [some (eR 98), some (eI (zI s)), some (eI (zI l)), none, none], []), f :: F, z) := by
  have h98 : g 98 = 52 := hP 34 (by omega) (by omega)
  have hk : ev_kd z 98 = some 11 := hI.kd h98 (by decide) rfl
  have p0 : 0 < 98 := by decide
  have hG := y_T_ok L ρ
  have hm : ∀ (d : Nat) (f : eFr) (F : List eFr) (b0 : Nat) (M : yM) (μ : eM) (K : yM → Bool), m_234 b0 M K = true → xQ z M μ → ev_kd μ b0 = some 11 → 0 < b0 → (∀ (M : yM) (μ2 : eM), K M = true → xQ z M μ2 → y_le μ μ2 → ex_q (dt_fg L ρ) rc (d + 5, (f.1, f.2.1, f.2.2.1, f.2.2.2), F, μ2)) → ex_q (dt_fg L ρ) rc (d + 4, (234, 0, [some (eR b0), none, none], []), f :: F, μ) := fun d f F b0 M μ K h hR hk p0 hK => m_234_ok hG h hR hk p0 hK
  refine mg_239_ok hm hG c_e (mx0_ok hI hP) hk p0 (fun M1 μ1 q1 hR1 hl1 => ?_) (fun a1 M1 μ1 q1 hR1 hl1 => z_no1 q1) (fun a1 M1 μ1 q1 hR1 hl1 => z_no1 q1) (fun a1 x1 M1 μ1 q1 hR1 hl1 => z_no1 q1) (fun M2 μ2 q hR2 hl2 => z_no1 q)
  refine mg_239_10r_ok hm hG hk p0 (fun M2 μ2 q hR2 hl2 => z_no1 q) (fun a3 M3 μ3 q3 hR3 hl3 => ?_) (fun a1 M1 μ1 q1 hR1 hl1 => z_no1 q1) (fun a1 x1 M1 μ1 q1 hR1 hl1 => z_no1 q1) (fun M2 μ2 q2 hR2 hl2 => z_no1 q2) n M1 μ1 q1 hR1 hl1
  obtain ⟨e3, hA3⟩ := xH_ok q3 hR3
  rw [e3]
  refine mg_239_77r_ok hm hG hk p0 (fun M4 μ4 q hR4 hl4 => z_no1 q) (fun M4 μ4 q4 hR4 hl4 => z_no1 q4) (fun a4 M4 μ4 q4 hR4 hl4 => ?_) (fun a1 x1 M1 μ1 q1 hR1 hl1 => z_no1 q1) (fun a4 M4 μ4 q4 hR4 hl4 => z_no1 q4) 5000 0 _ μ3 c_77 hA3 hl3
  exact mg_239_135r_ok hm hG hk p0 (fun M5 μ5 q hR5 hl5 => z_no1 q) (fun M5 μ5 q5 hR5 hl5 => z_no1 q5) (fun a5 M5 μ5 q5 hR5 hl5 => z_no1 q5) (fun a5 x5 M5 μ5 q5 hR5 hl5 => by
    obtain ⟨e5, hA5⟩ := xH_ok q5 hR5
    rw [e5]
    exact r_218 hI hP c_K hA5 K) (fun a5 M5 μ5 q5 hR5 hl5 => z_no1 q5) 5000 a4 M4 μ4 q4 hR4 hl4
