/-! FIGURES, exact: over what is known behind lays -/
def x_l34 : List Nat := [6, 7, 8, 9, 10, 11, 12, 13, 14, 15, 16, 17, 19, 21, 22, 23, 24, 25, 26, 27, 28, 30, 31, 32, 33, 36, 37, 39, 40, 42, 43, 44, 45, 46, 47, 48, 51, 52, 53, 66, 67]
def PKl : List Nat := [14336, 16384, 16640, 16896, 17152, 13319, 13320, 13321, 13322, 13323, 13324, 13325, 13326, 13327, 13328, 13329, 13330, 13332, 13334, 13335, 13336, 13337, 13338, 13339, 13340, 13341, 13343, 13344, 13345, 13346, 13349, 13350, 13352, 13353, 13355, 13356, 13357, 13358, 13359, 13360, 13361, 13364, 13365, 13366, 13379, 13380]
noncomputable def x_only (t : Lean.RArray Nat) (l : List Nat) (n : Nat) : Bool := @Nat.rec (fun _ => Bool) true (fun k ih => @Bool.rec (fun _ => Bool) (@Bool.rec (fun _ => Bool) false ih (z_in k l)) ih (Nat.beq (y_rg t k) 0)) n
theorem x_only_ok {t : Lean.RArray Nat} {l : List Nat} : ∀ n, x_only t l n = true → ∀ k, k < n → y_rg t k = 0 ∨ k ∈ l := by
  intro n
  induction n with
  | zero =>
    intro _ k hk
    omega
  | succ n ih =>
    intro h k hk
    have h : @Bool.rec (fun _ => Bool) (@Bool.rec (fun _ => Bool) false (x_only t l n) (z_in n l)) (x_only t l n) (Nat.beq (y_rg t n) 0) = true := h
    cases hq : Nat.beq (y_rg t n) 0 with
    | true =>
      rw [hq] at h
      by_cases hkn : k = n
      · rw [hkn]
        exact Or.inl (Nat.eq_of_beq_eq_true hq)
      · exact ih h k (by omega)
    | false =>
      rw [hq] at h
      have h : @Bool.rec (fun _ => Bool) false (x_only t l n) (z_in n l) = true := h
      cases hq2 : z_in n l with
      | false =>
        rw [hq2] at h
        cases h
      | true =>
        rw [hq2] at h
        by_cases hkn : k = n
        · rw [hkn]
          exact Or.inr (z_in_ok _ hq2)
        · exact ih h k (by omega)
noncomputable def x_C (pk : yM) : Bool := f_if false (Nat.beq pk.2.1 72) (f_if false (x_lf (n_get pk.1 34).2.2) (f_if false (x_only (n_get pk.1 34).2.2 x_l34 256) (f_if false (x_z0 (n_get pk.1 35).2.2) (f_if false (x_z0 (n_get pk.1 36).2.2) (f_if false (x_z0 (n_get pk.1 37).2.2) (f_if false (x_z0 (n_get pk.1 39).2.2) (f_if false (x_z0 (n_get pk.1 40).2.2) (f_if false (x_z0 (n_get pk.1 41).2.2) (f_if false (x_z0 (n_get pk.1 42).2.2) (f_if false (x_z0 (n_get pk.1 43).2.2) (f_if false (x_z0 (n_get pk.1 44).2.2) (f_if false (x_z0 (n_get pk.1 45).2.2) (f_if false (x_z0 (n_get pk.1 50).2.2) (f_if false (x_z0 (n_get pk.1 51).2.2) (f_if false (x_z0 (n_get pk.1 52).2.2) (f_if false (x_z0 (n_get pk.1 53).2.2) (f_if false (x_z0 (n_get pk.1 54).2.2) (f_if false (x_z0 (n_get pk.1 55).2.2) (f_if false (x_z0 (n_get pk.1 56).2.2) (f_if false (x_z0 (n_get pk.1 57).2.2) (f_if false (x_z0 (n_get pk.1 58).2.2) (f_if false (x_z0 (n_get pk.1 59).2.2) (f_if false (x_z0 (n_get pk.1 60).2.2) (f_if false (x_z0 (n_get pk.1 61).2.2) (f_if false (x_z0 (n_get pk.1 62).2.2) (f_if false (x_z0 (n_get pk.1 63).2.2) (f_if false (x_z0 (n_get pk.1 64).2.2) (f_if false (x_z0 (n_get pk.1 65).2.2) (f_if false (x_z0 (n_get pk.1 66).2.2) (f_if false (x_z0 (n_get pk.1 67).2.2) (f_if false (x_z0 (n_get pk.1 68).2.2) (f_if false (x_z0 (n_get pk.1 69).2.2) (f_if false (x_z0 (n_get pk.1 70).2.2) (f_if false (x_z0 (n_get pk.1 71).2.2) (true)))))))))))))))))))))))))))))))))))
/-- what it is built of -/
def x_S (pk : yM) : Prop := pk.2.1 ≤ 128 ∧ ∀ j, j < pk.2.1 → n_get pk.1 j = xD ∨ (34 ≤ j ∧ (n_get pk.1 j).1 = (RK (j + 18)).1 ∧ (n_get pk.1 j).2.1 = (RK (j + 18)).2 ∧ (n_get pk.1 j).2.1 < 2147483648 ∧ ∃ d, y_pf d (n_get pk.1 j).2.2 ∧ (n_get pk.1 j).2.1 ≤ 256 * 2 ^ d)
/-- what it says -/
def x_V (pk : yM) (μ : eM) : Prop := ∀ j, j < pk.2.1 → n_get pk.1 j = xD ∨ ∀ d, y_pf d (n_get pk.1 j).2.2 → ∀ k c, k < 256 * 2 ^ d → y_rg (n_get pk.1 j).2.2 k = c + 1 → μ.1 (j + 64) k = y_dec (y_ty (n_get pk.1 j).1 k) c
theorem y_pf_1 : ∀ (t : Lean.RArray Nat) (d e : Nat), y_pf d t → y_pf e t → d = e := by
  intro t
  induction t with
  | leaf x =>
    intro d e h1 h2
    cases d with
    | zero =>
      cases e with
      | zero => rfl
      | succ e => exact absurd h2 id
    | succ d => exact absurd h1 id
  | branch p l r ihl ihr =>
    intro d e h1 h2
    cases d with
    | zero => exact absurd h1 id
    | succ d =>
      cases e with
      | zero => exact absurd h2 id
      | succ e => rw [ihl d e h1.1 h2.1]
theorem x_V_of {pk : yM} {μ : eM} (h : xR pk μ) : x_V pk μ := fun j hj => by
  rcases h.2 j hj with e | ⟨e1, d, p1, p2, p3, p4⟩
  · exact Or.inl e
  · refine Or.inr fun e h1 k c hk hc => ?_
    rw [y_pf_1 _ _ _ h1 p1] at hk
    exact p4 k c hk hc
theorem x_S_of {pk : yM} {g : Nat → Nat} {μ m : eM} (h : xR pk μ) (hI : SI g m) (hm : m.2 = μ.2) (hP : PA g) (hC : x_C pk = true) (hlo : ∀ j, j < 34 → n_get pk.1 j = xD) : x_S pk := by
  unfold x_C at hC
  have hM := Nat.eq_of_beq_eq_true (f_if_ok hC).1
  refine ⟨h.1, fun j hj => ?_⟩
  rcases h.2 j hj with e | ⟨e1, d, p1, p2, p3, p4⟩
  · exact Or.inl e
  · by_cases h34 : j < 34
    · exact Or.inl (hlo j h34)
    · have hk := hI.kn (hP j (by omega) (by omega)) (by omega)
      have h2 := (kn_64 hk).2.2
      rw [hm, show j + 64 - 64 = j by omega, e1] at h2
      have h3 := Option.some.inj h2
      exact Or.inr ⟨by omega, congrArg Prod.fst h3, congrArg Prod.snd h3, p3, d, p1, p2⟩
theorem x_R_of {pk : yM} {g : Nat → Nat} {μ : eM} (hS : x_S pk) (hV : x_V pk μ) (hI : SI g μ) (hP : PA g) (hM : pk.2.1 = 72) : xR pk μ := by
  refine ⟨hS.1, fun j hj => ?_⟩
  rcases hS.2 j hj with e | ⟨h34, e1, e2, e3, d, p1, p2⟩
  · exact Or.inl e
  · rcases hV j hj with e | hv
    · exact Or.inl e
    · have hc := hI.cell (hP j h34 (by omega)) (by omega) (show RK (j + 18) = ((n_get pk.1 j).1, (n_get pk.1 j).2.1) by rw [e1, e2])
      exact Or.inr ⟨hc, d, p1, p2, e3, hv d p1⟩
theorem x_V_fr {l : List Nat} {c s : Nat} {g : Nat → Nat} {pk : yM} {μ m : eM} (h : x_V pk μ) (hC : x_C pk = true) (hlo : ∀ j, j < 34 → n_get pk.1 j = xD) (hP : PA g) (hF : Fr l c s g μ m) (hd : md PKl l = true) : x_V pk m := by
  unfold x_C at hC
  obtain ⟨c0, hC⟩ := f_if_ok hC
  obtain ⟨c1, hC⟩ := f_if_ok hC
  obtain ⟨c2, hC⟩ := f_if_ok hC
  obtain ⟨c3, hC⟩ := f_if_ok hC
  obtain ⟨c4, hC⟩ := f_if_ok hC
  obtain ⟨c5, hC⟩ := f_if_ok hC
  obtain ⟨c6, hC⟩ := f_if_ok hC
  obtain ⟨c7, hC⟩ := f_if_ok hC
  obtain ⟨c8, hC⟩ := f_if_ok hC
  obtain ⟨c9, hC⟩ := f_if_ok hC
  obtain ⟨c10, hC⟩ := f_if_ok hC
  obtain ⟨c11, hC⟩ := f_if_ok hC
  obtain ⟨c12, hC⟩ := f_if_ok hC
  obtain ⟨c13, hC⟩ := f_if_ok hC
  obtain ⟨c14, hC⟩ := f_if_ok hC
  obtain ⟨c15, hC⟩ := f_if_ok hC
  obtain ⟨c16, hC⟩ := f_if_ok hC
  obtain ⟨c17, hC⟩ := f_if_ok hC
  obtain ⟨c18, hC⟩ := f_if_ok hC
  obtain ⟨c19, hC⟩ := f_if_ok hC
  obtain ⟨c20, hC⟩ := f_if_ok hC
  obtain ⟨c21, hC⟩ := f_if_ok hC
  obtain ⟨c22, hC⟩ := f_if_ok hC
  obtain ⟨c23, hC⟩ := f_if_ok hC
  obtain ⟨c24, hC⟩ := f_if_ok hC
  obtain ⟨c25, hC⟩ := f_if_ok hC
  obtain ⟨c26, hC⟩ := f_if_ok hC
  obtain ⟨c27, hC⟩ := f_if_ok hC
  obtain ⟨c28, hC⟩ := f_if_ok hC
  obtain ⟨c29, hC⟩ := f_if_ok hC
  obtain ⟨c30, hC⟩ := f_if_ok hC
  obtain ⟨c31, hC⟩ := f_if_ok hC
  obtain ⟨c32, hC⟩ := f_if_ok hC
  obtain ⟨c33, hC⟩ := f_if_ok hC
  obtain ⟨c34, hC⟩ := f_if_ok hC
  have hM := Nat.eq_of_beq_eq_true c0
  intro j hj
  by_cases h34 : j < 34
  · exact Or.inl (hlo j h34)
  rcases h j hj with e | hv
  · exact Or.inl e
  refine Or.inr fun d p1 k c hk hc => ?_
  have h1 := hv d p1 k c hk hc
  have hg := hP j (by omega) (by omega)
  have hj2 : j = 34 ∨ j = 35 ∨ j = 36 ∨ j = 37 ∨ j = 38 ∨ j = 39 ∨ j = 40 ∨ j = 41 ∨ j = 42 ∨ j = 43 ∨ j = 44 ∨ j = 45 ∨ j = 46 ∨ j = 47 ∨ j = 48 ∨ j = 49 ∨ j = 50 ∨ j = 51 ∨ j = 52 ∨ j = 53 ∨ j = 54 ∨ j = 55 ∨ j = 56 ∨ j = 57 ∨ j = 58 ∨ j = 59 ∨ j = 60 ∨ j = 61 ∨ j = 62 ∨ j = 63 ∨ j = 64 ∨ j = 65 ∨ j = 66 ∨ j = 67 ∨ j = 68 ∨ j = 69 ∨ j = 70 ∨ j = 71 := by omega
  rcases hj2 with rfl | rfl | rfl | rfl | rfl | rfl | rfl | rfl | rfl | rfl | rfl | rfl | rfl | rfl | rfl | rfl | rfl | rfl | rfl | rfl | rfl | rfl | rfl | rfl | rfl | rfl | rfl | rfl | rfl | rfl | rfl | rfl | rfl | rfl | rfl | rfl | rfl | rfl
  · have hd0 : d = 0 := by
      cases ht : (n_get pk.1 34).2.2 with
      | branch p l r =>
        rw [ht] at c1
        cases (show false = true from c1)
      | leaf x =>
        rw [ht] at p1
        cases d with
        | zero => rfl
        | succ d => exact absurd p1 id
    subst hd0
    have hk : k < 256 := hk
    rcases x_only_ok 256 c2 k hk with e | e
    · omega
    · rw [← h1]
      refine hF.fld hd hg (by decide) ?_
      have hk69 : ∀ k ∈ x_l34, fc (34 + 18) k ∈ PKl := by decide
      exact hk69 k e
  · have h2 := x_z0_ok _ c3 k
    omega
  · have h2 := x_z0_ok _ c4 k
    omega
  · have h2 := x_z0_ok _ c5 k
    omega
  · rw [← h1, hF.row hd hg (by decide) rfl (by decide)]
  · have h2 := x_z0_ok _ c6 k
    omega
  · have h2 := x_z0_ok _ c7 k
    omega
  · have h2 := x_z0_ok _ c8 k
    omega
  · have h2 := x_z0_ok _ c9 k
    omega
  · have h2 := x_z0_ok _ c10 k
    omega
  · have h2 := x_z0_ok _ c11 k
    omega
  · have h2 := x_z0_ok _ c12 k
    omega
  · rw [← h1, hF.row hd hg (by decide) rfl (by decide)]
  · rw [← h1, hF.row hd hg (by decide) rfl (by decide)]
  · rw [← h1, hF.row hd hg (by decide) rfl (by decide)]
  · rw [← h1, hF.row hd hg (by decide) rfl (by decide)]
  · have h2 := x_z0_ok _ c13 k
    omega
  · have h2 := x_z0_ok _ c14 k
    omega
  · have h2 := x_z0_ok _ c15 k
    omega
  · have h2 := x_z0_ok _ c16 k
    omega
  · have h2 := x_z0_ok _ c17 k
    omega
  · have h2 := x_z0_ok _ c18 k
    omega
  · have h2 := x_z0_ok _ c19 k
    omega
  · have h2 := x_z0_ok _ c20 k
    omega
  · have h2 := x_z0_ok _ c21 k
    omega
  · have h2 := x_z0_ok _ c22 k
    omega
  · have h2 := x_z0_ok _ c23 k
    omega
  · have h2 := x_z0_ok _ c24 k
    omega
  · have h2 := x_z0_ok _ c25 k
    omega
  · have h2 := x_z0_ok _ c26 k
    omega
  · have h2 := x_z0_ok _ c27 k
    omega
  · have h2 := x_z0_ok _ c28 k
    omega
  · have h2 := x_z0_ok _ c29 k
    omega
  · have h2 := x_z0_ok _ c30 k
    omega
  · have h2 := x_z0_ok _ c31 k
    omega
  · have h2 := x_z0_ok _ c32 k
    omega
  · have h2 := x_z0_ok _ c33 k
    omega
  · have h2 := x_z0_ok _ c34 k
    omega
/-! one figure -/
noncomputable def x_qr (T1 T2 : nC7) (lo : Nat) (n : Nat) : Bool := @Nat.rec (fun _ => Bool) true (fun j ih => @Bool.rec (fun _ => Bool) false (@Bool.rec (fun _ => Bool) false ih (y_cs (n_get T1 (Nat.add lo j)) (n_get T2 (Nat.add lo j)))) (y_cs (n_get T2 (Nat.add lo j)) (n_get T1 (Nat.add lo j)))) n
theorem x_qr_ok {T1 T2 : nC7} {lo : Nat} : ∀ n, x_qr T1 T2 lo n = true → ∀ j, lo ≤ j → j < lo + n → y_cs (n_get T1 j) (n_get T2 j) = true ∧ y_cs (n_get T2 j) (n_get T1 j) = true := by
  intro n
  induction n with
  | zero =>
    intro _ j hj hj2
    omega
  | succ n ih =>
    intro h j hj hj2
    have h : @Bool.rec (fun _ => Bool) false (@Bool.rec (fun _ => Bool) false (x_qr T1 T2 lo n) (y_cs (n_get T1 (lo + n)) (n_get T2 (lo + n)))) (y_cs (n_get T2 (lo + n)) (n_get T1 (lo + n))) = true := h
    cases hq : y_cs (n_get T2 (lo + n)) (n_get T1 (lo + n)) with
    | false =>
      rw [hq] at h
      exact absurd h Bool.false_ne_true
    | true =>
      rw [hq] at h
      have h : @Bool.rec (fun _ => Bool) false (x_qr T1 T2 lo n) (y_cs (n_get T1 (lo + n)) (n_get T2 (lo + n))) = true := h
      cases hq2 : y_cs (n_get T1 (lo + n)) (n_get T2 (lo + n)) with
      | false =>
        rw [hq2] at h
        exact absurd h Bool.false_ne_true
      | true =>
        rw [hq2] at h
        by_cases hjn : j = lo + n
        · rw [hjn]
          exact ⟨hq2, hq⟩
        · exact ih h j hj (by omega)
noncomputable def x_kf (pk : yM) : Nat → yM → Bool := fun _ M => f_if false (Nat.beq M.2.1 72) (f_if false (x_qr M.1 pk.1 0 52) (f_if false (x_qr M.1 pk.1 54 18) (f_if false (x_al (n_get M.1 52).2.2 6 4294967296 0 10) (x_al (n_get M.1 53).2.2 5 0 0 10))))
theorem f_253 {L : Nat} {ρ : Nat → Int} {rc : eQ} {d p : Nat} {f : eFr} {F : List eFr} {z : eM} {g : Nat → Nat} {pk : yM} (hI : SI g z) (hP : PA g) (hS : x_S pk) (hV : x_V pk z) (hM : pk.2.1 = 72) (hck : m_253 98 p pk (x_kf pk) = true) (K : ∀ (r : Int) (m : eM), (-2147483648 ≤ r ∧ r ≤ 2147483647) → SI g m → Fr [17920, 18176] 0 0 g z m → ex_q (dt_fg L ρ) rc (d + 5, (f.1, f.2.1, f.2.2.1, eI r :: f.2.2.2), F, m)) : ex_q (dt_fg L ρ) rc (d + 4, (253, 0, [some (eR 98), some (eI (zI p)), none, none, none], []), f :: F, z) := by
  have h98 : g 98 = 52 := hP 34 (by omega) (by omega)
  have hR : xR pk z := x_R_of hS hV hI hP hM
  refine m_253_ok (μz := z) (y_T_ok L ρ) hck ⟨hR, rfl, fun _ _ _ => rfl⟩ (hI.kd h98 (by decide) rfl) (by decide) ?_
  intro r M μ h hQ _
  obtain ⟨g0, h⟩ := f_if_ok h
  obtain ⟨g1, h⟩ := f_if_ok h
  obtain ⟨g2, h⟩ := f_if_ok h
  obtain ⟨g3, g4⟩ := f_if_ok h
  have g0 := Nat.eq_of_beq_eq_true g0
  have hcs : ∀ j, j < 72 → j ≠ 52 → j ≠ 53 → y_cs (n_get M.1 j) (n_get pk.1 j) = true := fun j hj h1 h2 => by
    by_cases h52 : j < 52
    · exact (x_qr_ok 52 g1 j (by omega) (by omega)).1
    · exact (x_qr_ok 18 g2 j (by omega) (by omega)).1
  have e2 : ∀ a, ev_kn μ a = ev_kn z a := fun a => by
    unfold ev_kn
    rw [hQ.2.1]
  have g116 : g 116 = 70 := hP 52 (by omega) (by omega)
  have g117 : g 117 = 71 := hP 53 (by omega) (by omega)
  have keep : ∀ a k, a ≠ 116 → a ≠ 117 → μ.1 a k = z.1 a k := by
    intro a k h1 h2
    by_cases hx : ∃ j c, a = j + 64 ∧ j < M.2.1 ∧ k < (n_get M.1 j).2.1 ∧ y_rg (n_get M.1 j).2.2 k = c + 1
    · obtain ⟨j, c, rfl, hj, hn, hc⟩ := hx
      have hs := hcs j (by omega) (by omega) (by omega)
      obtain ⟨b1, b2, b3⟩ := y_cs_parts hs
      rcases hR.2 j (by omega) with e | ⟨q1, dd, q2, q3, q4, q5⟩
      · rw [e] at b2
        have b2 : (n_get M.1 j).2.1 = 0 := b2
        omega
      · have b4 := (y_ts_ok dd _ _ b3 q2).2 (k / 256)
        have hc2 : n_at (y_get (n_get M.1 j).2.2 (k / 256)) (k % 256) = c + 1 := hc
        have hc3 : y_rg (n_get pk.1 j).2.2 k = c + 1 := by
          rcases b4 with e | e
          · rw [e, q_lane0] at hc2
            omega
          · show n_at (y_get (n_get pk.1 j).2.2 (k / 256)) (k % 256) = c + 1
            rw [← e]
            exact hc2
        have v1 := q5 k c (by omega) hc3
        rcases hQ.1.2 j hj with e | ⟨r1, dm, r2, r3, r4, r5⟩
        · rw [e] at hn
          exact absurd hn (Nat.not_lt_zero k)
        · have v2 := r5 k c (by omega) hc
          rw [v1, v2, b1]
    · exact x_unk hQ hx
  refine K _ μ (zI_in r) ⟨hI.1, fun a ha => by rw [e2]; exact hI.2.1 a ha, fun a k ha hk => ?_, hI.2.2.2⟩ ⟨by rw [hQ.2.1]; exact Nat.le_refl _, by rw [hQ.2.1]; exact Nat.le_refl _, fun a k ha hk => ?_⟩
  · by_cases h1 : a = 116
    · subst h1
      by_cases hx : ∃ j c, 116 = j + 64 ∧ j < M.2.1 ∧ k < (n_get M.1 j).2.1 ∧ y_rg (n_get M.1 j).2.2 k = c + 1
      · obtain ⟨j, c, hj0, hj, hn, hc⟩ := hx
        have hj0 : j = 52 := by omega
        subst hj0
        obtain ⟨k1, k2⟩ := x_val hQ hI (hP 52 (by omega) (by omega)) rfl hj hn hc
        have h3 := x_al_ok _ g3 k (Nat.zero_le _) (by omega)
        rw [hc] at h3
        rw [g116]
        exact x_rowm (hi := 5) rfl k2 (by decide) h3
      · rw [x_unk hQ hx]
        exact hI.2.2.1 116 k ha hk
    · by_cases h2 : a = 117
      · subst h2
        by_cases hx : ∃ j c, 117 = j + 64 ∧ j < M.2.1 ∧ k < (n_get M.1 j).2.1 ∧ y_rg (n_get M.1 j).2.2 k = c + 1
        · obtain ⟨j, c, hj0, hj, hn, hc⟩ := hx
          have hj0 : j = 53 := by omega
          subst hj0
          obtain ⟨k1, k2⟩ := x_val hQ hI (hP 53 (by omega) (by omega)) rfl hj hn hc
          have h3 := x_al_ok _ g4 k (Nat.zero_le _) (by omega)
          rw [hc] at h3
          rw [g117]
          exact x_rowk (hi := 4) rfl k2 (by decide) h3
        · rw [x_unk hQ hx]
          exact hI.2.2.1 117 k ha hk
      · rw [keep a k h1 h2]
        exact hI.2.2.1 a k ha hk
  · have h1 : a ≠ 116 := fun q => by
      subst q
      rw [g116] at hk
      exact hk (by rw [fc_row rfl]; decide)
    have h2 : a ≠ 117 := fun q => by
      subst q
      rw [g117] at hk
      exact hk (by rw [fc_row rfl]; decide)
    exact keep a k h1 h2
noncomputable def x_fs (pk : yM) (lo n : Nat) : Bool := @Nat.rec (fun _ => Bool) true (fun p ih => @Bool.rec (fun _ => Bool) false ih (m_253 98 (Nat.add lo p) pk (x_kf pk))) n
theorem x_fs_ok {pk : yM} {lo : Nat} : ∀ n, x_fs pk lo n = true → ∀ p, lo ≤ p → p < lo + n → m_253 98 p pk (x_kf pk) = true := by
  intro n
  induction n with
  | zero =>
    intro _ p h1 h2
    omega
  | succ n ih =>
    intro h p h1 h2
    have h : @Bool.rec (fun _ => Bool) false (x_fs pk lo n) (m_253 98 (lo + n) pk (x_kf pk)) = true := h
    cases hq : m_253 98 (lo + n) pk (x_kf pk) with
    | false =>
      rw [hq] at h
      cases h
    | true =>
      rw [hq] at h
      by_cases hp : p = lo + n
      · rw [hp]
        exact hq
      · exact ih h p h1 (by omega)
/-- the figures can be told: kept where nothing of it is written -/
def PK (g : Nat → Nat) (μ : eM) : Prop := PA g ∧ ∃ (pk : yM) (N : Nat), (x_S pk ∧ x_V pk μ ∧ x_C pk = true ∧ (∀ j, j < 34 → n_get pk.1 j = xD) ∧ pk.2.1 = 72) ∧ (∀ p, p < N → m_253 98 p pk (x_kf pk) = true) ∧ μ.1 98 28 = (N : Int)
theorem PK.fr {l : List Nat} {c s : Nat} {g : Nat → Nat} {μ m : eM} (h : PK g μ) (hF : Fr l c s g μ m) (hd : md PKl l = true) : PK g m := by
  obtain ⟨hP, pk, N, ⟨h1, h2, h3, h4, h5⟩, h6, h7⟩ := h
  refine ⟨hP, pk, N, ⟨h1, x_V_fr h2 h3 h4 hP hF hd, h3, h4, h5⟩, h6, ?_⟩
  rw [← h7]
  exact hF.fld hd (hP 34 (by omega) (by omega)) (by decide) (by decide)
/-- figureOf of a point -/
theorem s_253 {L : Nat} {ρ : Nat → Int} {rc : eQ} {d : Nat} {f : eFr} {F : List eFr} {μ : eM} {g : Nat → Nat} {a0 : Nat} {a1 : Int} (hI : SI g μ) (gA0 : g a0 = 52) (h_PK : PK g μ) (hp : 0 ≤ a1 ∧ a1 < μ.1 a0 28) (hb : a1 ≤ 2147483647) (K : ∀ (r : Int) (m : eM), (-2147483648 ≤ r ∧ r ≤ 2147483647) → SI g m → Fr [17920, 18176] 0 0 g μ m → ex_q (dt_fg L ρ) rc (d + 5, (f.1, f.2.1, f.2.2.1, eI r :: f.2.2.2), F, m)) : ex_q (dt_fg L ρ) rc (d + 4, (253, 0, [some (eR a0), some (eI a1), none, none, none], []), f :: F, μ) := by
  obtain ⟨hP, pk, N, ⟨h1, h2, h3, h4, h5⟩, h6, h7⟩ := h_PK
  have e0 : a0 = 98 := hP.at hI (by decide) (by decide) gA0
  subst e0
  rw [h7] at hp
  obtain ⟨p, rfl⟩ : ∃ p : Nat, a1 = (p : Int) := ⟨a1.toNat, by omega⟩
  have e1 : zI p = (p : Int) := zI_lit (by omega)
  rw [← e1]
  exact f_253 hI hP h1 h2 h5 (h6 p (by omega)) K
