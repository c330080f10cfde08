/-! LAYS: bounds of what a run has written -/
noncomputable def x_bl (hi m L : Nat) : Bool := @Bool.rec (fun _ => Bool) (Nat.beq L m) true (Nat.ble L hi)
theorem x_bl_ok {hi m L : Nat} (h : x_bl hi m L = true) : L ≤ hi ∨ L = m := by
  unfold x_bl at h
  cases h1 : Nat.ble L hi with
  | true => exact Or.inl (Nat.ble_eq.mp h1)
  | false =>
    rw [h1] at h
    exact Or.inr (Nat.eq_of_beq_eq_true h)
noncomputable def x_al (t : Lean.RArray Nat) (hi m lo n : Nat) : Bool := @Nat.rec (fun _ => Bool) true (fun k ih => @Bool.rec (fun _ => Bool) false ih (x_bl hi m (y_rg t (Nat.add lo k)))) n
theorem x_al_ok {t : Lean.RArray Nat} {hi m lo : Nat} : ∀ n, x_al t hi m lo n = true → ∀ k, lo ≤ k → k < lo + n → y_rg t k ≤ hi ∨ y_rg t k = m := by
  intro n
  induction n with
  | zero =>
    intro _ k h1 h2
    omega
  | succ n ih =>
    intro h k h1 h2
    have h : @Bool.rec (fun _ => Bool) false (x_al t hi m lo n) (x_bl hi m (y_rg t (lo + n))) = true := h
    cases hq : x_bl hi m (y_rg t (lo + n)) with
    | false =>
      rw [hq] at h
      cases h
    | true =>
      rw [hq] at h
      by_cases hk : k = lo + n
      · rw [hk]
        exact x_bl_ok hq
      · exact ih h k h1 (by omega)
noncomputable def x_z0 (t : Lean.RArray Nat) : Bool := @Lean.RArray.rec Nat (fun _ => Bool) (fun x => Nat.beq x 0) (fun _ _ _ gl gr => @Bool.rec (fun _ => Bool) false gr gl) t
theorem x_z0_ok : ∀ t, x_z0 t = true → ∀ k, y_rg t k = 0 := by
  have key : ∀ t, x_z0 t = true → ∀ i, y_get t i = 0 := by
    intro t
    induction t with
    | leaf x =>
      intro h i
      exact Nat.eq_of_beq_eq_true h
    | branch p l r ihl ihr =>
      intro h i
      have h : @Bool.rec (fun _ => Bool) false (x_z0 r) (x_z0 l) = true := h
      cases hq : x_z0 l with
      | false =>
        rw [hq] at h
        cases h
      | true =>
        rw [hq] at h
        show @Bool.rec (fun _ => Nat) (y_get l (Nat.div i 2)) (y_get r (Nat.div i 2)) (Nat.beq (Nat.mod i 2) 1) = 0
        cases Nat.beq (Nat.mod i 2) 1 with
        | false => exact ihl hq _
        | true => exact ihr h _
  intro t h k
  unfold y_rg
  rw [key t h]
  exact q_lane0 _
theorem zI_in (c : Nat) : -2147483648 ≤ zI c ∧ zI c ≤ 2147483647 := by
  unfold zI sg32
  split <;> omega
theorem x_zpos {c hi : Nat} (h : c + 1 ≤ hi) (h2 : hi ≤ 2147483648) : 0 ≤ zI c ∧ zI c ≤ (hi : Int) - 1 := by
  rw [zI_lit (by omega)]
  omega
noncomputable def x_lo (M : yM) (n : Nat) : Bool := @Nat.rec (fun _ => Bool) true (fun j ih => @Bool.rec (fun _ => Bool) false ih (Nat.beq (n_get M.1 j).2.1 0)) n
theorem x_lo_ok {M : yM} : ∀ n, x_lo M n = true → ∀ j, j < n → (n_get M.1 j).2.1 = 0 := by
  intro n
  induction n with
  | zero =>
    intro _ j hj
    omega
  | succ n ih =>
    intro h j hj
    have h : @Bool.rec (fun _ => Bool) false (x_lo M n) (Nat.beq (n_get M.1 n).2.1 0) = true := h
    cases hq : Nat.beq (n_get M.1 n).2.1 0 with
    | false =>
      rw [hq] at h
      cases h
    | true =>
      rw [hq] at h
      by_cases hjn : j = n
      · rw [hjn]
        exact Nat.eq_of_beq_eq_true hq
      · exact ih h j (by omega)
noncomputable def x_fl (t : Lean.RArray Nat) (l : List (Nat × Nat × Nat)) : Bool := @List.rec (Nat × Nat × Nat) (fun _ => Bool) true (fun q _ ih => @Bool.rec (fun _ => Bool) false (@Bool.rec (fun _ => Bool) false ih (Nat.ble (y_rg t q.1) q.2.2)) (Nat.ble q.2.1 (y_rg t q.1))) l
theorem x_fl_ok {t : Lean.RArray Nat} : ∀ l, x_fl t l = true → ∀ q ∈ l, q.2.1 ≤ y_rg t q.1 ∧ y_rg t q.1 ≤ q.2.2 := by
  intro l
  induction l with
  | nil =>
    intro _ q hq
    cases hq
  | cons a l ih =>
    intro h q hq
    have h : @Bool.rec (fun _ => Bool) false (@Bool.rec (fun _ => Bool) false (x_fl t l) (Nat.ble (y_rg t a.1) a.2.2)) (Nat.ble a.2.1 (y_rg t a.1)) = true := h
    cases h1 : Nat.ble a.2.1 (y_rg t a.1) with
    | false =>
      rw [h1] at h
      cases h
    | true =>
      rw [h1] at h
      have h : @Bool.rec (fun _ => Bool) false (x_fl t l) (Nat.ble (y_rg t a.1) a.2.2) = true := h
      cases h2 : Nat.ble (y_rg t a.1) a.2.2 with
      | false =>
        rw [h2] at h
        cases h
      | true =>
        rw [h2] at h
        rcases List.mem_cons.mp hq with e | e
        · subst e
          exact ⟨Nat.ble_eq.mp h1, Nat.ble_eq.mp h2⟩
        · exact ih h q e
def x_fls : List (Nat × Nat × Nat) := [(0, 0, 0), (1, 0, 0), (6, 0, 4), (7, 0, 6), (8, 0, 891), (9, 100, 100), (10, 101, 101), (11, 102, 102), (12, 103, 103), (13, 104, 104), (14, 105, 105), (15, 106, 106), (16, 107, 107), (17, 108, 108), (18, 0, 891), (19, 109, 109), (20, 0, 6), (21, 110, 110), (22, 111, 111), (23, 112, 112), (24, 113, 113), (25, 114, 114), (26, 115, 115), (27, 116, 116), (28, 0, 2671), (29, 0, 8192), (30, 117, 117), (31, 118, 118), (32, 119, 119), (33, 120, 120), (34, 0, 0), (35, 0, 0), (36, 121, 121), (37, 122, 122), (38, 0, 0), (39, 123, 123), (40, 124, 124), (41, 0, 0), (42, 125, 125), (43, 126, 126), (44, 127, 127), (45, 128, 128), (46, 129, 129), (47, 130, 130), (48, 131, 131), (49, 0, 0), (50, 0, 0), (51, 132, 132), (52, 133, 133), (53, 134, 134), (54, 0, 0), (55, 0, 0), (56, 0, 0), (57, 0, 0), (58, 0, 0), (59, 0, 0), (60, 0, 0), (61, 0, 0), (62, 0, 0), (63, 0, 0), (64, 0, 0), (65, 0, 0), (66, 135, 135), (67, 136, 136), (68, 0, 0)]
noncomputable def x_ck (M : yM) : Bool := f_if false (Nat.beq M.2.1 72) (f_if false (x_lo M 34) (f_if false (x_al (n_get M.1 35).2.2 891 0 0 6) (f_if false (x_al (n_get M.1 38).2.2 2 0 0 890) (f_if false (x_al (n_get M.1 39).2.2 2 0 0 890) (f_if false (x_al (n_get M.1 40).2.2 890 4294967296 0 890) (f_if false (x_al (n_get M.1 40).2.2 890 0 890 4450) (f_if false (x_al (n_get M.1 45).2.2 2670 4294967296 0 8192) (f_if false (x_al (n_get M.1 46).2.2 2670 0 0 2670) (f_if false (x_al (n_get M.1 49).2.2 890 4294967296 0 890) (f_if false (x_al (n_get M.1 50).2.2 890 4294967296 0 890) (f_if false (x_al (n_get M.1 51).2.2 890 4294967296 0 890) (f_if false (x_z0 (n_get M.1 52).2.2) (f_if false (x_z0 (n_get M.1 53).2.2) (f_if false (x_z0 (n_get M.1 54).2.2) (f_if false (x_z0 (n_get M.1 55).2.2) (f_if false (x_z0 (n_get M.1 56).2.2) (f_if false (x_z0 (n_get M.1 57).2.2) (f_if false (x_z0 (n_get M.1 58).2.2) (f_if false (x_z0 (n_get M.1 59).2.2) (f_if false (x_z0 (n_get M.1 60).2.2) (f_if false (x_z0 (n_get M.1 61).2.2) (f_if false (x_z0 (n_get M.1 62).2.2) (f_if false (x_z0 (n_get M.1 63).2.2) (f_if false (x_z0 (n_get M.1 64).2.2) (f_if false (x_z0 (n_get M.1 65).2.2) (f_if false (x_z0 (n_get M.1 66).2.2) (f_if false (x_z0 (n_get M.1 67).2.2) (f_if false (x_z0 (n_get M.1 68).2.2) (f_if false (x_z0 (n_get M.1 69).2.2) (f_if false (x_z0 (n_get M.1 70).2.2) (f_if false (x_z0 (n_get M.1 71).2.2) (x_fl (n_get M.1 34).2.2 x_fls))))))))))))))))))))))))))))))))
def l_239 : List Nat := [13568, 13824, 14080, 14336, 14592, 14848, 15104, 15360, 15616, 15872, 16128, 16384, 16640, 16896, 17152, 17408, 17664, 13315, 13316, 13317, 13318, 13319, 13320, 13321, 13331, 13333, 13341, 13342]
theorem x_val {z μ : eM} {M : yM} {g : Nat → Nat} {j k c kd n : Nat} (hQ : xQ z M μ) (hI : SI g z) (hg : g (j + 64) = j + 18) (hk : RK (j + 18) = (kd, n)) (hj : j < M.2.1) (hn : k < (n_get M.1 j).2.1) (hc : y_rg (n_get M.1 j).2.2 k = c + 1) : k < n ∧ μ.1 (j + 64) k = y_dec (y_ty kd k) c := by
  rcases hQ.1.2 j hj with e | ⟨e1, d, p1, p2, p3, p4⟩
  · rw [e] at hn
    exact absurd hn (Nat.not_lt_zero k)
  · have h2 := hI.cell hg (by omega) hk
    rw [hQ.2.1, h2] at e1
    have e2 := Option.some.inj e1
    have e3 : kd = (n_get M.1 j).1 := congrArg Prod.fst e2
    have e4 : n = (n_get M.1 j).2.1 := congrArg Prod.snd e2
    refine ⟨by omega, ?_⟩
    rw [e3]
    exact p4 k c (by omega) hc
theorem x_rowk {g : Nat → Nat} {ρ k hi c : Nat} {x : Int} (hd : SD ρ k = .inl (0, (hi : Int))) (hx : x = zI c) (hi2 : hi < 2147483648) (h : c + 1 ≤ hi + 1 ∨ c + 1 = 0) : hOk g (SD ρ k) x := by
  rw [hd, hx]
  show (0 : Int) ≤ zI c ∧ zI c ≤ (hi : Int)
  have := x_zpos (c := c) (hi := hi + 1) (by omega) (by omega)
  omega
theorem x_rowm {g : Nat → Nat} {ρ k hi c : Nat} {x : Int} (hd : SD ρ k = .inl (-1, (hi : Int))) (hx : x = zI c) (hi2 : hi < 2147483648) (h : c + 1 ≤ hi + 1 ∨ c + 1 = 4294967296) : hOk g (SD ρ k) x := by
  rw [hd, hx]
  show (-1 : Int) ≤ zI c ∧ zI c ≤ (hi : Int)
  rcases h with h | h
  · have := x_zpos (c := c) (hi := hi + 1) (by omega) (by omega)
    omega
  · rw [show c = 4294967295 by omega, z_cm]
    omega
theorem x_rowi {g : Nat → Nat} {ρ k c : Nat} {x : Int} (hd : SD ρ k = .inl (-2147483648, 2147483647)) (hx : x = zI c) : hOk g (SD ρ k) x := by
  rw [hd, hx]
  exact zI_in c
theorem x_rowj {g : Nat → Nat} {ρ k c : Nat} {x : Int} (hd : SD ρ k = .inl (-9223372036854775808, 9223372036854775807)) (hx : x = zJ c) : hOk g (SD ρ k) x := by
  rw [hd, hx]
  show (-9223372036854775808 : Int) ≤ zJ c ∧ zJ c ≤ 9223372036854775807
  unfold zJ sg64
  split <;> omega
set_option maxHeartbeats 8000000 in
theorem x_known {z μ : eM} {M : yM} {g : Nat → Nat} {j k c : Nat} (hQ : xQ z M μ) (hI : SI g z) (hP : PA g) (hck : x_ck M = true) (hj : j < M.2.1) (hn : k < (n_get M.1 j).2.1) (hc : y_rg (n_get M.1 j).2.2 k = c + 1) : 34 ≤ j ∧ j < 72 ∧ hOk g (SD (j + 18) k) (μ.1 (j + 64) k) ∧ (fc (j + 18) k ∈ l_239 ∨ μ.1 (j + 64) k = z.1 (j + 64) k) := by
  unfold x_ck at hck
  obtain ⟨c0, hck⟩ := f_if_ok hck
  obtain ⟨c1, hck⟩ := f_if_ok hck
  obtain ⟨c2, hck⟩ := f_if_ok hck
  obtain ⟨c3, hck⟩ := f_if_ok hck
  obtain ⟨c4, hck⟩ := f_if_ok hck
  obtain ⟨c5, hck⟩ := f_if_ok hck
  obtain ⟨c6, hck⟩ := f_if_ok hck
  obtain ⟨c7, hck⟩ := f_if_ok hck
  obtain ⟨c8, hck⟩ := f_if_ok hck
  obtain ⟨c9, hck⟩ := f_if_ok hck
  obtain ⟨c10, hck⟩ := f_if_ok hck
  obtain ⟨c11, hck⟩ := f_if_ok hck
  obtain ⟨c12, hck⟩ := f_if_ok hck
  obtain ⟨c13, hck⟩ := f_if_ok hck
  obtain ⟨c14, hck⟩ := f_if_ok hck
  obtain ⟨c15, hck⟩ := f_if_ok hck
  obtain ⟨c16, hck⟩ := f_if_ok hck
  obtain ⟨c17, hck⟩ := f_if_ok hck
  obtain ⟨c18, hck⟩ := f_if_ok hck
  obtain ⟨c19, hck⟩ := f_if_ok hck
  obtain ⟨c20, hck⟩ := f_if_ok hck
  obtain ⟨c21, hck⟩ := f_if_ok hck
  obtain ⟨c22, hck⟩ := f_if_ok hck
  obtain ⟨c23, hck⟩ := f_if_ok hck
  obtain ⟨c24, hck⟩ := f_if_ok hck
  obtain ⟨c25, hck⟩ := f_if_ok hck
  obtain ⟨c26, hck⟩ := f_if_ok hck
  obtain ⟨c27, hck⟩ := f_if_ok hck
  obtain ⟨c28, hck⟩ := f_if_ok hck
  obtain ⟨c29, hck⟩ := f_if_ok hck
  obtain ⟨c30, hck⟩ := f_if_ok hck
  obtain ⟨c31, hck⟩ := f_if_ok hck
  have hj : j < 72 := by have := Nat.eq_of_beq_eq_true c0; omega
  have h34 : 34 ≤ j := by
    refine Nat.le_of_not_lt fun q => ?_
    have := x_lo_ok 34 c1 j q
    omega
  refine ⟨h34, hj, ?_⟩
  have hg := hP j h34 hj
  have hj2 : j < M.2.1 := by have := Nat.eq_of_beq_eq_true c0; omega
  have h : j = 34 ∨ j = 35 ∨ j = 36 ∨ j = 37 ∨ j = 38 ∨ j = 39 ∨ j = 40 ∨ j = 41 ∨ j = 42 ∨ j = 43 ∨ j = 44 ∨ j = 45 ∨ j = 46 ∨ j = 47 ∨ j = 48 ∨ j = 49 ∨ j = 50 ∨ j = 51 ∨ j = 52 ∨ j = 53 ∨ j = 54 ∨ j = 55 ∨ j = 56 ∨ j = 57 ∨ j = 58 ∨ j = 59 ∨ j = 60 ∨ j = 61 ∨ j = 62 ∨ j = 63 ∨ j = 64 ∨ j = 65 ∨ j = 66 ∨ j = 67 ∨ j = 68 ∨ j = 69 ∨ j = 70 ∨ j = 71 := by omega
  rcases h with rfl | rfl | rfl | rfl | rfl | rfl | rfl | rfl | rfl | rfl | rfl | rfl | rfl | rfl | rfl | rfl | rfl | rfl | rfl | rfl | rfl | rfl | rfl | rfl | rfl | rfl | rfl | rfl | rfl | rfl | rfl | rfl | rfl | rfl | rfl | rfl | rfl | rfl
  · obtain ⟨k1, k2⟩ := x_val hQ hI hg rfl hj2 hn hc
    have hF := x_fl_ok _ hck
    have h : k = 0 ∨ k = 1 ∨ k = 2 ∨ k = 3 ∨ k = 4 ∨ k = 5 ∨ k = 6 ∨ k = 7 ∨ k = 8 ∨ k = 9 ∨ k = 10 ∨ k = 11 ∨ k = 12 ∨ k = 13 ∨ k = 14 ∨ k = 15 ∨ k = 16 ∨ k = 17 ∨ k = 18 ∨ k = 19 ∨ k = 20 ∨ k = 21 ∨ k = 22 ∨ k = 23 ∨ k = 24 ∨ k = 25 ∨ k = 26 ∨ k = 27 ∨ k = 28 ∨ k = 29 ∨ k = 30 ∨ k = 31 ∨ k = 32 ∨ k = 33 ∨ k = 34 ∨ k = 35 ∨ k = 36 ∨ k = 37 ∨ k = 38 ∨ k = 39 ∨ k = 40 ∨ k = 41 ∨ k = 42 ∨ k = 43 ∨ k = 44 ∨ k = 45 ∨ k = 46 ∨ k = 47 ∨ k = 48 ∨ k = 49 ∨ k = 50 ∨ k = 51 ∨ k = 52 ∨ k = 53 ∨ k = 54 ∨ k = 55 ∨ k = 56 ∨ k = 57 ∨ k = 58 ∨ k = 59 ∨ k = 60 ∨ k = 61 ∨ k = 62 ∨ k = 63 ∨ k = 64 ∨ k = 65 ∨ k = 66 ∨ k = 67 ∨ k = 68 := by omega
    rcases h with rfl | rfl | rfl | rfl | rfl | rfl | rfl | rfl | rfl | rfl | rfl | rfl | rfl | rfl | rfl | rfl | rfl | rfl | rfl | rfl | rfl | rfl | rfl | rfl | rfl | rfl | rfl | rfl | rfl | rfl | rfl | rfl | rfl | rfl | rfl | rfl | rfl | rfl | rfl | rfl | rfl | rfl | rfl | rfl | rfl | rfl | rfl | rfl | rfl | rfl | rfl | rfl | rfl | rfl | rfl | rfl | rfl | rfl | rfl | rfl | rfl | rfl | rfl | rfl | rfl | rfl | rfl | rfl | rfl
    · have h1 : 0 ≤ y_rg (n_get M.1 34).2.2 0 ∧ y_rg (n_get M.1 34).2.2 0 ≤ 0 := hF (0, 0, 0) (by unfold x_fls; simp only [List.mem_cons, true_or, or_true])
      omega
    · have h1 : 0 ≤ y_rg (n_get M.1 34).2.2 1 ∧ y_rg (n_get M.1 34).2.2 1 ≤ 0 := hF (1, 0, 0) (by unfold x_fls; simp only [List.mem_cons, true_or, or_true])
      omega
    · exact ⟨x_rowj rfl k2, Or.inl (by decide)⟩
    · exact ⟨x_rowj rfl k2, Or.inl (by decide)⟩
    · exact ⟨x_rowj rfl k2, Or.inl (by decide)⟩
    · exact ⟨x_rowj rfl k2, Or.inl (by decide)⟩
    · have h1 : 0 ≤ y_rg (n_get M.1 34).2.2 6 ∧ y_rg (n_get M.1 34).2.2 6 ≤ 4 := hF (6, 0, 4) (by unfold x_fls; simp only [List.mem_cons, true_or, or_true])
      exact ⟨x_rowk (hi := 3) rfl k2 (by decide) (by omega), Or.inl (by decide)⟩
    · have h1 : 0 ≤ y_rg (n_get M.1 34).2.2 7 ∧ y_rg (n_get M.1 34).2.2 7 ≤ 6 := hF (7, 0, 6) (by unfold x_fls; simp only [List.mem_cons, true_or, or_true])
      exact ⟨x_rowk (hi := 5) rfl k2 (by decide) (by omega), Or.inl (by decide)⟩
    · have h1 : 0 ≤ y_rg (n_get M.1 34).2.2 8 ∧ y_rg (n_get M.1 34).2.2 8 ≤ 891 := hF (8, 0, 891) (by unfold x_fls; simp only [List.mem_cons, true_or, or_true])
      exact ⟨x_rowk (hi := 890) rfl k2 (by decide) (by omega), Or.inl (by decide)⟩
    · have h1 : 100 ≤ y_rg (n_get M.1 34).2.2 9 ∧ y_rg (n_get M.1 34).2.2 9 ≤ 100 := hF (9, 100, 100) (by unfold x_fls; simp only [List.mem_cons, true_or, or_true])
      have h2 := PA.ref 53 hI hP (k := 9) (by decide) rfl (by decide) (by decide)
      have h3 : c = 99 := by omega
      subst h3
      have h4 : μ.1 98 9 = z.1 98 9 := by rw [h2]; exact k2
      refine ⟨?_, Or.inr h4⟩
      show hOk g (SD 52 9) (μ.1 98 9)
      rw [h4]
      exact hI.sl hg (by decide) rfl (by decide)
    · have h1 : 101 ≤ y_rg (n_get M.1 34).2.2 10 ∧ y_rg (n_get M.1 34).2.2 10 ≤ 101 := hF (10, 101, 101) (by unfold x_fls; simp only [List.mem_cons, true_or, or_true])
      have h2 := PA.ref 54 hI hP (k := 10) (by decide) rfl (by decide) (by decide)
      have h3 : c = 100 := by omega
      subst h3
      have h4 : μ.1 98 10 = z.1 98 10 := by rw [h2]; exact k2
      refine ⟨?_, Or.inr h4⟩
      show hOk g (SD 52 10) (μ.1 98 10)
      rw [h4]
      exact hI.sl hg (by decide) rfl (by decide)
    · have h1 : 102 ≤ y_rg (n_get M.1 34).2.2 11 ∧ y_rg (n_get M.1 34).2.2 11 ≤ 102 := hF (11, 102, 102) (by unfold x_fls; simp only [List.mem_cons, true_or, or_true])
      have h2 := PA.ref 55 hI hP (k := 11) (by decide) rfl (by decide) (by decide)
      have h3 : c = 101 := by omega
      subst h3
      have h4 : μ.1 98 11 = z.1 98 11 := by rw [h2]; exact k2
      refine ⟨?_, Or.inr h4⟩
      show hOk g (SD 52 11) (μ.1 98 11)
      rw [h4]
      exact hI.sl hg (by decide) rfl (by decide)
    · have h1 : 103 ≤ y_rg (n_get M.1 34).2.2 12 ∧ y_rg (n_get M.1 34).2.2 12 ≤ 103 := hF (12, 103, 103) (by unfold x_fls; simp only [List.mem_cons, true_or, or_true])
      have h2 := PA.ref 56 hI hP (k := 12) (by decide) rfl (by decide) (by decide)
      have h3 : c = 102 := by omega
      subst h3
      have h4 : μ.1 98 12 = z.1 98 12 := by rw [h2]; exact k2
      refine ⟨?_, Or.inr h4⟩
      show hOk g (SD 52 12) (μ.1 98 12)
      rw [h4]
      exact hI.sl hg (by decide) rfl (by decide)
    · have h1 : 104 ≤ y_rg (n_get M.1 34).2.2 13 ∧ y_rg (n_get M.1 34).2.2 13 ≤ 104 := hF (13, 104, 104) (by unfold x_fls; simp only [List.mem_cons, true_or, or_true])
      have h2 := PA.ref 57 hI hP (k := 13) (by decide) rfl (by decide) (by decide)
      have h3 : c = 103 := by omega
      subst h3
      have h4 : μ.1 98 13 = z.1 98 13 := by rw [h2]; exact k2
      refine ⟨?_, Or.inr h4⟩
      show hOk g (SD 52 13) (μ.1 98 13)
      rw [h4]
      exact hI.sl hg (by decide) rfl (by decide)
    · have h1 : 105 ≤ y_rg (n_get M.1 34).2.2 14 ∧ y_rg (n_get M.1 34).2.2 14 ≤ 105 := hF (14, 105, 105) (by unfold x_fls; simp only [List.mem_cons, true_or, or_true])
      have h2 := PA.ref 58 hI hP (k := 14) (by decide) rfl (by decide) (by decide)
      have h3 : c = 104 := by omega
      subst h3
      have h4 : μ.1 98 14 = z.1 98 14 := by rw [h2]; exact k2
      refine ⟨?_, Or.inr h4⟩
      show hOk g (SD 52 14) (μ.1 98 14)
      rw [h4]
      exact hI.sl hg (by decide) rfl (by decide)
    · have h1 : 106 ≤ y_rg (n_get M.1 34).2.2 15 ∧ y_rg (n_get M.1 34).2.2 15 ≤ 106 := hF (15, 106, 106) (by unfold x_fls; simp only [List.mem_cons, true_or, or_true])
      have h2 := PA.ref 59 hI hP (k := 15) (by decide) rfl (by decide) (by decide)
      have h3 : c = 105 := by omega
      subst h3
      have h4 : μ.1 98 15 = z.1 98 15 := by rw [h2]; exact k2
      refine ⟨?_, Or.inr h4⟩
      show hOk g (SD 52 15) (μ.1 98 15)
      rw [h4]
      exact hI.sl hg (by decide) rfl (by decide)
    · have h1 : 107 ≤ y_rg (n_get M.1 34).2.2 16 ∧ y_rg (n_get M.1 34).2.2 16 ≤ 107 := hF (16, 107, 107) (by unfold x_fls; simp only [List.mem_cons, true_or, or_true])
      have h2 := PA.ref 60 hI hP (k := 16) (by decide) rfl (by decide) (by decide)
      have h3 : c = 106 := by omega
      subst h3
      have h4 : μ.1 98 16 = z.1 98 16 := by rw [h2]; exact k2
      refine ⟨?_, Or.inr h4⟩
      show hOk g (SD 52 16) (μ.1 98 16)
      rw [h4]
      exact hI.sl hg (by decide) rfl (by decide)
    · have h1 : 108 ≤ y_rg (n_get M.1 34).2.2 17 ∧ y_rg (n_get M.1 34).2.2 17 ≤ 108 := hF (17, 108, 108) (by unfold x_fls; simp only [List.mem_cons, true_or, or_true])
      have h2 := PA.ref 61 hI hP (k := 17) (by decide) rfl (by decide) (by decide)
      have h3 : c = 107 := by omega
      subst h3
      have h4 : μ.1 98 17 = z.1 98 17 := by rw [h2]; exact k2
      refine ⟨?_, Or.inr h4⟩
      show hOk g (SD 52 17) (μ.1 98 17)
      rw [h4]
      exact hI.sl hg (by decide) rfl (by decide)
    · have h1 : 0 ≤ y_rg (n_get M.1 34).2.2 18 ∧ y_rg (n_get M.1 34).2.2 18 ≤ 891 := hF (18, 0, 891) (by unfold x_fls; simp only [List.mem_cons, true_or, or_true])
      exact ⟨x_rowk (hi := 890) rfl k2 (by decide) (by omega), Or.inl (by decide)⟩
    · have h1 : 109 ≤ y_rg (n_get M.1 34).2.2 19 ∧ y_rg (n_get M.1 34).2.2 19 ≤ 109 := hF (19, 109, 109) (by unfold x_fls; simp only [List.mem_cons, true_or, or_true])
      have h2 := PA.ref 62 hI hP (k := 19) (by decide) rfl (by decide) (by decide)
      have h3 : c = 108 := by omega
      subst h3
      have h4 : μ.1 98 19 = z.1 98 19 := by rw [h2]; exact k2
      refine ⟨?_, Or.inr h4⟩
      show hOk g (SD 52 19) (μ.1 98 19)
      rw [h4]
      exact hI.sl hg (by decide) rfl (by decide)
    · have h1 : 0 ≤ y_rg (n_get M.1 34).2.2 20 ∧ y_rg (n_get M.1 34).2.2 20 ≤ 6 := hF (20, 0, 6) (by unfold x_fls; simp only [List.mem_cons, true_or, or_true])
      exact ⟨x_rowk (hi := 5) rfl k2 (by decide) (by omega), Or.inl (by decide)⟩
    · have h1 : 110 ≤ y_rg (n_get M.1 34).2.2 21 ∧ y_rg (n_get M.1 34).2.2 21 ≤ 110 := hF (21, 110, 110) (by unfold x_fls; simp only [List.mem_cons, true_or, or_true])
      have h2 := PA.ref 63 hI hP (k := 21) (by decide) rfl (by decide) (by decide)
      have h3 : c = 109 := by omega
      subst h3
      have h4 : μ.1 98 21 = z.1 98 21 := by rw [h2]; exact k2
      refine ⟨?_, Or.inr h4⟩
      show hOk g (SD 52 21) (μ.1 98 21)
      rw [h4]
      exact hI.sl hg (by decide) rfl (by decide)
    · have h1 : 111 ≤ y_rg (n_get M.1 34).2.2 22 ∧ y_rg (n_get M.1 34).2.2 22 ≤ 111 := hF (22, 111, 111) (by unfold x_fls; simp only [List.mem_cons, true_or, or_true])
      have h2 := PA.ref 64 hI hP (k := 22) (by decide) rfl (by decide) (by decide)
      have h3 : c = 110 := by omega
      subst h3
      have h4 : μ.1 98 22 = z.1 98 22 := by rw [h2]; exact k2
      refine ⟨?_, Or.inr h4⟩
      show hOk g (SD 52 22) (μ.1 98 22)
      rw [h4]
      exact hI.sl hg (by decide) rfl (by decide)
    · have h1 : 112 ≤ y_rg (n_get M.1 34).2.2 23 ∧ y_rg (n_get M.1 34).2.2 23 ≤ 112 := hF (23, 112, 112) (by unfold x_fls; simp only [List.mem_cons, true_or, or_true])
      have h2 := PA.ref 65 hI hP (k := 23) (by decide) rfl (by decide) (by decide)
      have h3 : c = 111 := by omega
      subst h3
      have h4 : μ.1 98 23 = z.1 98 23 := by rw [h2]; exact k2
      refine ⟨?_, Or.inr h4⟩
      show hOk g (SD 52 23) (μ.1 98 23)
      rw [h4]
      exact hI.sl hg (by decide) rfl (by decide)
    · have h1 : 113 ≤ y_rg (n_get M.1 34).2.2 24 ∧ y_rg (n_get M.1 34).2.2 24 ≤ 113 := hF (24, 113, 113) (by unfold x_fls; simp only [List.mem_cons, true_or, or_true])
      have h2 := PA.ref 66 hI hP (k := 24) (by decide) rfl (by decide) (by decide)
      have h3 : c = 112 := by omega
      subst h3
      have h4 : μ.1 98 24 = z.1 98 24 := by rw [h2]; exact k2
      refine ⟨?_, Or.inr h4⟩
      show hOk g (SD 52 24) (μ.1 98 24)
      rw [h4]
      exact hI.sl hg (by decide) rfl (by decide)
    · have h1 : 114 ≤ y_rg (n_get M.1 34).2.2 25 ∧ y_rg (n_get M.1 34).2.2 25 ≤ 114 := hF (25, 114, 114) (by unfold x_fls; simp only [List.mem_cons, true_or, or_true])
      have h2 := PA.ref 67 hI hP (k := 25) (by decide) rfl (by decide) (by decide)
      have h3 : c = 113 := by omega
      subst h3
      have h4 : μ.1 98 25 = z.1 98 25 := by rw [h2]; exact k2
      refine ⟨?_, Or.inr h4⟩
      show hOk g (SD 52 25) (μ.1 98 25)
      rw [h4]
      exact hI.sl hg (by decide) rfl (by decide)
    · have h1 : 115 ≤ y_rg (n_get M.1 34).2.2 26 ∧ y_rg (n_get M.1 34).2.2 26 ≤ 115 := hF (26, 115, 115) (by unfold x_fls; simp only [List.mem_cons, true_or, or_true])
      have h2 := PA.ref 68 hI hP (k := 26) (by decide) rfl (by decide) (by decide)
      have h3 : c = 114 := by omega
      subst h3
      have h4 : μ.1 98 26 = z.1 98 26 := by rw [h2]; exact k2
      refine ⟨?_, Or.inr h4⟩
      show hOk g (SD 52 26) (μ.1 98 26)
      rw [h4]
      exact hI.sl hg (by decide) rfl (by decide)
    · have h1 : 116 ≤ y_rg (n_get M.1 34).2.2 27 ∧ y_rg (n_get M.1 34).2.2 27 ≤ 116 := hF (27, 116, 116) (by unfold x_fls; simp only [List.mem_cons, true_or, or_true])
      have h2 := PA.ref 69 hI hP (k := 27) (by decide) rfl (by decide) (by decide)
      have h3 : c = 115 := by omega
      subst h3
      have h4 : μ.1 98 27 = z.1 98 27 := by rw [h2]; exact k2
      refine ⟨?_, Or.inr h4⟩
      show hOk g (SD 52 27) (μ.1 98 27)
      rw [h4]
      exact hI.sl hg (by decide) rfl (by decide)
    · have h1 : 0 ≤ y_rg (n_get M.1 34).2.2 28 ∧ y_rg (n_get M.1 34).2.2 28 ≤ 2671 := hF (28, 0, 2671) (by unfold x_fls; simp only [List.mem_cons, true_or, or_true])
      exact ⟨x_rowk (hi := 2670) rfl k2 (by decide) (by omega), Or.inl (by decide)⟩
    · have h1 : 0 ≤ y_rg (n_get M.1 34).2.2 29 ∧ y_rg (n_get M.1 34).2.2 29 ≤ 8192 := hF (29, 0, 8192) (by unfold x_fls; simp only [List.mem_cons, true_or, or_true])
      exact ⟨x_rowk (hi := 8191) rfl k2 (by decide) (by omega), Or.inl (by decide)⟩
    · have h1 : 117 ≤ y_rg (n_get M.1 34).2.2 30 ∧ y_rg (n_get M.1 34).2.2 30 ≤ 117 := hF (30, 117, 117) (by unfold x_fls; simp only [List.mem_cons, true_or, or_true])
      have h2 := PA.ref 70 hI hP (k := 30) (by decide) rfl (by decide) (by decide)
      have h3 : c = 116 := by omega
      subst h3
      have h4 : μ.1 98 30 = z.1 98 30 := by rw [h2]; exact k2
      refine ⟨?_, Or.inr h4⟩
      show hOk g (SD 52 30) (μ.1 98 30)
      rw [h4]
      exact hI.sl hg (by decide) rfl (by decide)
    · have h1 : 118 ≤ y_rg (n_get M.1 34).2.2 31 ∧ y_rg (n_get M.1 34).2.2 31 ≤ 118 := hF (31, 118, 118) (by unfold x_fls; simp only [List.mem_cons, true_or, or_true])
      have h2 := PA.ref 71 hI hP (k := 31) (by decide) rfl (by decide) (by decide)
      have h3 : c = 117 := by omega
      subst h3
      have h4 : μ.1 98 31 = z.1 98 31 := by rw [h2]; exact k2
      refine ⟨?_, Or.inr h4⟩
      show hOk g (SD 52 31) (μ.1 98 31)
      rw [h4]
      exact hI.sl hg (by decide) rfl (by decide)
    · have h1 : 119 ≤ y_rg (n_get M.1 34).2.2 32 ∧ y_rg (n_get M.1 34).2.2 32 ≤ 119 := hF (32, 119, 119) (by unfold x_fls; simp only [List.mem_cons, true_or, or_true])
      have h2 := PA.ref 72 hI hP (k := 32) (by decide) rfl (by decide) (by decide)
      have h3 : c = 118 := by omega
      subst h3
      have h4 : μ.1 98 32 = z.1 98 32 := by rw [h2]; exact k2
      refine ⟨?_, Or.inr h4⟩
      show hOk g (SD 52 32) (μ.1 98 32)
      rw [h4]
      exact hI.sl hg (by decide) rfl (by decide)
    · have h1 : 120 ≤ y_rg (n_get M.1 34).2.2 33 ∧ y_rg (n_get M.1 34).2.2 33 ≤ 120 := hF (33, 120, 120) (by unfold x_fls; simp only [List.mem_cons, true_or, or_true])
      have h2 := PA.ref 73 hI hP (k := 33) (by decide) rfl (by decide) (by decide)
      have h3 : c = 119 := by omega
      subst h3
      have h4 : μ.1 98 33 = z.1 98 33 := by rw [h2]; exact k2
      refine ⟨?_, Or.inr h4⟩
      show hOk g (SD 52 33) (μ.1 98 33)
      rw [h4]
      exact hI.sl hg (by decide) rfl (by decide)
    · have h1 : 0 ≤ y_rg (n_get M.1 34).2.2 34 ∧ y_rg (n_get M.1 34).2.2 34 ≤ 0 := hF (34, 0, 0) (by unfold x_fls; simp only [List.mem_cons, true_or, or_true])
      omega
    · have h1 : 0 ≤ y_rg (n_get M.1 34).2.2 35 ∧ y_rg (n_get M.1 34).2.2 35 ≤ 0 := hF (35, 0, 0) (by unfold x_fls; simp only [List.mem_cons, true_or, or_true])
      omega
    · have h1 : 121 ≤ y_rg (n_get M.1 34).2.2 36 ∧ y_rg (n_get M.1 34).2.2 36 ≤ 121 := hF (36, 121, 121) (by unfold x_fls; simp only [List.mem_cons, true_or, or_true])
      have h2 := PA.ref 74 hI hP (k := 36) (by decide) rfl (by decide) (by decide)
      have h3 : c = 120 := by omega
      subst h3
      have h4 : μ.1 98 36 = z.1 98 36 := by rw [h2]; exact k2
      refine ⟨?_, Or.inr h4⟩
      show hOk g (SD 52 36) (μ.1 98 36)
      rw [h4]
      exact hI.sl hg (by decide) rfl (by decide)
    · have h1 : 122 ≤ y_rg (n_get M.1 34).2.2 37 ∧ y_rg (n_get M.1 34).2.2 37 ≤ 122 := hF (37, 122, 122) (by unfold x_fls; simp only [List.mem_cons, true_or, or_true])
      have h2 := PA.ref 75 hI hP (k := 37) (by decide) rfl (by decide) (by decide)
      have h3 : c = 121 := by omega
      subst h3
      have h4 : μ.1 98 37 = z.1 98 37 := by rw [h2]; exact k2
      refine ⟨?_, Or.inr h4⟩
      show hOk g (SD 52 37) (μ.1 98 37)
      rw [h4]
      exact hI.sl hg (by decide) rfl (by decide)
    · have h1 : 0 ≤ y_rg (n_get M.1 34).2.2 38 ∧ y_rg (n_get M.1 34).2.2 38 ≤ 0 := hF (38, 0, 0) (by unfold x_fls; simp only [List.mem_cons, true_or, or_true])
      omega
    · have h1 : 123 ≤ y_rg (n_get M.1 34).2.2 39 ∧ y_rg (n_get M.1 34).2.2 39 ≤ 123 := hF (39, 123, 123) (by unfold x_fls; simp only [List.mem_cons, true_or, or_true])
      have h2 := PA.ref 76 hI hP (k := 39) (by decide) rfl (by decide) (by decide)
      have h3 : c = 122 := by omega
      subst h3
      have h4 : μ.1 98 39 = z.1 98 39 := by rw [h2]; exact k2
      refine ⟨?_, Or.inr h4⟩
      show hOk g (SD 52 39) (μ.1 98 39)
      rw [h4]
      exact hI.sl hg (by decide) rfl (by decide)
    · have h1 : 124 ≤ y_rg (n_get M.1 34).2.2 40 ∧ y_rg (n_get M.1 34).2.2 40 ≤ 124 := hF (40, 124, 124) (by unfold x_fls; simp only [List.mem_cons, true_or, or_true])
      have h2 := PA.ref 77 hI hP (k := 40) (by decide) rfl (by decide) (by decide)
      have h3 : c = 123 := by omega
      subst h3
      have h4 : μ.1 98 40 = z.1 98 40 := by rw [h2]; exact k2
      refine ⟨?_, Or.inr h4⟩
      show hOk g (SD 52 40) (μ.1 98 40)
      rw [h4]
      exact hI.sl hg (by decide) rfl (by decide)
    · have h1 : 0 ≤ y_rg (n_get M.1 34).2.2 41 ∧ y_rg (n_get M.1 34).2.2 41 ≤ 0 := hF (41, 0, 0) (by unfold x_fls; simp only [List.mem_cons, true_or, or_true])
      omega
    · have h1 : 125 ≤ y_rg (n_get M.1 34).2.2 42 ∧ y_rg (n_get M.1 34).2.2 42 ≤ 125 := hF (42, 125, 125) (by unfold x_fls; simp only [List.mem_cons, true_or, or_true])
      have h2 := PA.ref 78 hI hP (k := 42) (by decide) rfl (by decide) (by decide)
      have h3 : c = 124 := by omega
      subst h3
      have h4 : μ.1 98 42 = z.1 98 42 := by rw [h2]; exact k2
      refine ⟨?_, Or.inr h4⟩
      show hOk g (SD 52 42) (μ.1 98 42)
      rw [h4]
      exact hI.sl hg (by decide) rfl (by decide)
    · have h1 : 126 ≤ y_rg (n_get M.1 34).2.2 43 ∧ y_rg (n_get M.1 34).2.2 43 ≤ 126 := hF (43, 126, 126) (by unfold x_fls; simp only [List.mem_cons, true_or, or_true])
      have h2 := PA.ref 79 hI hP (k := 43) (by decide) rfl (by decide) (by decide)
      have h3 : c = 125 := by omega
      subst h3
      have h4 : μ.1 98 43 = z.1 98 43 := by rw [h2]; exact k2
      refine ⟨?_, Or.inr h4⟩
      show hOk g (SD 52 43) (μ.1 98 43)
      rw [h4]
      exact hI.sl hg (by decide) rfl (by decide)
    · have h1 : 127 ≤ y_rg (n_get M.1 34).2.2 44 ∧ y_rg (n_get M.1 34).2.2 44 ≤ 127 := hF (44, 127, 127) (by unfold x_fls; simp only [List.mem_cons, true_or, or_true])
      have h2 := PA.ref 80 hI hP (k := 44) (by decide) rfl (by decide) (by decide)
      have h3 : c = 126 := by omega
      subst h3
      have h4 : μ.1 98 44 = z.1 98 44 := by rw [h2]; exact k2
      refine ⟨?_, Or.inr h4⟩
      show hOk g (SD 52 44) (μ.1 98 44)
      rw [h4]
      exact hI.sl hg (by decide) rfl (by decide)
    · have h1 : 128 ≤ y_rg (n_get M.1 34).2.2 45 ∧ y_rg (n_get M.1 34).2.2 45 ≤ 128 := hF (45, 128, 128) (by unfold x_fls; simp only [List.mem_cons, true_or, or_true])
      have h2 := PA.ref 81 hI hP (k := 45) (by decide) rfl (by decide) (by decide)
      have h3 : c = 127 := by omega
      subst h3
      have h4 : μ.1 98 45 = z.1 98 45 := by rw [h2]; exact k2
      refine ⟨?_, Or.inr h4⟩
      show hOk g (SD 52 45) (μ.1 98 45)
      rw [h4]
      exact hI.sl hg (by decide) rfl (by decide)
    · have h1 : 129 ≤ y_rg (n_get M.1 34).2.2 46 ∧ y_rg (n_get M.1 34).2.2 46 ≤ 129 := hF (46, 129, 129) (by unfold x_fls; simp only [List.mem_cons, true_or, or_true])
      have h2 := PA.ref 82 hI hP (k := 46) (by decide) rfl (by decide) (by decide)
      have h3 : c = 128 := by omega
      subst h3
      have h4 : μ.1 98 46 = z.1 98 46 := by rw [h2]; exact k2
      refine ⟨?_, Or.inr h4⟩
      show hOk g (SD 52 46) (μ.1 98 46)
      rw [h4]
      exact hI.sl hg (by decide) rfl (by decide)
    · have h1 : 130 ≤ y_rg (n_get M.1 34).2.2 47 ∧ y_rg (n_get M.1 34).2.2 47 ≤ 130 := hF (47, 130, 130) (by unfold x_fls; simp only [List.mem_cons, true_or, or_true])
      have h2 := PA.ref 83 hI hP (k := 47) (by decide) rfl (by decide) (by decide)
      have h3 : c = 129 := by omega
      subst h3
      have h4 : μ.1 98 47 = z.1 98 47 := by rw [h2]; exact k2
      refine ⟨?_, Or.inr h4⟩
      show hOk g (SD 52 47) (μ.1 98 47)
      rw [h4]
      exact hI.sl hg (by decide) rfl (by decide)
    · have h1 : 131 ≤ y_rg (n_get M.1 34).2.2 48 ∧ y_rg (n_get M.1 34).2.2 48 ≤ 131 := hF (48, 131, 131) (by unfold x_fls; simp only [List.mem_cons, true_or, or_true])
      have h2 := PA.ref 84 hI hP (k := 48) (by decide) rfl (by decide) (by decide)
      have h3 : c = 130 := by omega
      subst h3
      have h4 : μ.1 98 48 = z.1 98 48 := by rw [h2]; exact k2
      refine ⟨?_, Or.inr h4⟩
      show hOk g (SD 52 48) (μ.1 98 48)
      rw [h4]
      exact hI.sl hg (by decide) rfl (by decide)
    · have h1 : 0 ≤ y_rg (n_get M.1 34).2.2 49 ∧ y_rg (n_get M.1 34).2.2 49 ≤ 0 := hF (49, 0, 0) (by unfold x_fls; simp only [List.mem_cons, true_or, or_true])
      omega
    · have h1 : 0 ≤ y_rg (n_get M.1 34).2.2 50 ∧ y_rg (n_get M.1 34).2.2 50 ≤ 0 := hF (50, 0, 0) (by unfold x_fls; simp only [List.mem_cons, true_or, or_true])
      omega
    · have h1 : 132 ≤ y_rg (n_get M.1 34).2.2 51 ∧ y_rg (n_get M.1 34).2.2 51 ≤ 132 := hF (51, 132, 132) (by unfold x_fls; simp only [List.mem_cons, true_or, or_true])
      have h2 := PA.ref 85 hI hP (k := 51) (by decide) rfl (by decide) (by decide)
      have h3 : c = 131 := by omega
      subst h3
      have h4 : μ.1 98 51 = z.1 98 51 := by rw [h2]; exact k2
      refine ⟨?_, Or.inr h4⟩
      show hOk g (SD 52 51) (μ.1 98 51)
      rw [h4]
      exact hI.sl hg (by decide) rfl (by decide)
    · have h1 : 133 ≤ y_rg (n_get M.1 34).2.2 52 ∧ y_rg (n_get M.1 34).2.2 52 ≤ 133 := hF (52, 133, 133) (by unfold x_fls; simp only [List.mem_cons, true_or, or_true])
      have h2 := PA.ref 86 hI hP (k := 52) (by decide) rfl (by decide) (by decide)
      have h3 : c = 132 := by omega
      subst h3
      have h4 : μ.1 98 52 = z.1 98 52 := by rw [h2]; exact k2
      refine ⟨?_, Or.inr h4⟩
      show hOk g (SD 52 52) (μ.1 98 52)
      rw [h4]
      exact hI.sl hg (by decide) rfl (by decide)
    · have h1 : 134 ≤ y_rg (n_get M.1 34).2.2 53 ∧ y_rg (n_get M.1 34).2.2 53 ≤ 134 := hF (53, 134, 134) (by unfold x_fls; simp only [List.mem_cons, true_or, or_true])
      have h2 := PA.ref 87 hI hP (k := 53) (by decide) rfl (by decide) (by decide)
      have h3 : c = 133 := by omega
      subst h3
      have h4 : μ.1 98 53 = z.1 98 53 := by rw [h2]; exact k2
      refine ⟨?_, Or.inr h4⟩
      show hOk g (SD 52 53) (μ.1 98 53)
      rw [h4]
      exact hI.sl hg (by decide) rfl (by decide)
    · have h1 : 0 ≤ y_rg (n_get M.1 34).2.2 54 ∧ y_rg (n_get M.1 34).2.2 54 ≤ 0 := hF (54, 0, 0) (by unfold x_fls; simp only [List.mem_cons, true_or, or_true])
      omega
    · have h1 : 0 ≤ y_rg (n_get M.1 34).2.2 55 ∧ y_rg (n_get M.1 34).2.2 55 ≤ 0 := hF (55, 0, 0) (by unfold x_fls; simp only [List.mem_cons, true_or, or_true])
      omega
    · have h1 : 0 ≤ y_rg (n_get M.1 34).2.2 56 ∧ y_rg (n_get M.1 34).2.2 56 ≤ 0 := hF (56, 0, 0) (by unfold x_fls; simp only [List.mem_cons, true_or, or_true])
      omega
    · have h1 : 0 ≤ y_rg (n_get M.1 34).2.2 57 ∧ y_rg (n_get M.1 34).2.2 57 ≤ 0 := hF (57, 0, 0) (by unfold x_fls; simp only [List.mem_cons, true_or, or_true])
      omega
    · have h1 : 0 ≤ y_rg (n_get M.1 34).2.2 58 ∧ y_rg (n_get M.1 34).2.2 58 ≤ 0 := hF (58, 0, 0) (by unfold x_fls; simp only [List.mem_cons, true_or, or_true])
      omega
    · have h1 : 0 ≤ y_rg (n_get M.1 34).2.2 59 ∧ y_rg (n_get M.1 34).2.2 59 ≤ 0 := hF (59, 0, 0) (by unfold x_fls; simp only [List.mem_cons, true_or, or_true])
      omega
    · have h1 : 0 ≤ y_rg (n_get M.1 34).2.2 60 ∧ y_rg (n_get M.1 34).2.2 60 ≤ 0 := hF (60, 0, 0) (by unfold x_fls; simp only [List.mem_cons, true_or, or_true])
      omega
    · have h1 : 0 ≤ y_rg (n_get M.1 34).2.2 61 ∧ y_rg (n_get M.1 34).2.2 61 ≤ 0 := hF (61, 0, 0) (by unfold x_fls; simp only [List.mem_cons, true_or, or_true])
      omega
    · have h1 : 0 ≤ y_rg (n_get M.1 34).2.2 62 ∧ y_rg (n_get M.1 34).2.2 62 ≤ 0 := hF (62, 0, 0) (by unfold x_fls; simp only [List.mem_cons, true_or, or_true])
      omega
    · have h1 : 0 ≤ y_rg (n_get M.1 34).2.2 63 ∧ y_rg (n_get M.1 34).2.2 63 ≤ 0 := hF (63, 0, 0) (by unfold x_fls; simp only [List.mem_cons, true_or, or_true])
      omega
    · have h1 : 0 ≤ y_rg (n_get M.1 34).2.2 64 ∧ y_rg (n_get M.1 34).2.2 64 ≤ 0 := hF (64, 0, 0) (by unfold x_fls; simp only [List.mem_cons, true_or, or_true])
      omega
    · have h1 : 0 ≤ y_rg (n_get M.1 34).2.2 65 ∧ y_rg (n_get M.1 34).2.2 65 ≤ 0 := hF (65, 0, 0) (by unfold x_fls; simp only [List.mem_cons, true_or, or_true])
      omega
    · have h1 : 135 ≤ y_rg (n_get M.1 34).2.2 66 ∧ y_rg (n_get M.1 34).2.2 66 ≤ 135 := hF (66, 135, 135) (by unfold x_fls; simp only [List.mem_cons, true_or, or_true])
      have h2 := PA.ref 88 hI hP (k := 66) (by decide) rfl (by decide) (by decide)
      have h3 : c = 134 := by omega
      subst h3
      have h4 : μ.1 98 66 = z.1 98 66 := by rw [h2]; exact k2
      refine ⟨?_, Or.inr h4⟩
      show hOk g (SD 52 66) (μ.1 98 66)
      rw [h4]
      exact hI.sl hg (by decide) rfl (by decide)
    · have h1 : 136 ≤ y_rg (n_get M.1 34).2.2 67 ∧ y_rg (n_get M.1 34).2.2 67 ≤ 136 := hF (67, 136, 136) (by unfold x_fls; simp only [List.mem_cons, true_or, or_true])
      have h2 := PA.ref 89 hI hP (k := 67) (by decide) rfl (by decide) (by decide)
      have h3 : c = 135 := by omega
      subst h3
      have h4 : μ.1 98 67 = z.1 98 67 := by rw [h2]; exact k2
      refine ⟨?_, Or.inr h4⟩
      show hOk g (SD 52 67) (μ.1 98 67)
      rw [h4]
      exact hI.sl hg (by decide) rfl (by decide)
    · have h1 : 0 ≤ y_rg (n_get M.1 34).2.2 68 ∧ y_rg (n_get M.1 34).2.2 68 ≤ 0 := hF (68, 0, 0) (by unfold x_fls; simp only [List.mem_cons, true_or, or_true])
      omega
  · obtain ⟨k1, k2⟩ := x_val hQ hI hg rfl hj2 hn hc
    have h1 := x_al_ok _ c2 k (Nat.zero_le _) (by omega)
    rw [hc] at h1
    exact ⟨x_rowk (hi := 890) rfl k2 (by decide) h1, Or.inl (by rw [fc_row rfl]; decide)⟩
  · obtain ⟨k1, k2⟩ := x_val hQ hI hg rfl hj2 hn hc
    exact ⟨x_rowi rfl k2, Or.inl (by rw [fc_row rfl]; decide)⟩
  · obtain ⟨k1, k2⟩ := x_val hQ hI hg rfl hj2 hn hc
    exact ⟨x_rowi rfl k2, Or.inl (by rw [fc_row rfl]; decide)⟩
  · obtain ⟨k1, k2⟩ := x_val hQ hI hg rfl hj2 hn hc
    have h1 := x_al_ok _ c3 k (Nat.zero_le _) (by omega)
    rw [hc] at h1
    exact ⟨x_rowk (hi := 1) rfl k2 (by decide) h1, Or.inl (by rw [fc_row rfl]; decide)⟩
  · obtain ⟨k1, k2⟩ := x_val hQ hI hg rfl hj2 hn hc
    have h1 := x_al_ok _ c4 k (Nat.zero_le _) (by omega)
    rw [hc] at h1
    exact ⟨x_rowk (hi := 1) rfl k2 (by decide) h1, Or.inl (by rw [fc_row rfl]; decide)⟩
  · obtain ⟨k1, k2⟩ := x_val hQ hI hg rfl hj2 hn hc
    refine ⟨?_, Or.inl (by rw [fc_row rfl]; decide)⟩
    by_cases h8 : k < 890
    · have h1 := x_al_ok _ c5 k (Nat.zero_le _) (by omega)
      rw [hc] at h1
      refine x_rowm (hi := 889) ?_ k2 (by decide) h1
      show (bif Nat.ble 890 k then _ else _) = _
      rw [show Nat.ble 890 k = false by rw [Bool.eq_false_iff]; exact fun q => by have := Nat.ble_eq.mp q; omega]
      rfl
    · have h1 := x_al_ok _ c6 k (by omega) (by omega)
      rw [hc] at h1
      exact x_rowk (hi := 889) (SDfrom (by omega)) k2 (by decide) h1
  · obtain ⟨k1, k2⟩ := x_val hQ hI hg rfl hj2 hn hc
    exact ⟨x_rowi rfl k2, Or.inl (by rw [fc_row rfl]; decide)⟩
  · obtain ⟨k1, k2⟩ := x_val hQ hI hg rfl hj2 hn hc
    exact ⟨x_rowi rfl k2, Or.inl (by rw [fc_row rfl]; decide)⟩
  · obtain ⟨k1, k2⟩ := x_val hQ hI hg rfl hj2 hn hc
    exact ⟨x_rowi rfl k2, Or.inl (by rw [fc_row rfl]; decide)⟩
  · obtain ⟨k1, k2⟩ := x_val hQ hI hg rfl hj2 hn hc
    exact ⟨x_rowi rfl k2, Or.inl (by rw [fc_row rfl]; decide)⟩
  · obtain ⟨k1, k2⟩ := x_val hQ hI hg rfl hj2 hn hc
    have h1 := x_al_ok _ c7 k (Nat.zero_le _) (by omega)
    rw [hc] at h1
    exact ⟨x_rowm (hi := 2669) rfl k2 (by decide) h1, Or.inl (by rw [fc_row rfl]; decide)⟩
  · obtain ⟨k1, k2⟩ := x_val hQ hI hg rfl hj2 hn hc
    have h1 := x_al_ok _ c8 k (Nat.zero_le _) (by omega)
    rw [hc] at h1
    exact ⟨x_rowk (hi := 2669) rfl k2 (by decide) h1, Or.inl (by rw [fc_row rfl]; decide)⟩
  · obtain ⟨k1, k2⟩ := x_val hQ hI hg rfl hj2 hn hc
    exact ⟨x_rowi rfl k2, Or.inl (by rw [fc_row rfl]; decide)⟩
  · obtain ⟨k1, k2⟩ := x_val hQ hI hg rfl hj2 hn hc
    exact ⟨x_rowi rfl k2, Or.inl (by rw [fc_row rfl]; decide)⟩
  · obtain ⟨k1, k2⟩ := x_val hQ hI hg rfl hj2 hn hc
    have h1 := x_al_ok _ c9 k (Nat.zero_le _) (by omega)
    rw [hc] at h1
    exact ⟨x_rowm (hi := 889) rfl k2 (by decide) h1, Or.inl (by rw [fc_row rfl]; decide)⟩
  · obtain ⟨k1, k2⟩ := x_val hQ hI hg rfl hj2 hn hc
    have h1 := x_al_ok _ c10 k (Nat.zero_le _) (by omega)
    rw [hc] at h1
    exact ⟨x_rowm (hi := 889) rfl k2 (by decide) h1, Or.inl (by rw [fc_row rfl]; decide)⟩
  · obtain ⟨k1, k2⟩ := x_val hQ hI hg rfl hj2 hn hc
    have h1 := x_al_ok _ c11 k (Nat.zero_le _) (by omega)
    rw [hc] at h1
    exact ⟨x_rowm (hi := 889) rfl k2 (by decide) h1, Or.inl (by rw [fc_row rfl]; decide)⟩
  · have h1 := x_z0_ok _ c12 k
    omega
  · have h1 := x_z0_ok _ c13 k
    omega
  · have h1 := x_z0_ok _ c14 k
    omega
  · have h1 := x_z0_ok _ c15 k
    omega
  · have h1 := x_z0_ok _ c16 k
    omega
  · have h1 := x_z0_ok _ c17 k
    omega
  · have h1 := x_z0_ok _ c18 k
    omega
  · have h1 := x_z0_ok _ c19 k
    omega
  · have h1 := x_z0_ok _ c20 k
    omega
  · have h1 := x_z0_ok _ c21 k
    omega
  · have h1 := x_z0_ok _ c22 k
    omega
  · have h1 := x_z0_ok _ c23 k
    omega
  · have h1 := x_z0_ok _ c24 k
    omega
  · have h1 := x_z0_ok _ c25 k
    omega
  · have h1 := x_z0_ok _ c26 k
    omega
  · have h1 := x_z0_ok _ c27 k
    omega
  · have h1 := x_z0_ok _ c28 k
    omega
  · have h1 := x_z0_ok _ c29 k
    omega
  · have h1 := x_z0_ok _ c30 k
    omega
  · have h1 := x_z0_ok _ c31 k
    omega
theorem x_unk {z μ : eM} {M : yM} {a k : Nat} (hQ : xQ z M μ) (h : ¬ ∃ j c, a = j + 64 ∧ j < M.2.1 ∧ k < (n_get M.1 j).2.1 ∧ y_rg (n_get M.1 j).2.2 k = c + 1) : μ.1 a k = z.1 a k := by
  refine hQ.2.2 a k (fun j hj ha hk => ?_)
  cases hq : y_rg (n_get M.1 j).2.2 k with
  | zero => rfl
  | succ c => exact absurd ⟨j, c, ha, hj, hk, hq⟩ h
theorem x_SI {z μ : eM} {M : yM} {g : Nat → Nat} (hQ : xQ z M μ) (hI : SI g z) (hP : PA g) (hck : x_ck M = true) : SI g μ ∧ Fr l_239 0 0 g z μ := by
  have e2 : ∀ a, ev_kn μ a = ev_kn z a := fun a => by
    unfold ev_kn
    rw [hQ.2.1]
  refine ⟨⟨hI.1, fun a ha => by rw [e2]; exact hI.2.1 a ha, fun a k ha hk => ?_, hI.2.2.2⟩, ?_, ?_, fun a k ha hk => ?_⟩
  · by_cases h : ∃ j c, a = j + 64 ∧ j < M.2.1 ∧ k < (n_get M.1 j).2.1 ∧ y_rg (n_get M.1 j).2.2 k = c + 1
    · obtain ⟨j, c, rfl, hj, hn, hc⟩ := h
      obtain ⟨h1, h2, h3, -⟩ := x_known hQ hI hP hck hj hn hc
      rw [hP j h1 h2]
      exact h3
    · rw [x_unk hQ h]
      exact hI.2.2.1 a k ha hk
  · rw [hQ.2.1]
    exact Nat.le_refl _
  · rw [hQ.2.1]
    exact Nat.le_refl _
  · by_cases h : ∃ j c, a = j + 64 ∧ j < M.2.1 ∧ k < (n_get M.1 j).2.1 ∧ y_rg (n_get M.1 j).2.2 k = c + 1
    · obtain ⟨j, c, rfl, hj, hn, hc⟩ := h
      obtain ⟨h1, h2, -, h3⟩ := x_known hQ hI hP hck hj hn hc
      rw [hP j h1 h2] at hk
      exact h3.resolve_left hk
    · exact x_unk hQ h
