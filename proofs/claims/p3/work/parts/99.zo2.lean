/-! THE REFERENCE, EXACT: what is known of memory holds; what is not known is as it was -/
def xD : Nat × Nat × Lean.RArray Nat := (104, 0, .leaf 0)
def xR (M : yM) (μ : eM) : Prop := M.2.1 ≤ 128 ∧ ∀ j, j < M.2.1 → n_get M.1 j = xD ∨ (μ.2.1[j]? = some ((n_get M.1 j).1, (n_get M.1 j).2.1) ∧ y_row (n_get M.1 j).1 (n_get M.1 j).2.1 (n_get M.1 j).2.2 (μ.1 (j + 64)))
def xQ (z : eM) (M : yM) (μ : eM) : Prop := xR M μ ∧ μ.2 = z.2 ∧ ∀ a k, (∀ j, j < M.2.1 → a = j + 64 → k < (n_get M.1 j).2.1 → y_rg (n_get M.1 j).2.2 k = 0) → μ.1 a k = z.1 a k
theorem xD_rg (k : Nat) : y_rg (.leaf 0) k = 0 := by
  show n_at 0 (k % 256) = 0
  rw [n_at_eq]
  unfold cd
  rw [Nat.zero_div, Nat.zero_mod]
theorem f_if_ff (c : Bool) : f_if false c false = false := by cases c <;> rfl
theorem r_cl_ok {M : yM} {μ : eM} {r : Nat} {K : Nat → Nat → Lean.RArray Nat → Bool} (h : y_cl M r K = true) (h0 : K 104 0 (.leaf 0) = false) (hR : xR M μ) : ∃ j kd n t, r = j + 64 ∧ j < M.2.1 ∧ n_get M.1 j = (kd, n, t) ∧ μ.2.1[j]? = some (kd, n) ∧ y_row kd n t (μ.1 r) ∧ K kd n t = true := by
  rw [y_cl_def] at h
  obtain ⟨h1, h_2⟩ := f_if_ok h
  obtain ⟨h2, h_4⟩ := f_if_ok h_2
  have h1_5 := Nat.ble_eq.mp h1
  have h2_6 : r - 64 + 1 ≤ M.2.1 := Nat.ble_eq.mp h2
  obtain ⟨⟨kd, n, t⟩, hq⟩ : ∃ z, n_get M.1 (r - 64) = z := ⟨_, rfl⟩
  have hq2 : n_get M.1 (Nat.sub r 64) = (kd, n, t) := hq
  rw [hq2] at h_4
  have h5 := hR.2 (r - 64) (by omega)
  rw [hq, show r - 64 + 64 = r by omega] at h5
  rcases h5 with e | h5
  · exfalso
    cases e
    have h_5 : K 104 0 (.leaf 0) = true := h_4
    rw [h0] at h_5
    cases h_5
  · exact ⟨r - 64, kd, n, t, by omega, by omega, hq, h5.1, h5.2, h_4⟩
theorem r_gf_ok {M : yM} {μ : eM} {r a b ty : Nat} {K : Nat → Bool} (h : y_gf M r a b K = true) (hR : xR M μ) (hb : b < 256) (ht : y_ty a b = ty) : ∃ v, K v = true ∧ ev_kd μ r = some a ∧ μ.1 r b = y_dec ty v := by
  rw [y_gf_eq] at h
  obtain ⟨j, kd, n, t, h1, h2, h3, h4, ⟨d, p1, p2, p3, p4⟩, h_3⟩ := r_cl_ok h (by show f_if false (Nat.beq 104 a) (y_v (y_rg (.leaf 0) b) K) = false; rw [xD_rg]; exact f_if_ff _) hR
  obtain ⟨h6, h_5⟩ := f_if_ok h_3
  have h6_6 := Nat.eq_of_beq_eq_true h6
  subst h6_6
  obtain ⟨v, h7, h8⟩ := y_v_ok h_5
  have hp : 0 < 2 ^ d := Nat.pow_pos (by decide)
  refine ⟨v, h8, y_kd h1 h4, ?_⟩
  rw [← ht]
  exact p4 b v (by omega) h7
theorem r_ix0 {kk i : Nat} {K : Nat → Bool} : y_ix kk i 104 0 (.leaf 0) K = false := by
  show f_if false (Nat.beq 104 kk) (f_if false false (y_v (y_rg (.leaf 0) i) K)) = false
  exact f_if_ff _
theorem r_la_ok {T : Lean.RArray yC} {fg : eG} {kk : Nat} {M : yM} {μ : eM} {r i ty : Nat} {K : Nat → Bool} (h : y_la T kk M r i K = true) (hR : xR M μ) (hG : yG fg T) (hk : kk ≠ 0) (ht : y_ty kk 0 = ty) (h1 : 100 ≤ kk) : ∃ v, K v = true ∧ ev_al fg μ kk r (zI i) = some (y_dec ty v) := by
  have hty : ∀ k, y_ty kk k = ty := by
    intro k
    rw [← ht]
    unfold y_ty
    simp only [if_neg (show ¬ kk < 100 by omega)]
  rcases z_if_t h with ⟨g, h⟩ | ⟨g, h⟩
  · obtain ⟨j, kd, n, t, e1, h2, h3, h4, hrow, h_2⟩ := r_cl_ok h r_ix0 hR
    obtain ⟨rfl, q2, q3, v, h8, h9⟩ := y_ix_ok h_2 hrow
    refine ⟨v, h8, ?_⟩
    unfold ev_al
    rw [if_neg (by omega), show r - 64 = j by omega, h4]
    dsimp only
    rw [zI_w, q3, if_pos ⟨rfl, by omega, by omega⟩, Int.toNat_natCast, h9, hty]
  · obtain ⟨g2, h_5⟩ := f_if_ok h
    have g_6 := ble_no g
    have g2_7 := Nat.ble_eq.mp g2
    obtain ⟨⟨kd, n, t⟩, hq⟩ : ∃ z, y_get T r = z := ⟨_, rfl⟩
    rw [hq] at h_5
    have h_8 : y_ix kk i kd n t K = true := h_5
    have hk2 : kd = kk := Nat.eq_of_beq_eq_true (f_if_ok h_8).1
    have hT := hG r (by omega) (by omega) (by rw [hq]; show kd ≠ 0; omega)
    rw [hq] at hT
    obtain ⟨rfl, q2, q3, v, h8, h9⟩ := y_ix_ok h_8 hT.2.2
    refine ⟨v, h8, ?_⟩
    have e1 : (fg r).1 = kd := hT.1
    have e2 : (fg r).2.1 = n := hT.2.1
    unfold ev_al
    rw [if_pos (by omega), zI_w, q3, e1, e2, if_pos ⟨by omega, rfl, by omega, by omega⟩, Int.toNat_natCast, h9, hty]
theorem r_lh_ok {T : Lean.RArray yC} {fg : eG} {kk : Nat} {M : yM} {μ : eM} {r i ty : Nat} {K : Nat → Bool} (h : y_lh kk M r i K = true) (hR : xR M μ) (hG : yG fg T) (hk : kk ≠ 0) (ht : y_ty kk 0 = ty) (h1 : 100 ≤ kk) : ∃ v, K v = true ∧ ev_al fg μ kk r (zI i) = some (y_dec ty v) := by
  have h2 : y_la T kk M r i K = true := by
    unfold y_la
    rw [y_lh_64 h]
    show y_cl M r (fun kd n t => y_ix kk i kd n t K) = true
    rw [← y_lh_eq]
    exact h
  exact r_la_ok h2 hR hG hk ht h1
section
variable {z : eM} {M : yM} {μ : eM}
theorem x_gf_ok {r a b ty : Nat} {K : Nat → Bool} (h : y_gf M r a b K = true) (hR : xQ z M μ) (hb : b < 256) (ht : y_ty a b = ty) : ∃ v, K v = true ∧ ev_kd μ r = some a ∧ μ.1 r b = y_dec ty v := r_gf_ok h hR.1 hb ht
theorem x_la_ok {T : Lean.RArray yC} {fg : eG} {kk r i ty : Nat} {K : Nat → Bool} (h : y_la T kk M r i K = true) (hR : xQ z M μ) (hG : yG fg T) (hk : kk ≠ 0) (ht : y_ty kk 0 = ty) (h1 : 100 ≤ kk) : ∃ v, K v = true ∧ ev_al fg μ kk r (zI i) = some (y_dec ty v) := r_la_ok h hR.1 hG hk ht h1
theorem x_lh_ok {T : Lean.RArray yC} {fg : eG} {kk r i ty : Nat} {K : Nat → Bool} (h : y_lh kk M r i K = true) (hR : xQ z M μ) (hG : yG fg T) (hk : kk ≠ 0) (ht : y_ty kk 0 = ty) (h1 : 100 ≤ kk) : ∃ v, K v = true ∧ ev_al fg μ kk r (zI i) = some (y_dec ty v) := r_lh_ok h hR.1 hG hk ht h1
theorem x_is_ok {r a : Nat} {K : Bool} (h : y_is M r a K = true) (hR : xQ z M μ) (h0 : Nat.beq 104 a = false := by rfl) : ev_kd μ r = some a ∧ K = true := by
  obtain ⟨j, kd, n, t, h1, h2, h3, h4, h5, h_3⟩ := r_cl_ok h (by show f_if false (Nat.beq 104 a) K = false; rw [h0]; rfl) hR.1
  obtain ⟨h6, h_5⟩ := f_if_ok h_3
  have h6_6 := Nat.eq_of_beq_eq_true h6
  subst h6_6
  exact ⟨y_kd h1 h4, h_5⟩
/-! writing -/
theorem r_cell {j kd n : Nat} {t : Lean.RArray Nat} {f : Nat → Int} (hR : xR M μ) (hj : j < M.2.1) (h4 : μ.2.1[j]? = some (kd, n)) (hrow : y_row kd n t f) : xR (n_q7 j (kd, n, t) M.1, M.2) (ev_ur μ.1 (j + 64) f, μ.2) := by
  obtain ⟨r3, r5⟩ := hR
  refine ⟨r3, fun q hq => ?_⟩
  have hq : q < M.2.1 := hq
  have e := n_get_q (j := q) (k := j) (by omega) (by omega) (kd, n, t) M.1
  dsimp only
  rw [e]
  unfold ev_ur
  by_cases hqj : q = j
  · rw [if_pos hqj, if_pos (by omega), hqj]
    exact Or.inr ⟨h4, hrow⟩
  · rw [if_neg hqj, if_neg (by omega)]
    exact r5 q hq
theorem x_cell {j kd n : Nat} {t t0 : Lean.RArray Nat} {f : Nat → Int} (hQ : xQ z M μ) (hj : j < M.2.1) (hg : n_get M.1 j = (kd, n, t0)) (h4 : μ.2.1[j]? = some (kd, n)) (hrow : y_row kd n t f) (hf : ∀ k, (k < n → y_rg t k = 0) → f k = z.1 (j + 64) k) : xQ z (n_q7 j (kd, n, t) M.1, M.2) (ev_ur μ.1 (j + 64) f, μ.2) := by
  refine ⟨r_cell hQ.1 hj h4 hrow, hQ.2.1, fun a k hk => ?_⟩
  have h3 := hQ.1.1
  show ev_ur μ.1 (j + 64) f a k = z.1 a k
  unfold ev_ur
  by_cases ha : a = j + 64
  · rw [if_pos ha, ha]
    refine hf k (fun hkn => ?_)
    have h1 := hk j hj ha
    have e := n_get_q (j := j) (k := j) (by omega) (by omega) (kd, n, t) M.1
    rw [if_pos rfl] at e
    dsimp only at h1
    rw [e] at h1
    exact h1 hkn
  · rw [if_neg ha]
    refine hQ.2.2 a k (fun q hq haq hkn => ?_)
    have h1 := hk q hq haq
    have e := n_get_q (j := q) (k := j) (by omega) (by omega) (kd, n, t) M.1
    rw [if_neg (by omega)] at e
    dsimp only at h1
    rw [e] at h1
    exact h1 hkn
theorem x_old {j kd n k : Nat} {t0 : Lean.RArray Nat} (hQ : xQ z M μ) (hg : n_get M.1 j = (kd, n, t0)) (hk : k < n → y_rg t0 k = 0) : μ.1 (j + 64) k = z.1 (j + 64) k := by
  refine hQ.2.2 _ k (fun q hq haq hkn => ?_)
  have e : q = j := by omega
  subst e
  rw [hg] at hkn ⊢
  exact hk hkn
theorem x_set {j kd n : Nat} {t : Lean.RArray Nat} (hQ : xQ z M μ) (hj : j < M.2.1) (hg : n_get M.1 j = (kd, n, t)) (h4 : μ.2.1[j]? = some (kd, n)) (h : y_row kd n t (μ.1 (j + 64))) {i v : Nat} {x : Int} (hi : i < n) (hv : v + 1 < nW) (hx : x = y_dec (y_ty kd i) v) : xQ z (n_q7 j (kd, n, y_rp t i (v + 1)) M.1, M.2) (ev_ur μ.1 (j + 64) (ev_u1 (μ.1 (j + 64)) i x), μ.2) := by
  refine x_cell hQ hj hg h4 (y_row_set h hi hv hx) (fun k hk => ?_)
  obtain ⟨d, p1, p2, p3, p4⟩ := h
  have hki : k ≠ i := by
    intro e
    subst e
    have h1 := hk hi
    rw [y_rg_rp p1 hv (by omega) (by omega), if_pos rfl] at h1
    omega
  unfold ev_u1
  rw [if_neg hki]
  refine x_old hQ hg (fun hkn => ?_)
  have h1 := hk hkn
  rw [y_rg_rp p1 hv (by omega) (by omega), if_neg hki] at h1
  exact h1
theorem x_wf_ok {r a b v ty : Nat} {K : yM → Bool} (h : y_wf M r a b v K = true) (hR : xQ z M μ) (ht : y_ty a b = ty) (h3 : ty ≠ 3) : ∃ M', K M' = true ∧ ev_kd μ r = some a ∧ xQ z M' (ev_up μ.1 r b (y_dec ty v), μ.2) := by
  obtain ⟨j, kd, n, t, e1, h2, hg, h4, hrow, h_2⟩ := r_cl_ok h (by show f_if false (Nat.beq 104 a) (f_if false false _) = false; exact f_if_ff _) hR.1
  obtain ⟨q1, h_4⟩ := f_if_ok h_2
  obtain ⟨q2, h_6⟩ := f_if_ok h_4
  have q1_7 := Nat.eq_of_beq_eq_true q1
  have q2_8 : b + 1 ≤ n := Nat.ble_eq.mp q2
  subst q1_7
  have h_9 := y_pt_ok h_6
  refine ⟨_, h_9, y_kd e1 h4, ?_⟩
  subst e1
  have e : Nat.sub (j + 64) 64 = j := by show j + 64 - 64 = j; omega
  rw [e]
  exact x_set hR h2 hg h4 hrow (i := b) (v := Nat.mod v 18446744073709551616) (x := y_dec ty v) (by omega) (y_64 v) (by rw [ht, y_dec_ty h3])
theorem x_wr_ok {r a b v : Nat} {K : yM → Bool} (h : y_wr M r a b v K = true) (hR : xQ z M μ) (ht : y_ty a b = 3) : ∃ M', K M' = true ∧ ev_kd μ r = some a ∧ xQ z M' (ev_up μ.1 r b (v : Int), μ.2) := by
  obtain ⟨j, kd, n, t, e1, h2, hg, h4, hrow, h_2⟩ := r_cl_ok h (by show f_if false (Nat.beq 104 a) (f_if false false _) = false; exact f_if_ff _) hR.1
  obtain ⟨q1, h_4⟩ := f_if_ok h_2
  obtain ⟨q2, h_6⟩ := f_if_ok h_4
  obtain ⟨q3, h_8⟩ := f_if_ok h_6
  have q1_9 := Nat.eq_of_beq_eq_true q1
  have q2_10 : b + 1 ≤ n := Nat.ble_eq.mp q2
  have q3_11 := Nat.ble_eq.mp q3
  have hW : (1000002 : Nat) < nW := by decide
  subst q1_9
  have h_12 := y_pt_ok h_8
  refine ⟨_, h_12, y_kd e1 h4, ?_⟩
  subst e1
  have e : Nat.sub (j + 64) 64 = j := by show j + 64 - 64 = j; omega
  rw [e]
  exact x_set hR h2 hg h4 hrow (i := b) (v := v) (x := (v : Int)) (by omega) (by omega) (by rw [ht]; rfl)
theorem x_sa_ok {kk r i v ty : Nat} {K : yM → Bool} (h : y_sa kk M r i v K = true) (hR : xQ z M μ) (ht : y_ty kk 0 = ty) (h1 : 100 ≤ kk) : ∃ M', K M' = true ∧ ev_as μ kk r (zI i) (y_dec ty v) = some (ev_up μ.1 r i (y_dec ty v), μ.2) ∧ xQ z M' (ev_up μ.1 r i (y_dec ty v), μ.2) := by
  have hty : ∀ k, y_ty kk k = ty := by
    intro k
    rw [← ht]
    unfold y_ty
    simp only [if_neg (show ¬ kk < 100 by omega)]
  have h3 : ty ≠ 3 := by
    rw [← ht]
    unfold y_ty
    rw [if_neg (by omega)]
    split <;> decide
  obtain ⟨j, kd, n, t, e1, h2, hg, h4, hrow, h_2⟩ := r_cl_ok h (by show f_if false (Nat.beq 104 kk) (f_if false false _) = false; exact f_if_ff _) hR.1
  obtain ⟨q1, h_4⟩ := f_if_ok h_2
  obtain ⟨q2, h_6⟩ := f_if_ok h_4
  have q1_7 := Nat.eq_of_beq_eq_true q1
  have q2_8 : i + 1 ≤ n := Nat.ble_eq.mp q2
  subst q1_7
  have h_9 := y_pt_ok h_6
  have hn : n < 2147483648 := by
    obtain ⟨d, p1, p2, p3, p4⟩ := hrow
    exact p3
  refine ⟨_, h_9, ?_, ?_⟩
  · unfold ev_as
    rw [if_neg (by omega), show r - 64 = j by omega, h4]
    dsimp only
    rw [zI_w, zI_lit (by omega), if_pos ⟨rfl, by omega, by omega⟩, Int.toNat_natCast]
  · subst e1
    have e : Nat.sub (j + 64) 64 = j := by show j + 64 - 64 = j; omega
    rw [e]
    exact x_set hR h2 hg h4 hrow (i := i) (v := Nat.mod v 18446744073709551616) (x := y_dec ty v) (by omega) (y_64 v) (by rw [hty, y_dec_ty h3])
variable {μ0 : eM}
theorem x_wf_ex {r a b v ty : Nat} {K : yM → Bool} (h : y_wf M r a b v K = true) (hR : xQ z M μ) (hl : y_le μ0 μ) (ht : y_ty a b = ty) (h3 : ty ≠ 3) : ∃ M' μ', K M' = true ∧ ev_kd μ r = some a ∧ xQ z M' μ' ∧ y_le μ0 μ' ∧ (ev_up μ.1 r b (y_dec ty v), μ.2) = μ' := by
  obtain ⟨M', g1, g2, g3⟩ := x_wf_ok h hR ht h3
  exact ⟨M', _, g1, g2, g3, hl.tr (y_le_2 rfl), rfl⟩
theorem x_wr_ex {r a b v : Nat} {K : yM → Bool} (h : y_wr M r a b v K = true) (hR : xQ z M μ) (hl : y_le μ0 μ) (ht : y_ty a b = 3) : ∃ M' μ', K M' = true ∧ ev_kd μ r = some a ∧ xQ z M' μ' ∧ y_le μ0 μ' ∧ (ev_up μ.1 r b (v : Int), μ.2) = μ' := by
  obtain ⟨M', g1, g2, g3⟩ := x_wr_ok h hR ht
  exact ⟨M', _, g1, g2, g3, hl.tr (y_le_2 rfl), rfl⟩
theorem x_sa_ex {kk r i v ty : Nat} {K : yM → Bool} (h : y_sa kk M r i v K = true) (hR : xQ z M μ) (hl : y_le μ0 μ) (ht : y_ty kk 0 = ty) (h1 : 100 ≤ kk) : ∃ M' μ', K M' = true ∧ ev_as μ kk r (zI i) (y_dec ty v) = some μ' ∧ xQ z M' μ' ∧ y_le μ0 μ' := by
  obtain ⟨M', g1, g2, g3⟩ := x_sa_ok h hR ht h1
  exact ⟨M', _, g1, g2, g3, hl.tr (y_le_2 rfl)⟩
end
