/-! LAYS: what is claimed of the heap behind it -/
noncomputable def y_ts (t1 : Lean.RArray Nat) : Lean.RArray Nat → Bool := @Lean.RArray.rec Nat (fun _ => Lean.RArray Nat → Bool) (fun x t' => @Lean.RArray.rec Nat (fun _ => Bool) (fun x' => @Bool.rec (fun _ => Bool) (Nat.beq x x') true (Nat.beq x 0)) (fun _ _ _ _ _ => false) t') (fun _ _ _ gl gr t' => @Lean.RArray.rec Nat (fun _ => Bool) (fun _ => false) (fun _ l' r' _ _ => @Bool.rec (fun _ => Bool) false (gr r') (gl l')) t') t1
theorem y_ts_ok : ∀ (d : Nat) (t1 t' : Lean.RArray Nat), y_ts t1 t' = true → y_pf d t' → y_pf d t1 ∧ ∀ i, y_get t1 i = 0 ∨ y_get t1 i = y_get t' i := by
  intro d
  induction d with
  | zero =>
    intro t1 t' h hp
    cases t' with
    | branch p l r => exact absurd hp id
    | leaf x' =>
      cases t1 with
      | branch p l r => exact absurd h Bool.false_ne_true
      | leaf x =>
        refine ⟨True.intro, fun i => ?_⟩
        have h : @Bool.rec (fun _ => Bool) (Nat.beq x x') true (Nat.beq x 0) = true := h
        show x = 0 ∨ x = x'
        cases hq : Nat.beq x 0 with
        | true => exact Or.inl (Nat.eq_of_beq_eq_true hq)
        | false =>
          rw [hq] at h
          exact Or.inr (Nat.eq_of_beq_eq_true h)
  | succ d ih =>
    intro t1 t' h hp
    cases t' with
    | leaf x' => exact absurd hp id
    | branch p' l' r' =>
      cases t1 with
      | leaf x => exact absurd h Bool.false_ne_true
      | branch p l r =>
        have h : @Bool.rec (fun _ => Bool) false (y_ts r r') (y_ts l l') = true := h
        have h1 : y_ts l l' = true ∧ y_ts r r' = true := by
          cases hq : y_ts l l' with
          | false =>
            rw [hq] at h
            exact absurd h Bool.false_ne_true
          | true =>
            rw [hq] at h
            exact ⟨rfl, h⟩
        obtain ⟨a1, a2⟩ := ih l l' h1.1 hp.1
        obtain ⟨b1, b2⟩ := ih r r' h1.2 hp.2
        refine ⟨⟨a1, b1⟩, fun i => ?_⟩
        show @Bool.rec (fun _ => Nat) (y_get l (Nat.div i 2)) (y_get r (Nat.div i 2)) (Nat.beq (Nat.mod i 2) 1) = 0 ∨ @Bool.rec (fun _ => Nat) (y_get l (Nat.div i 2)) (y_get r (Nat.div i 2)) (Nat.beq (Nat.mod i 2) 1) = @Bool.rec (fun _ => Nat) (y_get l' (Nat.div i 2)) (y_get r' (Nat.div i 2)) (Nat.beq (Nat.mod i 2) 1)
        cases Nat.beq (Nat.mod i 2) 1 with
        | false => exact a2 _
        | true => exact b2 _
noncomputable def y_cs (c1 c' : yC) : Bool := @Prod.rec Nat (Nat × Lean.RArray Nat) (fun _ => Bool) (fun k1 q1 => @Prod.rec Nat (Lean.RArray Nat) (fun _ => Bool) (fun n1 t1 => @Prod.rec Nat (Nat × Lean.RArray Nat) (fun _ => Bool) (fun k' q' => @Prod.rec Nat (Lean.RArray Nat) (fun _ => Bool) (fun n' t' => f_if false (Nat.beq k1 k') (f_if false (Nat.beq n1 n') (y_ts t1 t'))) q') c') q1) c1
theorem y_cs_ok {c1 c' : yC} {f : Nat → Int} (h : y_cs c1 c' = true) (hr : y_row c'.1 c'.2.1 c'.2.2 f) : c1.1 = c'.1 ∧ c1.2.1 = c'.2.1 ∧ y_row c1.1 c1.2.1 c1.2.2 f := by
  obtain ⟨k1, n1, t1⟩ := c1
  obtain ⟨k', n', t'⟩ := c'
  have h : f_if false (Nat.beq k1 k') (f_if false (Nat.beq n1 n') (y_ts t1 t')) = true := h
  obtain ⟨g1, h1⟩ := f_if_ok h
  obtain ⟨g2, h2⟩ := f_if_ok h1
  have g1 := Nat.eq_of_beq_eq_true g1
  have g2 := Nat.eq_of_beq_eq_true g2
  subst g1
  subst g2
  obtain ⟨d, p1, p2, p3, p4⟩ := hr
  obtain ⟨a1, a2⟩ := y_ts_ok d t1 t' h2 p1
  refine ⟨rfl, rfl, d, a1, p2, p3, fun k c hk hc => ?_⟩
  have hc : n_at (y_get t1 (k / 256)) (k % 256) = c + 1 := hc
  rcases a2 (k / 256) with q | q
  · rw [q, q_lane0] at hc
    omega
  · rw [q] at hc
    exact p4 k c hk hc
noncomputable def z_in (v : Nat) (l : List Nat) : Bool := @List.rec Nat (fun _ => Bool) false (fun x _ ih => @Bool.rec (fun _ => Bool) ih true (Nat.beq x v)) l
theorem z_in_ok {v : Nat} : ∀ l, z_in v l = true → v ∈ l := by
  intro l
  induction l with
  | nil => exact fun h => absurd h Bool.false_ne_true
  | cons x l ih =>
    intro h
    have h : @Bool.rec (fun _ => Bool) (z_in v l) true (Nat.beq x v) = true := h
    cases hq : Nat.beq x v with
    | true => rw [Nat.eq_of_beq_eq_true hq]; exact List.mem_cons_self
    | false =>
      rw [hq] at h
      exact List.mem_cons_of_mem _ (ih h)
def FS (g : Nat → Nat) (μ : eM) : Prop := ∀ sl : Nat, g sl = 63 → ∃ q : Nat, q < 8192 ∧ μ.1 sl q = -1
def PO (g : Nat → Nat) (μ : eM) : Prop := ∀ a po : Nat, g a = 52 → g po = 64 → ∀ k : Nat, (k : Int) < 3 * μ.1 a 8 → 0 ≤ μ.1 po k ∧ μ.1 po k < μ.1 a 28
def SP (g : Nat → Nat) (μ : eM) : Prop := ∀ a sl : Nat, g a = 52 → g sl = 63 → ∀ k : Nat, k < 8192 → μ.1 sl k < μ.1 a 28
theorem FS.fr {l : List Nat} {c s : Nat} {g : Nat → Nat} {μ m : eM} (h : FS g μ) (hF : Fr l c s g μ m) (hd : md [16128] l = true) : FS g m := by
  intro sl hs
  rw [hF.row hd hs (by decide) rfl (by decide)]
  exact h sl hs
theorem PO.fr {l : List Nat} {c s : Nat} {g : Nat → Nat} {μ m : eM} (h : PO g μ) (hF : Fr l c s g μ m) (hd : md [16384, 13321, 13341] l = true) : PO g m := by
  intro a po ha hpo
  have e1 := hF.row hd hpo (by decide) rfl (by decide)
  have e2 : m.1 a 8 = μ.1 a 8 := hF.fld hd ha (by decide) (by decide)
  have e3 : m.1 a 28 = μ.1 a 28 := hF.fld hd ha (by decide) (by decide)
  rw [e1, e2, e3]
  exact h a po ha hpo
theorem SP.fr {l : List Nat} {c s : Nat} {g : Nat → Nat} {μ m : eM} (h : SP g μ) (hF : Fr l c s g μ m) (hd : md [16128, 13341] l = true) : SP g m := by
  intro a sl ha hs
  have e1 := hF.row hd hs (by decide) rfl (by decide)
  have e3 : m.1 a 28 = μ.1 a 28 := hF.fld hd ha (by decide) (by decide)
  rw [e1, e3]
  exact h a sl ha hs
def LY (g : Nat → Nat) (μ : eM) : Prop := LG g μ ∧ MT g μ ∧ LB g μ ∧ FS g μ ∧ PO g μ ∧ SP g μ
/-- where a row stands -/
theorem PA.at {g : Nat → Nat} {z : eM} {a ρ : Nat} (hP : PA g) (hI : SI g z) (h1 : 52 ≤ ρ) (h2 : ρ < 90) (ha : g a = ρ) : a = ρ + 46 := by
  have e := hP (ρ - 18) (by omega) (by omega)
  rw [show ρ - 18 + 64 = ρ + 46 by omega, show ρ - 18 + 18 = ρ by omega] at e
  exact hI.2.2.2 a (ρ + 46) (by omega) (by rw [ha, e])
theorem x_vr {μ : eM} {M : yM} {j k c kd n : Nat} (hR : xR M μ) (h2 : μ.2.1[j]? = some (kd, n)) (hj : j < M.2.1) (hn : k < n) (hc : y_rg (n_get M.1 j).2.2 k = c + 1) : μ.1 (j + 64) k = y_dec (y_ty kd k) c := by
  rcases hR.2 j hj with e | ⟨e1, d, p1, p2, p3, p4⟩
  · rw [e] at hc
    have hc : y_rg (.leaf 0) k = c + 1 := hc
    rw [xD_rg] at hc
    omega
  · rw [h2] at e1
    have e2 := Option.some.inj e1
    have e3 : kd = (n_get M.1 j).1 := congrArg Prod.fst e2
    have e4 : n = (n_get M.1 j).2.1 := congrArg Prod.snd e2
    rw [e3]
    exact p4 k c (by omega) hc
noncomputable def x_am (t : Lean.RArray Nat) (hi m : Nat) (n : Nat) : Bool := @Nat.rec (fun _ => Bool) true (fun k ih => @Bool.rec (fun _ => Bool) false (@Bool.rec (fun _ => Bool) false ih (x_bl hi m (y_rg t k))) (Nat.ble 1 (y_rg t k))) n
theorem x_am_ok {t : Lean.RArray Nat} {hi m : Nat} : ∀ n, x_am t hi m n = true → ∀ k, k < n → 1 ≤ y_rg t k ∧ (y_rg t k ≤ hi ∨ y_rg t k = m) := by
  intro n
  induction n with
  | zero =>
    intro _ k h2
    omega
  | succ n ih =>
    intro h k h2
    have h : @Bool.rec (fun _ => Bool) false (@Bool.rec (fun _ => Bool) false (x_am t hi m n) (x_bl hi m (y_rg t n))) (Nat.ble 1 (y_rg t n)) = true := h
    cases hq : Nat.ble 1 (y_rg t n) with
    | false =>
      rw [hq] at h
      cases h
    | true =>
      rw [hq] at h
      have h : @Bool.rec (fun _ => Bool) false (x_am t hi m n) (x_bl hi m (y_rg t n)) = true := h
      cases hq2 : x_bl hi m (y_rg t n) with
      | false =>
        rw [hq2] at h
        cases h
      | true =>
        rw [hq2] at h
        by_cases hk : k = n
        · rw [hk]
          exact ⟨Nat.ble_eq.mp hq, x_bl_ok hq2⟩
        · exact ih h k (by omega)
def x_keys : List Nat := [1, 4294967296, 18446744073709551616, 79228162514264337593543950336, 158456325010081931121968283647, 4294967295, 18446744069414584320, 79228162495817593519834398720, 340282366841710300949110269838224261120, 340282366841710300986003757981348397057]
theorem x_keys_ok : ∀ d, d < 10 → ∀ c, c < 4 → zI (x_keys.getD d 0 / 2 ^ (32 * c) % 4294967296) = sS ((d : Nat) : Int) ((c : Nat) : Int) := by decide +kernel
noncomputable def x_leg (tp ta : Lean.RArray Nat) (i j : Nat) : Bool := y_v (y_rg tp i) fun p => y_v (y_rg tp j) fun q => y_v (y_rg ta (Nat.mul 4 q)) fun a0 => y_v (y_rg ta (Nat.mul 4 p)) fun b0 => y_v (y_rg ta (Nat.add (Nat.mul 4 q) 1)) fun a1 => y_v (y_rg ta (Nat.add (Nat.mul 4 p) 1)) fun b1 => y_v (y_rg ta (Nat.add (Nat.mul 4 q) 2)) fun a2 => y_v (y_rg ta (Nat.add (Nat.mul 4 p) 2)) fun b2 => y_v (y_rg ta (Nat.add (Nat.mul 4 q) 3)) fun a3 => y_v (y_rg ta (Nat.add (Nat.mul 4 p) 3)) fun b3 => z_in (Nat.add (z_sub a0 b0) (Nat.mul 4294967296 (Nat.add (z_sub a1 b1) (Nat.mul 4294967296 (Nat.add (z_sub a2 b2) (Nat.mul 4294967296 (z_sub a3 b3))))))) x_keys
theorem zI_sub (a b : Nat) : ev_w (zI a - zI b) = zI (z_sub a b) := by
  have h1 := zI_in a
  refine zI_of ?_
  show (zI a - zI b - (((a + (4294967296 - b % 4294967296)) % 4294967296 : Nat) : Int)) % 4294967296 = 0
  unfold zI sg32
  split <;> split <;> omega
theorem z_sub_lt (a b : Nat) : z_sub a b < 4294967296 := Nat.mod_lt _ (by decide)
theorem x_leg_ok {tp ta : Lean.RArray Nat} {i j : Nat} {R : Nat → Int} (h : x_leg tp ta i j = true) {N : Nat} (hR : ∀ k c, k < 4 * N → y_rg ta k = c + 1 → R k = zI c) (hN : N ≤ 2670) (h1 : y_rg tp i ≤ N) (h2 : y_rg tp j ≤ N) : ∃ D, DM R (4 * zI (y_rg tp i - 1)) (4 * zI (y_rg tp j - 1)) D := by
  obtain ⟨p, ep, h⟩ := y_v_ok h
  obtain ⟨q, eq, h⟩ := y_v_ok h
  obtain ⟨a0, ea0, h⟩ := y_v_ok h
  obtain ⟨b0, eb0, h⟩ := y_v_ok h
  obtain ⟨a1, ea1, h⟩ := y_v_ok h
  obtain ⟨b1, eb1, h⟩ := y_v_ok h
  obtain ⟨a2, ea2, h⟩ := y_v_ok h
  obtain ⟨b2, eb2, h⟩ := y_v_ok h
  obtain ⟨a3, ea3, h⟩ := y_v_ok h
  obtain ⟨b3, eb3, h⟩ := y_v_ok h
  obtain ⟨d, hd, e⟩ := List.mem_iff_getElem.mp (z_in_ok _ h)
  have hd : d < 10 := hd
  have e : x_keys.getD d 0 = z_sub a0 b0 + 4294967296 * (z_sub a1 b1 + 4294967296 * (z_sub a2 b2 + 4294967296 * z_sub a3 b3)) := by
    rw [← List.getElem_eq_getD (h := hd) 0]
    exact e
  have l0 := z_sub_lt a0 b0
  have l1 := z_sub_lt a1 b1
  have l2 := z_sub_lt a2 b2
  have l3 := z_sub_lt a3 b3
  refine ⟨(d : Int), ⟨by omega, by omega⟩, fun c hc => ?_⟩
  rw [ep, eq, show p + 1 - 1 = p by omega, show q + 1 - 1 = q by omega, zI_lit (show p ≤ 2147483647 by omega), zI_lit (show q ≤ 2147483647 by omega)]
  rw [show (4 * (q : Int)).toNat + c = 4 * q + c by omega, show (4 * (p : Int)).toNat + c = 4 * p + c by omega]
  have hk := x_keys_ok d hd c hc
  rw [e] at hk
  have hc4 : c = 0 ∨ c = 1 ∨ c = 2 ∨ c = 3 := by omega
  rcases hc4 with rfl | rfl | rfl | rfl
  · rw [hR (4 * q + 0) a0 (by omega) ea0, hR (4 * p + 0) b0 (by omega) eb0, zI_sub, ← hk]
    congr 1
    omega
  · rw [hR (4 * q + 1) a1 (by omega) ea1, hR (4 * p + 1) b1 (by omega) eb1, zI_sub, ← hk]
    congr 1
    omega
  · rw [hR (4 * q + 2) a2 (by omega) ea2, hR (4 * p + 2) b2 (by omega) eb2, zI_sub, ← hk]
    congr 1
    omega
  · rw [hR (4 * q + 3) a3 (by omega) ea3, hR (4 * p + 3) b3 (by omega) eb3, zI_sub, ← hk]
    congr 1
    omega
noncomputable def x_lgs (tp ta : Lean.RArray Nat) (n : Nat) : Bool := @Nat.rec (fun _ => Bool) true (fun h ih => @Bool.rec (fun _ => Bool) false (@Bool.rec (fun _ => Bool) false ih (x_leg tp ta (Nat.mul 3 h) (Nat.add (Nat.mul 3 h) 2))) (x_leg tp ta (Nat.mul 3 h) (Nat.add (Nat.mul 3 h) 1))) n
theorem x_lgs_ok {tp ta : Lean.RArray Nat} : ∀ n, x_lgs tp ta n = true → ∀ h, h < n → x_leg tp ta (3 * h) (3 * h + 1) = true ∧ x_leg tp ta (3 * h) (3 * h + 2) = true := by
  intro n
  induction n with
  | zero =>
    intro _ k h2
    omega
  | succ n ih =>
    intro h k h2
    have h : @Bool.rec (fun _ => Bool) false (@Bool.rec (fun _ => Bool) false (x_lgs tp ta n) (x_leg tp ta (3 * n) (3 * n + 2))) (x_leg tp ta (3 * n) (3 * n + 1)) = true := h
    cases hq : x_leg tp ta (3 * n) (3 * n + 1) with
    | false =>
      rw [hq] at h
      cases h
    | true =>
      rw [hq] at h
      have h : @Bool.rec (fun _ => Bool) false (x_lgs tp ta n) (x_leg tp ta (3 * n) (3 * n + 2)) = true := h
      cases hq2 : x_leg tp ta (3 * n) (3 * n + 2) with
      | false =>
        rw [hq2] at h
        cases h
      | true =>
        rw [hq2] at h
        by_cases hk : k = n
        · rw [hk]
          exact ⟨hq, hq2⟩
        · exact ih h k (by omega)
noncomputable def x_cl (q : Nat) (M : yM) : Bool := y_v (y_rg (n_get M.1 34).2.2 8) fun n => y_v (y_rg (n_get M.1 34).2.2 28) fun p => f_if false (Nat.ble p 2670) (f_if false (Nat.ble n 890) (f_if false (Nat.ble (Nat.succ q) 8192) (f_if false (Nat.beq (y_rg (n_get M.1 45).2.2 q) 4294967296) (f_if false (x_am (n_get M.1 45).2.2 p 4294967296 8192) (f_if false (x_am (n_get M.1 46).2.2 p 0 (Nat.mul 3 n)) (f_if false (x_am (n_get M.1 50).2.2 0 4294967296 n) (f_if false (x_am (n_get M.1 51).2.2 0 4294967296 n) (x_lgs (n_get M.1 46).2.2 (n_get M.1 47).2.2 n))))))))
theorem x_cl_ok {μ : eM} {M : yM} {g : Nat → Nat} {q : Nat} (hR : xR M μ) (hI : SI g μ) (hP : PA g) (hM : M.2.1 = 72) (h : x_cl q M = true) : LG g μ ∧ FS g μ ∧ PO g μ ∧ SP g μ ∧ ∀ k : Nat, (k : Int) < μ.1 98 8 → μ.1 114 k = -1 ∧ μ.1 115 k = -1 := by
  obtain ⟨n, en, h⟩ := y_v_ok h
  obtain ⟨p, ep, h⟩ := y_v_ok h
  obtain ⟨g1, h⟩ := f_if_ok h
  obtain ⟨g2, h⟩ := f_if_ok h
  obtain ⟨g3, h⟩ := f_if_ok h
  obtain ⟨g4, h⟩ := f_if_ok h
  obtain ⟨g5, h⟩ := f_if_ok h
  obtain ⟨g6, h⟩ := f_if_ok h
  obtain ⟨g7, h⟩ := f_if_ok h
  obtain ⟨g8, h⟩ := f_if_ok h
  have g1 := Nat.ble_eq.mp g1
  have g2 := Nat.ble_eq.mp g2
  have g3 : q + 1 ≤ 8192 := Nat.ble_eq.mp g3
  have g4 := Nat.eq_of_beq_eq_true g4
  have g5 := x_am_ok _ g5
  have g6 := x_am_ok _ g6
  have g7 := x_am_ok _ g7
  have g8 := x_am_ok _ g8
  have c34 := hI.cell (hP 34 (by omega) (by omega)) (by decide) rfl
  have c45 := hI.cell (hP 45 (by omega) (by omega)) (by decide) rfl
  have c46 := hI.cell (hP 46 (by omega) (by omega)) (by decide) rfl
  have c47 := hI.cell (hP 47 (by omega) (by omega)) (by decide) rfl
  have c50 := hI.cell (hP 50 (by omega) (by omega)) (by decide) rfl
  have c51 := hI.cell (hP 51 (by omega) (by omega)) (by decide) rfl
  have v8 : μ.1 98 8 = (n : Int) := (x_vr hR c34 (by omega) (by omega) en).trans (zI_lit (by omega))
  have v28 : μ.1 98 28 = (p : Int) := (x_vr hR c34 (by omega) (by omega) ep).trans (zI_lit (by omega))
  have vp : ∀ k, k < 3 * n → μ.1 110 k = zI (y_rg (n_get M.1 46).2.2 k - 1) ∧ 1 ≤ y_rg (n_get M.1 46).2.2 k ∧ y_rg (n_get M.1 46).2.2 k ≤ p := by
    intro k hk
    have h1 := g6 k hk
    exact ⟨x_vr hR c46 (by omega) (by omega) (by omega), by omega, by omega⟩
  have vs : ∀ k, k < 8192 → μ.1 109 k = zI (y_rg (n_get M.1 45).2.2 k - 1) := by
    intro k hk
    have h1 := g5 k hk
    exact x_vr hR c45 (by omega) (by omega) (by omega)
  refine ⟨fun a po ap ha hpo hap k hk => ?_, fun sl hs => ?_, fun a po ha hpo k hk => ?_, fun a sl ha hs k hk => ?_, fun k hk => ?_⟩
  · have e1 := hP.at hI (by decide) (by decide) ha
    have e2 := hP.at hI (by decide) (by decide) hpo
    have e3 := hP.at hI (by decide) (by decide) hap
    subst e1
    subst e2
    subst e3
    have hk : (k : Int) < μ.1 98 8 := hk
    rw [v8] at hk
    have hl := x_lgs_ok _ h k (by omega)
    obtain ⟨p0, q0, r0⟩ := vp (3 * k) (by omega)
    obtain ⟨p1, q1, r1⟩ := vp (3 * k + 1) (by omega)
    obtain ⟨p2, q2, r2⟩ := vp (3 * k + 2) (by omega)
    have hA : ∀ k c, k < 4 * p → y_rg (n_get M.1 47).2.2 k = c + 1 → μ.1 111 k = zI c := fun k c hk hc => x_vr hR c47 (by omega) (by omega) hc
    show (∃ D, DM (μ.1 111) (4 * μ.1 110 (3 * k)) (4 * μ.1 110 (3 * k + 1)) D) ∧ ∃ D, DM (μ.1 111) (4 * μ.1 110 (3 * k)) (4 * μ.1 110 (3 * k + 2)) D
    rw [p0, p1, p2]
    exact ⟨x_leg_ok hl.1 hA g1 r0 r1, x_leg_ok hl.2 hA g1 r0 r2⟩
  · have e2 := hP.at hI (by decide) (by decide) hs
    subst e2
    refine ⟨q, g3, ?_⟩
    show μ.1 109 q = -1
    rw [vs q g3, g4]
    exact z_cm
  · have e1 := hP.at hI (by decide) (by decide) ha
    have e2 := hP.at hI (by decide) (by decide) hpo
    subst e1
    subst e2
    have hk : (k : Int) < 3 * μ.1 98 8 := hk
    rw [v8] at hk
    obtain ⟨p0, q0, r0⟩ := vp k (by omega)
    show 0 ≤ μ.1 110 k ∧ μ.1 110 k < μ.1 98 28
    rw [p0, v28, zI_lit (by omega)]
    omega
  · have e1 := hP.at hI (by decide) (by decide) ha
    have e2 := hP.at hI (by decide) (by decide) hs
    subst e1
    subst e2
    show μ.1 109 k < μ.1 98 28
    have h1 := g5 k hk
    rw [vs k hk, v28]
    rcases h1.2 with h2 | h2
    · rw [zI_lit (by omega)]
      omega
    · rw [h2, z_cm]
      omega
  · rw [v8] at hk
    have h7 := g7 k (by omega)
    have h8 := g8 k (by omega)
    have e7 : y_rg (n_get M.1 50).2.2 k = 4294967295 + 1 := by omega
    have e8 : y_rg (n_get M.1 51).2.2 k = 4294967295 + 1 := by omega
    exact ⟨(x_vr hR c50 (by omega) (by omega) e7).trans z_cm, (x_vr hR c51 (by omega) (by omega) e8).trans z_cm⟩
