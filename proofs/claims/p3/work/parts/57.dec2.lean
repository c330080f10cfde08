/-! METHODS AS FUNCTIONS OF NUMBERS: memory. Cells in a tree by bits; a row in pieces of 256 lanes, each 72 bits: 0 not known, else 1 more than the number that stands there -/
def y_pf {α : Type} : Nat → Lean.RArray α → Prop
  | 0, .leaf _ => True
  | d + 1, .branch _ l r => y_pf d l ∧ y_pf d r
  | _, _ => False
noncomputable def y_get {α : Type} (t : Lean.RArray α) : Nat → α := @Lean.RArray.rec α (fun _ => Nat → α) (fun x _ => x) (fun _ _ _ gl gr i => @Bool.rec (fun _ => α) (gl (Nat.div i 2)) (gr (Nat.div i 2)) (Nat.beq (Nat.mod i 2) 1)) t
noncomputable def y_put {α : Type} (x : α) (t : Lean.RArray α) : Nat → Lean.RArray α := @Lean.RArray.rec α (fun _ => Nat → Lean.RArray α) (fun _ _ => .leaf x) (fun p l r gl gr i => @Bool.rec (fun _ => Lean.RArray α) (.branch p (gl (Nat.div i 2)) r) (.branch p l (gr (Nat.div i 2))) (Nat.beq (Nat.mod i 2) 1)) t
noncomputable def y_set {α : Type} (x : α) (t : Lean.RArray α) : Nat → (Lean.RArray α → Bool) → Bool := @Lean.RArray.rec α (fun _ => Nat → (Lean.RArray α → Bool) → Bool) (fun _ _ K => K (.leaf x)) (fun p l r gl gr i K => @Bool.rec (fun _ => Bool) (gl (Nat.div i 2) fun l' => K (.branch p l' r)) (gr (Nat.div i 2) fun r' => K (.branch p l r')) (Nat.beq (Nat.mod i 2) 1)) t
theorem y_set_eq {α : Type} (x : α) (t : Lean.RArray α) : ∀ (i : Nat) (K : Lean.RArray α → Bool), y_set x t i K = K (y_put x t i) := by
  induction t with
  | leaf a =>
    intro i K
    rfl
  | branch p l r gl gr =>
    intro i K
    show @Bool.rec (fun _ => Bool) (y_set x l (Nat.div i 2) fun l' => K (.branch p l' r)) (y_set x r (Nat.div i 2) fun r' => K (.branch p l r')) (Nat.beq (Nat.mod i 2) 1) = K (@Bool.rec (fun _ => Lean.RArray α) (.branch p (y_put x l (Nat.div i 2)) r) (.branch p l (y_put x r (Nat.div i 2))) (Nat.beq (Nat.mod i 2) 1))
    cases Nat.beq (Nat.mod i 2) 1 with
    | false => exact gl _ _
    | true => exact gr _ _
theorem y_pf_put {α : Type} (x : α) : ∀ (d : Nat) (t : Lean.RArray α) (i : Nat), y_pf d t → y_pf d (y_put x t i) := by
  intro d
  induction d with
  | zero =>
    intro t i h
    cases t with
    | leaf a => exact True.intro
    | branch p l r => exact absurd h id
  | succ d ih =>
    intro t i h
    cases t with
    | leaf a => exact absurd h id
    | branch p l r =>
      show y_pf (d + 1) (@Bool.rec (fun _ => Lean.RArray α) (.branch p (y_put x l (Nat.div i 2)) r) (.branch p l (y_put x r (Nat.div i 2))) (Nat.beq (Nat.mod i 2) 1))
      cases Nat.beq (Nat.mod i 2) 1 with
      | false => exact ⟨ih _ _ h.1, h.2⟩
      | true => exact ⟨h.1, ih _ _ h.2⟩
theorem y_mod (j d : Nat) : j % 2 ^ (d + 1) = j % 2 + 2 * (j / 2 % 2 ^ d) := by
  rw [Nat.pow_succ, Nat.mul_comm, Nat.mod_mul]
theorem y_get_put {α : Type} (x : α) : ∀ (d : Nat) (t : Lean.RArray α) (i j : Nat), y_pf d t → y_get (y_put x t i) j = if j % 2 ^ d = i % 2 ^ d then x else y_get t j := by
  intro d
  induction d with
  | zero =>
    intro t i j h
    cases t with
    | leaf a =>
      rw [if_pos (by rw [Nat.pow_zero, Nat.mod_one, Nat.mod_one])]
      rfl
    | branch p l r => exact absurd h id
  | succ d ih =>
    intro t i j h
    cases t with
    | leaf a => exact absurd h id
    | branch p l r =>
      rw [y_mod, y_mod]
      have hi : Nat.beq (i % 2) 1 = decide (i % 2 = 1) := by
        rcases Nat.mod_two_eq_zero_or_one i with q | q <;> rw [q] <;> rfl
      have hj : Nat.beq (j % 2) 1 = decide (j % 2 = 1) := by
        rcases Nat.mod_two_eq_zero_or_one j with q | q <;> rw [q] <;> rfl
      show y_get (@Bool.rec (fun _ => Lean.RArray α) (.branch p (y_put x l (i / 2)) r) (.branch p l (y_put x r (i / 2))) (Nat.beq (i % 2) 1)) j = if _ then x else @Bool.rec (fun _ => α) (y_get l (j / 2)) (y_get r (j / 2)) (Nat.beq (j % 2) 1)
      rw [hi, hj]
      rcases Nat.mod_two_eq_zero_or_one i with qi | qi <;> rcases Nat.mod_two_eq_zero_or_one j with qj | qj <;> rw [qi, qj]
      · show @Bool.rec (fun _ => α) (y_get (y_put x l (i / 2)) (j / 2)) (y_get r (j / 2)) (Nat.beq (j % 2) 1) = if _ then x else y_get l (j / 2)
        rw [qj]
        show y_get (y_put x l (i / 2)) (j / 2) = _
        rw [ih _ _ _ h.1]
        by_cases q : j / 2 % 2 ^ d = i / 2 % 2 ^ d
        · rw [if_pos q, if_pos (by omega)]
        · rw [if_neg q, if_neg (by omega)]
      · show @Bool.rec (fun _ => α) (y_get (y_put x l (i / 2)) (j / 2)) (y_get r (j / 2)) (Nat.beq (j % 2) 1) = if _ then x else y_get r (j / 2)
        rw [qj, if_neg (by omega)]
        rfl
      · show @Bool.rec (fun _ => α) (y_get l (j / 2)) (y_get (y_put x r (i / 2)) (j / 2)) (Nat.beq (j % 2) 1) = if _ then x else y_get l (j / 2)
        rw [qj, if_neg (by omega)]
        rfl
      · show @Bool.rec (fun _ => α) (y_get l (j / 2)) (y_get (y_put x r (i / 2)) (j / 2)) (Nat.beq (j % 2) 1) = if _ then x else y_get r (j / 2)
        rw [qj]
        show y_get (y_put x r (i / 2)) (j / 2) = _
        rw [ih _ _ _ h.2]
        by_cases q : j / 2 % 2 ^ d = i / 2 % 2 ^ d
        · rw [if_pos q, if_pos (by omega)]
        · rw [if_neg q, if_neg (by omega)]
noncomputable def z_if (b x y : Bool) : Bool := @Bool.rec (fun _ => Bool) y x b
theorem z_if_t {b x y : Bool} (h : z_if b x y = true) : (b = true ∧ x = true) ∨ (b = false ∧ y = true) := by
  cases b with
  | true => exact Or.inl ⟨rfl, h⟩
  | false => exact Or.inr ⟨rfl, h⟩
/-! rows -/
noncomputable def y_sl (N k c : Nat) : Nat := Nat.add (Nat.sub N (Nat.shiftLeft (n_at N k) (Nat.mul 72 k))) (Nat.shiftLeft c (Nat.mul 72 k))
theorem y_sl_eq (N k c : Nat) : y_sl N k c = n_set N (nW ^ k) c := by
  show N - (n_at N k) <<< (72 * k) + c <<< (72 * k) = N - N / nW ^ k % nW * nW ^ k + c * nW ^ k
  rw [Nat.shiftLeft_eq, Nat.shiftLeft_eq, ← nW_pow, n_at_eq]
  rfl
noncomputable def y_rg (t : Lean.RArray Nat) (i : Nat) : Nat := n_at (y_get t (Nat.div i 256)) (Nat.mod i 256)
noncomputable def y_rp (t : Lean.RArray Nat) (i c : Nat) : Lean.RArray Nat := y_put (y_sl (y_get t (Nat.div i 256)) (Nat.mod i 256) c) t (Nat.div i 256)
noncomputable def y_fo (X : Nat) (K : Bool) : Bool := f_if false (Nat.ble 0 X) K
noncomputable def y_rs (t : Lean.RArray Nat) (i c : Nat) (K : Lean.RArray Nat → Bool) : Bool := y_fo (y_sl (y_get t (Nat.div i 256)) (Nat.mod i 256) c) (y_set (y_sl (y_get t (Nat.div i 256)) (Nat.mod i 256) c) t (Nat.div i 256) K)
theorem y_rs_ok {t : Lean.RArray Nat} {i c : Nat} {K : Lean.RArray Nat → Bool} (h : y_rs t i c K = true) : K (y_rp t i c) = true := by
  have h2 : f_if false (Nat.ble 0 (y_sl (y_get t (Nat.div i 256)) (Nat.mod i 256) c)) (y_set (y_sl (y_get t (Nat.div i 256)) (Nat.mod i 256) c) t (Nat.div i 256) K) = true := h
  have h3 := (f_if_ok h2).2
  rw [y_set_eq] at h3
  exact h3
theorem y_rg_rp {d : Nat} {t : Lean.RArray Nat} {i j c : Nat} (ht : y_pf d t) (hc : c < nW) (hi : i < 256 * 2 ^ d) (hj : j < 256 * 2 ^ d) : y_rg (y_rp t i c) j = if j = i then c else y_rg t j := by
  unfold y_rg y_rp
  show n_at (y_get (y_put (y_sl (y_get t (i / 256)) (i % 256) c) t (i / 256)) (j / 256)) (j % 256) = if j = i then c else n_at (y_get t (j / 256)) (j % 256)
  rw [y_get_put _ d _ _ _ ht, Nat.mod_eq_of_lt (show j / 256 < 2 ^ d by omega), Nat.mod_eq_of_lt (show i / 256 < 2 ^ d by omega)]
  by_cases h1 : j / 256 = i / 256
  · rw [if_pos h1, y_sl_eq, n_at_eq, cd_n_set hc]
    by_cases h2 : j % 256 = i % 256
    · rw [if_pos h2, if_pos (by omega)]
    · rw [if_neg h2, if_neg (fun q => h2 (by rw [q])), h1, n_at_eq]
  · rw [if_neg h1, if_neg (fun q => h1 (by rw [q]))]
/-- what a lane stands for, by its type -/
def y_dec (t c : Nat) : Int := match t with
  | 2 => zJ c
  | 3 => (c : Int)
  | _ => zI c
def y_ty (kd k : Nat) : Nat := if kd < 100 then (dt_lay kd).getD k 0 else if kd = 101 then 2 else 0
abbrev yC : Type := Nat × Nat × Lean.RArray Nat
abbrev yM : Type := nC7 × Nat × Nat
def y_row (kd n : Nat) (t : Lean.RArray Nat) (f : Nat → Int) : Prop := ∃ d, y_pf d t ∧ n ≤ 256 * 2 ^ d ∧ n < 2147483648 ∧ ∀ k c, k < 256 * 2 ^ d → y_rg t k = c + 1 → f k = y_dec (y_ty kd k) c
def yR (M : yM) (μ : eM) : Prop := M.2.1 = μ.2.1.length ∧ M.2.1 ≤ 128 ∧ M.2.2 = μ.2.2 ∧ ∀ j, j < M.2.1 → μ.2.1[j]? = some ((n_get M.1 j).1, (n_get M.1 j).2.1) ∧ y_row (n_get M.1 j).1 (n_get M.1 j).2.1 (n_get M.1 j).2.2 (μ.1 (j + 64))
def y_le (μ μ' : eM) : Prop := ∀ r k, ev_kd μ r = some k → ev_kd μ' r = some k
theorem y_le_r (μ : eM) : y_le μ μ := fun _ _ h => h
theorem y_le.tr {a b c : eM} (h : y_le a b) (h2 : y_le b c) : y_le a c := fun r k q => h2 r k (h r k q)
theorem y_le_2 {a b : eM} (h : b.2 = a.2) : y_le a b := by
  intro r k q
  unfold ev_kd at q ⊢
  rw [h]
  exact q
/-- static rows -/
def yG (fg : eG) (T : Lean.RArray yC) : Prop := ∀ r, 0 < r → r < 64 → (y_get T r).1 ≠ 0 → (fg r).1 = (y_get T r).1 ∧ (fg r).2.1 = (y_get T r).2.1 ∧ y_row (y_get T r).1 (y_get T r).2.1 (y_get T r).2.2 (fg r).2.2
noncomputable def y_cl (M : yM) (r : Nat) (K : Nat → Nat → Lean.RArray Nat → Bool) : Bool := @Bool.rec (fun _ => Bool) false (@Bool.rec (fun _ => Bool) false (@Prod.rec Nat (Nat × Lean.RArray Nat) (fun _ => Bool) (fun kd q => @Prod.rec Nat (Lean.RArray Nat) (fun _ => Bool) (fun n t => K kd n t) q) (n_get M.1 (Nat.sub r 64))) (Nat.ble (Nat.succ (Nat.sub r 64)) M.2.1)) (Nat.ble 64 r)
theorem y_cl_def (M : yM) (r : Nat) (K : Nat → Nat → Lean.RArray Nat → Bool) : y_cl M r K = f_if false (Nat.ble 64 r) (f_if false (Nat.ble (Nat.succ (Nat.sub r 64)) M.2.1) (@Prod.rec Nat (Nat × Lean.RArray Nat) (fun _ => Bool) (fun kd q => @Prod.rec Nat (Lean.RArray Nat) (fun _ => Bool) (fun n t => K kd n t) q) (n_get M.1 (Nat.sub r 64)))) := rfl
theorem y_cl_ok {M : yM} {μ : eM} {r : Nat} {K : Nat → Nat → Lean.RArray Nat → Bool} (h : y_cl M r K = true) (hR : yR M μ) : ∃ j kd n t, r = j + 64 ∧ j < M.2.1 ∧ n_get M.1 j = (kd, n, t) ∧ μ.2.1[j]? = some (kd, n) ∧ y_row kd n t (μ.1 r) ∧ K kd n t = true := by
  rw [y_cl_def] at h
  obtain ⟨h1, h_2⟩ := f_if_ok h
  obtain ⟨h2, h_4⟩ := f_if_ok h_2
  have h1_5 := Nat.ble_eq.mp h1
  have h2_6 : r - 64 + 1 ≤ M.2.1 := Nat.ble_eq.mp h2
  obtain ⟨⟨kd, n, t⟩, hq⟩ : ∃ z, n_get M.1 (r - 64) = z := ⟨_, rfl⟩
  have hq2 : n_get M.1 (Nat.sub r 64) = (kd, n, t) := hq
  rw [hq2] at h_4
  have h5 := hR.2.2.2 (r - 64) (by omega)
  rw [hq, show r - 64 + 64 = r by omega] at h5
  exact ⟨r - 64, kd, n, t, by omega, by omega, hq, h5.1, h5.2, h_4⟩
noncomputable def y_v (c : Nat) (K : Nat → Bool) : Bool := @Nat.rec (fun _ => Bool) false (fun m _ => K m) c
theorem y_v_ok {c : Nat} {K : Nat → Bool} (h : y_v c K = true) : ∃ v, c = v + 1 ∧ K v = true := by
  cases c with
  | zero => cases h
  | succ m => exact ⟨m, rfl, h⟩
theorem y_kd {μ : eM} {j kd n r : Nat} (hr : r = j + 64) (h : μ.2.1[j]? = some (kd, n)) : ev_kd μ r = some kd := by
  subst hr
  unfold ev_kd
  rw [if_neg (by omega), show j + 64 - 64 = j by omega, h]
  rfl
/-! looking -/
noncomputable def y_is (M : yM) (r a : Nat) (K : Bool) : Bool := y_cl M r fun kd _ _ => f_if false (Nat.beq kd a) K
theorem y_is_ok {M : yM} {μ : eM} {r a : Nat} {K : Bool} (h : y_is M r a K = true) (hR : yR M μ) : ev_kd μ r = some a ∧ K = true := by
  obtain ⟨j, kd, n, t, h1, h2, h3, h4, h5, h_3⟩ := y_cl_ok h hR
  obtain ⟨h6, h_5⟩ := f_if_ok h_3
  have h6_6 := Nat.eq_of_beq_eq_true h6
  subst h6_6
  exact ⟨y_kd h1 h4, h_5⟩
noncomputable def y_gf0 (M : yM) (r a b : Nat) (K : Nat → Bool) : Bool := y_cl M r fun kd _ t => f_if false (Nat.beq kd a) (y_v (y_rg t b) K)
noncomputable def y_gf (M : yM) (r a b : Nat) (K : Nat → Bool) : Bool := @Bool.rec (fun _ => Bool) false (@Bool.rec (fun _ => Bool) false (@Prod.rec Nat (Nat × Lean.RArray Nat) (fun _ => Bool) (fun kd q => @Prod.rec Nat (Lean.RArray Nat) (fun _ => Bool) (fun _ t => @Bool.rec (fun _ => Bool) false (@Nat.rec (fun _ => Bool) false (fun m _ => K m) (y_rg t b)) (Nat.beq kd a)) q) (n_get M.1 (Nat.sub r 64))) (Nat.ble (Nat.succ (Nat.sub r 64)) M.2.1)) (Nat.ble 64 r)
theorem y_gf_eq (M : yM) (r a b : Nat) (K : Nat → Bool) : y_gf M r a b K = y_gf0 M r a b K := by
  unfold y_gf y_gf0 y_cl f_if y_v
  with_reducible rfl
theorem y_gf_ok {M : yM} {μ : eM} {r a b ty : Nat} {K : Nat → Bool} (h : y_gf M r a b K = true) (hR : yR M μ) (hb : b < 256) (ht : y_ty a b = ty) : ∃ v, K v = true ∧ ev_kd μ r = some a ∧ μ.1 r b = y_dec ty v := by
  rw [y_gf_eq] at h
  obtain ⟨j, kd, n, t, h1, h2, h3, h4, ⟨d, p1, p2, p3, p4⟩, h_3⟩ := y_cl_ok h hR
  obtain ⟨h6, h_5⟩ := f_if_ok h_3
  have h6_6 := Nat.eq_of_beq_eq_true h6
  subst h6_6
  obtain ⟨v, h7, h8⟩ := y_v_ok h_5
  have hp : 0 < 2 ^ d := Nat.pow_pos (by decide)
  refine ⟨v, h8, y_kd h1 h4, ?_⟩
  rw [← ht]
  exact p4 b v (by omega) h7
noncomputable def y_ix (kk i kd n : Nat) (t : Lean.RArray Nat) (K : Nat → Bool) : Bool := f_if false (Nat.beq kd kk) (f_if false (Nat.ble (Nat.succ i) n) (y_v (y_rg t i) K))
theorem y_ix_ok {kk i kd n : Nat} {t : Lean.RArray Nat} {f : Nat → Int} {K : Nat → Bool} (h : y_ix kk i kd n t K = true) (hr : y_row kd n t f) : kd = kk ∧ i < n ∧ zI i = (i : Int) ∧ ∃ v, K v = true ∧ f i = y_dec (y_ty kk i) v := by
  obtain ⟨d, p1, p2, p3, p4⟩ := hr
  obtain ⟨h1, h_2⟩ := f_if_ok h
  obtain ⟨h2, h_4⟩ := f_if_ok h_2
  have h1_5 := Nat.eq_of_beq_eq_true h1
  have h2_6 : i + 1 ≤ n := Nat.ble_eq.mp h2
  subst h1_5
  obtain ⟨v, h7, h8⟩ := y_v_ok h_4
  exact ⟨rfl, by omega, zI_lit (by omega), v, h8, p4 i v (by omega) h7⟩
noncomputable def y_la (T : Lean.RArray yC) (kk : Nat) (M : yM) (r i : Nat) (K : Nat → Bool) : Bool := z_if (Nat.ble 64 r) (y_cl M r fun kd n t => y_ix kk i kd n t K) (f_if false (Nat.ble 1 r) (@Prod.rec Nat (Nat × Lean.RArray Nat) (fun _ => Bool) (fun kd q => @Prod.rec Nat (Lean.RArray Nat) (fun _ => Bool) (fun n t => y_ix kk i kd n t K) q) (y_get T r)))
theorem y_la_ok {T : Lean.RArray yC} {fg : eG} {kk : Nat} {M : yM} {μ : eM} {r i ty : Nat} {K : Nat → Bool} (h : y_la T kk M r i K = true) (hR : yR M μ) (hG : yG fg T) (hk : kk ≠ 0) (ht : y_ty kk 0 = ty) (h1 : 100 ≤ kk) : ∃ v, K v = true ∧ ev_al fg μ kk r (zI i) = some (y_dec ty v) := by
  have hty : ∀ k, y_ty kk k = ty := by
    intro k
    rw [← ht]
    unfold y_ty
    simp only [if_neg (show ¬ kk < 100 by omega)]
  rcases z_if_t h with ⟨g, h⟩ | ⟨g, h⟩
  · obtain ⟨j, kd, n, t, e1, h2, h3, h4, hrow, h_2⟩ := y_cl_ok h hR
    obtain ⟨rfl, q2, q3, v, h8, h9⟩ := y_ix_ok h_2 hrow
    refine ⟨v, h8, ?_⟩
    unfold ev_al
    rw [if_neg (by omega), show r - 64 = j by omega, h4]
    dsimp only
    rw [zI_w, q3, if_pos ⟨rfl, by omega, by omega⟩, Int.toNat_natCast, h9, hty]
  · obtain ⟨g2, h_5⟩ := f_if_ok h
    have g_6 := ble_no g
    have g2_7 := Nat.ble_eq.mp g2
    obtain ⟨⟨kd, n, t⟩, hq⟩ : ∃ z, y_get T r = z := ⟨_, rfl⟩
    rw [hq] at h_5
    have h_8 : y_ix kk i kd n t K = true := h_5
    have hk2 : kd = kk := Nat.eq_of_beq_eq_true (f_if_ok h_8).1
    have hT := hG r (by omega) (by omega) (by rw [hq]; show kd ≠ 0; omega)
    rw [hq] at hT
    obtain ⟨rfl, q2, q3, v, h8, h9⟩ := y_ix_ok h_8 hT.2.2
    refine ⟨v, h8, ?_⟩
    have e1 : (fg r).1 = kd := hT.1
    have e2 : (fg r).2.1 = n := hT.2.1
    unfold ev_al
    rw [if_pos (by omega), zI_w, q3, e1, e2, if_pos ⟨by omega, rfl, by omega, by omega⟩, Int.toNat_natCast, h9, hty]
noncomputable def y_lh (kk : Nat) (M : yM) (r i : Nat) (K : Nat → Bool) : Bool := @Bool.rec (fun _ => Bool) false (@Bool.rec (fun _ => Bool) false (@Prod.rec Nat (Nat × Lean.RArray Nat) (fun _ => Bool) (fun kd q => @Prod.rec Nat (Lean.RArray Nat) (fun _ => Bool) (fun n t => @Bool.rec (fun _ => Bool) false (@Bool.rec (fun _ => Bool) false (@Nat.rec (fun _ => Bool) false (fun m _ => K m) (y_rg t i)) (Nat.ble (Nat.succ i) n)) (Nat.beq kd kk)) q) (n_get M.1 (Nat.sub r 64))) (Nat.ble (Nat.succ (Nat.sub r 64)) M.2.1)) (Nat.ble 64 r)
theorem y_lh_eq (kk : Nat) (M : yM) (r i : Nat) (K : Nat → Bool) : y_lh kk M r i K = y_cl M r fun kd n t => y_ix kk i kd n t K := by
  unfold y_lh y_cl y_ix f_if y_v
  with_reducible rfl
theorem y_lh_64 {kk : Nat} {M : yM} {r i : Nat} {K : Nat → Bool} (h : y_lh kk M r i K = true) : Nat.ble 64 r = true := by
  unfold y_lh at h
  revert h
  cases Nat.ble 64 r with
  | true => exact fun _ => rfl
  | false => exact fun h => absurd h Bool.false_ne_true
theorem y_lh_ok {T : Lean.RArray yC} {fg : eG} {kk : Nat} {M : yM} {μ : eM} {r i ty : Nat} {K : Nat → Bool} (h : y_lh kk M r i K = true) (hR : yR M μ) (hG : yG fg T) (hk : kk ≠ 0) (ht : y_ty kk 0 = ty) (h1 : 100 ≤ kk) : ∃ v, K v = true ∧ ev_al fg μ kk r (zI i) = some (y_dec ty v) := by
  have h2 : y_la T kk M r i K = true := by
    unfold y_la
    rw [y_lh_64 h]
    show y_cl M r (fun kd n t => y_ix kk i kd n t K) = true
    rw [← y_lh_eq]
    exact h
  exact y_la_ok h2 hR hG hk ht h1
noncomputable def y_ln (T : Lean.RArray yC) (M : yM) (r : Nat) (K : Nat → Bool) : Bool := z_if (Nat.ble 64 r) (y_cl M r fun kd n _ => f_if false (Nat.ble 100 kd) (f_if false (Nat.ble kd 103) (K n))) (f_if false (Nat.ble 1 r) (@Prod.rec Nat (Nat × Lean.RArray Nat) (fun _ => Bool) (fun kd q => @Prod.rec Nat (Lean.RArray Nat) (fun _ => Bool) (fun n _ => f_if false (Nat.ble 1 kd) (K n)) q) (y_get T r)))
theorem y_ln_ok {T : Lean.RArray yC} {fg : eG} {M : yM} {μ : eM} {r : Nat} {K : Nat → Bool} (h : y_ln T M r K = true) (hR : yR M μ) (hG : yG fg T) : ∃ v, K v = true ∧ (∃ n : Nat, ev_ln fg μ r = some n ∧ zI v = (n : Int)) := by
  rcases z_if_t h with ⟨g, h⟩ | ⟨g, h⟩
  · obtain ⟨j, kd, n, t, e1, h2, h3, h4, ⟨d, p1, p2, p3, p4⟩, h_2⟩ := y_cl_ok h hR
    obtain ⟨q1, h_4⟩ := f_if_ok h_2
    obtain ⟨q2, h_6⟩ := f_if_ok h_4
    have q1_7 := Nat.ble_eq.mp q1
    have q2_8 := Nat.ble_eq.mp q2
    refine ⟨n, h_6, n, ?_, zI_lit (by omega)⟩
    unfold ev_ln
    rw [if_neg (by omega), show r - 64 = j by omega, h4]
    dsimp only
    rw [if_pos ⟨q1_7, q2_8⟩]
  · obtain ⟨g2, h_9⟩ := f_if_ok h
    have g_10 := ble_no g
    have g2_11 := Nat.ble_eq.mp g2
    obtain ⟨⟨kd, n, t⟩, hq⟩ : ∃ z, y_get T r = z := ⟨_, rfl⟩
    rw [hq] at h_9
    have h_12 : f_if false (Nat.ble 1 kd) (K n) = true := h_9
    obtain ⟨q1, h_14⟩ := f_if_ok h_12
    have q1_15 := Nat.ble_eq.mp q1
    have hT := hG r (by omega) (by omega) (by rw [hq]; show kd ≠ 0; omega)
    rw [hq] at hT
    have e1 : (fg r).1 = kd := hT.1
    have e2 : (fg r).2.1 = n := hT.2.1
    obtain ⟨d, p1, p2, p3, p4⟩ := hT.2.2
    refine ⟨n, h_14, n, ?_, zI_lit (by omega)⟩
    unfold ev_ln
    rw [if_pos (by omega), e1, e2, if_pos ⟨by omega, by omega⟩]
/-! writing -/
theorem y_dec_ty {t : Nat} (h : t ≠ 3) (v : Nat) : y_dec t (Nat.mod v 18446744073709551616) = y_dec t v := by
  have e1 : zI (v % 18446744073709551616) = zI v := by
    unfold zI
    rw [show v % 18446744073709551616 % 4294967296 = v % 4294967296 by omega]
  have e2 : zJ (v % 18446744073709551616) = zJ v := by
    unfold zJ
    rw [Nat.mod_mod]
  unfold y_dec
  split
  · exact e2
  · exact absurd rfl h
  · exact e1
theorem y_cell {M : yM} {μ : eM} (hR : yR M μ) {j kd n : Nat} {t : Lean.RArray Nat} {f : Nat → Int} (hj : j < M.2.1) (h4 : μ.2.1[j]? = some (kd, n)) (hrow : y_row kd n t f) : yR (n_q7 j (kd, n, t) M.1, M.2) (ev_ur μ.1 (j + 64) f, μ.2) := by
  obtain ⟨r2, r3, r4, r5⟩ := hR
  refine ⟨r2, r3, r4, fun q hq => ?_⟩
  have hq : q < M.2.1 := hq
  have e := n_get_q (j := q) (k := j) (by omega) (by omega) (kd, n, t) M.1
  dsimp only
  rw [e]
  unfold ev_ur
  by_cases hqj : q = j
  · rw [if_pos hqj, if_pos (by omega), hqj]
    exact ⟨h4, hrow⟩
  · rw [if_neg hqj, if_neg (by omega)]
    exact r5 q hq
theorem y_row_set {kd n : Nat} {t : Lean.RArray Nat} {f : Nat → Int} (h : y_row kd n t f) {i v : Nat} {x : Int} (hi : i < n) (hv : v + 1 < nW) (hx : x = y_dec (y_ty kd i) v) : y_row kd n (y_rp t i (v + 1)) (ev_u1 f i x) := by
  obtain ⟨d, p1, p2, p3, p4⟩ := h
  refine ⟨d, y_pf_put _ _ _ _ p1, p2, p3, fun k c hk hc => ?_⟩
  rw [y_rg_rp p1 hv (by omega) hk] at hc
  unfold ev_u1
  by_cases hki : k = i
  · rw [if_pos hki] at hc ⊢
    subst hki
    rw [hx, show v = c by omega]
  · rw [if_neg hki] at hc ⊢
    exact p4 k c hk hc
theorem y_64 (v : Nat) : Nat.mod v 18446744073709551616 + 1 < nW := by
  have : v % 18446744073709551616 < 18446744073709551616 := Nat.mod_lt _ (by decide)
  have h : (18446744073709551616 : Nat) < nW := by decide
  show v % 18446744073709551616 + 1 < nW
  omega
noncomputable def y_pt (M : yM) (r kd n : Nat) (t : Lean.RArray Nat) (i c : Nat) (K : yM → Bool) : Bool := y_rs t i c fun t' => @Prod.rec nC7 (Nat × Nat) (fun _ => Bool) (fun T0 c0 => n_p7 (Nat.sub r 64) (kd, n, t') T0 fun T => K (T, c0)) M
theorem y_pt_ok {M : yM} {r kd n : Nat} {t : Lean.RArray Nat} {i c : Nat} {K : yM → Bool} (h : y_pt M r kd n t i c K = true) : K (n_q7 (Nat.sub r 64) (kd, n, y_rp t i c) M.1, M.2) = true := by
  obtain ⟨T0, c0⟩ := M
  have h2 := y_rs_ok h
  have h3 : n_p7 (Nat.sub r 64) (kd, n, y_rp t i c) T0 (fun T => K (T, c0)) = true := h2
  rw [n_p7_eq] at h3
  exact h3
/-- an int, a long into a field -/
noncomputable def y_wf (M : yM) (r a b v : Nat) (K : yM → Bool) : Bool := y_cl M r fun kd n t => f_if false (Nat.beq kd a) (f_if false (Nat.ble (Nat.succ b) n) (y_pt M r kd n t b (Nat.succ (Nat.mod v 18446744073709551616)) K))
theorem y_wf_ok {M : yM} {μ : eM} {r a b v ty : Nat} {K : yM → Bool} (h : y_wf M r a b v K = true) (hR : yR M μ) (ht : y_ty a b = ty) (h3 : ty ≠ 3) : ∃ M', K M' = true ∧ ev_kd μ r = some a ∧ yR M' (ev_up μ.1 r b (y_dec ty v), μ.2) := by
  obtain ⟨j, kd, n, t, e1, h2, hg, h4, hrow, h_2⟩ := y_cl_ok h hR
  obtain ⟨q1, h_4⟩ := f_if_ok h_2
  obtain ⟨q2, h_6⟩ := f_if_ok h_4
  have q1_7 := Nat.eq_of_beq_eq_true q1
  have q2_8 : b + 1 ≤ n := Nat.ble_eq.mp q2
  subst q1_7
  have h_9 := y_pt_ok h_6
  refine ⟨_, h_9, y_kd e1 h4, ?_⟩
  have hr_10 := y_row_set hrow (i := b) (v := Nat.mod v 18446744073709551616) (x := y_dec ty v) (by omega) (y_64 v) (by rw [ht, y_dec_ty h3])
  subst e1
  have e : Nat.sub (j + 64) 64 = j := by show j + 64 - 64 = j; omega
  rw [e]
  exact y_cell hR h2 h4 hr_10
/-- a cell into a field -/
noncomputable def y_wr (M : yM) (r a b v : Nat) (K : yM → Bool) : Bool := y_cl M r fun kd n t => f_if false (Nat.beq kd a) (f_if false (Nat.ble (Nat.succ b) n) (f_if false (Nat.ble v 1000000) (y_pt M r kd n t b (Nat.succ v) K)))
theorem y_wr_ok {M : yM} {μ : eM} {r a b v : Nat} {K : yM → Bool} (h : y_wr M r a b v K = true) (hR : yR M μ) (ht : y_ty a b = 3) : ∃ M', K M' = true ∧ ev_kd μ r = some a ∧ yR M' (ev_up μ.1 r b (v : Int), μ.2) := by
  obtain ⟨j, kd, n, t, e1, h2, hg, h4, hrow, h_2⟩ := y_cl_ok h hR
  obtain ⟨q1, h_4⟩ := f_if_ok h_2
  obtain ⟨q2, h_6⟩ := f_if_ok h_4
  obtain ⟨q3, h_8⟩ := f_if_ok h_6
  have q1_9 := Nat.eq_of_beq_eq_true q1
  have q2_10 : b + 1 ≤ n := Nat.ble_eq.mp q2
  have q3_11 := Nat.ble_eq.mp q3
  have hW : (1000002 : Nat) < nW := by decide
  subst q1_9
  have h_12 := y_pt_ok h_8
  refine ⟨_, h_12, y_kd e1 h4, ?_⟩
  have hr_13 := y_row_set hrow (i := b) (v := v) (x := (v : Int)) (by omega) (by omega) (by rw [ht]; rfl)
  subst e1
  have e : Nat.sub (j + 64) 64 = j := by show j + 64 - 64 = j; omega
  rw [e]
  exact y_cell hR h2 h4 hr_13
/-- an int, a long into a row -/
noncomputable def y_sa (kk : Nat) (M : yM) (r i v : Nat) (K : yM → Bool) : Bool := y_cl M r fun kd n t => f_if false (Nat.beq kd kk) (f_if false (Nat.ble (Nat.succ i) n) (y_pt M r kd n t i (Nat.succ (Nat.mod v 18446744073709551616)) K))
theorem y_sa_ok {kk : Nat} {M : yM} {μ : eM} {r i v ty : Nat} {K : yM → Bool} (h : y_sa kk M r i v K = true) (hR : yR M μ) (ht : y_ty kk 0 = ty) (h1 : 100 ≤ kk) : ∃ M', K M' = true ∧ ev_as μ kk r (zI i) (y_dec ty v) = some (ev_up μ.1 r i (y_dec ty v), μ.2) ∧ yR M' (ev_up μ.1 r i (y_dec ty v), μ.2) := by
  have hty : ∀ k, y_ty kk k = ty := by
    intro k
    rw [← ht]
    unfold y_ty
    simp only [if_neg (show ¬ kk < 100 by omega)]
  have h3 : ty ≠ 3 := by
    rw [← ht]
    unfold y_ty
    rw [if_neg (by omega)]
    split <;> decide
  obtain ⟨j, kd, n, t, e1, h2, hg, h4, hrow, h_2⟩ := y_cl_ok h hR
  obtain ⟨q1, h_4⟩ := f_if_ok h_2
  obtain ⟨q2, h_6⟩ := f_if_ok h_4
  have q1_7 := Nat.eq_of_beq_eq_true q1
  have q2_8 : i + 1 ≤ n := Nat.ble_eq.mp q2
  subst q1_7
  have h_9 := y_pt_ok h_6
  have hn : n < 2147483648 := by
    obtain ⟨d, p1, p2, p3, p4⟩ := hrow
    exact p3
  refine ⟨_, h_9, ?_, ?_⟩
  · unfold ev_as
    rw [if_neg (by omega), show r - 64 = j by omega, h4]
    dsimp only
    rw [zI_w, zI_lit (by omega), if_pos ⟨rfl, by omega, by omega⟩, Int.toNat_natCast]
  · have hr_10 := y_row_set hrow (i := i) (v := Nat.mod v 18446744073709551616) (x := y_dec ty v) (by omega) (y_64 v) (by rw [hty, y_dec_ty h3])
    subst e1
    have e : Nat.sub (j + 64) 64 = j := by show j + 64 - 64 = j; omega
    rw [e]
    exact y_cell hR h2 h4 hr_10
/-! new cells -/
def y_U : Nat := 8141799264873129278113208087668055093383879449593804556179569146577471052805702964483504344254245989224459923222427591415084278786519157805625193055177783251713757310824055094940283280202448820466008030521635164134081330573506679626841604427567973510154184602805281762426493302459015949822372291225594398162278961507595245779434022610485691379732012944396243669907350864274243722887639857715598298170576450209552284502985126115710437208166840479860407786605102791861965696891817763129011491987342935400075899609889954978337080445227396200232642855417268125669113187765387586732030681690886282618535821418424549290771656481440842850728038985313401515897322316075922908590531861746577976890930336791992694644507502208461354042488630483869709469911238464192664490469434469996146121814613544480027886566544852095061795024499610013066494557325007361494251146353984081708765248119607796721130572366696842454297417641038526898646595385294148105255970111578372868625238636235960192827031045000921137324838588124624522290467320692384126542995507216794463650486067435272808324994067694288276435087943458517686916230649927391123295080976163680302242568818120815096031993180537674985259389674813422476633867933706283291723105333601675727610512858369374389963659916562670957917465618742178714627949850235360130587327560064700494041541451825900496240891407287153359583488841979320021316421389311611470258336131580738092784233109054738360597692185954294823763750149844914400061109465766844815463196501110813702041623987047126743861663085036376537842859149764011668473943022672898367023128850753846735495852398228494641422747290726752304301100829005446686922745301287097963667315703511657525449611871753008941665001188102852796391648403899686262703712066394898225008326251619320823582836010155436425044505256825720539426541345165976446043859368952919488331966138845869311871531179175115053163932281165535934378327090826996307652142395685226788314420703426592819512889115841501915264460069460057969403410049025055618320219123850919489211045100486534725370542046028424210659086649315686707151021070697837907734265180501822250720707283795092767796384241071768815855102489679579285265976334555054502403565789057439592935060883660311651022077956016471273590024572963733508452423442957698287479175539002601194521475459399124696523436445877734420330616962212602983682804301362405035175183037307865728832736107641328024130075417681343993920985641760897158752084319662106968466250108413503648321086712623170359193031499025428409211095871281401350168459619826503344139906014055875637382027434074400678297602140274552976712016939747820034007800898755137402117450609749491136070818063164515455033171666402860328148925158510433167308229446712092805206859849021848107478284430291756087723081332782007903664827641654403598645482474097853424500125403011051568888101123122187617441182569475030710775903932429707323329723388118431538019108803876850648267188383468241682814357186262819671707281333857029733087767879733540284649555297986214662157648994726637885269678873101782392172770192425524059964758738987593223802876485320764192661074243431019409730165664607591044759138481310873732555511117633382857737598542164506357490461391941531624410396405483825802676714112938259652754902621074251440048739453526362145611118807324793693180666088620565726411545138940264353866353234876526408115287051163292908135549366940970231355565688714041404099074913498119541470173708615645684833432456136838891851813854042586532747360050355888537117461598256945456699606774286886049597359575657492935024259518210009263628445443139868350326196522125181136583134291017370372232437003992127645021439329568442261286650219260865980199451126806320591012794096249451355989742359805705622553360835438158459165914196222274550442072612459015470444277072882346602123830371983191844001577497593106476944033410951615193595713974061361877136928927221022052843830239863707605103815665948787834101432672996829130943095723775409257853578597907820323422403388639243533208660192020023849744061258733267736155283815581190012611851392159968625024979670842704438719026149636750317123039937451950192074843846021116162287046168966475485432231023221256103732267383639714696662908732816116723420262691071301318699531086735906705716089192065200868999546051748242819231383005725236523309287599660196966509913990547372093013243163222735145362906028621212555116882100014434912612542493697167605298250934614798840689728959538279080952921406670566517473584810172241004536896381890784346968481432807052132465375252503172773674390532533975820492909135965851685523989272398868500916503117353107487576733920755806433146160650381831669517536919861344098540162446135021304523132290563297851775704235946708011937292969474445084412817389368731247942969386327770224718635315084075808040068873679054200445314789827413893578553309510799382649998299633555734315274104638085099358199264070697822215147489302356177322241808965321379136776056196540212815167418165121835373741599176690753760632811499367603805477449218990278631178880830899555781337012139513566805839766651068257239358019880546434000411920006167756957081540503729379566112803479319587549083865992569569575567659532282722121509761672139832553354616248660187763160014109137382369488906348789297532956788914253786914731557308490125899461143905440435408051373736028571809760588634341474761369335415160269394963562641087820968849267169814680526315258729916062238247985357399379999210703479277841948849344705500166732582859438463247300834961565300719866632489066823681
theorem y_U_ck : (List.range 256).all (fun k => Nat.beq (n_at y_U k) 1) = true := by decide +kernel
noncomputable def y_full : Nat → Lean.RArray Nat := @Nat.rec (fun _ => Lean.RArray Nat) (.leaf y_U) (fun _ t => .branch 0 t t)
theorem y_full_ok : ∀ d, y_pf d (y_full d) ∧ ∀ i, y_get (y_full d) i = y_U := by
  intro d
  induction d with
  | zero => exact ⟨True.intro, fun i => rfl⟩
  | succ d ih =>
    refine ⟨⟨ih.1, ih.1⟩, fun i => ?_⟩
    show @Bool.rec (fun _ => Nat) (y_get (y_full d) (Nat.div i 2)) (y_get (y_full d) (Nat.div i 2)) (Nat.beq (Nat.mod i 2) 1) = y_U
    cases Nat.beq (Nat.mod i 2) 1 with
    | false => exact ih.2 _
    | true => exact ih.2 _
theorem y_dec_0 (t : Nat) : y_dec t 0 = 0 := by
  unfold y_dec
  split <;> rfl
theorem y_full_row {kd n d : Nat} (h : n ≤ 256 * 2 ^ d) (hn : n < 2147483648) : y_row kd n (y_full d) (fun _ => 0) := by
  obtain ⟨h1, h2⟩ := y_full_ok d
  refine ⟨d, h1, h, hn, fun k c hk hc => ?_⟩
  have hl : y_rg (y_full d) k = 1 := by
    unfold y_rg
    rw [h2]
    have := List.all_eq_true.mp y_U_ck (k % 256) (List.mem_range.mpr (Nat.mod_lt _ (by decide)))
    exact Nat.eq_of_beq_eq_true this
  rw [hl] at hc
  rw [show c = 0 by omega, y_dec_0]
theorem y_new {M : yM} {μ : eM} (hR : yR M μ) {kd n : Nat} {t : Lean.RArray Nat} (hl : M.2.1 < 128) (hrow : y_row kd n t (fun _ => 0)) : yR (n_q7 M.2.1 (kd, n, t) M.1, Nat.succ M.2.1, Nat.add M.2.2 n) (ev_nw μ kd n) ∧ y_le μ (ev_nw μ kd n) := by
  obtain ⟨r2, r3, r4, r5⟩ := hR
  refine ⟨⟨?_, ?_, ?_, fun q hq => ?_⟩, ?_⟩
  · show M.2.1 + 1 = (μ.2.1 ++ [(kd, n)]).length
    rw [List.length_append, r2]
    rfl
  · show M.2.1 + 1 ≤ 128
    omega
  · show M.2.2 + n = μ.2.2 + n
    rw [r4]
  · have hq : q < M.2.1 + 1 := hq
    have e := n_get_q (j := q) (k := M.2.1) (by omega) (by omega) (kd, n, t) M.1
    show (μ.2.1 ++ [(kd, n)])[q]? = some ((n_get (n_q7 M.2.1 (kd, n, t) M.1) q).1, (n_get (n_q7 M.2.1 (kd, n, t) M.1) q).2.1) ∧ y_row (n_get (n_q7 M.2.1 (kd, n, t) M.1) q).1 (n_get (n_q7 M.2.1 (kd, n, t) M.1) q).2.1 (n_get (n_q7 M.2.1 (kd, n, t) M.1) q).2.2 (ev_ur μ.1 (μ.2.1.length + 64) (fun _ => 0) (q + 64))
    rw [e]
    unfold ev_ur
    by_cases hqj : q = M.2.1
    · rw [if_pos hqj, if_pos (by omega)]
      refine ⟨?_, hrow⟩
      rw [List.getElem?_append_right (by omega), hqj, r2, Nat.sub_self]
      rfl
    · rw [if_neg hqj, if_neg (by omega), List.getElem?_append_left (by omega)]
      exact r5 q (by omega)
  · intro r k h
    unfold ev_kd at h ⊢
    split at h
    · cases h
    · rename_i h0
      rw [if_neg h0]
      show ((μ.2.1 ++ [(kd, n)])[r - 64]?).map _ = _
      cases hq : μ.2.1[r - 64]? with
      | none => rw [hq] at h; cases h
      | some z =>
        rw [hq] at h
        rw [List.getElem?_append_left (List.getElem?_eq_some_iff.mp hq).1, hq]
        exact h
noncomputable def y_no (M : yM) (a n : Nat) (K : Nat → yM → Bool) : Bool := f_if false (Nat.ble (Nat.succ M.2.1) 128) (f_if false (Nat.ble n 256) (n_p7 M.2.1 (a, n, y_full 0) M.1 fun T => K (Nat.add M.2.1 64) (T, Nat.succ M.2.1, Nat.add M.2.2 n)))
theorem y_no_ok {M : yM} {μ : eM} {a n : Nat} {K : Nat → yM → Bool} (h : y_no M a n K = true) (hR : yR M μ) : ∃ r M', K r M' = true ∧ 64 ≤ r ∧ r = μ.2.1.length + 64 ∧ yR M' (ev_nw μ a n) ∧ y_le μ (ev_nw μ a n) := by
  obtain ⟨h1, h_2⟩ := f_if_ok h
  obtain ⟨h2, h_4⟩ := f_if_ok h_2
  have h1_5 : M.2.1 + 1 ≤ 128 := Nat.ble_eq.mp h1
  have h2_6 := Nat.ble_eq.mp h2
  rw [n_p7_eq] at h_4
  obtain ⟨q1, q2⟩ := y_new hR (kd := a) (n := n) (t := y_full 0) (by omega) (y_full_row (by omega) (by omega))
  refine ⟨_, _, h_4, ?_, ?_, q1, q2⟩
  · show 64 ≤ M.2.1 + 64
    omega
  · show M.2.1 + 64 = _
    rw [hR.1]
noncomputable def y_dp (n : Nat) : Nat := @Bool.rec (fun _ => Nat) (@Bool.rec (fun _ => Nat) (@Bool.rec (fun _ => Nat) 6 4 (Nat.ble n 4096)) 2 (Nat.ble n 1024)) 0 (Nat.ble n 256)
theorem y_dp_ok {n : Nat} (h : n ≤ 16384) : n ≤ 256 * 2 ^ y_dp n := by
  unfold y_dp
  cases h1 : Nat.ble n 256 with
  | true =>
    have := Nat.ble_eq.mp h1
    show n ≤ 256 * 2 ^ 0
    omega
  | false =>
    cases h2 : Nat.ble n 1024 with
    | true =>
      have := Nat.ble_eq.mp h2
      show n ≤ 256 * 2 ^ 2
      omega
    | false =>
      cases h3 : Nat.ble n 4096 with
      | true =>
        have := Nat.ble_eq.mp h3
        show n ≤ 256 * 2 ^ 4
        omega
      | false =>
        show n ≤ 256 * 2 ^ 6
        omega
noncomputable def y_na (M : yM) (a n : Nat) (K : Nat → yM → Bool) : Bool := f_if false (Nat.ble (Nat.succ M.2.1) 128) (f_if false (Nat.ble n 16384) (n_p7 M.2.1 (a, n, y_full (y_dp n)) M.1 fun T => K (Nat.add M.2.1 64) (T, Nat.succ M.2.1, Nat.add M.2.2 n)))
theorem y_na_ok {M : yM} {μ : eM} {a n : Nat} {K : Nat → yM → Bool} (h : y_na M a n K = true) (hR : yR M μ) : ∃ r M', K r M' = true ∧ 64 ≤ r ∧ r = μ.2.1.length + 64 ∧ (0 ≤ ev_w (zI n) ∧ ev_w (zI n) ≤ 1000000 ∧ (ev_w (zI n)).toNat = n) ∧ yR M' (ev_nw μ a n) ∧ y_le μ (ev_nw μ a n) := by
  obtain ⟨h1, h_2⟩ := f_if_ok h
  obtain ⟨h2, h_4⟩ := f_if_ok h_2
  have h1_5 : M.2.1 + 1 ≤ 128 := Nat.ble_eq.mp h1
  have h2_6 := Nat.ble_eq.mp h2
  rw [n_p7_eq] at h_4
  obtain ⟨q1, q2⟩ := y_new hR (kd := a) (n := n) (t := y_full (y_dp n)) (by omega) (y_full_row (y_dp_ok h2_6) (by omega))
  refine ⟨_, _, h_4, ?_, ?_, ?_, q1, q2⟩
  · show 64 ≤ M.2.1 + 64
    omega
  · show M.2.1 + 64 = _
    rw [hR.1]
  · rw [zI_w, zI_lit (by omega)]
    refine ⟨by omega, by omega, by omega⟩
/-! a row's first places copied, at most a piece of them -/
noncomputable def y_mg (N0 N1 n : Nat) : Nat := Nat.add (Nat.mod N0 (Nat.pow 2 (Nat.mul 72 n))) (Nat.shiftLeft (Nat.shiftRight N1 (Nat.mul 72 n)) (Nat.mul 72 n))
theorem y_mg_cd (N0 N1 n k : Nat) : n_at (y_mg N0 N1 n) k = if k < n then n_at N0 k else n_at N1 k := by
  have hW : 0 < nW := by decide
  have hP : 0 < nW ^ n := Nat.pow_pos hW
  have e0 : y_mg N0 N1 n = N0 % nW ^ n + nW ^ n * (N1 / nW ^ n) := by
    show N0 % 2 ^ (72 * n) + (N1 >>> (72 * n)) <<< (72 * n) = _
    rw [Nat.shiftLeft_eq, Nat.shiftRight_eq_div_pow, ← nW_pow, Nat.mul_comm (N1 / nW ^ n)]
  rw [n_at_eq, n_at_eq, n_at_eq, e0]
  unfold cd
  have hm : N0 % nW ^ n < nW ^ n := Nat.mod_lt _ hP
  by_cases hk : k < n
  · rw [if_pos hk]
    obtain ⟨m, rfl⟩ : ∃ m, n = k + 1 + m := ⟨n - k - 1, by omega⟩
    have hp : nW ^ (k + 1 + m) = nW ^ k * (nW * nW ^ m) := by rw [Nat.pow_add, Nat.pow_succ, Nat.mul_assoc]
    have key : ∀ x : Nat, x / nW ^ k % nW = x % nW ^ (k + 1 + m) / nW ^ k % nW := by
      intro x
      rw [hp, Nat.mod_mul_right_div_self, Nat.mod_mul_right_mod]
    rw [key, Nat.add_mul_mod_self_left, Nat.mod_mod, ← key]
  · rw [if_neg hk]
    obtain ⟨m, rfl⟩ : ∃ m, k = n + m := ⟨k - n, by omega⟩
    rw [Nat.pow_add, ← Nat.div_div_eq_div_mul, ← Nat.div_div_eq_div_mul, Nat.add_mul_div_left _ _ hP, Nat.div_eq_of_lt hm, Nat.zero_add]

