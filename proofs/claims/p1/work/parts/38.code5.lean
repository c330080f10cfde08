/-! THE CODED EVALUATOR: memory's steps -/
abbrev nG : Type := Nat → nC0
def ng_r (ρ : Nat → Int) (ng : nG) (fg : eG) : Prop := ∀ r : Nat, r < 64 → (ng r).1 ≠ 0 → (ng r).1 = (fg r).1 ∧ (ng r).2.1 = (fg r).2.1 ∧ ∀ j : Nat, j < (fg r).2.1 → mr ρ (n_rg (ng r).2.2 j) ((fg r).2.2 j)
theorem mr_I {ρ : Nat → Int} {c : Nat} {z : Int} (h : n_t0 c = true) (hc : mr ρ c z) : cr ρ c (eI z) := by
  have h : Nat.beq ((169 >>> (c % 8)) % 2) 1 = true := h
  unfold mr at hc
  unfold cr
  rcases n_8 c with q | q | q | q | q | q | q | q <;> rw [q] at h hc ⊢
  · have hc : c / 8 < 4294967296 ∧ z = sg32 (c / 8) := hc
    exact ⟨hc.1, by rw [hc.2]⟩
  · exfalso; revert h; decide
  · exfalso; revert h; decide
  · have hc : z = ρ (c / 8) := hc
    show eI z = eI (ρ (c / 8))
    rw [hc]
  · exfalso; revert h; decide
  · exact ⟨z, rfl⟩
  · exfalso; revert h; decide
  · exact ⟨z, rfl, hc⟩
theorem mr_J {ρ : Nat → Int} {c : Nat} {z : Int} (h : n_t1 c = true) (hc : mr ρ c z) : cr ρ c (eJ z) := by
  have h : Nat.beq ((66 >>> (c % 8)) % 2) 1 = true := h
  unfold mr at hc
  unfold cr
  rcases n_8 c with q | q | q | q | q | q | q | q <;> rw [q] at h hc ⊢
  · exfalso; revert h; decide
  · have hc : c / 8 < 18446744073709551616 ∧ z = sg64 (c / 8) := hc
    exact ⟨hc.1, by rw [hc.2]⟩
  · exfalso; revert h; decide
  · exfalso; revert h; decide
  · exfalso; revert h; decide
  · exfalso; revert h; decide
  · exact ⟨z, rfl⟩
  · exfalso; revert h; decide
theorem mr_2 {ρ : Nat → Int} {c : Nat} {z : Int} (h : c % 8 = 2) (hc : mr ρ c z) : z = ((c / 8 : Nat) : Int) := by
  unfold mr at hc
  rw [h] at hc
  exact hc
theorem mr_0 {ρ : Nat → Int} {z : Int} (hc : mr ρ 0 z) : z = 0 := by
  have hc : 0 / 8 < 4294967296 ∧ z = sg32 (0 / 8) := hc
  rw [hc.2]
  rfl
theorem cr_mI {ρ : Nat → Int} {c : Nat} {z : Int} (h : n_t0 c = true) (hc : cr ρ c (eI z)) : mr ρ c z := by
  have h : Nat.beq ((169 >>> (c % 8)) % 2) 1 = true := h
  unfold cr at hc
  unfold mr
  rcases n_8 c with q | q | q | q | q | q | q | q <;> rw [q] at h hc ⊢
  · have hc : c / 8 < 4294967296 ∧ eI z = eI (sg32 (c / 8)) := hc
    obtain ⟨h1, h2⟩ := hc
    cases h2
    exact ⟨h1, rfl⟩
  · exfalso; revert h; decide
  · exfalso; revert h; decide
  · have hc : eI z = eI (ρ (c / 8)) := hc
    cases hc
    rfl
  · exfalso; revert h; decide
  · exact True.intro
  · exfalso; revert h; decide
  · obtain ⟨w, h2, h3⟩ := hc
    cases h2
    exact h3
theorem cr_mJ {ρ : Nat → Int} {c : Nat} {z : Int} (h : n_t1 c = true) (hc : cr ρ c (eJ z)) : mr ρ c z := by
  have h : Nat.beq ((66 >>> (c % 8)) % 2) 1 = true := h
  unfold cr at hc
  unfold mr
  rcases n_8 c with q | q | q | q | q | q | q | q <;> rw [q] at h hc ⊢
  · exfalso; revert h; decide
  · have hc : c / 8 < 18446744073709551616 ∧ eJ z = eJ (sg64 (c / 8)) := hc
    obtain ⟨h1, h2⟩ := hc
    cases h2
    exact ⟨h1, rfl⟩
  · exfalso; revert h; decide
  · exfalso; revert h; decide
  · exfalso; revert h; decide
  · exfalso; revert h; decide
  · exact True.intro
  · exfalso; revert h; decide
theorem cr_mR {ρ : Nat → Int} {c r : Nat} (h : c % 8 = 2) (hc : cr ρ c (eR r)) : mr ρ c (r : Int) := by
  have h2 := cr_2 h hc
  cases h2
  unfold mr
  rw [h]
  rfl
/-! a number of memory as a value, and back -/
def nv_ok (t : Nat) (pv : Bool → Nat → (Nat → Bool) → Bool) : Prop := ∀ (ρ : Nat → Int) (c : Nat) (z : Int) (K : Nat → Bool), c < nW → mr ρ c z → pv false c K = true → ∃ c', c' < nW ∧ cr ρ c' (ev_pv t z) ∧ K c' = true
noncomputable def nvI (z : Bool) (c : Nat) (K : Nat → Bool) : Bool := f_if z (n_t0 c) (K c)
noncomputable def nvJ (z : Bool) (c : Nat) (K : Nat → Bool) : Bool := @Bool.rec (fun _ => Bool) (f_if z (n_t1 c) (K c)) (K 1) (Nat.beq c 0)
noncomputable def nvR (z : Bool) (c : Nat) (K : Nat → Bool) : Bool := @Bool.rec (fun _ => Bool) (f_if z (Nat.beq (Nat.mod c 8) 2) (K c)) (K 2) (Nat.beq c 0)
theorem nvI_ok0 : nv_ok 0 nvI := by
  intro ρ c z K hc hm h
  obtain ⟨h1, h2⟩ := f_if_ok h
  exact ⟨c, hc, mr_I h1 hm, h2⟩
theorem nvI_ok1 : nv_ok 1 nvI := by
  intro ρ c z K hc hm h
  obtain ⟨h1, h2⟩ := f_if_ok h
  exact ⟨c, hc, mr_I h1 hm, h2⟩
theorem nvJ_ok2 : nv_ok 2 nvJ := by
  intro ρ c z K hc hm h
  unfold nvJ at h
  cases hz : Nat.beq c 0 with
  | true =>
    rw [hz] at h
    have hz := Nat.eq_of_beq_eq_true hz
    subst hz
    rw [mr_0 hm]
    exact ⟨1, by decide, cr_J (p := 0) (by decide), h⟩
  | false =>
    rw [hz] at h
    obtain ⟨h1, h2⟩ := f_if_ok h
    exact ⟨c, hc, mr_J h1 hm, h2⟩
theorem nvR_ok3 : nv_ok 3 nvR := by
  intro ρ c z K hc hm h
  unfold nvR at h
  cases hz : Nat.beq c 0 with
  | true =>
    rw [hz] at h
    have hz := Nat.eq_of_beq_eq_true hz
    subst hz
    rw [mr_0 hm]
    exact ⟨2, by decide, cr_R 0, h⟩
  | false =>
    rw [hz] at h
    obtain ⟨h1, h2⟩ := f_if_ok h
    have h1 : c % 8 = 2 := Nat.eq_of_beq_eq_true h1
    refine ⟨c, hc, ?_, h2⟩
    rw [mr_2 h1 hm]
    show cr ρ c (eR (((c / 8 : Nat) : Int).toNat))
    rw [show (((c / 8 : Nat) : Int).toNat) = c / 8 from rfl]
    unfold cr
    rw [h1]
    rfl
noncomputable def nwI (z : Bool) (c : Nat) (K : Bool) : Bool := f_if z (n_t0 c) K
noncomputable def nwZ (z : Bool) (c : Nat) (K : Bool) : Bool := @Bool.rec (fun _ => Bool) (f_if z (Nat.beq c 8) K) K (Nat.beq c 0)
noncomputable def nwJ (z : Bool) (c : Nat) (K : Bool) : Bool := f_if z (n_t1 c) K
noncomputable def nwR (z : Bool) (c : Nat) (K : Bool) : Bool := f_if z (Nat.beq (Nat.mod c 8) 2) K
def nw_ok (t : Nat) (qv : Bool → Nat → Bool → Bool) : Prop := ∀ (ρ : Nat → Int) (c : Nat) (e : eV) (K : Bool), (c % 8 ≠ 4 → cr ρ c e) → qv false c K = true → c % 8 ≠ 4 ∧ (∃ x, ev_qv t e = some x ∧ mr ρ c x) ∧ K = true
theorem nwI_ok0 : nw_ok 0 nwI := by
  intro ρ c e K hc h
  obtain ⟨h1, h2⟩ := f_if_ok h
  have h4 := n_t0_4 h1
  obtain ⟨z, rfl⟩ := n_t0_ok h1 (hc h4)
  exact ⟨h4, ⟨z, rfl, cr_mI h1 (hc h4)⟩, h2⟩
theorem nwJ_ok2 : nw_ok 2 nwJ := by
  intro ρ c e K hc h
  obtain ⟨h1, h2⟩ := f_if_ok h
  have h4 := n_t1_4 h1
  obtain ⟨z, rfl⟩ := n_t1_ok h1 (hc h4)
  exact ⟨h4, ⟨z, rfl, cr_mJ h1 (hc h4)⟩, h2⟩
theorem nwR_ok3 : nw_ok 3 nwR := by
  intro ρ c e K hc h
  obtain ⟨h1, h2⟩ := f_if_ok h
  have h1 : c % 8 = 2 := Nat.eq_of_beq_eq_true h1
  have h4 : c % 8 ≠ 4 := by rw [h1]; decide
  have h5 := cr_2 h1 (hc h4)
  subst h5
  exact ⟨h4, ⟨_, rfl, cr_mR h1 (hc h4)⟩, h2⟩
theorem nwZ_ok1 : nw_ok 1 nwZ := by
  intro ρ c e K hc h
  have key : ∀ p : Nat, p ≤ 1 → c = 8 * p → K = true → c % 8 ≠ 4 ∧ (∃ x, ev_qv 1 e = some x ∧ mr ρ c x) ∧ K = true := by
    intro p hp hcp hK
    have h8 : c % 8 = 0 := by omega
    have h4 : c % 8 ≠ 4 := by omega
    obtain ⟨h5, rfl⟩ := cr_0 h8 (hc h4)
    have hs : sg32 (c / 8) = (p : Int) := by
      unfold sg32
      rw [if_pos (by omega)]
      omega
    refine ⟨h4, ⟨sg32 (c / 8), ?_, ?_⟩, hK⟩
    · show (if ev_w (sg32 (c / 8)) = 0 ∨ ev_w (sg32 (c / 8)) = 1 then some (sg32 (c / 8)) else none) = _
      rw [if_pos (by rw [sg32_w _ h5, hs]; omega)]
    · unfold mr
      rw [h8]
      exact ⟨h5, rfl⟩
  unfold nwZ at h
  cases hz : Nat.beq c 0 with
  | true =>
    rw [hz] at h
    exact key 0 (by decide) (Nat.eq_of_beq_eq_true hz) h
  | false =>
    rw [hz] at h
    obtain ⟨h1, h2⟩ := f_if_ok h
    exact key 1 (by decide) (Nat.eq_of_beq_eq_true h1) h2
/-! cells -/
def nm_ok (ng : nG) (i : Instr) (a b t : Nat) (x : Int) (y np : Nat) (f : nC) : Prop := ∀ (ρ : Nat → Int) (fg : eG) (d L S : Nat) (F : List nF) (M : nM) (Q : nK) (st : List eV) (μ : eM), ng_r ρ ng fg → nS ρ S st → nmem ρ M μ → f d L S F M Q false = true → ∃ S' M' st' μ', ev_m fg i a b t x st μ = some (st', μ') ∧ nS ρ S' st' ∧ nmem ρ M' μ' ∧ Q d y np L S' F M' = true
theorem n_ref {ρ : Nat → Int} {S : Nat} {st : List eV} (hS : nS ρ S st) (h : S % nW % 8 = 2) : ∃ r, st = eR (S % nW / 8) :: r ∧ nS ρ (S / nW) r := by
  obtain ⟨e, r, rfl, h4, h5⟩ := hS.pop (by rw [h]; decide)
  have e1 := cr_2 h h4
  subst e1
  exact ⟨r, rfl, h5⟩
/-- a cell of this run: its number, and it is there -/
noncomputable def n_in (z : Bool) (M : nM) (r : Nat) (K : Bool) : Bool := f_if z (Nat.ble 64 r) (f_if z (Nat.ble (Nat.succ (Nat.sub r 64)) M.2.1) K)
theorem n_in_ok {M : nM} {r : Nat} {K : Bool} (h : n_in false M r K = true) : r = r - 64 + 64 ∧ r - 64 < M.2.1 ∧ K = true := by
  obtain ⟨h1, h⟩ := f_if_ok h
  obtain ⟨h2, h⟩ := f_if_ok h
  have h1 := Nat.ble_eq.mp h1
  have h2 : r - 64 + 1 ≤ M.2.1 := Nat.ble_eq.mp h2
  exact ⟨by omega, h2, h⟩
theorem n_at_lt (L k : Nat) : n_at L k < nW := n_lt _
theorem n_rg_lt (t : Lean.RArray Nat) (i : Nat) : n_rg t i < nW := n_at_lt _ _
theorem nmem.kd {ρ : Nat → Int} {M : nM} {μ : eM} (hm : nmem ρ M μ) {r : Nat} (h1 : r = r - 64 + 64) (h2 : r - 64 < M.2.1) : ev_kd μ r = some (n_get M.1 (r - 64)).1 := by
  unfold ev_kd
  rw [if_neg (by omega), (hm.2.2.2 _ h2).1]
  rfl
noncomputable def nm_gf (pv : Bool → Nat → (Nat → Bool) → Bool) (a b b1 b2 y np : Nat) : nC := fun d L S F M Q z => f_if z (Nat.beq (Nat.mod (Nat.mod S nW) 8) 2) (n_in z M (Nat.div (Nat.mod S nW) 8) (f_if z (Nat.beq (n_get M.1 (Nat.sub (Nat.div (Nat.mod S nW) 8) 64)).1 a) (f_if z (Nat.ble (Nat.succ b) (n_get M.1 (Nat.sub (Nat.div (Nat.mod S nW) 8) 64)).2.1) (pv z (n_at ((n_get M.1 (Nat.sub (Nat.div (Nat.mod S nW) 8) 64)).2.2.get b1) b2) fun v => Q d y np L (Nat.add (Nat.mul (Nat.div S nW) nW) v) F M))))
theorem nm_gf_ok {ng : nG} {idx a b t : Nat} {x : Int} {y np : Nat} {pv : Bool → Nat → (Nat → Bool) → Bool} (hp : nv_ok t pv) : nm_ok ng (.getfield idx) a b t x y np (nm_gf pv a b (b / 64) (b % 64) y np) := by
  intro ρ fg d L S F M Q st μ hg hS hm h
  obtain ⟨h1, h⟩ := f_if_ok h
  have h1 : S % nW % 8 = 2 := Nat.eq_of_beq_eq_true h1
  obtain ⟨r, rfl, h5⟩ := n_ref hS h1
  obtain ⟨h2, h3, h⟩ := n_in_ok h
  have h2 : S % nW / 8 = S % nW / 8 - 64 + 64 := h2
  have h3 : S % nW / 8 - 64 < M.2.1 := h3
  obtain ⟨h6, h⟩ := f_if_ok h
  obtain ⟨h7, h⟩ := f_if_ok h
  have h6 : (n_get M.1 (S % nW / 8 - 64)).1 = a := Nat.eq_of_beq_eq_true h6
  have h7 : b < (n_get M.1 (S % nW / 8 - 64)).2.1 := Nat.ble_eq.mp h7
  have hmr := (hm.2.2.2 _ h3).2.2.2 b h7
  rw [← h2] at hmr
  obtain ⟨c', q1, q2, q3⟩ := hp ρ _ _ _ (n_at_lt _ _) hmr h
  refine ⟨_, M, ev_pv t (μ.1 (S % nW / 8) b) :: r, μ, ?_, h5.push q1 q2, hm, q3⟩
  show (if ev_kd μ (S % nW / 8) = some a then some (ev_pv t (μ.1 (S % nW / 8) b) :: r, μ) else none) = _
  rw [if_pos (by rw [hm.kd h2 h3, h6])]
/-- memory with one number changed, worked out -/
noncomputable def n_wK (z : Bool) (M : nM) (j b1 P v : Nat) (K : nM → Bool) : Bool := @Prod.rec nC7 (Nat × Nat) (fun _ => Bool) (fun T0 nn => @Prod.rec Nat (Nat × Lean.RArray Nat) (fun _ => Bool) (fun kd c2 => @Prod.rec Nat (Lean.RArray Nat) (fun _ => Bool) (fun len tr => f_if z (Nat.ble 0 (n_set (tr.get b1) P v)) (f_set b1 (n_set (tr.get b1) P v) (ndp len) 0 tr fun t => n_p7 j (kd, len, t) T0 fun T => K (T, nn))) c2) (n_get T0 j)) M
theorem n_wK_ok {M : nM} {j b v : Nat} {K : nM → Bool} (h : n_wK false M j (b / 64) (nW ^ (b % 64)) v K = true) : K (n_wr M j b v) = true := by
  obtain ⟨T0, nn⟩ := M
  have h : f_if false (Nat.ble 0 (n_set ((n_get T0 j).2.2.get (b / 64)) (nW ^ (b % 64)) v)) (f_set (b / 64) (n_set ((n_get T0 j).2.2.get (b / 64)) (nW ^ (b % 64)) v) (ndp (n_get T0 j).2.1) 0 (n_get T0 j).2.2 fun t => n_p7 j ((n_get T0 j).1, (n_get T0 j).2.1, t) T0 fun T => K (T, nn)) = true := h
  obtain ⟨h1, h2⟩ := f_if_ok h
  rw [f_set_eq, n_p7_eq] at h2
  exact h2
noncomputable def nm_pf (qv : Bool → Nat → Bool → Bool) (a b b1 P y np : Nat) : nC := fun d L S F M Q z => f_if z (Nat.beq (Nat.mod (Nat.mod (Nat.div S nW) nW) 8) 2) (n_in z M (Nat.div (Nat.mod (Nat.div S nW) nW) 8) (f_if z (Nat.beq (n_get M.1 (Nat.sub (Nat.div (Nat.mod (Nat.div S nW) nW) 8) 64)).1 a) (f_if z (Nat.ble (Nat.succ b) (n_get M.1 (Nat.sub (Nat.div (Nat.mod (Nat.div S nW) nW) 8) 64)).2.1) (qv z (Nat.mod S nW) (n_wK z M (Nat.sub (Nat.div (Nat.mod (Nat.div S nW) nW) 8) 64) b1 P (Nat.mod S nW) fun M' => Q d y np L (Nat.div (Nat.div S nW) nW) F M')))))
theorem nm_pf_ok {ng : nG} {idx a b t : Nat} {x : Int} {y np : Nat} {qv : Bool → Nat → Bool → Bool} (hp : nw_ok t qv) : nm_ok ng (.putfield idx) a b t x y np (nm_pf qv a b (b / 64) (nW ^ (b % 64)) y np) := by
  intro ρ fg d L S F M Q st μ hg hS hm h
  obtain ⟨h1, h⟩ := f_if_ok h
  have h1 : S / nW % nW % 8 = 2 := Nat.eq_of_beq_eq_true h1
  obtain ⟨h2, h3, h⟩ := n_in_ok h
  have h2 : S / nW % nW / 8 = S / nW % nW / 8 - 64 + 64 := h2
  have h3 : S / nW % nW / 8 - 64 < M.2.1 := h3
  obtain ⟨h6, h⟩ := f_if_ok h
  obtain ⟨h7, h⟩ := f_if_ok h
  have h6 : (n_get M.1 (S / nW % nW / 8 - 64)).1 = a := Nat.eq_of_beq_eq_true h6
  have h7 : b < (n_get M.1 (S / nW % nW / 8 - 64)).2.1 := Nat.ble_eq.mp h7
  cases st with
  | nil =>
    have hS : S = 4 := hS
    subst hS
    exact absurd h1 (by decide)
  | cons e st1 =>
    obtain ⟨h8, h9⟩ := hS
    obtain ⟨r, rfl, h5⟩ := n_ref h9 h1
    obtain ⟨q0, ⟨x9, q1, q2⟩, q3⟩ := hp ρ (S % nW) e _ (fun _ => h8) h
    have q4 := n_wK_ok q3
    refine ⟨_, _, r, _, ?_, h5, hm.wr h3 h7 (n_lt _) q2, q4⟩
    rw [← h2]
    show (if ev_kd μ (S / nW % nW / 8) = some a then (match ev_qv t e with
        | some x => some (r, (ev_up μ.1 (S / nW % nW / 8) b x, μ.2))
        | none => none) else none) = _
    rw [if_pos (by rw [hm.kd h2 h3, h6]), q1]
