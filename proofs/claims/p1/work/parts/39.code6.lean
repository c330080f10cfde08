/-! THE CODED EVALUATOR: arrays -/
noncomputable def n_ix (z : Bool) (c len : Nat) (K : Bool) : Bool := f_if z (Nat.beq (Nat.mod c 8) 0) (f_if z (Nat.ble (Nat.add c 8) (Nat.mul 8 len)) (f_if z (Nat.ble c 131064) K))
theorem n_ix_ok {c len : Nat} {K : Bool} (h : n_ix false c len K = true) : c % 8 = 0 ∧ c / 8 < len ∧ ev_w (sg32 (c / 8)) = ((c / 8 : Nat) : Int) ∧ K = true := by
  obtain ⟨h1, h⟩ := f_if_ok h
  obtain ⟨h2, h⟩ := f_if_ok h
  obtain ⟨h3, h⟩ := f_if_ok h
  have h1 : c % 8 = 0 := Nat.eq_of_beq_eq_true h1
  have h2 : c + 8 ≤ 8 * len := Nat.ble_eq.mp h2
  have h3 : c ≤ 131064 := Nat.ble_eq.mp h3
  refine ⟨h1, by omega, ?_, h⟩
  rw [sg32_w _ (by omega)]
  unfold sg32
  rw [if_pos (by omega)]
noncomputable def n_arr (z : Bool) (ng : nG) (M : nM) (r : Nat) (K : nC0 → Bool) : Bool := @Bool.rec (fun _ => Bool) (n_in z M r (K (n_get M.1 (Nat.sub r 64)))) (f_if z (Nat.ble 1 r) (K (ng r))) (Nat.ble (Nat.succ r) 64)
theorem n_arr_ok {ng : nG} {M : nM} {r : Nat} {K : nC0 → Bool} (h : n_arr false ng M r K = true) : ∃ c, ((r = r - 64 + 64 ∧ r - 64 < M.2.1 ∧ c = n_get M.1 (r - 64)) ∨ (0 < r ∧ r < 64 ∧ c = ng r)) ∧ K c = true := by
  unfold n_arr at h
  cases h1 : Nat.ble (Nat.succ r) 64 with
  | false =>
    rw [h1] at h
    obtain ⟨h2, h3, h4⟩ := n_in_ok h
    exact ⟨_, Or.inl ⟨h2, h3, rfl⟩, h4⟩
  | true =>
    rw [h1] at h
    have h1 : r + 1 ≤ 64 := Nat.ble_eq.mp h1
    obtain ⟨h2, h3⟩ := f_if_ok h
    have h2 := Nat.ble_eq.mp h2
    exact ⟨_, Or.inr ⟨by omega, by omega, rfl⟩, h3⟩
theorem n_al {ρ : Nat → Int} {ng : nG} {fg : eG} {M : nM} {μ : eM} {kd r i : Nat} {c : nC0} {z : Int} (hg : ng_r ρ ng fg) (hm : nmem ρ M μ) (hkd : kd ≠ 0) (hc : (r = r - 64 + 64 ∧ r - 64 < M.2.1 ∧ c = n_get M.1 (r - 64)) ∨ (0 < r ∧ r < 64 ∧ c = ng r)) (h1 : c.1 = kd) (h2 : i < c.2.1) (hz : ev_w z = (i : Int)) : ∃ x, ev_al fg μ kd r z = some x ∧ mr ρ (n_rg c.2.2 i) x := by
  unfold ev_al
  rw [hz]
  rcases hc with ⟨q1, q2, rfl⟩ | ⟨q1, q2, rfl⟩
  · obtain ⟨m1, m2, m3, m4⟩ := hm.2.2.2 _ q2
    rw [if_neg (by omega), m1]
    dsimp only
    rw [if_pos ⟨h1, by omega, by omega⟩]
    refine ⟨_, rfl, ?_⟩
    have h4 := m4 i h2
    rw [← q1] at h4
    exact h4
  · obtain ⟨g1, g2, g3⟩ := hg r q2 (by rw [h1]; exact hkd)
    rw [if_pos q2, if_pos ⟨q1, by rw [← g1]; exact h1, by omega, by rw [← g2]; omega⟩]
    exact ⟨_, rfl, g3 i (by rw [← g2]; exact h2)⟩
/-- an index and an array below it -/
theorem n_ia {ρ : Nat → Int} {S : Nat} {st : List eV} (hS : nS ρ S st) (h0 : S % nW % 8 = 0) (h : S / nW % nW % 8 = 2) : ∃ r, st = eI (sg32 (S % nW / 8)) :: eR (S / nW % nW / 8) :: r ∧ nS ρ (S / nW / nW) r := by
  obtain ⟨e, r1, rfl, h4, h5⟩ := hS.pop (by rw [h0]; decide)
  obtain ⟨-, rfl⟩ := cr_0 h0 h4
  obtain ⟨r, rfl, h6⟩ := n_ref h5 h
  exact ⟨r, rfl, h6⟩
noncomputable def nm_al (pv : Bool → Nat → (Nat → Bool) → Bool) (ng : nG) (kk y np : Nat) : nC := fun d L S F M Q z => f_if z (Nat.beq (Nat.mod (Nat.mod (Nat.div S nW) nW) 8) 2) (n_arr z ng M (Nat.div (Nat.mod (Nat.div S nW) nW) 8) fun c => f_if z (Nat.beq c.1 kk) (n_ix z (Nat.mod S nW) c.2.1 (pv z (n_rg c.2.2 (Nat.div (Nat.mod S nW) 8)) fun v => Q d y np L (Nat.add (Nat.mul (Nat.div (Nat.div S nW) nW) nW) v) F M)))
theorem nm_iaload {ng : nG} {a b t : Nat} {x : Int} {y np : Nat} : nm_ok ng .iaload a b t x y np (nm_al nvI ng 100 y np) := by
  intro ρ fg d L S F M Q st μ hg hS hm h
  obtain ⟨h1, h⟩ := f_if_ok h
  have h1 : S / nW % nW % 8 = 2 := Nat.eq_of_beq_eq_true h1
  obtain ⟨c, hc, h⟩ := n_arr_ok h
  obtain ⟨h2, h⟩ := f_if_ok h
  have h2 := Nat.eq_of_beq_eq_true h2
  obtain ⟨h3, h4, h5, h⟩ := n_ix_ok h
  have h3 : S % nW % 8 = 0 := h3
  obtain ⟨r, rfl, h6⟩ := n_ia hS h3 h1
  obtain ⟨v, q1, q2⟩ := n_al hg hm (by decide) hc h2 h4 h5
  obtain ⟨c', q3, q4, q5⟩ := nvI_ok0 ρ _ _ _ (n_rg_lt _ _) q2 h
  refine ⟨_, M, eI v :: r, μ, ?_, h6.push q3 q4, hm, q5⟩
  show (match ev_al fg μ 100 (S / nW % nW / 8) (sg32 (S % nW / 8)) with
    | some x => some (eI x :: r, μ)
    | none => none) = _
  have q1 : ev_al fg μ 100 (S / nW % nW / 8) (sg32 (S % nW / 8)) = some v := q1
  rw [q1]
theorem nm_laload {ng : nG} {a b t : Nat} {x : Int} {y np : Nat} : nm_ok ng .laload a b t x y np (nm_al nvJ ng 101 y np) := by
  intro ρ fg d L S F M Q st μ hg hS hm h
  obtain ⟨h1, h⟩ := f_if_ok h
  have h1 : S / nW % nW % 8 = 2 := Nat.eq_of_beq_eq_true h1
  obtain ⟨c, hc, h⟩ := n_arr_ok h
  obtain ⟨h2, h⟩ := f_if_ok h
  have h2 := Nat.eq_of_beq_eq_true h2
  obtain ⟨h3, h4, h5, h⟩ := n_ix_ok h
  have h3 : S % nW % 8 = 0 := h3
  obtain ⟨r, rfl, h6⟩ := n_ia hS h3 h1
  obtain ⟨v, q1, q2⟩ := n_al hg hm (by decide) hc h2 h4 h5
  obtain ⟨c', q3, q4, q5⟩ := nvJ_ok2 ρ _ _ _ (n_rg_lt _ _) q2 h
  refine ⟨_, M, eJ v :: r, μ, ?_, h6.push q3 q4, hm, q5⟩
  show (match ev_al fg μ 101 (S / nW % nW / 8) (sg32 (S % nW / 8)) with
    | some x => some (eJ x :: r, μ)
    | none => none) = _
  have q1 : ev_al fg μ 101 (S / nW % nW / 8) (sg32 (S % nW / 8)) = some v := q1
  rw [q1]
noncomputable def nm_bl (y np : Nat) : nC := fun d L S F M Q z => f_if z (Nat.beq (Nat.mod (Nat.mod (Nat.div S nW) nW) 8) 2) (n_in z M (Nat.div (Nat.mod (Nat.div S nW) nW) 8) (f_if z (Nat.ble 102 (n_get M.1 (Nat.sub (Nat.div (Nat.mod (Nat.div S nW) nW) 8) 64)).1) (f_if z (Nat.ble (n_get M.1 (Nat.sub (Nat.div (Nat.mod (Nat.div S nW) nW) 8) 64)).1 103) (n_ix z (Nat.mod S nW) (n_get M.1 (Nat.sub (Nat.div (Nat.mod (Nat.div S nW) nW) 8) 64)).2.1 (nvI z (n_rg (n_get M.1 (Nat.sub (Nat.div (Nat.mod (Nat.div S nW) nW) 8) 64)).2.2 (Nat.div (Nat.mod S nW) 8)) fun v => Q d y np L (Nat.add (Nat.mul (Nat.div (Nat.div S nW) nW) nW) v) F M)))))
theorem nm_baload {ng : nG} {a b t : Nat} {x : Int} {y np : Nat} : nm_ok ng .baload a b t x y np (nm_bl y np) := by
  intro ρ fg d L S F M Q st μ hg hS hm h
  obtain ⟨h1, h⟩ := f_if_ok h
  have h1 : S / nW % nW % 8 = 2 := Nat.eq_of_beq_eq_true h1
  obtain ⟨g2, g3, h⟩ := n_in_ok h
  have g2 : S / nW % nW / 8 = S / nW % nW / 8 - 64 + 64 := g2
  have g3 : S / nW % nW / 8 - 64 < M.2.1 := g3
  obtain ⟨h2, h⟩ := f_if_ok h
  obtain ⟨h8, h⟩ := f_if_ok h
  have h2 : 102 ≤ (n_get M.1 (S / nW % nW / 8 - 64)).1 := Nat.ble_eq.mp h2
  have h8 : (n_get M.1 (S / nW % nW / 8 - 64)).1 ≤ 103 := Nat.ble_eq.mp h8
  obtain ⟨h3, h4, h5, h⟩ := n_ix_ok h
  have h3 : S % nW % 8 = 0 := h3
  obtain ⟨r, rfl, h6⟩ := n_ia hS h3 h1
  have hkd := hm.kd g2 g3
  have key : ∀ kd, (n_get M.1 (S / nW % nW / 8 - 64)).1 = kd → kd ≠ 0 → ∃ v, ev_al fg μ kd (S / nW % nW / 8) (sg32 (S % nW / 8)) = some v ∧ mr ρ (n_rg (n_get M.1 (S / nW % nW / 8 - 64)).2.2 (S % nW / 8)) v := fun kd h9 h0 => n_al hg hm h0 (Or.inl ⟨g2, g3, rfl⟩) h9 h4 h5
  have hcase : (n_get M.1 (S / nW % nW / 8 - 64)).1 = 102 ∨ (n_get M.1 (S / nW % nW / 8 - 64)).1 = 103 := by omega
  rcases hcase with h9 | h9
  · obtain ⟨v, q1, q2⟩ := key 102 h9 (by decide)
    obtain ⟨c', q3, q4, q5⟩ := nvI_ok0 ρ _ _ _ (n_rg_lt _ _) q2 h
    refine ⟨_, M, eI v :: r, μ, ?_, h6.push q3 q4, hm, q5⟩
    simp only [ev_m, q1]
  · obtain ⟨v, q1, q2⟩ := key 103 h9 (by decide)
    obtain ⟨c', q3, q4, q5⟩ := nvI_ok0 ρ _ _ _ (n_rg_lt _ _) q2 h
    refine ⟨_, M, eI v :: r, μ, ?_, h6.push q3 q4, hm, q5⟩
    have q0 := ev_al_kd (fg := fg) (kd' := 102) (i := sg32 (S % nW / 8)) hkd (by rw [h9]; decide)
    simp only [ev_m, q0, q1]
theorem ev_qv0 {e : eV} {x : Int} (h : ev_qv 0 e = some x) : e = eI x := by
  rcases e with (z | z) | z
  · cases h; rfl
  · cases h
  · cases h
theorem ev_qv2 {e : eV} {x : Int} (h : ev_qv 2 e = some x) : e = eJ x := by
  rcases e with (z | z) | z
  · cases h
  · cases h; rfl
  · cases h
noncomputable def nm_as (qv : Bool → Nat → Bool → Bool) (kk y np : Nat) : nC := fun d L S F M Q z => f_if z (Nat.beq (Nat.mod (Nat.mod (Nat.div (Nat.div S nW) nW) nW) 8) 2) (n_in z M (Nat.div (Nat.mod (Nat.div (Nat.div S nW) nW) nW) 8) (f_if z (Nat.beq (n_get M.1 (Nat.sub (Nat.div (Nat.mod (Nat.div (Nat.div S nW) nW) nW) 8) 64)).1 kk) (n_ix z (Nat.mod (Nat.div S nW) nW) (n_get M.1 (Nat.sub (Nat.div (Nat.mod (Nat.div (Nat.div S nW) nW) nW) 8) 64)).2.1 (qv z (Nat.mod S nW) (n_wK z M (Nat.sub (Nat.div (Nat.mod (Nat.div (Nat.div S nW) nW) nW) 8) 64) (Nat.div (Nat.div (Nat.mod (Nat.div S nW) nW) 8) 64) (Nat.pow nW (Nat.mod (Nat.div (Nat.mod (Nat.div S nW) nW) 8) 64)) (Nat.mod S nW) fun M' => Q d y np L (Nat.div (Nat.div (Nat.div S nW) nW) nW) F M')))))
theorem nm_as_gen {ng : nG} {i : Instr} {kk tt a b t : Nat} {x : Int} {y np : Nat} {qv : Bool → Nat → Bool → Bool} (hp : nw_ok tt qv) (hi : ∀ (fg : eG) (e : eV) (v z : Int) (r : Nat) (st : List eV) (μ μ' : eM), ev_qv tt e = some v → ev_kd μ r = some kk → ev_as μ kk r z v = some μ' → ev_m fg i a b t x (e :: eI z :: eR r :: st) μ = some (st, μ')) : nm_ok ng i a b t x y np (nm_as qv kk y np) := by
  intro ρ fg d L S F M Q st μ hg hS hm h
  obtain ⟨h1, h⟩ := f_if_ok h
  have h1 : S / nW / nW % nW % 8 = 2 := Nat.eq_of_beq_eq_true h1
  obtain ⟨g2, g3, h⟩ := n_in_ok h
  have g2 : S / nW / nW % nW / 8 = S / nW / nW % nW / 8 - 64 + 64 := g2
  have g3 : S / nW / nW % nW / 8 - 64 < M.2.1 := g3
  obtain ⟨h2, h⟩ := f_if_ok h
  have h2 : (n_get M.1 (S / nW / nW % nW / 8 - 64)).1 = kk := Nat.eq_of_beq_eq_true h2
  obtain ⟨h3, h4, h5, h⟩ := n_ix_ok h
  have h3 : S / nW % nW % 8 = 0 := h3
  have h4 : S / nW % nW / 8 < (n_get M.1 (S / nW / nW % nW / 8 - 64)).2.1 := h4
  have h5 : ev_w (sg32 (S / nW % nW / 8)) = ((S / nW % nW / 8 : Nat) : Int) := h5
  cases st with
  | nil =>
    have hS : S = 4 := hS
    subst hS
    exact absurd h1 (by decide)
  | cons e st1 =>
    obtain ⟨h8, h9⟩ := hS
    obtain ⟨r, rfl, h6⟩ := n_ia h9 h3 h1
    obtain ⟨q0, ⟨x9, q1, q2⟩, q3⟩ := hp ρ (S % nW) e _ (fun _ => h8) h
    have q4 := n_wK_ok (b := S / nW % nW / 8) q3
    have hkd := hm.kd g2 g3
    rw [h2] at hkd
    refine ⟨_, _, r, _, hi fg e x9 _ _ r μ _ q1 hkd ?_, h6, hm.wr g3 h4 (n_lt _) q2, q4⟩
    unfold ev_as
    rw [if_neg (by omega), (hm.2.2.2 _ g3).1]
    dsimp only
    rw [if_pos ⟨h2, by omega, by omega⟩, h5, ← g2]
    rfl
theorem nm_iastore {ng : nG} {a b t : Nat} {x : Int} {y np : Nat} : nm_ok ng .iastore a b t x y np (nm_as nwI 100 y np) := nm_as_gen nwI_ok0 fun fg e v z r st μ μ' h1 h2 h3 => by
  rw [ev_qv0 h1]
  simp only [ev_m, h3]
theorem nm_lastore {ng : nG} {a b t : Nat} {x : Int} {y np : Nat} : nm_ok ng .lastore a b t x y np (nm_as nwJ 101 y np) := nm_as_gen nwJ_ok2 fun fg e v z r st μ μ' h1 h2 h3 => by
  rw [ev_qv2 h1]
  simp only [ev_m, h3]
theorem nm_bastore {ng : nG} {a b t : Nat} {x : Int} {y np : Nat} : nm_ok ng .bastore a b t x y np (nm_as nwZ 103 y np) := nm_as_gen nwZ_ok1 fun fg e v z r st μ μ' h1 h2 h3 => by
  obtain ⟨rfl, hz⟩ := ev_qv1 h1
  have q0 := ev_as_kd (kd' := 102) (i := z) (x := (v + 128) % 256 - 128) h2 (by decide)
  simp only [ev_m, q0, if_pos hz, h3]
noncomputable def nm_ln (ng : nG) (y np : Nat) : nC := fun d L S F M Q z => f_if z (Nat.beq (Nat.mod (Nat.mod S nW) 8) 2) (n_arr z ng M (Nat.div (Nat.mod S nW) 8) fun c => f_if z (Nat.ble 100 c.1) (f_if z (Nat.ble c.1 103) (f_if z (Nat.ble c.2.1 16384) (Q d y np L (Nat.add (Nat.mul (Nat.div S nW) nW) (Nat.mul 8 c.2.1)) F M))))
theorem nm_alen {ng : nG} {a b t : Nat} {x : Int} {y np : Nat} : nm_ok ng .arraylength a b t x y np (nm_ln ng y np) := by
  intro ρ fg d L S F M Q st μ hg hS hm h
  obtain ⟨h1, h⟩ := f_if_ok h
  have h1 : S % nW % 8 = 2 := Nat.eq_of_beq_eq_true h1
  obtain ⟨r, rfl, h5⟩ := n_ref hS h1
  obtain ⟨c, hc, h⟩ := n_arr_ok h
  obtain ⟨h2, h⟩ := f_if_ok h
  obtain ⟨h3, h⟩ := f_if_ok h
  obtain ⟨h4, h⟩ := f_if_ok h
  have h2 : 100 ≤ c.1 := Nat.ble_eq.mp h2
  have h3 : c.1 ≤ 103 := Nat.ble_eq.mp h3
  have h4 : c.2.1 ≤ 16384 := Nat.ble_eq.mp h4
  have hl : ev_ln fg μ (S % nW / 8) = some c.2.1 := by
    unfold ev_ln
    rcases hc with ⟨q1, q2, rfl⟩ | ⟨q1, q2, rfl⟩
    · have q1 : S % nW / 8 = S % nW / 8 - 64 + 64 := q1
      have q2 : S % nW / 8 - 64 < M.2.1 := q2
      rw [if_neg (by omega), (hm.2.2.2 _ q2).1]
      dsimp only
      rw [if_pos ⟨h2, h3⟩]
      rfl
    · have q2 : S % nW / 8 < 64 := q2
      obtain ⟨g1, g2, g3⟩ := hg _ q2 (by have : 100 ≤ (ng (S % nW / 8)).1 := h2; omega)
      rw [if_pos q2, if_pos ⟨q1, by rw [← g1]; have : 100 ≤ (ng (S % nW / 8)).1 := h2; omega⟩, ← g2]
      rfl
  have hs : (c.2.1 : Int) = sg32 c.2.1 := by
    unfold sg32
    rw [if_pos (by omega)]
  refine ⟨_, M, eI (c.2.1 : Int) :: r, μ, ?_, h5.push ?_ ?_, hm, h⟩
  · simp only [ev_m, hl]
  · show 8 * c.2.1 < nW
    have := nW_35
    omega
  · rw [hs]
    exact cr_I (by omega)
noncomputable def nm_nw (a n y np : Nat) : nC := fun d L S F M Q z => f_if z (Nat.ble (Nat.succ M.2.1) 128) (f_if z (Nat.ble n 16384) (n_p7 M.2.1 (a, n, .leaf 0) M.1 fun T => Q d y np L (Nat.add (Nat.mul S nW) (Nat.add (Nat.mul 8 (Nat.add M.2.1 64)) 2)) F (T, Nat.succ M.2.1, Nat.add M.2.2 n)))
theorem nm_nw_ok {ρ : Nat → Int} {a n y np d L S : Nat} {F : List nF} {M : nM} {Q : nK} {st : List eV} {μ : eM} (hS : nS ρ S st) (hm : nmem ρ M μ) (h : nm_nw a n y np d L S F M Q false = true) : ∃ S', nS ρ S' (eR (μ.2.1.length + 64) :: st) ∧ nmem ρ (n_nw M a n) (ev_nw μ a n) ∧ Q d y np L S' F (n_nw M a n) = true := by
  obtain ⟨h1, h⟩ := f_if_ok h
  obtain ⟨h2, h⟩ := f_if_ok h
  have h1 : M.2.1 + 1 ≤ 128 := Nat.ble_eq.mp h1
  have h2 := Nat.ble_eq.mp h2
  rw [n_p7_eq] at h
  refine ⟨_, hS.push ?_ ?_, hm.nw h1 h2, h⟩
  · show 8 * (M.2.1 + 64) + 2 < nW
    have := nW_35
    omega
  · rw [hm.1]
    exact cr_R _
theorem nm_new {ng : nG} {idx a b t : Nat} {x : Int} {y np : Nat} : nm_ok ng (.new idx) a b t x y np (nm_nw a (dt_lay a).length y np) := by
  intro ρ fg d L S F M Q st μ hg hS hm h
  obtain ⟨S', h1, h2, h3⟩ := nm_nw_ok hS hm h
  exact ⟨S', _, _, _, rfl, h1, h2, h3⟩
noncomputable def nm_na (a y np : Nat) : nC := fun d L S F M Q z => f_if z (Nat.beq (Nat.mod (Nat.mod S nW) 8) 0) (f_if z (Nat.ble (Nat.mod S nW) 131072) (nm_nw a (Nat.div (Nat.mod S nW) 8) y np d L (Nat.div S nW) F M Q z))
theorem nm_newarray {ng : nG} {ty : Jvm.ClassFile.ArrayType} {a b t : Nat} {x : Int} {y np : Nat} : nm_ok ng (.newarray ty) a b t x y np (nm_na a y np) := by
  intro ρ fg d L S F M Q st μ hg hS hm h
  obtain ⟨h1, h⟩ := f_if_ok h
  obtain ⟨h2, h⟩ := f_if_ok h
  have h1 : S % nW % 8 = 0 := Nat.eq_of_beq_eq_true h1
  have h2 : S % nW ≤ 131072 := Nat.ble_eq.mp h2
  obtain ⟨e, r, rfl, h4, h5⟩ := hS.pop (by rw [h1]; decide)
  obtain ⟨hb1, rfl⟩ := cr_0 h1 h4
  obtain ⟨S', h6, h7, h8⟩ := nm_nw_ok h5 hm h
  have hw : ev_w (sg32 (S % nW / 8)) = ((S % nW / 8 : Nat) : Int) := by
    rw [sg32_w _ hb1]
    unfold sg32
    rw [if_pos (by omega)]
  refine ⟨S', _, _, _, ?_, h6, h7, h8⟩
  show (if 0 ≤ ev_w (sg32 (S % nW / 8)) ∧ ev_w (sg32 (S % nW / 8)) ≤ 1000000 then some (eR (μ.2.1.length + 64) :: r, ev_nw μ a (ev_w (sg32 (S % nW / 8))).toNat) else none) = _
  rw [hw, if_pos ⟨by omega, by omega⟩]
  rfl
theorem nm_c_ok {ng : nG} {i : Instr} {a b t : Nat} {x : Int} {c y np : Nat} {e : eV} (hc : c < nW) (he : ∀ ρ : Nat → Int, cr ρ c e) (hi : ∀ (fg : eG) (st : List eV) (μ : eM), ev_m fg i a b t x st μ = some (e :: st, μ)) : nm_ok ng i a b t x y np (np_c c y np) := by
  intro ρ fg d L S F M Q st μ hg hS hm h
  exact ⟨_, M, e :: st, μ, hi fg st μ, hS.push hc (he ρ), hm, h⟩
