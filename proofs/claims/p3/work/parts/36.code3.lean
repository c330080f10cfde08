/-! THE CODED EVALUATOR: plain steps -/
abbrev nF : Type := Nat × Nat × Nat × Nat
abbrev nK : Type := Nat → Nat → Nat → Nat → Nat → List nF → nM → Bool
abbrev nC : Type := Nat → Nat → Nat → List nF → nM → nK → Bool → Bool
def np_ok (i : Instr) (y np : Nat) (f : nC) : Prop := ∀ (ρ : Nat → Int) (d L S : Nat) (F : List nF) (M : nM) (Q : nK) (lv : List (Option eV)) (st : List eV), lv.length = dt_mx y → nL ρ L lv → nS ρ S st → f d L S F M Q false = true → ∃ L' S' lv' st', ev_s i lv st = some (lv', st') ∧ lv'.length = lv.length ∧ nL ρ L' lv' ∧ nS ρ S' st' ∧ Q d y np L' S' F M = true
noncomputable def np_ld (t : Nat → Bool) (P y np : Nat) : nC := fun d L S F M Q z => f_if z (t (Nat.mod (Nat.div L P) nW)) (Q d y np L (Nat.add (Nat.mul S nW) (Nat.mod (Nat.div L P) nW)) F M)
theorem np_ld_ok {i : Instr} {t : Nat → Bool} {k y np : Nat} (hk : k < dt_mx y) (ht : ∀ c, t c = true → c % 8 ≠ 4) (hi : ∀ (ρ : Nat → Int) (c : Nat) (lv : List (Option eV)) (st : List eV) (e : eV), t c = true → cr ρ c e → lv[k]? = some (some e) → ev_s i lv st = some (lv, e :: st)) : np_ok i y np (np_ld t (nW ^ k) y np) := by
  intro ρ d L S F M Q lv st hl hL hS h
  obtain ⟨h1, h2⟩ := f_if_ok h
  have h1 : t (cd L k) = true := h1
  obtain ⟨e, h3, h4⟩ := hL.get (by rw [hl]; exact hk) (ht _ h1)
  exact ⟨L, _, lv, e :: st, hi ρ _ lv st e h1 h4 h3, rfl, hL, hS.push (n_lt _) h4, h2⟩
theorem np_iload {ρ : Nat → Int} {c k : Nat} {lv : List (Option eV)} {st : List eV} {e : eV} (h : n_t0 c = true) (hc : cr ρ c e) (hl : lv[k]? = some (some e)) : ev_ldI lv k st = some (lv, e :: st) := by
  obtain ⟨z, rfl⟩ := n_t0_ok h hc
  unfold ev_ldI
  rw [hl]
theorem np_lload {ρ : Nat → Int} {c k : Nat} {lv : List (Option eV)} {st : List eV} {e : eV} (h : n_t1 c = true) (hc : cr ρ c e) (hl : lv[k]? = some (some e)) : ev_ldJ lv k st = some (lv, e :: st) := by
  obtain ⟨z, rfl⟩ := n_t1_ok h hc
  unfold ev_ldJ
  rw [hl]
theorem np_aload {ρ : Nat → Int} {c k : Nat} {lv : List (Option eV)} {st : List eV} {e : eV} (h : n_t4 c = true) (hc : cr ρ c e) (hl : lv[k]? = some (some e)) : ev_ldR lv k st = some (lv, e :: st) := by
  obtain ⟨r, rfl, h0, -⟩ := n_t4_ok h hc
  unfold ev_ldR
  rw [hl]
  show (if 0 < r then _ else none) = _
  rw [if_pos h0]
/-- a value of one place, by its mark -/
theorem cr_cat {ρ : Nat → Int} {c : Nat} {e : eV} (h : n_t1 c = false) (hc : cr ρ c e) : ev_cat e = 1 := by
  have h : Nat.beq ((66 >>> (c % 8)) % 2) 1 = false := h
  unfold cr at hc
  rcases n_8 c with q | q | q | q | q | q | q | q <;> rw [q] at h hc
  · have hc : _ ∧ e = eI (sg32 (c / 8)) := hc
    rw [hc.2]; rfl
  · exfalso; revert h; decide
  · have hc : e = eR (c / 8) := hc
    rw [hc]; rfl
  · have hc : e = eI (ρ (c / 8)) := hc
    rw [hc]; rfl
  · exact absurd hc id
  · obtain ⟨z, rfl⟩ := hc
    rfl
  · exfalso; revert h; decide
  · obtain ⟨z, rfl, -⟩ := hc
    rfl
theorem nL_cl {ρ : Nat → Int} {L : Nat} {lv : List (Option eV)} (h : nL ρ L lv) {j : Nat} (h1 : n_t1 (cd L j) = false) : nL ρ L (ev_cl lv (j + 1)) := by
  intro k hk
  rw [ev_cl_len] at hk
  rcases h k hk with q | ⟨e, q1, q2⟩
  · exact Or.inl q
  · refine Or.inr ⟨e, ?_, q2⟩
    show (match lv[j]? with
      | some (some v) => if ev_cat v = 2 then lv.set j none else lv
      | _ => lv)[k]? = some (some e)
    split
    · rename_i v hv
      by_cases hjk : k = j
      · subst hjk
        rw [q1] at hv
        cases hv
        rw [if_neg (by rw [cr_cat h1 q2]; decide)]
        exact q1
      · split
        · rw [List.getElem?_set_ne (fun z => hjk z.symm)]
          exact q1
        · exact q1
    · exact q1
/-- the place ahead holds no long -/
noncomputable def n_pr (k L : Nat) : Bool := @Nat.rec (fun _ => Bool) true (fun j _ => @Bool.rec (fun _ => Bool) true false (n_t1 (Nat.mod (Nat.div L (Nat.pow nW j)) nW))) k
theorem n_pr_ok {ρ : Nat → Int} {L k : Nat} {lv : List (Option eV)} (h : nL ρ L lv) (hp : n_pr k L = true) : nL ρ L (ev_cl lv k) := by
  cases k with
  | zero => exact h
  | succ j =>
    have hp : @Bool.rec (fun _ => Bool) true false (n_t1 (cd L j)) = true := hp
    cases hq : n_t1 (cd L j) with
    | true => rw [hq] at hp; cases hp
    | false => exact nL_cl h hq
noncomputable def np_st (t : Nat → Bool) (k P y np : Nat) : nC := fun d L S F M Q z => f_if z (t (Nat.mod S nW)) (f_if z (n_pr k L) (Q d y np (n_set L P (Nat.mod S nW)) (Nat.div S nW) F M))
theorem np_st_ok {i : Instr} {t : Nat → Bool} {k y np : Nat} (hk : k < dt_mx y) (ht : ∀ c, t c = true → c % 8 ≠ 4) (hi : ∀ (ρ : Nat → Int) (c : Nat) (lv : List (Option eV)) (st : List eV) (e : eV), t c = true → cr ρ c e → k < lv.length → ev_s i lv (e :: st) = some (ev_st1 lv k e, st)) : np_ok i y np (np_st t k (nW ^ k) y np) := by
  intro ρ d L S F M Q lv st hl hL hS h
  obtain ⟨h1, h⟩ := f_if_ok h
  obtain ⟨h2, h3⟩ := f_if_ok h
  have h1 : t (S % nW) = true := h1
  obtain ⟨e, r, rfl, h4, h5⟩ := hS.pop (ht _ h1)
  exact ⟨_, _, ev_st1 lv k e, r, hi ρ _ lv r e h1 h4 (by rw [hl]; exact hk), by unfold ev_st1; rw [List.length_set, ev_cl_len], (n_pr_ok hL h2).set (n_lt _) (Or.inr ⟨e, rfl, h4⟩), h5, h3⟩
noncomputable def np_st2 (k P P2 y np : Nat) : nC := fun d L S F M Q z => f_if z (n_t1 (Nat.mod S nW)) (f_if z (n_pr k L) (Q d y np (n_set (n_set L P (Nat.mod S nW)) P2 4) (Nat.div S nW) F M))
theorem np_st2_ok {i : Instr} {k y np : Nat} (hk : k + 1 < dt_mx y) (hi : ∀ (lv : List (Option eV)) (st : List eV) (z : Int), k + 1 < lv.length → ev_s i lv (eJ z :: st) = some (ev_st2 lv k (eJ z), st)) : np_ok i y np (np_st2 k (nW ^ k) (nW ^ (k + 1)) y np) := by
  intro ρ d L S F M Q lv st hl hL hS h
  obtain ⟨h1, h⟩ := f_if_ok h
  obtain ⟨h2, h3⟩ := f_if_ok h
  have h1 : n_t1 (S % nW) = true := h1
  obtain ⟨e, r, rfl, h4, h5⟩ := hS.pop (n_t1_4 h1)
  obtain ⟨z, rfl⟩ := n_t1_ok h1 h4
  exact ⟨_, _, ev_st2 lv k (eJ z), r, hi lv r z (by rw [hl]; exact hk), by unfold ev_st2; rw [List.length_set, List.length_set, ev_cl_len], ((n_pr_ok hL h2).set (n_lt _) (Or.inr ⟨_, rfl, h4⟩)).set (by decide) (Or.inl rfl), h5, h3⟩
noncomputable def np_inc (k P n y np : Nat) : nC := fun d L S F M Q z => f_if z (Nat.beq (Nat.mod (Nat.mod (Nat.div L P) nW) 8) 0) (f_if z (n_pr k L) (Q d y np (n_set L P (Nat.mod (Nat.add (Nat.mod (Nat.div L P) nW) n) 34359738368)) S F M))
theorem np_inc_ok {k y np : Nat} {n : Int} (hk : k < dt_mx y) : np_ok (.iinc k n) y np (np_inc k (nW ^ k) (8 * (n % 4294967296).toNat) y np) := by
  intro ρ d L S F M Q lv st hl hL hS h
  obtain ⟨h1, h⟩ := f_if_ok h
  obtain ⟨h2, h3⟩ := f_if_ok h
  have h1 : cd L k % 8 = 0 := Nat.eq_of_beq_eq_true h1
  obtain ⟨e, h4, h5⟩ := hL.get (by rw [hl]; exact hk) (by rw [h1]; decide)
  obtain ⟨h6, rfl⟩ := cr_0 h1 h5
  have hlt : (cd L k + 8 * (n % 4294967296).toNat) % 34359738368 < nW := by
    have : (cd L k + 8 * (n % 4294967296).toNat) % 34359738368 < 34359738368 := Nat.mod_lt _ (by decide)
    have h9 : (34359738368 : Nat) ≤ nW := by decide
    omega
  have hval : cr ρ ((cd L k + 8 * (n % 4294967296).toNat) % 34359738368) (eI (ev_w (sg32 (cd L k / 8) + n))) := by
    have e1 : (cd L k + 8 * (n % 4294967296).toNat) % 34359738368 = 8 * ((cd L k / 8 + (n % 4294967296).toNat) % 4294967296) := by omega
    rw [e1, sg32_of (sg32 (cd L k / 8) + n) ((cd L k / 8 + (n % 4294967296).toNat) % 4294967296) (by omega) (by have := sg32_m (cd L k / 8); omega)]
    exact cr_I (by omega)
  refine ⟨_, S, ev_st1 lv k (eI (ev_w (sg32 (cd L k / 8) + n))), st, ?_, by unfold ev_st1; rw [List.length_set, ev_cl_len], (n_pr_ok hL h2).set hlt (Or.inr ⟨_, rfl, hval⟩), hS, h3⟩
  show ev_inc lv k n st = _
  unfold ev_inc
  rw [h4]
noncomputable def np_c (c y np : Nat) : nC := fun d L S F M Q z => Q d y np L (Nat.add (Nat.mul S nW) c) F M
theorem np_c_ok {i : Instr} {c y np : Nat} {e : eV} (hc : c < nW) (he : ∀ ρ : Nat → Int, cr ρ c e) (hi : ∀ (lv : List (Option eV)) (st : List eV), ev_s i lv st = some (lv, e :: st)) : np_ok i y np (np_c c y np) := by
  intro ρ d L S F M Q lv st hl hL hS h
  exact ⟨L, _, lv, e :: st, hi lv st, rfl, hL, hS.push hc (he ρ), h⟩
/-! two numbers -/
noncomputable def np_2 (m1 m2 : Nat) (g : Nat → Nat → Nat) (y np : Nat) : nC := fun d L S F M Q z => f_if z (Nat.beq (Nat.mod (Nat.mod S nW) 8) m1) (f_if z (Nat.beq (Nat.mod (Nat.mod (Nat.div S nW) nW) 8) m2) (Q d y np L (Nat.add (Nat.mul (Nat.div (Nat.div S nW) nW) nW) (g (Nat.mod (Nat.div S nW) nW) (Nat.mod S nW))) F M))
theorem np_2_ok {i : Instr} {m1 m2 : Nat} {g : Nat → Nat → Nat} {y np : Nat} (h41 : m1 ≠ 4) (h42 : m2 ≠ 4) (hi : ∀ (ρ : Nat → Int) (c1 c2 : Nat) (e1 e2 : eV) (lv : List (Option eV)) (st : List eV), c1 % 8 = m1 → c2 % 8 = m2 → cr ρ c1 e1 → cr ρ c2 e2 → ∃ e, ev_s i lv (e1 :: e2 :: st) = some (lv, e :: st) ∧ cr ρ (g c2 c1) e ∧ g c2 c1 < nW) : np_ok i y np (np_2 m1 m2 g y np) := by
  intro ρ d L S F M Q lv st hl hL hS h
  obtain ⟨h1, h⟩ := f_if_ok h
  obtain ⟨h2, h3⟩ := f_if_ok h
  have h1 : S % nW % 8 = m1 := Nat.eq_of_beq_eq_true h1
  have h2 : S / nW % nW % 8 = m2 := Nat.eq_of_beq_eq_true h2
  obtain ⟨e1, r1, rfl, h4, h5⟩ := hS.pop (by rw [h1]; exact h41)
  obtain ⟨e2, r, rfl, h6, h7⟩ := h5.pop (by rw [h2]; exact h42)
  obtain ⟨e, h8, h9, h10⟩ := hi ρ _ _ e1 e2 lv r h1 h2 h4 h6
  exact ⟨L, _, lv, e :: r, h8, rfl, hL, h7.push h10 h9, h3⟩
noncomputable def np_1 (m1 : Nat) (g : Nat → Nat) (y np : Nat) : nC := fun d L S F M Q z => f_if z (Nat.beq (Nat.mod (Nat.mod S nW) 8) m1) (Q d y np L (Nat.add (Nat.mul (Nat.div S nW) nW) (g (Nat.mod S nW))) F M)
theorem np_1_ok {i : Instr} {m1 : Nat} {g : Nat → Nat} {y np : Nat} (h41 : m1 ≠ 4) (hi : ∀ (ρ : Nat → Int) (c1 : Nat) (e1 : eV) (lv : List (Option eV)) (st : List eV), c1 % 8 = m1 → cr ρ c1 e1 → ∃ e, ev_s i lv (e1 :: st) = some (lv, e :: st) ∧ cr ρ (g c1) e ∧ g c1 < nW) : np_ok i y np (np_1 m1 g y np) := by
  intro ρ d L S F M Q lv st hl hL hS h
  obtain ⟨h1, h3⟩ := f_if_ok h
  have h1 : S % nW % 8 = m1 := Nat.eq_of_beq_eq_true h1
  obtain ⟨e1, r, rfl, h4, h5⟩ := hS.pop (by rw [h1]; exact h41)
  obtain ⟨e, h8, h9, h10⟩ := hi ρ _ e1 lv r h1 h4
  exact ⟨L, _, lv, e :: r, h8, rfl, hL, h5.push h10 h9, h3⟩
theorem nW_35 : (34359738368 : Nat) ≤ nW := by decide
theorem nW_67 : (147573952589676412928 : Nat) ≤ nW := by decide
/-- an int of which the bits are known -/
theorem cr_w {ρ : Nat → Int} {p : Nat} {z : Int} (h : p < 4294967296) (he : (z - (p : Int)) % 4294967296 = 0) : cr ρ (8 * p) (eI (ev_w z)) := by
  rw [sg32_of z p h he]
  exact cr_I h
theorem cr_W {ρ : Nat → Int} {p : Nat} {z : Int} (h : p < 18446744073709551616) (he : (z - (p : Int)) % 18446744073709551616 = 0) : cr ρ (8 * p + 1) (eJ (ev_W z)) := by
  rw [sg64_of z p h he]
  exact cr_J h
noncomputable def ng_iadd (a b : Nat) : Nat := Nat.mod (Nat.add a b) 34359738368
theorem np_iadd {y np : Nat} : np_ok .iadd y np (np_2 0 0 ng_iadd y np) := np_2_ok (by decide) (by decide) fun ρ b a e1 e2 lv st h1 h2 hb ha => by
  obtain ⟨hb1, rfl⟩ := cr_0 h1 hb
  obtain ⟨ha1, rfl⟩ := cr_0 h2 ha
  have e1 : ng_iadd a b = 8 * ((a / 8 + b / 8) % 4294967296) := by
    show (a + b) % 34359738368 = _
    omega
  refine ⟨_, rfl, ?_, ?_⟩
  · rw [e1]
    exact cr_w (by omega) (by have := sg32_m (a / 8); have := sg32_m (b / 8); omega)
  · rw [e1]
    have := nW_35
    omega
noncomputable def ng_isub (a b : Nat) : Nat := Nat.mod (Nat.sub (Nat.add a 34359738368) b) 34359738368
theorem np_isub {y np : Nat} : np_ok .isub y np (np_2 0 0 ng_isub y np) := np_2_ok (by decide) (by decide) fun ρ b a e1 e2 lv st h1 h2 hb ha => by
  obtain ⟨hb1, rfl⟩ := cr_0 h1 hb
  obtain ⟨ha1, rfl⟩ := cr_0 h2 ha
  have e1 : ng_isub a b = 8 * ((a / 8 + 4294967296 - b / 8) % 4294967296) := by
    show (a + 34359738368 - b) % 34359738368 = _
    omega
  refine ⟨_, rfl, ?_, ?_⟩
  · rw [e1]
    exact cr_w (by omega) (by have := sg32_m (a / 8); have := sg32_m (b / 8); omega)
  · rw [e1]
    have := nW_35
    omega
theorem sg_mul (x y p q : Int) (M : Int) (h1 : (x - p) % M = 0) (h2 : (y - q) % M = 0) : (x * y - p * q) % M = 0 := by
  have e : x * y - p * q = (x - p) * y + p * (y - q) := by rw [Int.sub_mul, Int.mul_sub]; omega
  obtain ⟨a, ha⟩ := Int.dvd_of_emod_eq_zero h1
  obtain ⟨b, hb⟩ := Int.dvd_of_emod_eq_zero h2
  rw [e, ha, hb]
  apply Int.emod_eq_zero_of_dvd
  refine Int.dvd_add ?_ ?_
  · exact ⟨a * y, by rw [Int.mul_assoc]⟩
  · exact ⟨p * b, by rw [← Int.mul_assoc, ← Int.mul_assoc, Int.mul_comm p M]⟩
noncomputable def ng_imul (a b : Nat) : Nat := Nat.mul 8 (Nat.mod (Nat.mul (Nat.div a 8) (Nat.div b 8)) 4294967296)
theorem np_imul {y np : Nat} : np_ok .imul y np (np_2 0 0 ng_imul y np) := np_2_ok (by decide) (by decide) fun ρ b a e1 e2 lv st h1 h2 hb ha => by
  obtain ⟨hb1, rfl⟩ := cr_0 h1 hb
  obtain ⟨ha1, rfl⟩ := cr_0 h2 ha
  have e1 : ng_imul a b = 8 * (a / 8 * (b / 8) % 4294967296) := rfl
  have hm := sg_mul (sg32 (a / 8)) (sg32 (b / 8)) ((a / 8 : Nat) : Int) ((b / 8 : Nat) : Int) 4294967296 (sg32_m _) (sg32_m _)
  refine ⟨_, rfl, ?_, ?_⟩
  · rw [e1]
    refine cr_w (Nat.mod_lt _ (by decide)) ?_
    have hc : ((a / 8 * (b / 8) % 4294967296 : Nat) : Int) = ((a / 8 : Nat) : Int) * ((b / 8 : Nat) : Int) % 4294967296 := by
      rw [Int.natCast_emod, Int.natCast_mul]
      rfl
    rw [hc]
    omega
  · rw [e1]
    have : a / 8 * (b / 8) % 4294967296 < 4294967296 := Nat.mod_lt _ (by decide)
    have := nW_35
    omega
noncomputable def ng_lmul (a b : Nat) : Nat := Nat.succ (Nat.mul 8 (Nat.mod (Nat.mul (Nat.div a 8) (Nat.div b 8)) 18446744073709551616))
theorem np_lmul {y np : Nat} : np_ok .lmul y np (np_2 1 1 ng_lmul y np) := np_2_ok (by decide) (by decide) fun ρ b a e1 e2 lv st h1 h2 hb ha => by
  obtain ⟨hb1, rfl⟩ := cr_1 h1 hb
  obtain ⟨ha1, rfl⟩ := cr_1 h2 ha
  have e1 : ng_lmul a b = 8 * (a / 8 * (b / 8) % 18446744073709551616) + 1 := rfl
  have hm := sg_mul (sg64 (a / 8)) (sg64 (b / 8)) ((a / 8 : Nat) : Int) ((b / 8 : Nat) : Int) 18446744073709551616 (sg64_m _) (sg64_m _)
  refine ⟨_, rfl, ?_, ?_⟩
  · rw [e1]
    refine cr_W (Nat.mod_lt _ (by decide)) ?_
    have hc : ((a / 8 * (b / 8) % 18446744073709551616 : Nat) : Int) = ((a / 8 : Nat) : Int) * ((b / 8 : Nat) : Int) % 18446744073709551616 := by
      rw [Int.natCast_emod, Int.natCast_mul]
      rfl
    rw [hc]
    omega
  · rw [e1]
    have : a / 8 * (b / 8) % 18446744073709551616 < 18446744073709551616 := Nat.mod_lt _ (by decide)
    have := nW_67
    omega
noncomputable def ng_ladd (a b : Nat) : Nat := Nat.mod (Nat.pred (Nat.add a b)) 147573952589676412928
theorem np_ladd {y np : Nat} : np_ok .ladd y np (np_2 1 1 ng_ladd y np) := np_2_ok (by decide) (by decide) fun ρ b a e1 e2 lv st h1 h2 hb ha => by
  obtain ⟨hb1, rfl⟩ := cr_1 h1 hb
  obtain ⟨ha1, rfl⟩ := cr_1 h2 ha
  have e1 : ng_ladd a b = 8 * ((a / 8 + b / 8) % 18446744073709551616) + 1 := by
    show (a + b - 1) % 147573952589676412928 = _
    omega
  refine ⟨_, rfl, ?_, ?_⟩
  · rw [e1]
    exact cr_W (by omega) (by have := sg64_m (a / 8); have := sg64_m (b / 8); omega)
  · rw [e1]
    have := nW_67
    omega
noncomputable def ng_lsub (a b : Nat) : Nat := Nat.mod (Nat.succ (Nat.sub (Nat.add a 147573952589676412928) b)) 147573952589676412928
theorem np_lsub {y np : Nat} : np_ok .lsub y np (np_2 1 1 ng_lsub y np) := np_2_ok (by decide) (by decide) fun ρ b a e1 e2 lv st h1 h2 hb ha => by
  obtain ⟨hb1, rfl⟩ := cr_1 h1 hb
  obtain ⟨ha1, rfl⟩ := cr_1 h2 ha
  have e1 : ng_lsub a b = 8 * ((a / 8 + 18446744073709551616 - b / 8) % 18446744073709551616) + 1 := by
    show (a + 147573952589676412928 - b + 1) % 147573952589676412928 = _
    omega
  refine ⟨_, rfl, ?_, ?_⟩
  · rw [e1]
    exact cr_W (by omega) (by have := sg64_m (a / 8); have := sg64_m (b / 8); omega)
  · rw [e1]
    have := nW_67
    omega
noncomputable def ng_ineg (a : Nat) : Nat := Nat.mod (Nat.sub 34359738368 a) 34359738368
theorem np_ineg {y np : Nat} : np_ok .ineg y np (np_1 0 ng_ineg y np) := np_1_ok (by decide) fun ρ a e1 lv st h1 ha => by
  obtain ⟨ha1, rfl⟩ := cr_0 h1 ha
  have e1 : ng_ineg a = 8 * ((4294967296 - a / 8) % 4294967296) := by
    show (34359738368 - a) % 34359738368 = _
    omega
  refine ⟨_, rfl, ?_, ?_⟩
  · rw [e1]
    exact cr_w (by omega) (by have := sg32_m (a / 8); omega)
  · rw [e1]
    have := nW_35
    omega
noncomputable def ng_l2i (a : Nat) : Nat := Nat.mod (Nat.pred a) 34359738368
theorem np_l2i {y np : Nat} : np_ok .l2i y np (np_1 1 ng_l2i y np) := np_1_ok (by decide) fun ρ a e1 lv st h1 ha => by
  obtain ⟨ha1, rfl⟩ := cr_1 h1 ha
  have e1 : ng_l2i a = 8 * (a / 8 % 4294967296) := by
    show (a - 1) % 34359738368 = _
    omega
  refine ⟨_, rfl, ?_, ?_⟩
  · rw [e1]
    exact cr_w (by omega) (by have := sg64_m (a / 8); omega)
  · rw [e1]
    have := nW_35
    omega
noncomputable def ng_i2l (a : Nat) : Nat := @Bool.rec (fun _ => Nat) (Nat.add a 147573952555316674561) (Nat.succ a) (Nat.ble (Nat.succ a) 17179869184)
theorem np_i2l {y np : Nat} : np_ok .i2l y np (np_1 0 ng_i2l y np) := np_1_ok (by decide) fun ρ a e1 lv st h1 ha => by
  obtain ⟨ha1, rfl⟩ := cr_0 h1 ha
  have hz : ev_w (sg32 (a / 8)) = sg32 (a / 8) := sg32_w _ ha1
  refine ⟨eJ (sg32 (a / 8)), by show some (lv, eJ (ev_w (sg32 (a / 8))) :: st) = _; rw [hz], ?_, ?_⟩
  · unfold ng_i2l
    cases hb : Nat.ble (Nat.succ a) 17179869184 with
    | true =>
      have hb := Nat.ble_eq.mp hb
      have e1 : sg32 (a / 8) = sg64 (a / 8) := by
        unfold sg32 sg64
        rw [if_pos (by omega), if_pos (by omega)]
      show cr ρ (a + 1) (eJ (sg32 (a / 8)))
      rw [e1, show a + 1 = 8 * (a / 8) + 1 by omega]
      exact cr_J (by omega)
    | false =>
      have hb : ¬ Nat.succ a ≤ 17179869184 := fun q => by rw [Nat.ble_eq.mpr q] at hb; cases hb
      have e1 : sg32 (a / 8) = sg64 (a / 8 + 18446744069414584320) := by
        unfold sg32 sg64
        rw [if_neg (by omega), if_neg (by omega)]
        omega
      show cr ρ (a + 147573952555316674561) (eJ (sg32 (a / 8)))
      rw [e1, show a + 147573952555316674561 = 8 * (a / 8 + 18446744069414584320) + 1 by omega]
      exact cr_J (by omega)
  · unfold ng_i2l
    have := nW_67
    cases hb : Nat.ble (Nat.succ a) 17179869184 with
    | true =>
      show a + 1 < nW
      omega
    | false =>
      show a + 147573952555316674561 < nW
      have h9 : (147573952589676412928 : Nat) * 2 ≤ nW := by decide
      omega
