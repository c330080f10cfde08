/-! WHAT A RUN COMES TO: any claim of what it leaves -/
abbrev eQ : Type := Option eV × eM → Prop
def ex_q (fg : eG) (Q : eQ) (E : eSt) : Prop := ∃ (m : Nat) (R : Option eV × eM), ex fg m E = some R ∧ Q R
theorem ex_q_1 {fg : eG} {Q : eQ} {E E' : eSt} (h : ex_1 fg E = some (.inl E')) (h2 : ex_q fg Q E') : ex_q fg Q E := by
  obtain ⟨m, R, h3, h4⟩ := h2
  refine ⟨m + 1, R, ?_, h4⟩
  rw [ex, h]
  exact h3
def fQ (rc rs : Nat) : eQ := fun R => R.1 = some (eI 1) ∧ R.2.2.1.length ≤ rc ∧ R.2.2.2 ≤ rs
theorem q_fine {fg : eG} {rc rs : Nat} {E : eSt} (h : ex_q fg (fQ rc rs) E) : ex_fine fg rc rs E := by
  obtain ⟨m, ⟨r, μ⟩, h1, h2, h3⟩ := h
  cases (show r = some (eI 1) from h2)
  exact ⟨m, μ, h1, h3⟩
theorem fine_q {fg : eG} {rc rs : Nat} {E : eSt} (h : ex_fine fg rc rs E) : ex_q fg (fQ rc rs) E := by
  obtain ⟨m, μ, h1, h3⟩ := h
  exact ⟨m, (some (eI 1), μ), h1, rfl, h3⟩
/-- a method's run from its rows: what it answers and leaves -/
def rn (fg : eG) (d y pc : Nat) (lv : List (Option eV)) (st : List eV) (μ : eM) (R : Option eV × eM) : Prop := ∃ m, ev fg m d y pc lv st μ = some R
theorem rn_one {fg : eG} {d y pc : Nat} {lv : List (Option eV)} {st : List eV} {μ : eM} {R S : Option eV × eM} (h : rn fg d y pc lv st μ R) (h2 : rn fg d y pc lv st μ S) : R = S := by
  obtain ⟨m, h⟩ := h
  obtain ⟨n, h2⟩ := h2
  have h3 := ev_fuel m (m + n) _ _ _ _ _ _ _ (by omega) h
  rw [ev_fuel n (m + n) _ _ _ _ _ _ _ (by omega) h2] at h3
  cases h3
  rfl
theorem rn_ex {fg : eG} {Q : eQ} : ∀ (n d y pc : Nat) (lv : List (Option eV)) (st : List eV) (μ : eM) (r : Option eV) (μ1 : eM) (f : eFr) (F : List eFr), ev fg n d y pc lv st μ = some (r, μ1) → ex_q fg Q (d + 1, (f.1, f.2.1, f.2.2.1, r.toList ++ f.2.2.2), F, μ1) → ex_q fg Q (d, (y, pc, lv, st), f :: F, μ) := by
  intro n
  induction n with
  | zero =>
    intro d y pc lv st μ r μ1 f F h
    cases h
  | succ n ih =>
    intro d y pc lv st μ r μ1 f F h K
    rw [ev] at h
    split at h
    · rename_i z hz
      exact ex_q_1 (E' := (d, (y, z.1, z.2.1, z.2.2.1), f :: F, z.2.2.2)) (by unfold ex_1; dsimp only; rw [hz]) (ih _ _ _ _ _ _ _ _ _ _ h K)
    · rename_i r0 hz
      cases h
      exact ex_q_1 (by unfold ex_1; dsimp only; rw [hz]) K
    · rename_i z hz
      split at h
      · rename_i hd
        split at h
        · rename_i w hw
          refine ex_q_1 (E' := (d - 1, (z.1, 0, ev_en (dt_mx z.1) z.2.1, []), (y, pc + 3, lv, z.2.2) :: f :: F, μ)) (by unfold ex_1; dsimp only; rw [hz]; exact if_pos hd) ?_
          obtain ⟨w1, w2⟩ := w
          refine ih _ _ _ _ _ _ w1 w2 (y, pc + 3, lv, z.2.2) (f :: F) hw ?_
          rw [show d - 1 + 1 = d by omega]
          exact ih _ _ _ _ _ _ _ _ _ _ h K
        · cases h
      · cases h
    · cases h
theorem rn_q {fg : eG} {Q : eQ} {d y pc : Nat} {lv : List (Option eV)} {st : List eV} {μ : eM} {r : Option eV} {μ1 : eM} {f : eFr} {F : List eFr} (h : rn fg d y pc lv st μ (r, μ1)) (K : ex_q fg Q (d + 1, (f.1, f.2.1, f.2.2.1, r.toList ++ f.2.2.2), F, μ1)) : ex_q fg Q (d, (y, pc, lv, st), f :: F, μ) := by
  obtain ⟨m, h⟩ := h
  exact rn_ex m d y pc lv st μ r μ1 f F h K
/-- out of a run whose last frame answers: the method's own run -/
theorem q_rn {fg : eG} {Q : eQ} {d y pc : Nat} {lv : List (Option eV)} {st : List eV} {μ : eM} {f : eFr} (h : ex_q fg Q (d, (y, pc, lv, st), [f], μ)) : ∃ (r : Option eV) (μ1 : eM), rn fg d y pc lv st μ (r, μ1) ∧ ex_q fg Q (d + 1, (f.1, f.2.1, f.2.2.1, r.toList ++ f.2.2.2), [], μ1) := by
  obtain ⟨m, R, h1, h2⟩ := h
  obtain ⟨k, r, μ1, h3, -, h4⟩ := ex_ev m _ _ h1
  obtain ⟨n2, -, h5⟩ := h4 f [] rfl
  exact ⟨r, μ1, ⟨k, h3⟩, n2, R, h5, h2⟩
theorem xs_s {fg : eG} {d y pc n : Nat} {z : Nat × Nat × Nat × Nat} {i : Instr} {x : Int} {lv lv' : List (Option eV)} {st st' : List eV} {F : List eFr} {μ : eM} (hr : (dt_co y).get pc = (pc, i, n, z, x)) (h : ev_s i lv st = some (lv', st')) : ex_1 fg (d, (y, pc, lv, st), F, μ) = some (.inl (d, (y, pc + ev_len i, lv', st'), F, μ)) := by
  unfold ex_1
  dsimp only
  rw [hr]
  have hev : ev_1 fg d y pc (pc, i, n, z, x) lv st μ = some (.inl (.inl (pc + ev_len i, lv', st', μ))) := by
    unfold ev_1
    dsimp only
    rw [if_pos rfl, h]
  rw [hev]
theorem xs_q {fg : eG} {d y pc n a b t pl : Nat} {i : Instr} {x : Int} {lv : List (Option eV)} {st as rs : List eV} {F : List eFr} {μ : eM} (hr : (dt_co y).get pc = (pc, i, n, (a, b, t, pl), x)) (hk : dt_kl i = 4) (ha : a ≤ 2) (hd : 0 < d) (h : ev_cl2 μ i a b t st = some (as, rs)) : ex_1 fg (d, (y, pc, lv, st), F, μ) = some (.inl (d - 1, (b, 0, ev_en (dt_mx b) as, []), (y, pc + 3, lv, rs) :: F, μ)) := by
  unfold ex_1
  dsimp only
  rw [hr]
  have hno : ev_o d i a st μ = none := by
    cases hq : ev_o d i a st μ with
    | none => rfl
    | some w => rcases ev_o_ok (st' := w.1) (μ' := w.2) hq with ⟨-, -, -, -, h9, -⟩ | ⟨-, -, -, -, -, -, -, h9, -⟩ | ⟨-, -, -, -, -, -, -, -, -, -, -, h9, -⟩ <;> omega
  have hev : ev_1 fg d y pc (pc, i, n, (a, b, t, pl), x) lv st μ = some (.inr (b, as, rs)) := by
    unfold ev_1
    dsimp only
    rw [if_pos rfl, kl_s (by rw [hk]; decide)]
    dsimp only
    rw [kl_j (by rw [hk]; decide)]
    dsimp only
    rw [kl_m (by rw [hk]; decide)]
    dsimp only
    rw [hno]
    dsimp only
    rw [kl_rt (by rw [hk]; decide)]
    dsimp only
    rw [h]
  rw [hev]
  dsimp only
  rw [if_pos hd]
theorem xs_o {fg : eG} {d y pc n a b t pl : Nat} {i : Instr} {x : Int} {lv : List (Option eV)} {st st' : List eV} {F : List eFr} {μ μ' : eM} (hr : (dt_co y).get pc = (pc, i, n, (a, b, t, pl), x)) (hk : dt_kl i = 4) (h : ev_o d i a st μ = some (st', μ')) : ex_1 fg (d, (y, pc, lv, st), F, μ) = some (.inl (d, (y, pc + 3, lv, st'), F, μ')) := by
  unfold ex_1
  dsimp only
  rw [hr]
  have hev : ev_1 fg d y pc (pc, i, n, (a, b, t, pl), x) lv st μ = some (.inl (.inl (pc + 3, lv, st', μ'))) := by
    unfold ev_1
    dsimp only
    rw [if_pos rfl, kl_s (by rw [hk]; decide)]
    dsimp only
    rw [kl_j (by rw [hk]; decide)]
    dsimp only
    rw [kl_m (by rw [hk]; decide)]
    dsimp only
    rw [h]
  rw [hev]
theorem xs_rt {fg : eG} {d y pc n : Nat} {z : Nat × Nat × Nat × Nat} {i : Instr} {x : Int} {lv : List (Option eV)} {st : List eV} {μ : eM} {r : Option eV} (hr : (dt_co y).get pc = (pc, i, n, z, x)) (hk : dt_kl i = 3) (h : ev_rt y i st = some r) : ev_1 fg d y pc ((dt_co y).get pc) lv st μ = some (.inl (.inr r)) := by
  rw [hr]
  unfold ev_1
  dsimp only
  rw [if_pos rfl, kl_s (by rw [hk]; decide)]
  dsimp only
  rw [kl_j (by rw [hk]; decide)]
  dsimp only
  rw [kl_m (by rw [hk]; decide)]
  dsimp only
  rw [kl_o (by rw [hk]; decide)]
  dsimp only
  rw [h]
