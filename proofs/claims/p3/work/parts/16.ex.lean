/-! THE SMALL MACHINE with its frames in a list: depth left, the frame that runs, those that wait, memory -/
abbrev eFr : Type := Nat × Nat × List (Option eV) × List eV
abbrev eSt : Type := Nat × eFr × List eFr × eM
noncomputable def ex_1 (fg : eG) (E : eSt) : Option (eSt ⊕ (Option eV × eM)) := match ev_1 fg E.1 E.2.1.1 E.2.1.2.1 ((dt_co E.2.1.1).get E.2.1.2.1) E.2.1.2.2.1 E.2.1.2.2.2 E.2.2.2 with
  | some (.inl (.inl z)) => some (.inl (E.1, (E.2.1.1, z.1, z.2.1, z.2.2.1), E.2.2.1, z.2.2.2))
  | some (.inl (.inr r)) => (match E.2.2.1 with
    | [] => some (.inr (r, E.2.2.2))
    | f :: fs => some (.inl (E.1 + 1, (f.1, f.2.1, f.2.2.1, r.toList ++ f.2.2.2), fs, E.2.2.2)))
  | some (.inr z) => if 0 < E.1 then some (.inl (E.1 - 1, (z.1, 0, ev_en (dt_mx z.1) z.2.1, []), (E.2.1.1, E.2.1.2.1 + 3, E.2.1.2.2.1, z.2.2) :: E.2.2.1, E.2.2.2)) else none
  | none => none
noncomputable def ex (fg : eG) : Nat → eSt → Option (Option eV × eM)
  | 0, _ => none
  | n + 1, E => match ex_1 fg E with
    | some (.inl E') => ex fg n E'
    | some (.inr R) => some R
    | none => none
theorem ev_fuel {fg : eG} : ∀ (n m d y pc : Nat) (lv : List (Option eV)) (st : List eV) (μ : eM) (R : Option eV × eM), n ≤ m → ev fg n d y pc lv st μ = some R → ev fg m d y pc lv st μ = some R := by
  intro n
  induction n with
  | zero =>
    intro m d y pc lv st μ R _ h
    cases h
  | succ n ih =>
    intro m d y pc lv st μ R hm h
    obtain ⟨m, rfl⟩ : ∃ q, m = q + 1 := ⟨m - 1, by omega⟩
    rw [ev] at h ⊢
    split at h
    · rename_i z hz
      exact ih m _ _ _ _ _ _ _ (by omega) h
    · rename_i r hz
      exact h
    · rename_i z hz
      split at h
      · rename_i hd
        split at h
        · rename_i w hw
          show (if 0 < d then _ else _) = _
          rw [if_pos hd, ih m _ _ _ _ _ _ _ (by omega) hw]
          exact ih m _ _ _ _ _ _ _ (by omega) h
        · cases h
      · cases h
    · cases h
theorem ex_ev {fg : eG} : ∀ (n : Nat) (E : eSt) (R : Option eV × eM), ex fg n E = some R → ∃ (m : Nat) (r : Option eV) (μ1 : eM), ev fg m E.1 E.2.1.1 E.2.1.2.1 E.2.1.2.2.1 E.2.1.2.2.2 E.2.2.2 = some (r, μ1) ∧ (E.2.2.1 = [] → R = (r, μ1)) ∧ ∀ (f : eFr) (fs : List eFr), E.2.2.1 = f :: fs → ∃ n', n' < n ∧ ex fg n' (E.1 + 1, (f.1, f.2.1, f.2.2.1, r.toList ++ f.2.2.2), fs, μ1) = some R := by
  intro n
  induction n using Nat.strongRecOn with
  | _ n ih =>
    intro E R h
    cases n with
    | zero => cases h
    | succ n =>
      obtain ⟨d, ⟨y, pc, lv, st⟩, F, μ⟩ := E
      rw [ex] at h
      unfold ex_1 at h
      dsimp only at h ⊢
      cases hz : ev_1 fg d y pc ((dt_co y).get pc) lv st μ with
      | none =>
        rw [hz] at h
        cases h
      | some z =>
        rw [hz] at h
        rcases z with (z | r) | z
        · dsimp only at h
          obtain ⟨m, r, μ1, h1, h2, h3⟩ := ih n (by omega) _ _ h
          refine ⟨m + 1, r, μ1, ?_, h2, fun f fs hf => ?_⟩
          · rw [ev, hz]
            exact h1
          · obtain ⟨n', hn, h4⟩ := h3 f fs hf
            exact ⟨n', by omega, h4⟩
        · dsimp only at h
          cases F with
          | nil =>
            dsimp only at h
            cases h
            refine ⟨1, r, μ, ?_, fun _ => rfl, fun f fs hf => by cases hf⟩
            rw [ev, hz]
          | cons f F =>
            dsimp only at h
            refine ⟨1, r, μ, ?_, fun q => (by cases q), fun f' fs' hf => ?_⟩
            · rw [ev, hz]
            · cases hf
              exact ⟨n, by omega, h⟩
        · dsimp only at h
          by_cases hd : 0 < d
          · rw [if_pos hd] at h
            dsimp only at h
            obtain ⟨m, r0, μ0, h1, -, h3⟩ := ih n (by omega) _ _ h
            obtain ⟨n', hn, h4⟩ := h3 _ _ rfl
            dsimp only at h1 h4
            rw [show d - 1 + 1 = d by omega] at h4
            obtain ⟨m2, r, μ1, h5, h6, h7⟩ := ih n' (by omega) _ _ h4
            dsimp only at h5 h6 h7
            refine ⟨m + m2 + 1, r, μ1, ?_, h6, fun f fs hf => ?_⟩
            · rw [ev, hz]
              show (if 0 < d then _ else _) = _
              rw [if_pos hd, ev_fuel m (m + m2) _ _ _ _ _ _ _ (by omega) h1]
              exact ev_fuel m2 (m + m2) _ _ _ _ _ _ _ (by omega) h5
            · obtain ⟨n'', hn2, h8⟩ := h7 f fs hf
              exact ⟨n'', by omega, h8⟩
          · rw [if_neg hd] at h
            cases h
