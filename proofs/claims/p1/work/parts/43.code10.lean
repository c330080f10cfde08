/-! THE CODED EVALUATOR: what isn't known: stacks as lists, and back -/
def dV (c : Nat) : Option sV := match c % 8 with
  | 0 => some (.inl (eI (sg32 (c / 8))))
  | 1 => some (.inl (eJ (sg64 (c / 8))))
  | 2 => some (.inl (eR (c / 8)))
  | 3 => some (.inr (.inl (.inl (c / 8))))
  | 5 => some (sI none)
  | 6 => some sJ
  | 7 => some (sI (some (((c / 8 % 4294967296 : Nat) : Int) - 2147483648, ((c / 8 / 4294967296 : Nat) : Int) - 2147483648)))
  | _ => none
theorem dV_ok {ρ : Nat → Int} {c : Nat} {v : sV} {e : eV} (h : dV c = some v) (hc : cr ρ c e) : sv_r ρ v e := by
  unfold dV at h
  unfold cr at hc
  rcases n_8 c with q | q | q | q | q | q | q | q <;> rw [q] at h hc
  · have hc : _ ∧ e = eI (sg32 (c / 8)) := hc
    cases h
    exact hc.2.symm
  · have hc : _ ∧ e = eJ (sg64 (c / 8)) := hc
    cases h
    exact hc.2.symm
  · have hc : e = eR (c / 8) := hc
    cases h
    exact hc.symm
  · have hc : e = eI (ρ (c / 8)) := hc
    cases h
    rw [hc]
    exact (rfl : ρ (c / 8) = ρ (c / 8))
  · cases h
  · obtain ⟨z, rfl⟩ := hc
    cases h
    exact True.intro
  · obtain ⟨z, rfl⟩ := hc
    cases h
    exact True.intro
  · obtain ⟨z, rfl, hz⟩ := hc
    cases h
    exact hz
def cV (v : sV) : Option Nat := match v with
  | .inl (.inl (.inl x)) => if ev_w x = x then some (8 * (x % 4294967296).toNat) else none
  | .inl (.inl (.inr x)) => if ev_W x = x then some (8 * (x % 18446744073709551616).toNat + 1) else none
  | .inl (.inr (.inr r)) => if r < 1000000 then some (8 * r + 2) else none
  | .inr (.inl (.inl i)) => if i < 1000000 then some (8 * i + 3) else none
  | .inr (.inl (.inr none)) => some 5
  | .inr (.inl (.inr (some b))) => if -2147483648 ≤ b.1 ∧ b.1 ≤ 2147483647 ∧ -2147483648 ≤ b.2 ∧ b.2 ≤ 2147483647 then some (8 * ((b.2 + 2147483648).toNat * 4294967296 + (b.1 + 2147483648).toNat) + 7) else none
  | .inr (.inr _) => some 6
  | _ => none
theorem cV_ok {ρ : Nat → Int} {c : Nat} {v : sV} {e : eV} (h : cV v = some c) (hv : sv_r ρ v e) : cr ρ c e ∧ c < nW := by
  have w35 := nW_35
  have w67 := nW_67
  unfold cV at h
  split at h
  · rename_i x
    split at h
    · rename_i h0
      cases h
      have hv : eI x = e := hv
      subst hv
      refine ⟨?_, by omega⟩
      have := cr_w (ρ := ρ) (p := (x % 4294967296).toNat) (z := x) (by omega) (by omega)
      rw [h0] at this
      exact this
    · cases h
  · rename_i x
    split at h
    · rename_i h0
      cases h
      have hv : eJ x = e := hv
      subst hv
      refine ⟨?_, by omega⟩
      have := cr_W (ρ := ρ) (p := (x % 18446744073709551616).toNat) (z := x) (by omega) (by omega)
      rw [h0] at this
      exact this
    · cases h
  · rename_i r
    split at h
    · rename_i h0
      cases h
      have hv : eR r = e := hv
      subst hv
      exact ⟨cr_R r, by omega⟩
    · cases h
  · rename_i i
    split at h
    · rename_i h0
      cases h
      obtain ⟨z, rfl⟩ := sv_ty0 hv rfl
      have hv : z = ρ i := hv
      refine ⟨?_, by omega⟩
      unfold cr
      rw [show (8 * i + 3) % 8 = 3 by omega, show (8 * i + 3) / 8 = i by omega, hv]
      rfl
    · cases h
  · cases h
    obtain ⟨z, rfl⟩ := sv_ty0 hv rfl
    exact ⟨⟨z, rfl⟩, by omega⟩
  · rename_i b
    split at h
    · rename_i h0
      cases h
      obtain ⟨z, rfl⟩ := sv_ty0 hv rfl
      have hv : b.1 ≤ z ∧ z ≤ b.2 := hv
      have e1 : (8 * ((b.2 + 2147483648).toNat * 4294967296 + (b.1 + 2147483648).toNat) + 7) % 8 = 7 := by omega
      have e2 : (8 * ((b.2 + 2147483648).toNat * 4294967296 + (b.1 + 2147483648).toNat) + 7) / 8 = (b.2 + 2147483648).toNat * 4294967296 + (b.1 + 2147483648).toNat := by omega
      have e3 : ((b.2 + 2147483648).toNat * 4294967296 + (b.1 + 2147483648).toNat) % 4294967296 = (b.1 + 2147483648).toNat := by omega
      have e4 : ((b.2 + 2147483648).toNat * 4294967296 + (b.1 + 2147483648).toNat) / 4294967296 = (b.2 + 2147483648).toNat := by omega
      refine ⟨?_, by omega⟩
      unfold cr
      rw [e1, e2, e3, e4]
      exact ⟨z, rfl, by omega, by omega⟩
    · cases h
  · cases h
    obtain ⟨z, rfl⟩ := sv_ty1 hv rfl
    exact ⟨⟨z, rfl⟩, by omega⟩
  · cases h
def nds : Nat → Nat → Option (List sV)
  | 0, _ => none
  | k + 1, S => if S = 4 then some [] else (match dV (S % nW) with
    | some v => (match nds k (S / nW) with
      | some l => some (v :: l)
      | none => none)
    | none => none)
theorem nds_ok {ρ : Nat → Int} : ∀ (k S : Nat) (l : List sV) (st : List eV), nds k S = some l → nS ρ S st → sl_r ρ l st := by
  intro k
  induction k with
  | zero =>
    intro S l st h
    cases h
  | succ k ih =>
    intro S l st h hS
    unfold nds at h
    split at h
    · rename_i h4
      cases h
      subst h4
      rw [nS_4 hS]
      exact True.intro
    · rename_i h4
      split at h
      · rename_i v hv
        split at h
        · rename_i l' hl'
          cases h
          cases st with
          | nil => exact absurd hS h4
          | cons e r => exact ⟨dV_ok hv hS.1, ih _ _ _ hl' hS.2⟩
        · cases h
      · cases h
def nes : List sV → Option Nat
  | [] => some 4
  | v :: l => (match cV v, nes l with
    | some c, some S => some (S * nW + c)
    | _, _ => none)
theorem nes_ok {ρ : Nat → Int} : ∀ (l : List sV) (S : Nat) (st : List eV), nes l = some S → sl_r ρ l st → nS ρ S st := by
  intro l
  induction l with
  | nil =>
    intro S st h hs
    cases h
    cases st with
    | nil => rfl
    | cons e r => exact absurd hs id
  | cons v l ih =>
    intro S st h hs
    unfold nes at h
    split at h
    · rename_i c S' hc hS'
      cases h
      obtain ⟨e, r, rfl, h1, h2⟩ := sl_r_1 hs
      obtain ⟨h3, h4⟩ := cV_ok hc h1
      exact (ih _ _ hS' h2).push h4 h3
    · cases h
/-- states that differ by their stacks, encoded; none, if one can't be -/
def nel {α : Type} (f : α → Option (sB × nSt)) : List α → Option (List (sB × nSt))
  | [] => some []
  | x :: l => (match f x, nel f l with
    | some a, some b => some (a :: b)
    | _, _ => none)
theorem nel_ok {α : Type} {f : α → Option (sB × nSt)} : ∀ (l : List α) (r : List (sB × nSt)), nel f l = some r → ∀ x ∈ l, ∃ q ∈ r, f x = some q := by
  intro l
  induction l with
  | nil =>
    intro r h x hx
    cases hx
  | cons y l ih =>
    intro r h x hx
    unfold nel at h
    split at h
    · rename_i a b ha hb
      cases h
      rcases List.mem_cons.mp hx with rfl | hx
      · exact ⟨a, List.mem_cons_self, ha⟩
      · obtain ⟨q, h1, h2⟩ := ih b hb x hx
        exact ⟨q, List.mem_cons_of_mem _ h1, h2⟩
    · cases h
/-- the same place, other stacks -/
def n_same_pc (N : nSt) (l : List (sB × List sV)) : Option (List (sB × nSt)) := nel (fun z => (nes z.2).map fun S => (z.1, (N.1, (N.2.1.1, N.2.1.2.1, N.2.1.2.2.1, S), N.2.2.1, N.2.2.2))) l
theorem n_same_ok {ρ : Nat → Int} {N : nSt} {l : List (sB × List sV)} {r : List (sB × nSt)} {E : eSt} (h : n_same_pc N l = some r) (hN : nst ρ N E) (hq : ∃ q ∈ l, sb_in ρ q.1 ∧ sl_r ρ q.2 E.2.1.2.2.2) : ∃ q ∈ r, sb_in ρ q.1 ∧ nst ρ q.2 E := by
  obtain ⟨z, h1, h2, h3⟩ := hq
  obtain ⟨q, h4, h5⟩ := nel_ok l r h z h1
  cases hS : nes z.2 with
  | none => rw [hS] at h5; cases h5
  | some S =>
    rw [hS] at h5
    cases h5
    exact ⟨_, h4, h2, hN.1, ⟨hN.2.1.1, hN.2.1.2.1, hN.2.1.2.2.1, hN.2.1.2.2.2.1, nes_ok _ _ _ hS h3⟩, hN.2.2.1, hN.2.2.2⟩
/-! rules of all places, coded -/
noncomputable def ng_cz : nR := fun B N => match nds 40 N.2.1.2.2.2 with
  | some st => (match gz_p B ((dt_co N.2.1.1).get N.2.1.2.1).2.1 st with
    | some p => (match gz_l B p st with
      | some l => n_same_pc N l
      | none => none)
    | none => (match sv_cz B ((dt_co N.2.1.1).get N.2.1.2.1).2.1 st with
      | some l => n_same_pc N l
      | none => none))
  | none => none
theorem ng_cz_ok {fg : eG} {rc rs : Nat} {ρ : Nat → Int} : nrl fg rc rs ρ ng_cz := by
  intro B N l E h hB hN hq
  unfold ng_cz at h
  split at h
  · rename_i st hst
    have hs := nds_ok 40 _ st E.2.1.2.2.2 hst hN.2.1.2.2.2.2
    split at h
    · split at h
      · rename_i l9 hl9
        obtain ⟨q, h1, h2, h3⟩ := n_same_ok h hN (gz_l_ok hB hs hl9)
        exact hq q h1 E h2 h3
      · cases h
    · split at h
      · rename_i l9 hl9
        obtain ⟨q, h1, h2, h3⟩ := n_same_ok h hN (sv_cz_ok hB hs hl9)
        exact hq q h1 E h2 h3
      · cases h
  · cases h
noncomputable def ng_ab : nR := fun B N => match (dt_co N.2.1.1).get N.2.1.2.1, nds 40 N.2.1.2.2.2 with
  | (p, i, _, _, _), some st => if p = N.2.1.2.1 then (match sv_ar i with
    | some _ => (match sv_ab B i st with
      | some s => (match nes s with
        | some S => some [(B, (N.1, (N.2.1.1, N.2.1.2.1 + ev_len i, N.2.1.2.2.1, S), N.2.2.1, N.2.2.2))]
        | none => none)
      | none => none)
    | none => none) else none
  | _, none => none
theorem ng_ab_ok {fg : eG} {rc rs : Nat} {ρ : Nat → Int} : nrl fg rc rs ρ ng_ab := by
  intro B N l E h hB hN hq
  obtain ⟨d, ⟨y, pc, L, S⟩, F, M⟩ := N
  obtain ⟨d', ⟨y', pc', lv, st⟩, eF', μ⟩ := E
  obtain ⟨e1, ⟨e2, e3, hlen, hL, hS⟩, hF, hm⟩ := hN
  dsimp only at e1 e2 e3 hlen hL hS hF hm
  subst e1
  subst e2
  subst e3
  unfold ng_ab at h
  dsimp only at h
  split at h
  · rename_i p i n z x sst hrow hst
    have hs := nds_ok 40 _ sst st hst hS
    split at h
    · rename_i hp
      subst hp
      split at h
      · split at h
        · rename_i s hsb
          split at h
          · rename_i S' hS'
            cases h
            obtain ⟨st', k1, k2⟩ := sv_ab_ok hB hs hsb lv
            refine ex_fine_1 (xs_s hrow k1) ?_
            exact hq _ (List.mem_singleton.mpr rfl) _ hB ⟨rfl, ⟨rfl, rfl, hlen, hL, nes_ok _ _ _ hS' k2⟩, hF, hm⟩
          · cases h
        · cases h
      · cases h
    · cases h
  · cases h
noncomputable def ng_j : nR := fun B N => match (dt_co N.2.1.1).get N.2.1.2.1, nds 40 N.2.1.2.2.2 with
  | (p, i, n, _, _), some st => if p = N.2.1.2.1 then (match sv_j B i n N.2.1.2.1 st with
    | some l => nel (fun z => (nes z.2.2).map fun S => (z.1, (N.1, (N.2.1.1, z.2.1, N.2.1.2.2.1, S), N.2.2.1, N.2.2.2))) l
    | none => none) else none
  | _, none => none
theorem ng_j_ok {fg : eG} {rc rs : Nat} {ρ : Nat → Int} : nrl fg rc rs ρ ng_j := by
  intro B N l E h hB hN hq
  obtain ⟨d, ⟨y, pc, L, S⟩, F, M⟩ := N
  obtain ⟨d', ⟨y', pc', lv, st⟩, eF', μ⟩ := E
  obtain ⟨e1, ⟨e2, e3, hlen, hL, hS⟩, hF, hm⟩ := hN
  dsimp only at e1 e2 e3 hlen hL hS hF hm
  subst e1
  subst e2
  subst e3
  unfold ng_j at h
  dsimp only at h
  split at h
  · rename_i p i n z x sst hrow hst
    have hs := nds_ok 40 _ sst st hst hS
    split at h
    · rename_i hp
      subst hp
      split at h
      · rename_i l9 hl9
        have hkl := sv_j_kl hl9
        obtain ⟨w, st', k1, k2, k3, k4⟩ := sv_j_ok hB hs hl9
        obtain ⟨q, q1, q2⟩ := nel_ok l9 l h w k1
        cases hS' : nes w.2.2 with
        | none => rw [hS'] at q2; cases q2
        | some S' =>
          rw [hS'] at q2
          cases q2
          refine ex_fine_1 (xs_j hrow hkl k3) ?_
          exact hq _ q1 _ k2 ⟨rfl, ⟨rfl, rfl, hlen, hL, nes_ok _ _ _ hS' k4⟩, hF, hm⟩
      · cases h
    · cases h
  · cases h
