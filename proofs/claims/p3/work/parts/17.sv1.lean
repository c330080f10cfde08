/-! THE ABSTRACT EVALUATOR: values. A value of the small machine, or: the script's i-th int; an int within bounds, or any; any long -/
abbrev aV : Type := (Nat ⊕ Option (Int × Int)) ⊕ Unit
abbrev sV : Type := eV ⊕ aV
abbrev sN : Type := Int ⊕ aV
/-- the script's ints within their bounds -/
abbrev sB : Type := List (Int × Int)
abbrev sC : Type := Nat × Nat × Lean.RArray sN
abbrev sM : Type := Lean.RArray sC × Nat × Nat
abbrev sFr : Type := Nat × Nat × List (Option sV) × List sV
abbrev sSt : Type := Nat × sFr × List sFr × sM
def sb_in (ρ : Nat → Int) (B : sB) : Prop := ∀ (i : Nat) (q : Int × Int), B[i]? = some q → q.1 ≤ ρ i ∧ ρ i ≤ q.2
def sa_r (ρ : Nat → Int) (a : aV) (v : eV) : Prop := match a, v with
  | .inl (.inl i), .inl (.inl z) => z = ρ i
  | .inl (.inr (some b)), .inl (.inl z) => b.1 ≤ z ∧ z ≤ b.2
  | .inl (.inr none), .inl (.inl _) => True
  | .inr _, .inl (.inr _) => True
  | _, _ => False
def sv_r (ρ : Nat → Int) (x : sV) (v : eV) : Prop := match x with
  | .inl a => a = v
  | .inr a => sa_r ρ a v
/-- a number of memory: read as an int or as a long it is so -/
def sn_r (ρ : Nat → Int) (x : sN) (z : Int) : Prop := match x with
  | .inl a => a = z
  | .inr (.inl (.inl i)) => z = ρ i
  | .inr (.inl (.inr (some b))) => b.1 ≤ z ∧ z ≤ b.2
  | .inr _ => True
def sl_r (ρ : Nat → Int) : List sV → List eV → Prop
  | [], [] => True
  | x :: xs, v :: vs => sv_r ρ x v ∧ sl_r ρ xs vs
  | _, _ => False
def so_r (ρ : Nat → Int) (x : Option sV) (v : Option eV) : Prop := match x, v with
  | none, _ => True
  | some x, some v => sv_r ρ x v
  | some _, none => False
def lo_r (ρ : Nat → Int) (lv : List (Option sV)) (ev : List (Option eV)) : Prop := lv.length = ev.length ∧ ∀ i : Nat, so_r ρ (lv[i]?).join (ev[i]?).join
/-- how deep a cell's tree is, by its length -/
def sdp (n : Nat) : Nat := match Nat.ble n 8, Nat.ble n 64, Nat.ble n 512 with
  | true, _, _ => 3
  | false, true, _ => 6
  | false, false, true => 9
  | false, false, false => 14
theorem sdp_ok {n : Nat} (h : n ≤ 16384) : n ≤ 2 ^ sdp n := by
  unfold sdp
  cases h1 : Nat.ble n 8 with
  | true => exact Nat.ble_eq.mp h1
  | false =>
    cases h2 : Nat.ble n 64 with
    | true => exact Nat.ble_eq.mp h2
    | false =>
      cases h3 : Nat.ble n 512 with
      | true => exact Nat.ble_eq.mp h3
      | false => exact h
def sm_r (ρ : Nat → Int) (M : sM) (μ : eM) : Prop := μ.2.1.length = M.2.1 ∧ μ.2.2 = M.2.2 ∧ M.2.1 ≤ 256 ∧ tr_ok 8 0 M.1 ∧ ∀ j : Nat, j < M.2.1 → μ.2.1[j]? = some ((M.1.get j).1, (M.1.get j).2.1) ∧ tr_ok (sdp (M.1.get j).2.1) 0 (M.1.get j).2.2 ∧ (M.1.get j).2.1 ≤ 16384 ∧ ∀ i : Nat, i < (M.1.get j).2.1 → sn_r ρ ((M.1.get j).2.2.get i) (μ.1 (j + 64) i)
def sf_r (ρ : Nat → Int) (x : sFr) (f : eFr) : Prop := x.1 = f.1 ∧ x.2.1 = f.2.1 ∧ lo_r ρ x.2.2.1 f.2.2.1 ∧ sl_r ρ x.2.2.2 f.2.2.2
def sF_r (ρ : Nat → Int) : List sFr → List eFr → Prop
  | [], [] => True
  | x :: xs, f :: fs => sf_r ρ x f ∧ sF_r ρ xs fs
  | _, _ => False
def ss_r (ρ : Nat → Int) (S : sSt) (E : eSt) : Prop := S.1 = E.1 ∧ sf_r ρ S.2.1 E.2.1 ∧ sF_r ρ S.2.2.1 E.2.2.1 ∧ sm_r ρ S.2.2.2 E.2.2.2
/-! lists of values -/
theorem sl_r_len {ρ : Nat → Int} : ∀ (xs : List sV) (vs : List eV), sl_r ρ xs vs → xs.length = vs.length := by
  intro xs
  induction xs with
  | nil =>
    intro vs h
    cases vs with
    | nil => rfl
    | cons v vs => cases h
  | cons x xs ih =>
    intro vs h
    cases vs with
    | nil => cases h
    | cons v vs =>
      rw [List.length_cons, List.length_cons, ih vs h.2]
theorem sl_r_app {ρ : Nat → Int} : ∀ (xs : List sV) (vs : List eV) (ys : List sV) (ws : List eV), sl_r ρ xs vs → sl_r ρ ys ws → sl_r ρ (xs ++ ys) (vs ++ ws) := by
  intro xs
  induction xs with
  | nil =>
    intro vs ys ws h h2
    cases vs with
    | nil => exact h2
    | cons v vs => cases h
  | cons x xs ih =>
    intro vs ys ws h h2
    cases vs with
    | nil => cases h
    | cons v vs => exact ⟨h.1, ih vs ys ws h.2 h2⟩
theorem sl_r_take {ρ : Nat → Int} : ∀ (n : Nat) (xs : List sV) (vs : List eV), sl_r ρ xs vs → sl_r ρ (xs.take n) (vs.take n) ∧ sl_r ρ (xs.drop n) (vs.drop n) := by
  intro n
  induction n with
  | zero =>
    intro xs vs h
    exact ⟨True.intro, h⟩
  | succ n ih =>
    intro xs vs h
    cases xs with
    | nil =>
      cases vs with
      | nil => exact ⟨True.intro, True.intro⟩
      | cons v vs => cases h
    | cons x xs =>
      cases vs with
      | nil => cases h
      | cons v vs => exact ⟨⟨h.1, (ih xs vs h.2).1⟩, (ih xs vs h.2).2⟩
theorem sl_r_rev {ρ : Nat → Int} : ∀ (xs : List sV) (vs : List eV), sl_r ρ xs vs → sl_r ρ xs.reverse vs.reverse := by
  intro xs
  induction xs with
  | nil =>
    intro vs h
    cases vs with
    | nil => exact True.intro
    | cons v vs => cases h
  | cons x xs ih =>
    intro vs h
    cases vs with
    | nil => cases h
    | cons v vs =>
      rw [List.reverse_cons, List.reverse_cons]
      exact sl_r_app _ _ _ _ (ih vs h.2) ⟨h.1, True.intro⟩
theorem sl_r_inl {ρ : Nat → Int} (vs : List eV) : sl_r ρ (vs.map .inl) vs := by
  induction vs with
  | nil => exact True.intro
  | cons v vs ih => exact ⟨rfl, ih⟩
/-- all numbers known -/
def sv_c : List sV → Option (List eV)
  | [] => some []
  | .inl v :: xs => (match sv_c xs with
    | some vs => some (v :: vs)
    | none => none)
  | .inr _ :: _ => none
theorem sv_c_ok {ρ : Nat → Int} : ∀ (xs : List sV) (es vs : List eV), sv_c xs = some es → sl_r ρ xs vs → es = vs := by
  intro xs
  induction xs with
  | nil =>
    intro es vs h h2
    cases h
    cases vs with
    | nil => rfl
    | cons v vs => cases h2
  | cons x xs ih =>
    intro es vs h h2
    cases vs with
    | nil => cases h2
    | cons v vs =>
      cases x with
      | inr a => cases h
      | inl w =>
        have h : (match sv_c xs with
          | some vs => some (w :: vs)
          | none => none) = some es := h
        cases hq : sv_c xs with
        | none => rw [hq] at h; cases h
        | some q =>
          rw [hq] at h
          cases h
          have e1 : w = v := h2.1
          rw [e1, ih q vs hq h2.2]
/-! bounds -/
def sc_b (B : sB) (x : sV) : Option (Int × Int) := match x with
  | .inl (.inl (.inl c)) => some (c, c)
  | .inr (.inl (.inl i)) => B[i]?
  | .inr (.inl (.inr b)) => b
  | _ => none
theorem sc_b_ok {ρ : Nat → Int} {B : sB} {x : sV} {v : eV} {b : Int × Int} (hB : sb_in ρ B) (hx : sv_r ρ x v) (h : sc_b B x = some b) : ∃ z : Int, v = eI z ∧ b.1 ≤ z ∧ z ≤ b.2 := by
  rcases x with x | a
  · have hx : x = v := hx
    subst hx
    rcases x with (c | c) | c
    · cases h
      exact ⟨c, rfl, Int.le_refl _, Int.le_refl _⟩
    · cases h
    · cases h
  · rcases a with (i | b') | u
    · rcases v with (z | z) | z
      · have hx : z = ρ i := hx
        subst hx
        exact ⟨ρ i, rfl, hB i b h⟩
      · exact absurd hx id
      · exact absurd hx id
    · have h : b' = some b := h
      subst h
      rcases v with (z | z) | z
      · exact ⟨z, rfl, hx⟩
      · exact absurd hx id
      · exact absurd hx id
    · cases h
