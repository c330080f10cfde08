/-! THE ABSTRACT EVALUATOR: plain instructions. Those of the stack alone: how many values each takes -/
def sv_ar : Instr → Option Nat
  | .iconst _ | .bipush _ | .sipush _ | .lconst _ | .fconst _ | .dconst _ => some 0
  | .ineg | .i2l | .i2b | .i2s | .i2d | .l2i | .d2i | .d2f | .fneg | .f2d | .dup | .pop => some 1
  | .iadd | .isub | .imul | .iand | .ior | .ixor | .ishl | .ishr | .iushr | .idiv | .irem | .ladd | .lsub | .lmul | .land | .lor | .lxor | .lcmp | .lshl | .lshr | .lushr | .dadd | .dsub | .dmul | .ddiv | .fcmp _ | .dcmp _ | .dup2 => some 2
  | _ => none
theorem ev_bII_fr {g : Int → Int → Option eV} {lv0 lv' : List (Option eV)} {es r : List eV} (h : ev_bII g lv0 es = some (lv', r)) (hl : es.length = 2) (lv : List (Option eV)) (rest : List eV) : ev_bII g lv (es ++ rest) = some (lv, r ++ rest) := by
  obtain ⟨x, y, r', w, rfl, hg, rfl, rfl⟩ := ev_bII_ok h
  have hr : r' = [] := by
    cases r' with
    | nil => rfl
    | cons a b => simp at hl
  subst hr
  show (g x y).map _ = _
  rw [hg]
  rfl
theorem ev_bJJ_fr {g : Int → Int → Option eV} {lv0 lv' : List (Option eV)} {es r : List eV} (h : ev_bJJ g lv0 es = some (lv', r)) (hl : es.length = 2) (lv : List (Option eV)) (rest : List eV) : ev_bJJ g lv (es ++ rest) = some (lv, r ++ rest) := by
  obtain ⟨x, y, r', w, rfl, hg, rfl, rfl⟩ := ev_bJJ_ok h
  have hr : r' = [] := by
    cases r' with
    | nil => rfl
    | cons a b => simp at hl
  subst hr
  show (g x y).map _ = _
  rw [hg]
  rfl
theorem ev_bJI_fr {g : Int → Int → Option eV} {lv0 lv' : List (Option eV)} {es r : List eV} (h : ev_bJI g lv0 es = some (lv', r)) (hl : es.length = 2) (lv : List (Option eV)) (rest : List eV) : ev_bJI g lv (es ++ rest) = some (lv, r ++ rest) := by
  obtain ⟨x, y, r', w, rfl, hg, rfl, rfl⟩ := ev_bJI_ok h
  have hr : r' = [] := by
    cases r' with
    | nil => rfl
    | cons a b => simp at hl
  subst hr
  show (g x y).map _ = _
  rw [hg]
  rfl
theorem ev_bDD_fr {g : UInt64 → UInt64 → Option eV} {lv0 lv' : List (Option eV)} {es r : List eV} (h : ev_bDD g lv0 es = some (lv', r)) (hl : es.length = 2) (lv : List (Option eV)) (rest : List eV) : ev_bDD g lv (es ++ rest) = some (lv, r ++ rest) := by
  obtain ⟨x, y, r', w, rfl, hg, rfl, rfl⟩ := ev_bDD_ok h
  have hr : r' = [] := by
    cases r' with
    | nil => rfl
    | cons a b => simp at hl
  subst hr
  show (g x y).map _ = _
  rw [hg]
  rfl
theorem ev_bFF_fr {g : UInt32 → UInt32 → Option eV} {lv0 lv' : List (Option eV)} {es r : List eV} (h : ev_bFF g lv0 es = some (lv', r)) (hl : es.length = 2) (lv : List (Option eV)) (rest : List eV) : ev_bFF g lv (es ++ rest) = some (lv, r ++ rest) := by
  obtain ⟨x, y, r', w, rfl, hg, rfl, rfl⟩ := ev_bFF_ok h
  have hr : r' = [] := by
    cases r' with
    | nil => rfl
    | cons a b => simp at hl
  subst hr
  show (g x y).map _ = _
  rw [hg]
  rfl
theorem ev_uI_fr {g : Int → Option eV} {lv0 lv' : List (Option eV)} {es r : List eV} (h : ev_uI g lv0 es = some (lv', r)) (hl : es.length = 1) (lv : List (Option eV)) (rest : List eV) : ev_uI g lv (es ++ rest) = some (lv, r ++ rest) := by
  obtain ⟨x, r', w, rfl, hg, rfl, rfl⟩ := ev_uI_ok h
  have hr : r' = [] := by
    cases r' with
    | nil => rfl
    | cons a b => simp at hl
  subst hr
  show (g x).map _ = _
  rw [hg]
  rfl
theorem ev_uJ_fr {g : Int → Option eV} {lv0 lv' : List (Option eV)} {es r : List eV} (h : ev_uJ g lv0 es = some (lv', r)) (hl : es.length = 1) (lv : List (Option eV)) (rest : List eV) : ev_uJ g lv (es ++ rest) = some (lv, r ++ rest) := by
  obtain ⟨x, r', w, rfl, hg, rfl, rfl⟩ := ev_uJ_ok h
  have hr : r' = [] := by
    cases r' with
    | nil => rfl
    | cons a b => simp at hl
  subst hr
  show (g x).map _ = _
  rw [hg]
  rfl
theorem ev_uD_fr {g : UInt64 → Option eV} {lv0 lv' : List (Option eV)} {es r : List eV} (h : ev_uD g lv0 es = some (lv', r)) (hl : es.length = 1) (lv : List (Option eV)) (rest : List eV) : ev_uD g lv (es ++ rest) = some (lv, r ++ rest) := by
  obtain ⟨x, r', w, rfl, hg, rfl, rfl⟩ := ev_uD_ok h
  have hr : r' = [] := by
    cases r' with
    | nil => rfl
    | cons a b => simp at hl
  subst hr
  show (g x).map _ = _
  rw [hg]
  rfl
theorem ev_uF_fr {g : UInt32 → Option eV} {lv0 lv' : List (Option eV)} {es r : List eV} (h : ev_uF g lv0 es = some (lv', r)) (hl : es.length = 1) (lv : List (Option eV)) (rest : List eV) : ev_uF g lv (es ++ rest) = some (lv, r ++ rest) := by
  obtain ⟨x, r', w, rfl, hg, rfl, rfl⟩ := ev_uF_ok h
  have hr : r' = [] := by
    cases r' with
    | nil => rfl
    | cons a b => simp at hl
  subst hr
  show (g x).map _ = _
  rw [hg]
  rfl
theorem ev_stk_fr {n : Nat} {lv0 lv' : List (Option eV)} {es r : List eV} (h : ev_stk n lv0 es = some (lv', r)) (hl : es.length = (if n = 1 then 2 else 1)) (lv : List (Option eV)) (rest : List eV) : ev_stk n lv (es ++ rest) = some (lv, r ++ rest) := by
  match n, es, h, hl with
  | 0, [v], h, _ =>
    have h : (if ev_cat v = 1 then some (lv0, v :: v :: []) else none) = some (lv', r) := h
    split at h
    · rename_i h0
      cases h
      show (if ev_cat v = 1 then some (lv, v :: v :: rest) else none) = _
      rw [if_pos h0]
      rfl
    · cases h
  | 1, [v, w], h, _ =>
    have h : (if ev_cat v = 1 ∧ ev_cat w = 1 then some (lv0, v :: w :: v :: w :: []) else none) = some (lv', r) := h
    split at h
    · rename_i h0
      cases h
      show (if ev_cat v = 1 ∧ ev_cat w = 1 then some (lv, v :: w :: v :: w :: rest) else none) = _
      rw [if_pos h0]
      rfl
    · cases h
  | 2, [v], h, _ =>
    have h : (if ev_cat v = 1 then some (lv0, []) else none) = some (lv', r) := h
    split at h
    · rename_i h0
      cases h
      show (if ev_cat v = 1 then some (lv, rest) else none) = _
      rw [if_pos h0]
      rfl
    · cases h
  | 0, [], h, hl => simp at hl
  | 0, _ :: _ :: _, h, hl => simp at hl
  | 1, [], h, hl => simp at hl
  | 1, [_], h, hl => simp at hl
  | 1, _ :: _ :: _ :: _, h, hl => simp at hl
  | 2, [], h, hl => simp at hl
  | 2, _ :: _ :: _, h, hl => simp at hl
  | n + 3, es, h, hl => cases es <;> cases h
theorem sv_fr {i : Instr} {a : Nat} {es r : List eV} {lv0 lv' : List (Option eV)} (ha : sv_ar i = some a) (hl : es.length = a) (h : ev_s i lv0 es = some (lv', r)) (lv : List (Option eV)) (rest : List eV) : ev_s i lv (es ++ rest) = some (lv, r ++ rest) := by
  cases i
  case iconst n =>
    cases ha
    have he : es = [] := List.length_eq_zero_iff.mp hl
    subst he
    simp only [ev_s] at h ⊢
    cases h
    rfl
  case bipush n =>
    cases ha
    have he : es = [] := List.length_eq_zero_iff.mp hl
    subst he
    simp only [ev_s] at h ⊢
    split at h
    · rename_i h0
      cases h
      rw [if_pos h0]
      rfl
    · cases h
  case sipush n =>
    cases ha
    have he : es = [] := List.length_eq_zero_iff.mp hl
    subst he
    simp only [ev_s] at h ⊢
    split at h
    · rename_i h0
      cases h
      rw [if_pos h0]
      rfl
    · cases h
  case lconst n =>
    cases ha
    have he : es = [] := List.length_eq_zero_iff.mp hl
    subst he
    simp only [ev_s] at h ⊢
    cases h
    rfl
  case fconst n =>
    cases ha
    have he : es = [] := List.length_eq_zero_iff.mp hl
    subst he
    simp only [ev_s] at h ⊢
    split at h
    · rename_i h0
      cases h
      rw [if_pos h0]
      rfl
    · cases h
  case dconst n =>
    cases ha
    have he : es = [] := List.length_eq_zero_iff.mp hl
    subst he
    simp only [ev_s] at h ⊢
    split at h
    · rename_i h0
      cases h
      rw [if_pos h0]
      rfl
    · cases h
  case iadd =>
    cases ha
    exact ev_bII_fr h hl lv rest
  case isub =>
    cases ha
    exact ev_bII_fr h hl lv rest
  case imul =>
    cases ha
    exact ev_bII_fr h hl lv rest
  case iand =>
    cases ha
    exact ev_bII_fr h hl lv rest
  case ior =>
    cases ha
    exact ev_bII_fr h hl lv rest
  case ixor =>
    cases ha
    exact ev_bII_fr h hl lv rest
  case ishl =>
    cases ha
    exact ev_bII_fr h hl lv rest
  case ishr =>
    cases ha
    exact ev_bII_fr h hl lv rest
  case iushr =>
    cases ha
    exact ev_bII_fr h hl lv rest
  case idiv =>
    cases ha
    exact ev_bII_fr h hl lv rest
  case irem =>
    cases ha
    exact ev_bII_fr h hl lv rest
  case ladd =>
    cases ha
    exact ev_bJJ_fr h hl lv rest
  case lsub =>
    cases ha
    exact ev_bJJ_fr h hl lv rest
  case lmul =>
    cases ha
    exact ev_bJJ_fr h hl lv rest
  case land =>
    cases ha
    exact ev_bJJ_fr h hl lv rest
  case lor =>
    cases ha
    exact ev_bJJ_fr h hl lv rest
  case lxor =>
    cases ha
    exact ev_bJJ_fr h hl lv rest
  case lcmp =>
    cases ha
    exact ev_bJJ_fr h hl lv rest
  case lshl =>
    cases ha
    exact ev_bJI_fr h hl lv rest
  case lshr =>
    cases ha
    exact ev_bJI_fr h hl lv rest
  case lushr =>
    cases ha
    exact ev_bJI_fr h hl lv rest
  case dadd =>
    cases ha
    exact ev_bDD_fr h hl lv rest
  case dsub =>
    cases ha
    exact ev_bDD_fr h hl lv rest
  case dmul =>
    cases ha
    exact ev_bDD_fr h hl lv rest
  case ddiv =>
    cases ha
    exact ev_bDD_fr h hl lv rest
  case ineg =>
    cases ha
    exact ev_uI_fr h hl lv rest
  case i2l =>
    cases ha
    exact ev_uI_fr h hl lv rest
  case i2b =>
    cases ha
    exact ev_uI_fr h hl lv rest
  case i2s =>
    cases ha
    exact ev_uI_fr h hl lv rest
  case i2d =>
    cases ha
    exact ev_uI_fr h hl lv rest
  case l2i =>
    cases ha
    exact ev_uJ_fr h hl lv rest
  case d2i =>
    cases ha
    exact ev_uD_fr h hl lv rest
  case d2f =>
    cases ha
    exact ev_uD_fr h hl lv rest
  case fneg =>
    cases ha
    exact ev_uF_fr h hl lv rest
  case f2d =>
    cases ha
    exact ev_uF_fr h hl lv rest
  case fcmp o =>
    cases ha
    exact ev_bFF_fr h hl lv rest
  case dcmp o =>
    cases ha
    exact ev_bDD_fr h hl lv rest
  case dup =>
    cases ha
    exact ev_stk_fr (n := 0) h hl lv rest
  case dup2 =>
    cases ha
    exact ev_stk_fr (n := 1) h hl lv rest
  case pop =>
    cases ha
    exact ev_stk_fr (n := 2) h hl lv rest
  all_goals (simp [sv_ar] at ha)
/-- the sort of a value: 0 int, 1 long, 2 double, 3 float, 4 a cell, 9 null -/
def sv_ty (v : sV) : Nat := match v with
  | .inl (.inl (.inl _)) => 0
  | .inl (.inl (.inr _)) => 1
  | .inl (.inr (.inl (.inl _))) => 2
  | .inl (.inr (.inl (.inr _))) => 3
  | .inl (.inr (.inr r)) => if r = 0 then 9 else 4
  | .inr (.inl _) => 0
  | .inr (.inr _) => 1
def sv_cat (v : sV) : Nat := match v with
  | .inl a => ev_cat a
  | .inr (.inl _) => 1
  | .inr (.inr _) => 2
abbrev sI (b : Option (Int × Int)) : sV := .inr (.inl (.inr b))
abbrev sJ : sV := .inr (.inr ())
theorem sv_ty0 {ρ : Nat → Int} {x : sV} {v : eV} (h : sv_r ρ x v) (ht : sv_ty x = 0) : ∃ z : Int, v = eI z := by
  rcases x with ((x | x) | ((x | x) | x)) | ((x | x) | x)
  · exact ⟨x, h.symm⟩
  · cases ht
  · cases ht
  · cases ht
  · have ht : (if x = 0 then 9 else 4) = 0 := ht
    split at ht <;> cases ht
  · rcases v with (z | z) | z
    · exact ⟨z, rfl⟩
    · exact absurd h id
    · exact absurd h id
  · rcases v with (z | z) | z
    · exact ⟨z, rfl⟩
    · cases x <;> exact absurd h id
    · cases x <;> exact absurd h id
  · cases ht
theorem sv_ty1 {ρ : Nat → Int} {x : sV} {v : eV} (h : sv_r ρ x v) (ht : sv_ty x = 1) : ∃ z : Int, v = eJ z := by
  rcases x with ((x | x) | ((x | x) | x)) | ((x | x) | x)
  · cases ht
  · exact ⟨x, h.symm⟩
  · cases ht
  · cases ht
  · have ht : (if x = 0 then 9 else 4) = 1 := ht
    split at ht <;> cases ht
  · cases ht
  · cases ht
  · rcases v with (z | z) | z
    · exact absurd h id
    · exact ⟨z, rfl⟩
    · exact absurd h id
theorem sv_cat_ok {ρ : Nat → Int} {x : sV} {v : eV} (h : sv_r ρ x v) : ev_cat v = sv_cat x := by
  rcases x with x | ((x | x) | x)
  · have h : x = v := h
    rw [h]
    rfl
  · obtain ⟨z, rfl⟩ := sv_ty0 h rfl
    rfl
  · obtain ⟨z, rfl⟩ := sv_ty0 h rfl
    rfl
  · obtain ⟨z, rfl⟩ := sv_ty1 h rfl
    rfl
/-- bounds of an int that is brought into its range -/
def sv_rw (b : Int × Int) : Int × Int := if -2147483648 ≤ b.1 ∧ b.2 ≤ 2147483647 then b else (-2147483648, 2147483647)
theorem sv_rw_ok {b : Int × Int} {z : Int} (h : b.1 ≤ z ∧ z ≤ b.2) : (sv_rw b).1 ≤ ev_w z ∧ ev_w z ≤ (sv_rw b).2 := by
  unfold sv_rw
  split
  · rename_i h0
    rw [ev_w_in (by omega) (by omega)]
    exact h
  · have h1 := ev_w_lo z
    have h2 := ev_w_hi z
    dsimp only
    omega
/-- bounds of what an op of two ints gives; none: it isn't done -/
def sv_b2 (i : Instr) (x y : Option (Int × Int)) : Option (Option (Int × Int)) := match i with
  | .iadd => (match x, y with
    | some x, some y => some (some (sv_rw (x.1 + y.1, x.2 + y.2)))
    | _, _ => some none)
  | .isub => (match x, y with
    | some x, some y => some (some (sv_rw (x.1 - y.2, x.2 - y.1)))
    | _, _ => some none)
  | .imul => some none
  | .iand => (match y with
    | some y => if y.1 = y.2 ∧ 0 ≤ y.1 ∧ y.1 ≤ 2147483647 then some (some (0, y.1)) else some (some (-2147483648, 2147483647))
    | none => some (some (-2147483648, 2147483647)))
  | .ior | .ixor | .ishl | .ishr | .iushr => some (some (-2147483648, 2147483647))
  | .irem => (match y with
    | some y => if y.1 = y.2 ∧ 0 < y.1 ∧ y.1 ≤ 2147483647 then some (some (1 - y.1, y.1 - 1)) else none
    | none => none)
  | .idiv => (match y with
    | some y => if y.1 = y.2 ∧ 0 < y.1 ∧ y.1 ≤ 2147483647 then some none else none
    | none => none)
  | _ => none
theorem ev_i32 (z : Int32) : -2147483648 ≤ z.toInt ∧ z.toInt ≤ 2147483647 := by
  have h1 := Int32.le_toInt z
  have h2 := Int32.toInt_lt z
  omega
theorem ev_and_b {x y : Int} (h0 : 0 ≤ y) (h1 : y ≤ 2147483647) : 0 ≤ (Int32.ofInt x &&& Int32.ofInt y).toInt ∧ (Int32.ofInt x &&& Int32.ofInt y).toInt ≤ y := by
  have hy : (Int32.ofInt y).toInt = y := by rw [ev_w_ok, ev_w_in (by omega) (by omega)]
  have hyn : (Int32.ofInt y).toBitVec.toNat = y.toNat := by
    have h2 : ((Int32.ofInt y).toBitVec).toInt = y := hy
    rw [BitVec.toInt_eq_toNat_cond] at h2
    have h3 := (Int32.ofInt y).toBitVec.isLt
    split at h2 <;> omega
  have hle : (Int32.ofInt x &&& Int32.ofInt y).toBitVec.toNat ≤ y.toNat := by
    show ((Int32.ofInt x).toBitVec &&& (Int32.ofInt y).toBitVec).toNat ≤ _
    rw [BitVec.toNat_and, hyn]
    exact Nat.and_le_right
  have he : (Int32.ofInt x &&& Int32.ofInt y).toInt = ((Int32.ofInt x &&& Int32.ofInt y).toBitVec).toInt := rfl
  rw [he, BitVec.toInt_eq_toNat_cond]
  split <;> omega
theorem sv_b2_ok {i : Instr} {x y : Int} {bx q by' : Option (Int × Int)} (hx : ∀ b, bx = some b → b.1 ≤ x ∧ x ≤ b.2) (hy : ∀ b, by' = some b → b.1 ≤ y ∧ y ≤ b.2) (h : sv_b2 i bx by' = some q) (lv : List (Option eV)) (r : List eV) : ∃ z : Int, ev_s i lv (eI y :: eI x :: r) = some (lv, eI z :: r) ∧ ∀ b, q = some b → b.1 ≤ z ∧ z ≤ b.2 := by
  cases i
  case iadd =>
    refine ⟨ev_w (x + y), rfl, fun b hb => ?_⟩
    subst hb
    simp only [sv_b2] at h
    split at h
    · rename_i p1 p2
      cases h
      have := hx _ rfl
      have := hy _ rfl
      exact sv_rw_ok (by simp only; omega)
    · cases h
  case isub =>
    refine ⟨ev_w (x - y), rfl, fun b hb => ?_⟩
    subst hb
    simp only [sv_b2] at h
    split at h
    · rename_i p1 p2
      cases h
      have := hx _ rfl
      have := hy _ rfl
      exact sv_rw_ok (by simp only; omega)
    · cases h
  case imul =>
    refine ⟨ev_w (x * y), rfl, fun b hb => ?_⟩
    subst hb
    cases h
  case iand =>
    refine ⟨_, rfl, fun b hb => ?_⟩
    subst hb
    simp only [sv_b2] at h
    split at h
    · rename_i p2
      split at h
      · rename_i h0
        cases h
        have h1 := hy _ rfl
        have e : y = p2.1 := by omega
        have h2 := ev_and_b (x := x) (y := y) (by omega) (by omega)
        simp only
        omega
      · cases h
        exact ev_i32 _
    · cases h
      exact ev_i32 _
  case ior =>
    refine ⟨_, rfl, fun b hb => ?_⟩
    subst hb
    cases h
    exact ev_i32 _
  case ixor =>
    refine ⟨_, rfl, fun b hb => ?_⟩
    subst hb
    cases h
    exact ev_i32 _
  case ishl =>
    refine ⟨_, rfl, fun b hb => ?_⟩
    subst hb
    cases h
    exact ev_i32 _
  case ishr =>
    refine ⟨_, rfl, fun b hb => ?_⟩
    subst hb
    cases h
    exact ev_i32 _
  case iushr =>
    refine ⟨_, rfl, fun b hb => ?_⟩
    subst hb
    cases h
    exact ev_i32 _
  case irem =>
    simp only [sv_b2] at h
    split at h
    · rename_i p2
      split at h
      · rename_i h0
        have h1 := hy _ rfl
        have e : y = p2.1 := by omega
        have hw : ev_w y = y := ev_w_in (by omega) (by omega)
        refine ⟨Int.tmod (ev_w x) (ev_w y), ?_, fun b hb => ?_⟩
        · show ((if ev_w y = 0 then none else some (eI (Int.tmod (ev_w x) (ev_w y)))) : Option eV).map _ = _
          rw [if_neg (by omega)]
          rfl
        · subst hb
          cases h
          rw [hw]
          have h2 := tmod_bounds (a := ev_w x) (M := y) (by omega)
          simp only
          omega
      · cases h
    · cases h
  case idiv =>
    simp only [sv_b2] at h
    split at h
    · rename_i p2
      split at h
      · rename_i h0
        have h1 := hy _ rfl
        have e : y = p2.1 := by omega
        have hw : ev_w y = y := ev_w_in (by omega) (by omega)
        refine ⟨ev_w (Int.tdiv (ev_w x) (ev_w y)), ?_, fun b hb => ?_⟩
        · show ((if ev_w y = 0 then none else some (eI (ev_w (Int.tdiv (ev_w x) (ev_w y))))) : Option eV).map _ = _
          rw [if_neg (by omega)]
          rfl
        · subst hb
          cases h
      · cases h
    · cases h
  all_goals (simp [sv_b2] at h)
