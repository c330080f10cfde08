/-! THE ABSTRACT EVALUATOR: plain instructions where a number isn't known; locals -/
def sv_ab (B : sB) (i : Instr) (st : List sV) : Option (List sV) := match i with
  | .dup => (match st with
    | v :: r => if sv_cat v = 1 then some (v :: v :: r) else none
    | _ => none)
  | .dup2 => (match st with
    | v :: w :: r => if sv_cat v = 1 ∧ sv_cat w = 1 then some (v :: w :: v :: w :: r) else none
    | _ => none)
  | .pop => (match st with
    | v :: r => if sv_cat v = 1 then some r else none
    | _ => none)
  | .ladd | .lsub | .lmul | .land | .lor | .lxor => (match st with
    | y :: x :: r => if sv_ty y = 1 ∧ sv_ty x = 1 then some (sJ :: r) else none
    | _ => none)
  | .lcmp => (match st with
    | y :: x :: r => if sv_ty y = 1 ∧ sv_ty x = 1 then some (sI (some (-1, 1)) :: r) else none
    | _ => none)
  | .lshl | .lshr | .lushr => (match st with
    | y :: x :: r => if sv_ty y = 0 ∧ sv_ty x = 1 then some (sJ :: r) else none
    | _ => none)
  | .i2l => (match st with
    | x :: r => if sv_ty x = 0 then some (sJ :: r) else none
    | _ => none)
  | .l2i => (match st with
    | x :: r => if sv_ty x = 1 then some (sI none :: r) else none
    | _ => none)
  | .i2b => (match st with
    | x :: r => if sv_ty x = 0 then some (sI (some (-128, 127)) :: r) else none
    | _ => none)
  | .i2s => (match st with
    | x :: r => if sv_ty x = 0 then some (sI (some (-32768, 32767)) :: r) else none
    | _ => none)
  | .ineg => (match st with
    | x :: r => if sv_ty x = 0 then some (sI none :: r) else none
    | _ => none)
  | i => (match st with
    | y :: x :: r => if sv_ty y = 0 ∧ sv_ty x = 0 then (match sv_b2 i (sc_b B x) (sc_b B y) with
      | some q => some (sI q :: r)
      | none => none) else none
    | _ => none)
theorem sv_sI {ρ : Nat → Int} {q : Option (Int × Int)} {z : Int} (h : ∀ b, q = some b → b.1 ≤ z ∧ z ≤ b.2) : sv_r ρ (sI q) (eI z) := by
  cases q with
  | none => exact True.intro
  | some b => exact h b rfl
set_option maxHeartbeats 1000000 in
theorem sv_ab_ok {ρ : Nat → Int} {B : sB} {i : Instr} {st st' : List sV} {est : List eV} (hB : sb_in ρ B) (hs : sl_r ρ st est) (h : sv_ab B i st = some st') (elv : List (Option eV)) : ∃ est' : List eV, ev_s i elv est = some (elv, est') ∧ sl_r ρ st' est' := by
  have two : ∀ (q : Option (Option (Int × Int))) (y x : sV) (r : List sV), st = y :: x :: r → sv_ty y = 0 ∧ sv_ty x = 0 → sv_b2 i (sc_b B x) (sc_b B y) = q → (match q with
      | some q => some (sI q :: r)
      | none => none) = some st' → ∃ est' : List eV, ev_s i elv est = some (elv, est') ∧ sl_r ρ st' est' := by
    intro q y x r hst ht hq h9
    subst hst
    cases q with
    | none => cases h9
    | some q =>
      cases h9
      match est, hs with
      | v :: w :: rs, hs =>
        obtain ⟨zy, rfl⟩ := sv_ty0 hs.1 ht.1
        obtain ⟨zx, rfl⟩ := sv_ty0 hs.2.1 ht.2
        obtain ⟨z, h1, h2⟩ := sv_b2_ok (x := zx) (y := zy) (fun b hb => by
          obtain ⟨z, e, hz⟩ := sc_b_ok hB hs.2.1 hb
          cases e
          exact hz) (fun b hb => by
          obtain ⟨z, e, hz⟩ := sc_b_ok hB hs.1 hb
          cases e
          exact hz) hq elv rs
        exact ⟨_, h1, sv_sI h2, hs.2.2⟩
      | [], hs => exact absurd hs id
      | [v], hs => exact absurd hs.2 id
  cases i
  case dup =>
    simp only [sv_ab] at h
    split at h
    · split at h
      · rename_i h0
        cases h
        match est, hs with
        | v :: rs, hs =>
          refine ⟨v :: v :: rs, ?_, ⟨hs.1, hs.1, hs.2⟩⟩
          show (if ev_cat v = 1 then _ else none) = _
          rw [if_pos ((sv_cat_ok hs.1).trans h0)]
        | [], hs => exact absurd hs id
      · cases h
    · cases h
  case pop =>
    simp only [sv_ab] at h
    split at h
    · split at h
      · rename_i h0
        cases h
        match est, hs with
        | v :: rs, hs =>
          refine ⟨rs, ?_, hs.2⟩
          show (if ev_cat v = 1 then _ else none) = _
          rw [if_pos ((sv_cat_ok hs.1).trans h0)]
        | [], hs => exact absurd hs id
      · cases h
    · cases h
  case dup2 =>
    simp only [sv_ab] at h
    split at h
    · split at h
      · rename_i h0
        cases h
        match est, hs with
        | v :: w :: rs, hs =>
          refine ⟨v :: w :: v :: w :: rs, ?_, ⟨hs.1, hs.2.1, hs.1, hs.2.1, hs.2.2⟩⟩
          show (if ev_cat v = 1 ∧ ev_cat w = 1 then _ else none) = _
          rw [if_pos ⟨(sv_cat_ok hs.1).trans h0.1, (sv_cat_ok hs.2.1).trans h0.2⟩]
        | [], hs => exact absurd hs id
        | [v], hs => exact absurd hs.2 id
      · cases h
    · cases h
  case ladd =>
    simp only [sv_ab] at h
    split at h
    · split at h
      · rename_i h0
        cases h
        match est, hs with
        | v :: w :: rs, hs =>
          obtain ⟨zy, rfl⟩ := sv_ty1 hs.1 h0.1
          obtain ⟨zx, rfl⟩ := sv_ty1 hs.2.1 h0.2
          exact ⟨_, rfl, True.intro, hs.2.2⟩
        | [], hs => exact absurd hs id
        | [v], hs => exact absurd hs.2 id
      · cases h
    · cases h
  case lsub =>
    simp only [sv_ab] at h
    split at h
    · split at h
      · rename_i h0
        cases h
        match est, hs with
        | v :: w :: rs, hs =>
          obtain ⟨zy, rfl⟩ := sv_ty1 hs.1 h0.1
          obtain ⟨zx, rfl⟩ := sv_ty1 hs.2.1 h0.2
          exact ⟨_, rfl, True.intro, hs.2.2⟩
        | [], hs => exact absurd hs id
        | [v], hs => exact absurd hs.2 id
      · cases h
    · cases h
  case lmul =>
    simp only [sv_ab] at h
    split at h
    · split at h
      · rename_i h0
        cases h
        match est, hs with
        | v :: w :: rs, hs =>
          obtain ⟨zy, rfl⟩ := sv_ty1 hs.1 h0.1
          obtain ⟨zx, rfl⟩ := sv_ty1 hs.2.1 h0.2
          exact ⟨_, rfl, True.intro, hs.2.2⟩
        | [], hs => exact absurd hs id
        | [v], hs => exact absurd hs.2 id
      · cases h
    · cases h
  case land =>
    simp only [sv_ab] at h
    split at h
    · split at h
      · rename_i h0
        cases h
        match est, hs with
        | v :: w :: rs, hs =>
          obtain ⟨zy, rfl⟩ := sv_ty1 hs.1 h0.1
          obtain ⟨zx, rfl⟩ := sv_ty1 hs.2.1 h0.2
          exact ⟨_, rfl, True.intro, hs.2.2⟩
        | [], hs => exact absurd hs id
        | [v], hs => exact absurd hs.2 id
      · cases h
    · cases h
  case lor =>
    simp only [sv_ab] at h
    split at h
    · split at h
      · rename_i h0
        cases h
        match est, hs with
        | v :: w :: rs, hs =>
          obtain ⟨zy, rfl⟩ := sv_ty1 hs.1 h0.1
          obtain ⟨zx, rfl⟩ := sv_ty1 hs.2.1 h0.2
          exact ⟨_, rfl, True.intro, hs.2.2⟩
        | [], hs => exact absurd hs id
        | [v], hs => exact absurd hs.2 id
      · cases h
    · cases h
  case lxor =>
    simp only [sv_ab] at h
    split at h
    · split at h
      · rename_i h0
        cases h
        match est, hs with
        | v :: w :: rs, hs =>
          obtain ⟨zy, rfl⟩ := sv_ty1 hs.1 h0.1
          obtain ⟨zx, rfl⟩ := sv_ty1 hs.2.1 h0.2
          exact ⟨_, rfl, True.intro, hs.2.2⟩
        | [], hs => exact absurd hs id
        | [v], hs => exact absurd hs.2 id
      · cases h
    · cases h
  case lcmp =>
    simp only [sv_ab] at h
    split at h
    · split at h
      · rename_i h0
        cases h
        match est, hs with
        | v :: w :: rs, hs =>
          obtain ⟨zy, rfl⟩ := sv_ty1 hs.1 h0.1
          obtain ⟨zx, rfl⟩ := sv_ty1 hs.2.1 h0.2
          exact ⟨_, rfl, (by simp only [sv_r, sa_r]; split <;> (try split) <;> exact ⟨by decide, by decide⟩), hs.2.2⟩
        | [], hs => exact absurd hs id
        | [v], hs => exact absurd hs.2 id
      · cases h
    · cases h
  case lshl =>
    simp only [sv_ab] at h
    split at h
    · split at h
      · rename_i h0
        cases h
        match est, hs with
        | v :: w :: rs, hs =>
          obtain ⟨zy, rfl⟩ := sv_ty0 hs.1 h0.1
          obtain ⟨zx, rfl⟩ := sv_ty1 hs.2.1 h0.2
          exact ⟨_, rfl, True.intro, hs.2.2⟩
        | [], hs => exact absurd hs id
        | [v], hs => exact absurd hs.2 id
      · cases h
    · cases h
  case lshr =>
    simp only [sv_ab] at h
    split at h
    · split at h
      · rename_i h0
        cases h
        match est, hs with
        | v :: w :: rs, hs =>
          obtain ⟨zy, rfl⟩ := sv_ty0 hs.1 h0.1
          obtain ⟨zx, rfl⟩ := sv_ty1 hs.2.1 h0.2
          exact ⟨_, rfl, True.intro, hs.2.2⟩
        | [], hs => exact absurd hs id
        | [v], hs => exact absurd hs.2 id
      · cases h
    · cases h
  case lushr =>
    simp only [sv_ab] at h
    split at h
    · split at h
      · rename_i h0
        cases h
        match est, hs with
        | v :: w :: rs, hs =>
          obtain ⟨zy, rfl⟩ := sv_ty0 hs.1 h0.1
          obtain ⟨zx, rfl⟩ := sv_ty1 hs.2.1 h0.2
          exact ⟨_, rfl, True.intro, hs.2.2⟩
        | [], hs => exact absurd hs id
        | [v], hs => exact absurd hs.2 id
      · cases h
    · cases h
  case i2l =>
    simp only [sv_ab] at h
    split at h
    · split at h
      · rename_i h0
        cases h
        match est, hs with
        | v :: rs, hs =>
          obtain ⟨zx, rfl⟩ := sv_ty0 hs.1 h0
          exact ⟨_, rfl, True.intro, hs.2⟩
        | [], hs => exact absurd hs id
      · cases h
    · cases h
  case l2i =>
    simp only [sv_ab] at h
    split at h
    · split at h
      · rename_i h0
        cases h
        match est, hs with
        | v :: rs, hs =>
          obtain ⟨zx, rfl⟩ := sv_ty1 hs.1 h0
          exact ⟨_, rfl, True.intro, hs.2⟩
        | [], hs => exact absurd hs id
      · cases h
    · cases h
  case i2b =>
    simp only [sv_ab] at h
    split at h
    · split at h
      · rename_i h0
        cases h
        match est, hs with
        | v :: rs, hs =>
          obtain ⟨zx, rfl⟩ := sv_ty0 hs.1 h0
          exact ⟨_, rfl, (by simp only [sv_r, sa_r]; omega), hs.2⟩
        | [], hs => exact absurd hs id
      · cases h
    · cases h
  case i2s =>
    simp only [sv_ab] at h
    split at h
    · split at h
      · rename_i h0
        cases h
        match est, hs with
        | v :: rs, hs =>
          obtain ⟨zx, rfl⟩ := sv_ty0 hs.1 h0
          exact ⟨_, rfl, (by simp only [sv_r, sa_r]; omega), hs.2⟩
        | [], hs => exact absurd hs id
      · cases h
    · cases h
  case ineg =>
    simp only [sv_ab] at h
    split at h
    · split at h
      · rename_i h0
        cases h
        match est, hs with
        | v :: rs, hs =>
          obtain ⟨zx, rfl⟩ := sv_ty0 hs.1 h0
          exact ⟨_, rfl, True.intro, hs.2⟩
        | [], hs => exact absurd hs id
      · cases h
    · cases h
  all_goals
    simp only [sv_ab] at h
    split at h
    · split at h
      · rename_i h0
        exact two _ _ _ _ rfl h0 rfl h
      · cases h
    · cases h
/-! locals -/
def sv_ld (t : Nat) (lv : List (Option sV)) (k : Nat) (st : List sV) : Option (List (Option sV) × List sV) := match lv[k]? with
  | some (some v) => if sv_ty v = t then some (lv, v :: st) else none
  | _ => none
def sv_cl (lv : List (Option sV)) (i : Nat) : List (Option sV) := match i with
  | 0 => lv
  | j + 1 => match lv[j]? with
    | some (some v) => if sv_cat v = 2 then lv.set j none else lv
    | _ => lv
def sv_st1 (lv : List (Option sV)) (i : Nat) (v : sV) : List (Option sV) := (sv_cl lv i).set i (some v)
def sv_st2 (lv : List (Option sV)) (i : Nat) (v : sV) : List (Option sV) := ((sv_cl lv i).set i (some v)).set (i + 1) none
theorem lo_r.get {ρ : Nat → Int} {lv : List (Option sV)} {elv : List (Option eV)} (h : lo_r ρ lv elv) {k : Nat} {x : sV} (hk : lv[k]? = some (some x)) : ∃ v : eV, elv[k]? = some (some v) ∧ sv_r ρ x v := by
  have h1 := h.2 k
  rw [hk] at h1
  cases he : elv[k]? with
  | none => rw [he] at h1; exact absurd h1 id
  | some q =>
    rw [he] at h1
    cases q with
    | none => exact absurd h1 id
    | some v => exact ⟨v, rfl, h1⟩
theorem lo_r.set {ρ : Nat → Int} {lv : List (Option sV)} {elv : List (Option eV)} (h : lo_r ρ lv elv) (k : Nat) {x : Option sV} {v : Option eV} (hx : so_r ρ x v) : lo_r ρ (lv.set k x) (elv.set k v) := by
  refine ⟨by rw [List.length_set, List.length_set]; exact h.1, fun i => ?_⟩
  rw [List.getElem?_set, List.getElem?_set]
  by_cases hk : k = i
  · subst hk
    rw [if_pos rfl, if_pos rfl]
    by_cases hl : k < lv.length
    · rw [if_pos hl, if_pos (by rw [← h.1]; exact hl)]
      exact hx
    · rw [if_neg hl]
      exact True.intro
  · rw [if_neg hk, if_neg hk]
    exact h.2 i
theorem lo_r.cl {ρ : Nat → Int} {lv : List (Option sV)} {elv : List (Option eV)} (h : lo_r ρ lv elv) (i : Nat) : lo_r ρ (sv_cl lv i) (ev_cl elv i) := by
  cases i with
  | zero => exact h
  | succ j =>
    show lo_r ρ (match lv[j]? with
      | some (some v) => if sv_cat v = 2 then lv.set j none else lv
      | _ => lv) (match elv[j]? with
      | some (some v) => if ev_cat v = 2 then elv.set j none else elv
      | _ => elv)
    have weak : ∀ v : Option eV, lo_r ρ lv elv → (∀ x, lv[j]? ≠ some (some x)) → lo_r ρ lv (elv.set j v) := by
      intro v h hn
      refine ⟨by rw [List.length_set]; exact h.1, fun i => ?_⟩
      by_cases hi : i = j
      · subst hi
        cases hq : lv[i]? with
        | none => exact True.intro
        | some q =>
          cases q with
          | none => exact True.intro
          | some x => exact absurd hq (hn x)
      · rw [List.getElem?_set_ne (fun q => hi q.symm)]
        exact h.2 i
    cases hq : lv[j]? with
    | none =>
      dsimp only
      split
      · split
        · exact weak none h (fun x q => by rw [hq] at q; cases q)
        · exact h
      · exact h
    | some q =>
      cases q with
      | none =>
        dsimp only
        split
        · split
          · exact weak none h (fun x q => by rw [hq] at q; cases q)
          · exact h
        · exact h
      | some x =>
        obtain ⟨v, h1, h2⟩ := h.get hq
        rw [h1]
        dsimp only
        rw [sv_cat_ok h2]
        split
        · exact h.set j (x := none) (v := none) True.intro
        · exact h
theorem lo_r.st1 {ρ : Nat → Int} {lv : List (Option sV)} {elv : List (Option eV)} (h : lo_r ρ lv elv) (k : Nat) {x : sV} {v : eV} (hx : sv_r ρ x v) : lo_r ρ (sv_st1 lv k x) (ev_st1 elv k v) := (h.cl k).set k hx
theorem lo_r.st2 {ρ : Nat → Int} {lv : List (Option sV)} {elv : List (Option eV)} (h : lo_r ρ lv elv) (k : Nat) {x : sV} {v : eV} (hx : sv_r ρ x v) : lo_r ρ (sv_st2 lv k x) (ev_st2 elv k v) := ((h.cl k).set k (x := some x) (v := some v) hx).set (k + 1) (x := none) (v := none) True.intro
theorem sv_ty2 {ρ : Nat → Int} {x : sV} {v : eV} (h : sv_r ρ x v) (ht : sv_ty x = 2) : ∃ z : UInt64, v = eD z := by
  rcases x with ((x | x) | ((x | x) | x)) | ((x | x) | x)
  · cases ht
  · cases ht
  · exact ⟨x, h.symm⟩
  · cases ht
  · have ht : (if x = 0 then 9 else 4) = 2 := ht
    split at ht <;> cases ht
  · cases ht
  · cases ht
  · cases ht
theorem sv_ty3 {ρ : Nat → Int} {x : sV} {v : eV} (h : sv_r ρ x v) (ht : sv_ty x = 3) : ∃ z : UInt32, v = eF z := by
  rcases x with ((x | x) | ((x | x) | x)) | ((x | x) | x)
  · cases ht
  · cases ht
  · cases ht
  · exact ⟨x, h.symm⟩
  · have ht : (if x = 0 then 9 else 4) = 3 := ht
    split at ht <;> cases ht
  · cases ht
  · cases ht
  · cases ht
theorem sv_ty4 {ρ : Nat → Int} {x : sV} {v : eV} (h : sv_r ρ x v) (ht : sv_ty x = 4) : ∃ z : Nat, v = eR z ∧ 0 < z := by
  rcases x with ((x | x) | ((x | x) | x)) | ((x | x) | x)
  · cases ht
  · cases ht
  · cases ht
  · cases ht
  · have ht : (if x = 0 then 9 else 4) = 4 := ht
    split at ht
    · cases ht
    · exact ⟨x, h.symm, by omega⟩
  · cases ht
  · cases ht
  · cases ht
theorem sv_ld_I {ρ : Nat → Int} {lv lv' : List (Option sV)} {elv : List (Option eV)} {k : Nat} {st st' : List sV} {est : List eV} (hl : lo_r ρ lv elv) (hs : sl_r ρ st est) (h : sv_ld 0 lv k st = some (lv', st')) : ∃ elv' est', ev_ldI elv k est = some (elv', est') ∧ lo_r ρ lv' elv' ∧ sl_r ρ st' est' := by
  unfold sv_ld at h
  split at h
  · rename_i x hx
    split at h
    · rename_i ht
      cases h
      obtain ⟨v, h1, h2⟩ := hl.get hx
      obtain ⟨z, rfl⟩ := sv_ty0 h2 ht
      refine ⟨elv, eI z :: est, ?_, hl, h2, hs⟩
      unfold ev_ldI
      rw [h1]
    · cases h
  · cases h
theorem sv_ld_J {ρ : Nat → Int} {lv lv' : List (Option sV)} {elv : List (Option eV)} {k : Nat} {st st' : List sV} {est : List eV} (hl : lo_r ρ lv elv) (hs : sl_r ρ st est) (h : sv_ld 1 lv k st = some (lv', st')) : ∃ elv' est', ev_ldJ elv k est = some (elv', est') ∧ lo_r ρ lv' elv' ∧ sl_r ρ st' est' := by
  unfold sv_ld at h
  split at h
  · rename_i x hx
    split at h
    · rename_i ht
      cases h
      obtain ⟨v, h1, h2⟩ := hl.get hx
      obtain ⟨z, rfl⟩ := sv_ty1 h2 ht
      refine ⟨elv, eJ z :: est, ?_, hl, h2, hs⟩
      unfold ev_ldJ
      rw [h1]
    · cases h
  · cases h
theorem sv_ld_D {ρ : Nat → Int} {lv lv' : List (Option sV)} {elv : List (Option eV)} {k : Nat} {st st' : List sV} {est : List eV} (hl : lo_r ρ lv elv) (hs : sl_r ρ st est) (h : sv_ld 2 lv k st = some (lv', st')) : ∃ elv' est', ev_ldD elv k est = some (elv', est') ∧ lo_r ρ lv' elv' ∧ sl_r ρ st' est' := by
  unfold sv_ld at h
  split at h
  · rename_i x hx
    split at h
    · rename_i ht
      cases h
      obtain ⟨v, h1, h2⟩ := hl.get hx
      obtain ⟨z, rfl⟩ := sv_ty2 h2 ht
      refine ⟨elv, eD z :: est, ?_, hl, h2, hs⟩
      unfold ev_ldD
      rw [h1]
    · cases h
  · cases h
theorem sv_ld_F {ρ : Nat → Int} {lv lv' : List (Option sV)} {elv : List (Option eV)} {k : Nat} {st st' : List sV} {est : List eV} (hl : lo_r ρ lv elv) (hs : sl_r ρ st est) (h : sv_ld 3 lv k st = some (lv', st')) : ∃ elv' est', ev_ldF elv k est = some (elv', est') ∧ lo_r ρ lv' elv' ∧ sl_r ρ st' est' := by
  unfold sv_ld at h
  split at h
  · rename_i x hx
    split at h
    · rename_i ht
      cases h
      obtain ⟨v, h1, h2⟩ := hl.get hx
      obtain ⟨z, rfl⟩ := sv_ty3 h2 ht
      refine ⟨elv, eF z :: est, ?_, hl, h2, hs⟩
      unfold ev_ldF
      rw [h1]
    · cases h
  · cases h
theorem sv_ld_R {ρ : Nat → Int} {lv lv' : List (Option sV)} {elv : List (Option eV)} {k : Nat} {st st' : List sV} {est : List eV} (hl : lo_r ρ lv elv) (hs : sl_r ρ st est) (h : sv_ld 4 lv k st = some (lv', st')) : ∃ elv' est', ev_ldR elv k est = some (elv', est') ∧ lo_r ρ lv' elv' ∧ sl_r ρ st' est' := by
  unfold sv_ld at h
  split at h
  · rename_i x hx
    split at h
    · rename_i ht
      cases h
      obtain ⟨v, h1, h2⟩ := hl.get hx
      obtain ⟨z, rfl, h0⟩ := sv_ty4 h2 ht
      refine ⟨elv, eR z :: est, ?_, hl, h2, hs⟩
      unfold ev_ldR
      rw [h1]
      show (if 0 < z then _ else none) = _
      rw [if_pos h0]
    · cases h
  · cases h
def sv_sr (t : Nat) (lv : List (Option sV)) (k : Nat) (st : List sV) : Option (List (Option sV) × List sV) := match st with
  | v :: r => if sv_ty v = t ∧ k < lv.length then fz_O (sv_st1 lv k v) (fun lv' => some (lv', r)) else none
  | _ => none
def sv_sr2 (t : Nat) (lv : List (Option sV)) (k : Nat) (st : List sV) : Option (List (Option sV) × List sV) := match st with
  | v :: r => if sv_ty v = t ∧ k + 1 < lv.length then fz_O (sv_st2 lv k v) (fun lv' => some (lv', r)) else none
  | _ => none
theorem sv_sr_I {ρ : Nat → Int} {lv lv' : List (Option sV)} {elv : List (Option eV)} {k : Nat} {st st' : List sV} {est : List eV} (hl : lo_r ρ lv elv) (hs : sl_r ρ st est) (h : sv_sr 0 lv k st = some (lv', st')) : ∃ elv' est', ev_srI elv k est = some (elv', est') ∧ lo_r ρ lv' elv' ∧ sl_r ρ st' est' := by
  unfold sv_sr at h
  split at h
  · split at h
    · rename_i h0
      rw [fz_O_eq] at h
      cases h
      match est, hs with
      | v :: rs, hs =>
        obtain ⟨z, rfl⟩ := sv_ty0 hs.1 h0.1
        refine ⟨_, rs, ?_, hl.st1 k hs.1, hs.2⟩
        show (if k < elv.length then _ else none) = _
        rw [if_pos (by rw [← hl.1]; exact h0.2)]
      | [], hs => exact absurd hs id
    · cases h
  · cases h
theorem sv_sr_J {ρ : Nat → Int} {lv lv' : List (Option sV)} {elv : List (Option eV)} {k : Nat} {st st' : List sV} {est : List eV} (hl : lo_r ρ lv elv) (hs : sl_r ρ st est) (h : sv_sr2 1 lv k st = some (lv', st')) : ∃ elv' est', ev_srJ elv k est = some (elv', est') ∧ lo_r ρ lv' elv' ∧ sl_r ρ st' est' := by
  unfold sv_sr2 at h
  split at h
  · split at h
    · rename_i h0
      rw [fz_O_eq] at h
      cases h
      match est, hs with
      | v :: rs, hs =>
        obtain ⟨z, rfl⟩ := sv_ty1 hs.1 h0.1
        refine ⟨_, rs, ?_, hl.st2 k hs.1, hs.2⟩
        show (if k + 1 < elv.length then _ else none) = _
        rw [if_pos (by rw [← hl.1]; exact h0.2)]
      | [], hs => exact absurd hs id
    · cases h
  · cases h
theorem sv_sr_D {ρ : Nat → Int} {lv lv' : List (Option sV)} {elv : List (Option eV)} {k : Nat} {st st' : List sV} {est : List eV} (hl : lo_r ρ lv elv) (hs : sl_r ρ st est) (h : sv_sr2 2 lv k st = some (lv', st')) : ∃ elv' est', ev_srD elv k est = some (elv', est') ∧ lo_r ρ lv' elv' ∧ sl_r ρ st' est' := by
  unfold sv_sr2 at h
  split at h
  · split at h
    · rename_i h0
      rw [fz_O_eq] at h
      cases h
      match est, hs with
      | v :: rs, hs =>
        obtain ⟨z, rfl⟩ := sv_ty2 hs.1 h0.1
        refine ⟨_, rs, ?_, hl.st2 k hs.1, hs.2⟩
        show (if k + 1 < elv.length then _ else none) = _
        rw [if_pos (by rw [← hl.1]; exact h0.2)]
      | [], hs => exact absurd hs id
    · cases h
  · cases h
theorem sv_sr_R {ρ : Nat → Int} {lv lv' : List (Option sV)} {elv : List (Option eV)} {k : Nat} {st st' : List sV} {est : List eV} (hl : lo_r ρ lv elv) (hs : sl_r ρ st est) (h : sv_sr 4 lv k st = some (lv', st')) : ∃ elv' est', ev_srR elv k est = some (elv', est') ∧ lo_r ρ lv' elv' ∧ sl_r ρ st' est' := by
  unfold sv_sr at h
  split at h
  · split at h
    · rename_i h0
      rw [fz_O_eq] at h
      cases h
      match est, hs with
      | v :: rs, hs =>
        obtain ⟨z, rfl, hz⟩ := sv_ty4 hs.1 h0.1
        refine ⟨_, rs, ?_, hl.st1 k hs.1, hs.2⟩
        show (if k < elv.length ∧ 0 < z then _ else none) = _
        rw [if_pos ⟨by rw [← hl.1]; exact h0.2, hz⟩]
      | [], hs => exact absurd hs id
    · cases h
  · cases h
def sv_inc (B : sB) (lv : List (Option sV)) (k : Nat) (n : Int) (st : List sV) : Option (List (Option sV) × List sV) := match lv[k]? with
  | some (some (.inl (.inl (.inl x)))) => fz_I (ev_w (x + n)) fun z => fz_O (sv_st1 lv k (.inl (eI z))) fun lv' => some (lv', st)
  | some (some (.inr (.inl a))) => (match sc_b B (.inr (.inl a)) with
    | some b => some (sv_st1 lv k (sI (some (sv_rw (b.1 + n, b.2 + n)))), st)
    | none => some (sv_st1 lv k (sI none), st))
  | _ => none
theorem sv_inc_ok {ρ : Nat → Int} {B : sB} {lv lv' : List (Option sV)} {elv : List (Option eV)} {k : Nat} {n : Int} {st st' : List sV} {est : List eV} (hB : sb_in ρ B) (hl : lo_r ρ lv elv) (hs : sl_r ρ st est) (h : sv_inc B lv k n st = some (lv', st')) : ∃ elv' est', ev_inc elv k n est = some (elv', est') ∧ lo_r ρ lv' elv' ∧ sl_r ρ st' est' := by
  unfold sv_inc at h
  split at h
  · rename_i x hx
    rw [fz_I_eq, fz_O_eq] at h
    cases h
    obtain ⟨v, h1, h2⟩ := hl.get hx
    have h2 : eI x = v := h2
    subst h2
    refine ⟨ev_st1 elv k (eI (ev_w (x + n))), est, ?_, hl.st1 k rfl, hs⟩
    unfold ev_inc
    rw [h1]
  · rename_i a hx
    obtain ⟨v, h1, h2⟩ := hl.get hx
    obtain ⟨z, rfl⟩ := sv_ty0 h2 rfl
    have hev : ev_inc elv k n est = some (ev_st1 elv k (eI (ev_w (z + n))), est) := by
      unfold ev_inc
      rw [h1]
    split at h
    · rename_i b hb
      cases h
      obtain ⟨z', e, h3⟩ := sc_b_ok hB h2 hb
      cases e
      refine ⟨_, _, hev, hl.st1 k (sv_sI fun b' hb' => ?_), hs⟩
      cases hb'
      exact sv_rw_ok (by simp only; omega)
    · cases h
      exact ⟨_, _, hev, hl.st1 k (sv_sI fun b' hb' => by cases hb'), hs⟩
  · cases h
/-- all plain instructions -/
def sv_s (B : sB) (i : Instr) (lv : List (Option sV)) (st : List sV) : Option (List (Option sV) × List sV) := match i with
  | .iload k => sv_ld 0 lv k st
  | .iload_n k => sv_ld 0 lv k.val st
  | .lload k => sv_ld 1 lv k st
  | .lload_n k => sv_ld 1 lv k.val st
  | .dload k => sv_ld 2 lv k st
  | .dload_n k => sv_ld 2 lv k.val st
  | .fload k => sv_ld 3 lv k st
  | .fload_n k => sv_ld 3 lv k.val st
  | .aload k => sv_ld 4 lv k st
  | .aload_n k => sv_ld 4 lv k.val st
  | .istore k => sv_sr 0 lv k st
  | .istore_n k => sv_sr 0 lv k.val st
  | .lstore k => sv_sr2 1 lv k st
  | .lstore_n k => sv_sr2 1 lv k.val st
  | .dstore k => sv_sr2 2 lv k st
  | .dstore_n k => sv_sr2 2 lv k.val st
  | .astore k => sv_sr 4 lv k st
  | .astore_n k => sv_sr 4 lv k.val st
  | .iinc k n => sv_inc B lv k n st
  | i => (match sv_ar i with
    | some a => if a ≤ st.length then (match sv_c (st.take a) with
      | some es => (match ev_s i [] es with
        | some z => some (lv, z.2.map .inl ++ st.drop a)
        | none => none)
      | none => (match sv_ab B i st with
        | some s => some (lv, s)
        | none => none)) else none
    | none => none)
set_option maxHeartbeats 1000000 in
theorem sv_s_ok {ρ : Nat → Int} {B : sB} {i : Instr} {lv lv' : List (Option sV)} {elv : List (Option eV)} {st st' : List sV} {est : List eV} (hB : sb_in ρ B) (hl : lo_r ρ lv elv) (hs : sl_r ρ st est) (h : sv_s B i lv st = some (lv', st')) : ∃ elv' est', ev_s i elv est = some (elv', est') ∧ lo_r ρ lv' elv' ∧ sl_r ρ st' est' := by
  have gen : (match sv_ar i with
    | some a => if a ≤ st.length then (match sv_c (st.take a) with
      | some es => (match ev_s i [] es with
        | some z => some (lv, z.2.map .inl ++ st.drop a)
        | none => none)
      | none => (match sv_ab B i st with
        | some s => some (lv, s)
        | none => none)) else none
    | none => none) = some (lv', st') → ∃ elv' est', ev_s i elv est = some (elv', est') ∧ lo_r ρ lv' elv' ∧ sl_r ρ st' est' := by
    intro h
    split at h
    · rename_i a ha
      split at h
      · rename_i hal
        split at h
        · rename_i es hes
          split at h
          · rename_i z hz
            cases h
            have htk := sl_r_take a st est hs
            have e1 := sv_c_ok _ _ _ hes htk.1
            subst e1
            have hlen : (est.take a).length = a := by
              rw [List.length_take, ← sl_r_len _ _ hs]
              omega
            have h2 := sv_fr ha hlen (lv' := z.1) (r := z.2) hz elv (est.drop a)
            rw [List.take_append_drop] at h2
            exact ⟨elv, _, h2, hl, sl_r_app _ _ _ _ (sl_r_inl _) htk.2⟩
          · cases h
        · split at h
          · rename_i s hsb
            cases h
            obtain ⟨est', h1, h2⟩ := sv_ab_ok hB hs hsb elv
            exact ⟨elv, est', h1, hl, h2⟩
          · cases h
      · cases h
    · cases h
  cases i
  case iload k => exact sv_ld_I hl hs h
  case iload_n k => exact sv_ld_I hl hs h
  case lload k => exact sv_ld_J hl hs h
  case lload_n k => exact sv_ld_J hl hs h
  case dload k => exact sv_ld_D hl hs h
  case dload_n k => exact sv_ld_D hl hs h
  case fload k => exact sv_ld_F hl hs h
  case fload_n k => exact sv_ld_F hl hs h
  case aload k => exact sv_ld_R hl hs h
  case aload_n k => exact sv_ld_R hl hs h
  case istore k => exact sv_sr_I hl hs h
  case istore_n k => exact sv_sr_I hl hs h
  case lstore k => exact sv_sr_J hl hs h
  case lstore_n k => exact sv_sr_J hl hs h
  case dstore k => exact sv_sr_D hl hs h
  case dstore_n k => exact sv_sr_D hl hs h
  case astore k => exact sv_sr_R hl hs h
  case astore_n k => exact sv_sr_R hl hs h
  case iinc k n => exact sv_inc_ok hB hl hs h
  all_goals exact gen h
