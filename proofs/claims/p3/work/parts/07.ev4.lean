/-! THE SMALL MACHINE: memory. Cells are rows of whole numbers; a cell's kind: below 100 a class (its place in vwCl), 100 int[], 101 long[], 102 byte[], 103 boolean[] -/
abbrev eM : Type := (Nat → Nat → Int) × List (Nat × Nat) × Nat
/-- where the run's cells begin; the classes' numbers, slots; the classes of arrays; addresses of what was there before -/
abbrev eK : Type := Nat × (Nat → ClassId) × (Nat → Nat → Nat) × (Nat → ClassId) × (Nat → Nat)
def ev_ad (k : eK) (r : Nat) : Nat := if r < 64 then k.2.2.2.2 r else k.1 + (r - 64)
theorem ev_ad_new (k : eK) (j : Nat) : ev_ad k (j + 64) = k.1 + j := by
  unfold ev_ad
  rw [if_neg (by omega)]
  omega
def ev_fv (ad : Nat → Nat) (t : Nat) (x : Int) : Value := match t with
  | 2 => .long (Int64.ofInt x)
  | 3 => ev_r ad x.toNat
  | _ => .int (Int32.ofInt x)
def ev_fs (ad : Nat → Nat) (lay : List Nat) (f : Nat → Int) : List Value := lay.mapIdx fun j t => ev_fv ad t (f j)
theorem ev_fs_get {ad : Nat → Nat} {lay : List Nat} {f : Nat → Int} {j t : Nat} (h : lay[j]? = some t) : (ev_fs ad lay f)[j]? = some (ev_fv ad t (f j)) := by
  unfold ev_fs
  rw [List.getElem?_mapIdx, h]
  rfl
theorem ev_fs_len (ad : Nat → Nat) (lay : List Nat) (f : Nat → Int) : (ev_fs ad lay f).length = lay.length := by
  unfold ev_fs
  rw [List.length_mapIdx]
/-- a row with one number changed -/
def ev_u1 (f : Nat → Int) (j : Nat) (x : Int) : Nat → Int := fun q => if q = j then x else f q
theorem ev_u1_at (f : Nat → Int) (j : Nat) (x : Int) : ev_u1 f j x j = x := if_pos rfl
theorem ev_u1_ne {f : Nat → Int} {j q : Nat} {x : Int} (h : q ≠ j) : ev_u1 f j x q = f q := if_neg h
theorem ev_fs_set {ad : Nat → Nat} {lay : List Nat} {f : Nat → Int} {j t : Nat} {x : Int} (h : lay[j]? = some t) : (ev_fs ad lay f).set j (ev_fv ad t x) = ev_fs ad lay (ev_u1 f j x) := by
  apply List.ext_getElem?
  intro q
  rw [List.getElem?_set]
  split
  · rename_i hq
    subst hq
    have hl : j < (ev_fs ad lay f).length := by rw [ev_fs_len]; exact (List.getElem?_eq_some_iff.mp h).1
    rw [if_pos hl, ev_fs_get h, ev_u1_at]
  · rename_i hq
    unfold ev_fs
    rw [List.getElem?_mapIdx, List.getElem?_mapIdx]
    cases lay[q]? with
    | none => rfl
    | some t' =>
      show some (ev_fv ad t' (f q)) = some (ev_fv ad t' (ev_u1 f j x q))
      rw [ev_u1_ne (fun z => hq z.symm)]
def ev_cell (k : eK) (f : Nat → Int) (kd n : Nat) : va_E := if kd < 100 then .inr (kd, ev_fs (ev_ad k) (dt_lay kd) f) else .inl (k.2.2.2.1 (kd - 100), n, if kd = 101 then .inr (.inl fun j => Int64.ofInt (f j)) else .inl fun j => Int32.ofInt (f j))
def ev_Wd (k : eK) (μ : eM) (H : Heap) : Prop := H.size = k.1 + μ.2.1.length ∧ ∀ (j kd n : Nat), μ.2.1[j]? = some (kd, n) → va_at (k.2.1, k.2.2.1) vwCl (k.1 + j, ev_cell k (μ.1 (j + 64)) kd n) H
/-- memory with one row changed -/
def ev_ur (M : Nat → Nat → Int) (r : Nat) (f : Nat → Int) : Nat → Nat → Int := fun q => if q = r then f else M q
/-- memory with one number changed -/
def ev_up (M : Nat → Nat → Int) (r j : Nat) (x : Int) : Nat → Nat → Int := ev_ur M r (ev_u1 (M r) j x)
theorem ev_Wd.set {k : eK} {μ : eM} {H H1 : Heap} (hW : ev_Wd k μ H) {j kd n : Nat} (h : μ.2.1[j]? = some (kd, n)) {f : Nat → Int} (hz : H1.size = H.size) (ho : ∀ q : Nat, q ≠ k.1 + j → H1[q]? = H[q]?)
    (hc : va_at (k.2.1, k.2.2.1) vwCl (k.1 + j, ev_cell k f kd n) H1) : ev_Wd k (ev_ur μ.1 (j + 64) f, μ.2) H1 := by
  refine ⟨hz.trans hW.1, fun j' kd' n' h' => ?_⟩
  show va_at _ _ (k.1 + j', ev_cell k (ev_ur μ.1 (j + 64) f (j' + 64)) kd' n') H1
  unfold ev_ur
  by_cases hj : j' = j
  · subst hj
    cases h.symm.trans h'
    rw [if_pos rfl]
    exact hc
  · rw [if_neg (by omega)]
    exact (hW.2 j' kd' n' h').kept (ho _ (by omega))
theorem ev_Wd.one {k : eK} {μ : eM} {H : Heap} (hW : ev_Wd k μ H) {j kd n : Nat} (h : μ.2.1[j]? = some (kd, n)) : va_P (k.2.1, k.2.2.1) vwCl [(k.1 + j, ev_cell k (μ.1 (j + 64)) kd n)] H := by
  intro q x hx
  cases q with
  | zero =>
    cases hx
    exact hW.2 j kd n h
  | succ q => cases hx
theorem ev_Wd.push {k : eK} {μ : eM} {H H1 : Heap} (hW : ev_Wd k μ H) {kd n u : Nat} {f : Nat → Int} (hz : H1.size = H.size + 1) (ho : ∀ q : Nat, q < H.size → H1[q]? = H[q]?)
    (hc : va_at (k.2.1, k.2.2.1) vwCl (H.size, ev_cell k f kd n) H1) : ev_Wd k (ev_ur μ.1 (μ.2.1.length + 64) f, μ.2.1 ++ [(kd, n)], u) H1 := by
  refine ⟨by rw [hz, hW.1, List.length_append]; rfl, fun j' kd' n' h' => ?_⟩
  have h' : (μ.2.1 ++ [(kd, n)])[j']? = some (kd', n') := h'
  show va_at _ _ (k.1 + j', ev_cell k (ev_ur μ.1 (μ.2.1.length + 64) f (j' + 64)) kd' n') H1
  unfold ev_ur
  by_cases hj : j' < μ.2.1.length
  · rw [List.getElem?_append_left hj] at h'
    rw [if_neg (by omega)]
    exact (hW.2 j' kd' n' h').kept (ho _ (by rw [hW.1]; omega))
  · have hj2 : j' < (μ.2.1 ++ [(kd, n)]).length := (List.getElem?_eq_some_iff.mp h').1
    rw [List.length_append] at hj2
    have hj3 : j' = μ.2.1.length := by
      have : ([(kd, n)] : List (Nat × Nat)).length = 1 := rfl
      omega
    subst hj3
    rw [List.getElem?_append_right (Nat.le_refl _), Nat.sub_self] at h'
    cases h'
    rw [if_pos rfl, ← hW.1]
    exact hc
/-- a field's number as a value, and back -/
def ev_pv (t : Nat) (x : Int) : eV := match t with
  | 2 => eJ x
  | 3 => eR x.toNat
  | _ => eI x
theorem ev_pv_ok (ad : Nat → Nat) (t : Nat) (x : Int) : ev_c ad (ev_pv t x) = ev_fv ad t x := by
  unfold ev_pv ev_fv
  split <;> rfl
def ev_qv (t : Nat) (v : eV) : Option Int := match t, v with
  | 0, .inl (.inl x) => some x
  | 1, .inl (.inl x) => if ev_w x = 0 ∨ ev_w x = 1 then some x else none
  | 2, .inl (.inr x) => some x
  | 3, .inr (.inr r) => some (r : Int)
  | _, _ => none
