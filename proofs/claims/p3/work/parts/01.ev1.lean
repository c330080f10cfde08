/-! THE SMALL MACHINE: values. An int or long is any whole number that stands for it; a reference is a number: 0 null, 1 to 63 what was there before, from 64 on the cells made in this run, in their order -/
abbrev eV : Type := (Int ⊕ Int) ⊕ ((UInt64 ⊕ UInt32) ⊕ Nat)
abbrev eI (x : Int) : eV := .inl (.inl x)
abbrev eJ (x : Int) : eV := .inl (.inr x)
abbrev eD (b : UInt64) : eV := .inr (.inl (.inl b))
abbrev eF (b : UInt32) : eV := .inr (.inl (.inr b))
abbrev eR (r : Nat) : eV := .inr (.inr r)
def ev_r (ad : Nat → Nat) : Nat → Value
  | 0 => .null
  | r + 1 => .ref (ad (r + 1))
def ev_c (ad : Nat → Nat) : eV → Value
  | .inl (.inl x) => .int (Int32.ofInt x)
  | .inl (.inr x) => .long (Int64.ofInt x)
  | .inr (.inl (.inl b)) => .double b
  | .inr (.inl (.inr b)) => .float b
  | .inr (.inr r) => ev_r ad r
def ev_cat : eV → Nat
  | .inl (.inr _) => 2
  | .inr (.inl (.inl _)) => 2
  | _ => 1
theorem ev_cat_ok (ad : Nat → Nat) (v : eV) : (ev_c ad v).category = ev_cat v := by
  rcases v with (x | x) | ((x | x) | x)
  · rfl
  · rfl
  · rfl
  · rfl
  · cases x <;> rfl
/-- the int, the long for which a whole number stands -/
def ev_w (x : Int) : Int := (x + 2147483648) % 4294967296 - 2147483648
def ev_W (x : Int) : Int := (x + 9223372036854775808) % 18446744073709551616 - 9223372036854775808
theorem ev_w_ok (x : Int) : (Int32.ofInt x).toInt = ev_w x := by
  rw [Int32.toInt_ofInt]
  show x.bmod 4294967296 = ev_w x
  unfold ev_w
  rw [Int.bmod_def]
  split <;> omega
theorem ev_W_ok (x : Int) : (Int64.ofInt x).toInt = ev_W x := by
  rw [Int64.toInt_ofInt]
  show x.bmod 18446744073709551616 = ev_W x
  unfold ev_W
  rw [Int.bmod_def]
  split <;> omega
theorem ev_w_in {x : Int} (h1 : -2147483648 ≤ x) (h2 : x < 2147483648) : ev_w x = x := by unfold ev_w; omega
theorem ev_W_in {x : Int} (h1 : -9223372036854775808 ≤ x) (h2 : x < 9223372036854775808) : ev_W x = x := by unfold ev_W; omega
theorem ev_w_lo (x : Int) : -2147483648 ≤ ev_w x := by unfold ev_w; omega
theorem ev_w_hi (x : Int) : ev_w x < 2147483648 := by unfold ev_w; omega
theorem ev_lt (x y : Int) : Int32.ofInt x < Int32.ofInt y ↔ ev_w x < ev_w y := by rw [Int32.lt_iff_toInt_lt, ev_w_ok, ev_w_ok]
theorem ev_le (x y : Int) : Int32.ofInt x ≤ Int32.ofInt y ↔ ev_w x ≤ ev_w y := by rw [Int32.le_iff_toInt_le, ev_w_ok, ev_w_ok]
theorem ev_eq (x y : Int) : Int32.ofInt x = Int32.ofInt y ↔ ev_w x = ev_w y := by rw [← Int32.toInt_inj, ev_w_ok, ev_w_ok]
theorem ev_lt0 (x : Int) : Int32.ofInt x < 0 ↔ ev_w x < 0 := by rw [Int32.lt_iff_toInt_lt, ev_w_ok]; rfl
theorem ev_le0 (x : Int) : Int32.ofInt x ≤ 0 ↔ ev_w x ≤ 0 := by rw [Int32.le_iff_toInt_le, ev_w_ok]; rfl
theorem ev_gt0 (x : Int) : 0 < Int32.ofInt x ↔ 0 < ev_w x := by rw [Int32.lt_iff_toInt_lt, ev_w_ok]; rfl
theorem ev_ge0 (x : Int) : 0 ≤ Int32.ofInt x ↔ 0 ≤ ev_w x := by rw [Int32.le_iff_toInt_le, ev_w_ok]; rfl
theorem ev_eq0 (x : Int) : Int32.ofInt x = 0 ↔ ev_w x = 0 := by rw [← Int32.toInt_inj, ev_w_ok]; rfl
theorem ev_ltW (x y : Int) : Int64.ofInt x < Int64.ofInt y ↔ ev_W x < ev_W y := by rw [Int64.lt_iff_toInt_lt, ev_W_ok, ev_W_ok]
theorem ev_eqW (x y : Int) : Int64.ofInt x = Int64.ofInt y ↔ ev_W x = ev_W y := by rw [← Int64.toInt_inj, ev_W_ok, ev_W_ok]
theorem ev_ofw (x : Int) : Int32.ofInt (ev_w x) = Int32.ofInt x := by rw [← ev_w_ok, Int32.ofInt_toInt]
theorem ev_ofW (x : Int) : Int64.ofInt (ev_W x) = Int64.ofInt x := by rw [← ev_W_ok, Int64.ofInt_toInt]
theorem ev_nat (x : Int) : (Int32.ofInt x).toNatClampNeg = (ev_w x).toNat := by show (Int32.ofInt x).toInt.toNat = _; rw [ev_w_ok]
/-- an index within -/
theorem ev_in {x : Int} {n : Nat} (h : 0 ≤ ev_w x ∧ ev_w x < n) : vp_in (Int32.ofInt x) n := by
  intro q
  rcases q with q | q
  · have := (ev_lt0 x).mp q
    omega
  · rw [ev_nat] at q
    omega
/-! the locals: as many as the method has; what isn't known is none -/
def ev_LH (ad : Nat → Nat) (ls : Array Slot) (nL : Nat) (lv : List (Option eV)) : Prop := ls.size = nL ∧ lv.length = nL ∧ lv_wf ls ∧ ∀ (i : Nat) (v : eV), lv[i]? = some (some v) → ls[i]? = some (.val (ev_c ad v))
def ev_sl (ad : Nat → Nat) (lv : List (Option eV)) : List (Nat × Value) := (List.range lv.length).filterMap fun i => match lv[i]? with
  | some (some v) => some (i, ev_c ad v)
  | _ => none
theorem ev_sl_mem {ad : Nat → Nat} {lv : List (Option eV)} {i : Nat} {v : eV} (h : lv[i]? = some (some v)) : (i, ev_c ad v) ∈ ev_sl ad lv := by
  refine List.mem_filterMap.mpr ⟨i, List.mem_range.mpr (List.getElem?_eq_some_iff.mp h).1, ?_⟩
  simp only [h]
theorem ev_sl_of {ad : Nat → Nat} {lv : List (Option eV)} {q : Nat × Value} (h : q ∈ ev_sl ad lv) : ∃ v, lv[q.1]? = some (some v) ∧ q.2 = ev_c ad v := by
  obtain ⟨i, -, hi⟩ := List.mem_filterMap.mp h
  split at hi
  · rename_i v hv
    cases hi
    exact ⟨v, hv, rfl⟩
  · cases hi
theorem ev_LH.has {ad : Nat → Nat} {ls : Array Slot} {nL : Nat} {lv : List (Option eV)} (h : ev_LH ad ls nL lv) : lv_has ls nL (ev_sl ad lv) := by
  refine ⟨h.1, h.2.2.1, fun q hq => ?_⟩
  obtain ⟨v, h1, h2⟩ := ev_sl_of hq
  rw [h2]
  exact h.2.2.2 _ _ h1
/-- what a store spoils: the first half of a long that ends there -/
def ev_cl (lv : List (Option eV)) (i : Nat) : List (Option eV) := match i with
  | 0 => lv
  | j + 1 => match lv[j]? with
    | some (some v) => if ev_cat v = 2 then lv.set j none else lv
    | _ => lv
def ev_st1 (lv : List (Option eV)) (i : Nat) (v : eV) : List (Option eV) := (ev_cl lv i).set i (some v)
def ev_st2 (lv : List (Option eV)) (i : Nat) (v : eV) : List (Option eV) := ((ev_cl lv i).set i (some v)).set (i + 1) none
theorem ev_cl_len (lv : List (Option eV)) (i : Nat) : (ev_cl lv i).length = lv.length := by
  unfold ev_cl
  split
  · rfl
  · split
    · split
      · simp
      · rfl
    · rfl
theorem ev_cl_get {lv : List (Option eV)} {i j : Nat} {w : eV} (h : (ev_cl lv i)[j]? = some (some w)) : lv[j]? = some (some w) ∧ ¬ (j + 1 = i ∧ ev_cat w = 2) := by
  unfold ev_cl at h
  split at h
  · exact ⟨h, fun q => by omega⟩
  · rename_i k
    split at h
    · rename_i v hv
      split at h
      · rename_i hc
        rw [List.getElem?_set] at h
        split at h
        · split at h <;> cases h
        · rename_i hkj
          exact ⟨h, fun q => hkj (by omega)⟩
      · rename_i hc
        refine ⟨h, fun q => ?_⟩
        have : j = k := by omega
        subst this
        rw [hv] at h
        cases h
        exact hc q.2
    · rename_i hv
      refine ⟨h, fun q => ?_⟩
      have : j = k := by omega
      subst this
      exact hv _ h
theorem ev_LH_st1 {ad : Nat → Nat} {ls : Array Slot} {nL i : Nat} {lv : List (Option eV)} {v : eV} (hn : lv.length = nL)
    (h : lv_has ls nL ((i, ev_c ad v) :: (ev_sl ad lv).filter (fun q => !(q.1 == i) && !(q.1 + 1 == i && q.2.category == 2)))) : ev_LH ad ls nL (ev_st1 lv i v) := by
  refine ⟨h.1, by unfold ev_st1; rw [List.length_set, ev_cl_len, hn], h.2.1, fun j w hj => ?_⟩
  unfold ev_st1 at hj
  rw [List.getElem?_set] at hj
  split at hj
  · rename_i hij
    subst hij
    split at hj
    · cases hj
      exact h.2.2 (i, ev_c ad v) List.mem_cons_self
    · cases hj
  · rename_i hij
    obtain ⟨h1, h2⟩ := ev_cl_get hj
    refine h.2.2 (j, ev_c ad w) (List.mem_cons_of_mem _ (List.mem_filter.mpr ⟨ev_sl_mem h1, ?_⟩))
    have h3 : ¬ j = i := fun q => hij q.symm
    simp only [ev_cat_ok]
    simp [h3]
    by_cases q1 : j + 1 = i
    · exact Or.inr fun q2 => h2 ⟨q1, q2⟩
    · exact Or.inl q1
theorem ev_LH_st2 {ad : Nat → Nat} {ls : Array Slot} {nL i : Nat} {lv : List (Option eV)} {v : eV} (hn : lv.length = nL)
    (h : lv_has ls nL ((i, ev_c ad v) :: (ev_sl ad lv).filter (fun q => !(q.1 == i) && (!(q.1 == i + 1) && !(q.1 + 1 == i && q.2.category == 2))))) : ev_LH ad ls nL (ev_st2 lv i v) := by
  refine ⟨h.1, by unfold ev_st2; rw [List.length_set, List.length_set, ev_cl_len, hn], h.2.1, fun j w hj => ?_⟩
  unfold ev_st2 at hj
  rw [List.getElem?_set] at hj
  split at hj
  · split at hj <;> cases hj
  · rename_i hij1
    rw [List.getElem?_set] at hj
    split at hj
    · rename_i hij
      subst hij
      split at hj
      · cases hj
        exact h.2.2 (i, ev_c ad v) List.mem_cons_self
      · cases hj
    · rename_i hij
      obtain ⟨h1, h2⟩ := ev_cl_get hj
      refine h.2.2 (j, ev_c ad w) (List.mem_cons_of_mem _ (List.mem_filter.mpr ⟨ev_sl_mem h1, ?_⟩))
      have h3 : ¬ j = i := fun q => hij q.symm
      have h4 : ¬ j = i + 1 := fun q => hij1 q.symm
      simp only [ev_cat_ok]
      simp [h3, h4]
      by_cases q1 : j + 1 = i
      · exact Or.inr fun q2 => h2 ⟨q1, q2⟩
      · exact Or.inl q1
