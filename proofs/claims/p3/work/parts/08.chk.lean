/-! what is checked of the program's data -/
def dt_G : List Cond := lw_tbl.filter goodWord
noncomputable def dt_nm (y : Nat) : MethodName := dt_nm_t.get y
noncomputable def dt_by (y : Nat) : ByteArray := dt_by_t.get y
noncomputable def dt_pl (y : Nat) : Nat × Nat × Nat × Nat × Nat × Nat × Nat × Nat := dt_pl_t.get y
noncomputable def dt_co (y : Nat) : Lean.RArray eL := dt_co_t.get y
noncomputable def dt_mx (y : Nat) : Nat := (dt_pl y).1
noncomputable def dt_rt (y : Nat) : Option FieldType := match (dt_pl y).2.1 with
  | 1 => some .int
  | 2 => some .boolean
  | 3 => some .long
  | 4 => some .double
  | 5 => (parseMethodDescriptor (dt_nm y).desc).bind fun q => q.returnType
  | _ => none
theorem dt_inG {w : Cond} {i : Nat} (h : lw_tbl[i]? = some w) (hg : goodWord w = true) : w ∈ dt_G := List.mem_filter.mpr ⟨List.mem_of_getElem? h, hg⟩
/-- a field's link: its class, slot, type, the word's place -/
def dt_fck (own : String) (idx a b c d : Nat) : Bool := match vwCl[a]?, lw_tbl[d]? with
  | some (_, T, N), some w => decide (b < N) && decide (a < 100) && decide ((dt_lay a)[b]? = some c) && (match w with
    | .fieldLink o i r n ds => decide (o = own ∧ i = idx ∧ r = (T b).1 ∧ n = (T b).2.1 ∧ ds = (T b).2.2.1)
    | .fieldLinkNest o i r n ds _ => decide (o = own ∧ i = idx ∧ r = (T b).1 ∧ n = (T b).2.1 ∧ ds = (T b).2.2.1)
    | _ => false)
  | _, _ => false
theorem dt_fck_ok {own : String} {idx a b c d : Nat} (h : dt_fck own idx a b c d = true) : ∃ (C : String) (T : u_T) (N : Nat), vwCl[a]? = some (C, T, N) ∧ b < N ∧ a < 100 ∧ (dt_lay a)[b]? = some c ∧
    (Cond.fieldLink own idx (T b).1 (T b).2.1 (T b).2.2.1 ∈ dt_G ∨ ∃ q : String, Cond.fieldLinkNest own idx (T b).1 (T b).2.1 (T b).2.2.1 q ∈ lw_tbl) := by
  unfold dt_fck at h
  split at h
  · rename_i C T N w hv hw
    simp only [Bool.and_eq_true, decide_eq_true_eq] at h
    obtain ⟨⟨⟨h1, h2⟩, h3⟩, h4⟩ := h
    refine ⟨C, T, N, hv, h1, h2, h3, ?_⟩
    split at h4
    · rename_i o i r n ds
      obtain ⟨rfl, rfl, rfl, rfl, rfl⟩ := of_decide_eq_true h4
      exact Or.inl (dt_inG hw rfl)
    · rename_i o i r n ds q
      obtain ⟨rfl, rfl, rfl, rfl, rfl⟩ := of_decide_eq_true h4
      exact Or.inr ⟨q, List.mem_of_getElem? hw⟩
    · cases h4
  · cases h
/-- the type of a field by its number -/
def dt_tyk (t : Nat) (ty : FieldType) : Bool := match ty with
  | .int => t == 0
  | .boolean => t == 1
  | .long => t == 2
  | .object _ => t == 3
  | .array _ => t == 3
  | _ => false
