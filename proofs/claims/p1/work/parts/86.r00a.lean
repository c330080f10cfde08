/-! rows of the law, decoded and linked, a piece at a time -/
noncomputable def dt_sub : List Bool → Lean.RArray eL → Lean.RArray eL
  | [], t => t
  | _ :: _, .leaf q => .leaf q
  | false :: p, .branch _ l _ => dt_sub p l
  | true :: p, .branch _ _ r => dt_sub p r
theorem dt_sub_all {P : eL → Bool} : ∀ (p : List Bool) (t : Lean.RArray eL), dt_all P (dt_sub (p ++ [false]) t) = true → dt_all P (dt_sub (p ++ [true]) t) = true → dt_all P (dt_sub p t) = true := by
  intro p
  induction p with
  | nil =>
    intro t h1 h2
    cases t with
    | leaf q => exact h1
    | branch i l r =>
      show (dt_all P l && dt_all P r) = true
      rw [Bool.and_eq_true]
      exact ⟨h1, h2⟩
  | cons b p ih =>
    intro t h1 h2
    cases t with
    | leaf q =>
      cases b <;> exact h1
    | branch i l r =>
      cases b
      · exact ih l h1 h2
      · exact ih r h1 h2
theorem dt_r0_0000 : dt_all (dt_row 0) (dt_sub [false, false, false, false] (dt_co 0)) = true := by decide +kernel
theorem dt_r0_0001 : dt_all (dt_row 0) (dt_sub [false, false, false, true] (dt_co 0)) = true := by decide +kernel
theorem dt_r0_0010 : dt_all (dt_row 0) (dt_sub [false, false, true, false] (dt_co 0)) = true := by decide +kernel
theorem dt_r0_0011 : dt_all (dt_row 0) (dt_sub [false, false, true, true] (dt_co 0)) = true := by decide +kernel
