/-! FROM THE ABSTRACT STATE at a call to the walks of level, locate, comes -/
set_option maxRecDepth 100000 in
theorem gx_cv2 : y_cv me_0 gv_c = true := by decide +kernel
set_option maxRecDepth 100000 in
theorem gx_cv7 : y_cv me_0 gl_c = true := by decide +kernel
set_option maxRecDepth 100000 in
theorem gx_cv29 : y_cv me_0 gm_c0 = true := by decide +kernel
theorem so_in {ρ : Nat → Int} {v : eV} {x : Option eV} (h : so_r ρ (some (.inl v)) x) : x = some v := by
  cases x with
  | none => exact False.elim h
  | some w =>
    have h : v = w := h
    rw [h]
theorem dt_cv {ρ : Nat → Int} {M : yM} (hm : y_cv me_0 M = true) {pc : Nat} {E : eSt} (h : ss_r ρ (dt_C pc) E) : ∃ μ : eM, E = (40, (0, pc, lw_L, []), [], μ) ∧ yR M μ := by
  obtain ⟨d, ⟨y, p, lv, st⟩, F, μ⟩ := E
  obtain ⟨h1, ⟨h2, h3, h4, h5⟩, h6, h7⟩ := h
  have h1 : 40 = d := h1
  have h2 : 0 = y := h2
  have h3 : pc = p := h3
  have e5 : st = [] := by
    cases st with
    | nil => rfl
    | cons a b => exact False.elim h5
  have e6 : F = [] := by
    cases F with
    | nil => rfl
    | cons a b => exact False.elim h6
  have e4 : lv = lw_L := by
    obtain ⟨hl, hv⟩ := h4
    match lv, hl with
    | [a, b, c, e], _ =>
      have a0 : a = some (eR 1) := so_in (ρ := ρ) (hv 0)
      have a1 : b = some (eR 64) := so_in (ρ := ρ) (hv 1)
      have a2 : c = some (eR 98) := so_in (ρ := ρ) (hv 2)
      have a3 : e = some (eI (Int.ofNat 0)) := so_in (ρ := ρ) (hv 3)
      rw [a0, a1, a2, a3]
      rfl
  exact ⟨μ, by rw [← h1, ← h2, ← h3, e4, e5, e6], y_cv_ok hm h7⟩
theorem dt_b0 {ρ : Nat → Int} (h : sb_in ρ dt_B0) : ∀ i : Nat, i < 8 → -2147483648 ≤ ρ i ∧ ρ i ≤ 2147483647 := by
  intro i hi
  match i, hi with
  | 0, _ => exact h 0 (-2147483648, 2147483647) rfl
  | 1, _ => exact h 1 (-2147483648, 2147483647) rfl
  | 2, _ => exact h 2 (-2147483648, 2147483647) rfl
  | 3, _ => exact h 3 (-2147483648, 2147483647) rfl
  | 4, _ => exact h 4 (-2147483648, 2147483647) rfl
  | 5, _ => exact h 5 (-2147483648, 2147483647) rfl
  | 6, _ => exact h 6 (-2147483648, 2147483647) rfl
  | 7, _ => exact h 7 (-2147483648, 2147483647) rfl
theorem fi_2 : fineL 8 dt_B0 (dt_C 284) := by
  intro ρ E hB hS
  obtain ⟨μ, e, hR⟩ := dt_cv gx_cv2 hS
  rw [e]
  exact lw2 (dt_b0 hB 1 (by decide)) hR
theorem fi_7 : fineL 8 dt_B0 (dt_C 429) := by
  intro ρ E hB hS
  obtain ⟨μ, e, hR⟩ := dt_cv gx_cv7 hS
  rw [e]
  exact lw7 (dt_b0 hB 1 (by decide)) (dt_b0 hB 2 (by decide)) (dt_b0 hB 3 (by decide)) (dt_b0 hB 4 (by decide)) hR
theorem fi_29 : fineL 8 dt_B0 (dt_C 1172) := by
  intro ρ E hB hS
  obtain ⟨μ, e, hR⟩ := dt_cv gx_cv29 hS
  rw [e]
  exact lw29 (dt_b0 hB 1 (by decide)) (dt_b0 hB 2 (by decide)) hR
