/-! the data keep what the law's start asks of them -/
theorem dt_hst : ∀ q ∈ dt_st, dt_sck q = true := List.all_eq_true.mp (show dt_st.all dt_sck = true by decide +kernel)
theorem dt_sk_ck : ∀ r, r < 64 → dt_sk r ≠ 0 → dt_st.any (fun q => decide (q.2.2.2 = r)) = true := by decide +kernel
theorem dt_sk_hi (r : Nat) (h : 64 ≤ r) : dt_sk r = 0 := by
  unfold dt_sk
  split <;> first | omega | rfl
theorem dt_hst2 (r : Nat) (h : dt_sk r ≠ 0) : ∃ q ∈ dt_st, q.2.2.2 = r := by
  by_cases hr : r < 64
  · obtain ⟨q, h1, h2⟩ := List.any_eq_true.mp (dt_sk_ck r hr h)
    exact ⟨q, h1, of_decide_eq_true h2⟩
  · exact absurd (dt_sk_hi r (by omega)) h
theorem dt_hst3 : ∀ q ∈ dt_st, ∀ q' ∈ dt_st, q.2.2.2 = q'.2.2.2 → q = q' := by decide +kernel
theorem dt_haw : Cond.arrayClass .int ∈ lw_tbl ∧ Cond.arrayClass .long ∈ lw_tbl ∧ Cond.arrayClass .byte ∈ lw_tbl ∧ Cond.arrayClass .boolean ∈ lw_tbl := by decide +kernel
noncomputable def dt_ck5 (b : Nat) : Bool := if (dt_pl b).2.1 = 5 then (match dt_rt b with
  | some (.object _) => true
  | some (.array _) => true
  | _ => false) else true
theorem dt_ck5_all : ∀ b, b < dt_NM → dt_ck5 b = true := by decide +kernel
theorem dt_ha : ∀ b, b < dt_NM → (dt_pl b).2.1 = 5 → ∃ rt : FieldType, dt_rt b = some rt ∧ ((∃ n, rt = .object n) ∨ ∃ t, rt = .array t) := by
  intro b hb h5
  have h := dt_ck5_all b hb
  unfold dt_ck5 at h
  rw [if_pos h5] at h
  split at h
  · rename_i n hn
    exact ⟨_, hn, Or.inl ⟨_, rfl⟩⟩
  · rename_i n hn
    exact ⟨_, hn, Or.inr ⟨_, rfl⟩⟩
  · cases h
