/-! what lies there at the law's start: the script, static arrays -/
def dt_fg (L : Nat) (xs : Nat → Int) : eG := fun r => if r = 1 then (100, L, xs) else (dt_sk r, (dt_sv r).length, fun j => (dt_sv r).getD j 0)
theorem dt_fg2 (L : Nat) (xs : Nat → Int) (r : Nat) : (dt_fg L xs r).1 ≠ 102 ∧ (dt_fg L xs r).1 ≠ 103 := by
  unfold dt_fg
  split
  · exact ⟨by show (100 : Nat) ≠ 102; decide, by show (100 : Nat) ≠ 103; decide⟩
  · show dt_sk r ≠ 102 ∧ dt_sk r ≠ 103
    unfold dt_sk
    split <;> decide
abbrev dt_F : List Cond := flatC (Jvm.Cond.and given_1 narrow_1)
def dt_tm (q : String × String × String × Nat) : Term := .static q.1 q.2.1 q.2.2.1
def dt_ew (q : String × String × String × Nat) (j : Nat) : Cond := if dt_sk q.2.2.2 = 101 then .eq (.elem (dt_tm q) (.int (Int32.ofNat j))) (.long (Int64.ofInt ((dt_sv q.2.2.2).getD j 0))) else .eq (.elem (dt_tm q) (.int (Int32.ofNat j))) (.int (Int32.ofInt ((dt_sv q.2.2.2).getD j 0)))
def dt_sck (q : String × String × String × Nat) : Prop := Cond.arrayOf (dt_tm q) (ev_aty (dt_sk q.2.2.2)) ∈ dt_F ∧ Cond.eq (.length (dt_tm q)) (.int (Int32.ofNat (dt_sv q.2.2.2).length)) ∈ dt_F ∧ (∀ j, j < (dt_sv q.2.2.2).length → dt_ew q j ∈ dt_F) ∧ Cond.laysStatic q.1 q.2.1 q.2.2.1 ∈ lw_tbl ∧ Cond.initialized q.1 ∈ lw_tbl ∧ (dt_sv q.2.2.2).length < 2 ^ 31 ∧ 1 < q.2.2.2
theorem dt_old {s : State} {b : Nat} {L : Nat} {xs : Nat → Int} (hts : ∀ w ∈ lw_tbl, w.before #[Value.ref b] s = true) (hgv : (Jvm.Cond.and given_1 narrow_1).before #[Value.ref b] s = true) {ad : Nat → Nat} {q : String × String × String × Nat} (hq : dt_sck q) :
    ∃ t : Nat, va_Z q.1 q.2.1 q.2.2.1 (.ref t) (fun a => s.heap.size ≤ a) s s.heap ∧ va_T (ev_aty (dt_fg L xs q.2.2.2).1) t (dt_fg L xs q.2.2.2).2.1 (fun j => ev_fv ad (ev_atn (dt_fg L xs q.2.2.2).1) ((dt_fg L xs q.2.2.2).2.2 j)) (fun a => s.heap.size ≤ a) s s.heap := by
  have hs := flat_of_before _ hgv
  obtain ⟨h1, h2, h3, h4, h5, h6, h7⟩ := hq
  have hfg : dt_fg L xs q.2.2.2 = (dt_sk q.2.2.2, (dt_sv q.2.2.2).length, fun j => (dt_sv q.2.2.2).getD j 0) := by
    unfold dt_fg
    rw [if_neg (by omega)]
  rw [hfg]
  have hA : ∀ a : Nat, a < s.heap.size → ¬ s.heap.size ≤ a := fun a h => by omega
  obtain ⟨t, e1, e2⟩ := va_Tof (f := fun j => ev_fv ad (ev_atn (dt_sk q.2.2.2)) ((dt_sv q.2.2.2).getD j 0)) (A := fun a => s.heap.size ≤ a) h6 (hs _ h1) (va_eqt (hs _ h2)) (fun j hj => by
    have h9 := hs _ (h3 j hj)
    unfold dt_ew at h9
    unfold ev_atn
    split at h9
    · rename_i hk
      rw [if_pos hk]
      exact va_eqtl h9
    · rename_i hk
      rw [if_neg hk]
      exact va_eqt h9) hA
  exact ⟨t, va_Zof (hts _ h4) (hts _ h5) e1 hA, e2⟩
theorem dt_knows {s : State} {b L : Nat} {xs : Nat → Int32} (hcl : ∀ ci C T N, vwCl[ci]? = some (C, T, N) → dt_cls ci C T N) (hst : ∀ q ∈ dt_st, dt_sck q) (hst2 : ∀ r : Nat, dt_sk r ≠ 0 → ∃ q ∈ dt_st, q.2.2.2 = r) (hst3 : ∀ q ∈ dt_st, ∀ q' ∈ dt_st, q.2.2.2 = q'.2.2.2 → q = q') (haw : Cond.arrayClass .int ∈ lw_tbl ∧ Cond.arrayClass .long ∈ lw_tbl ∧ Cond.arrayClass .byte ∈ lw_tbl ∧ Cond.arrayClass .boolean ∈ lw_tbl)
    (hts : ∀ w ∈ lw_tbl, w.before #[Value.ref b] s = true) (hX : va_X b L xs s s.heap) (hbl : b < s.heap.size) (hL : L < 2 ^ 31) (hgv : (Jvm.Cond.and given_1 narrow_1).before #[Value.ref b] s = true) :
    ∃ k : eK, k.1 = s.heap.size ∧ k.2.2.2.2 1 = b ∧ ev_U k (dt_fg L (fun j => (xs j).toInt)) s s.heap := by
  have hk : ∀ ci : Nat, ∃ z : ClassId × (Nat → Nat), ∀ q : vw_C, vwCl[ci]? = some q → u_Kn s q.1 q.2.1 q.2.2 z.1 z.2 := by
    intro ci
    cases hq : vwCl[ci]? with
    | none => exact ⟨(0, fun _ => 0), fun q h => by cases h⟩
    | some q =>
      obtain ⟨C, T, N⟩ := q
      obtain ⟨hin, -, -, -, -, hinst, -⟩ := hcl _ _ _ _ hq
      obtain ⟨c0, i0, h0⟩ := u_known (C := C) (T := T) (N := N) (n := N) hts (fun w hw => (List.mem_filter.mp (hin w hw)).1) (hts _ (List.mem_filter.mp hinst).1)
      exact ⟨(c0, i0), fun q h => by cases h; exact h0⟩
  obtain ⟨fk, hfk⟩ := Classical.axiomOfChoice hk
  have harr : ∀ ty : FieldType, Cond.arrayClass ty ∈ lw_tbl → ∃ c : ClassId, ArrOfT s c ty ∧ s.vm.findClass ("[" ++ ty.toString) = some c := by
    intro ty hty
    obtain ⟨c, kk, comp, h1, h2, h3⟩ := Cond.arrayClass_spec (hts _ hty)
    exact ⟨c, fun n z => ⟨fun k h => (by cases h), kk, h2, comp, h3⟩, h1⟩
  obtain ⟨aI, hI1, hI2⟩ := harr _ haw.1
  obtain ⟨aJ, hJ1, hJ2⟩ := harr _ haw.2.1
  obtain ⟨aB, hB1, hB2⟩ := harr _ haw.2.2.1
  obtain ⟨aZ, hZ1, hZ2⟩ := harr _ haw.2.2.2
  have hold : ∀ r : Nat, ∃ t : Nat, (∀ q ∈ dt_kc, q.2.2.2 = r → vk_R q.1 q.2.1 q.2.2.1 t s ∧ ks_at t (dt_ks q.2.2.2).length (ks_f q.2.2.2) (fun a => s.heap.size ≤ a) s s.heap) ∧ ∀ q ∈ dt_st, q.2.2.2 = r → va_Z q.1 q.2.1 q.2.2.1 (.ref t) (fun a => s.heap.size ≤ a) s s.heap ∧ ∀ ad : Nat → Nat, va_T (ev_aty (dt_fg L (fun j => (xs j).toInt) r).1) t (dt_fg L (fun j => (xs j).toInt) r).2.1 (fun j => ev_fv ad (ev_atn (dt_fg L (fun j => (xs j).toInt) r).1) ((dt_fg L (fun j => (xs j).toInt) r).2.2 j)) (fun a => s.heap.size ≤ a) s s.heap := by
    intro r
    by_cases hr : ∃ q ∈ dt_st, q.2.2.2 = r
    · obtain ⟨q, hq, hqr⟩ := hr
      subst hqr
      obtain ⟨t, h1, h2⟩ := dt_old (L := L) (xs := fun j => (xs j).toInt) (ad := fun a => a) hts hgv (hst q hq)
      refine ⟨t, fun q1 hq1 e1 => absurd e1 (kt_dis q1 hq1 q hq), fun q' hq' e => ?_⟩
      have e2 := hst3 q hq q' hq' e.symm
      subst e2
      refine ⟨h1, fun ad => ?_⟩
      have hfv : ∀ (n : Nat) (x : Int), ev_fv ad (ev_atn n) x = ev_fv (fun a => a) (ev_atn n) x := by
        intro n x
        unfold ev_atn
        split <;> rfl
      simp only [hfv]
      exact h2
    · by_cases hr2 : ∃ q ∈ dt_kc, q.2.2.2 = r
      · obtain ⟨q, hq, hqr⟩ := hr2
        obtain ⟨t, h1, h2⟩ := kt_old hts hgv (kt_ok q hq)
        refine ⟨t, fun q' hq' e => ?_, fun q hq e => absurd ⟨q, hq, e⟩ hr⟩
        have e2 := kt_one q hq q' hq' (hqr.trans e.symm)
        subst e2
        exact ⟨h1, h2⟩
      · exact ⟨0, fun q hq e => absurd ⟨q, hq, e⟩ hr2, fun q hq e => absurd ⟨q, hq, e⟩ hr⟩
  obtain ⟨fo, hfo⟩ := Classical.axiomOfChoice hold
  refine ⟨(s.heap.size, fun c => (fk c).1, fun c => (fk c).2, fun i => match i with
    | 0 => aI
    | 1 => aJ
    | 2 => aB
    | _ => aZ, fun r => if r = 1 then b else fo r), rfl, rfl, ⟨fun c q hq => hfk c q hq, fun i q hq => ?_⟩, fun w hw hn => ?_, fun r hr h0 => ?_, fun q hq => ?_, kt_st hts hgv, fun q hq => ?_⟩
  · match i, hq with
    | 0, hq => cases hq; exact ⟨hI1, hI2⟩
    | 1, hq => cases hq; exact ⟨hJ1, hJ2⟩
    | 2, hq => cases hq; exact ⟨hB1, hB2⟩
    | 3, hq => cases hq; exact ⟨hZ1, hZ2⟩
    | i + 4, hq => cases hq
  · have h1 := hts w hw
    cases w <;> first | exact va_Nw.of rfl h1 | cases hn
  · by_cases hr1 : r = 1
    · subst hr1
      obtain ⟨scr, x1, x2, x3, x4, x5⟩ := hX
      refine ⟨scr, x1, x2, x3, Nat.le_of_eq x4.symm, by rw [x4]; rfl, fun j hj => ?_, fun h => ?_⟩
      · show scr.slots[j]? = some (.int (Int32.ofInt (xs j).toInt))
        rw [Int32.ofInt_toInt]
        exact x5 j hj
      · have h : s.heap.size ≤ b := h
        omega
    · have hk0 : dt_sk r ≠ 0 := by
        unfold dt_fg at h0
        rw [if_neg hr1] at h0
        exact h0
      obtain ⟨q, hq, hqr⟩ := hst2 r hk0
      have h2 := ((hfo r).2 q hq hqr).2 (ev_ad (s.heap.size, fun c => (fk c).1, fun c => (fk c).2, fun i => match i with
        | 0 => aI
        | 1 => aJ
        | 2 => aB
        | _ => aZ, fun r => if r = 1 then b else fo r))
      show va_T _ (if r = 1 then b else fo r) _ _ _ _ _
      rw [if_neg hr1]
      exact h2
  · have h1 := ((hfo q.2.2.2).2 q hq rfl).1
    have h7 : 1 < q.2.2.2 := (hst q hq).2.2.2.2.2.2
    show va_Z _ _ _ (.ref (if q.2.2.2 = 1 then b else fo q.2.2.2)) _ _ _
    rw [if_neg (by omega)]
    exact h1
  · have h1 := (hfo q.2.2.2).1 q hq rfl
    have h7 : 1 < q.2.2.2 := (kt_ok q hq).2.2.2.2.2.2
    show vk_R _ _ _ (if q.2.2.2 = 1 then b else fo q.2.2.2) _ ∧ ks_at (if q.2.2.2 = 1 then b else fo q.2.2.2) _ _ _ _ _
    rw [if_neg (by omega)]
    exact h1
