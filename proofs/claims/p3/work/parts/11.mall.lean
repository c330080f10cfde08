/-! THE SMALL MACHINE: memory's instructions together -/
def ev_m (fg : eG) (i : Instr) (a b t : Nat) (x : Int) (st : List eV) (μ : eM) : Option (List eV × eM) := match i with
  | .getfield _ => (match st with
    | .inr (.inr r) :: s => if ev_kd μ r = some a then some (ev_pv t (μ.1 r b) :: s, μ) else none
    | _ => none)
  | .putfield _ => (match st with
    | v :: .inr (.inr r) :: s => if ev_kd μ r = some a then (match ev_qv t v with
      | some x => some (s, (ev_up μ.1 r b x, μ.2))
      | none => none) else none
    | _ => none)
  | .iaload => (match st with
    | .inl (.inl i) :: .inr (.inr r) :: s => (match ev_al fg μ 100 r i with
      | some x => some (eI x :: s, μ)
      | none => none)
    | _ => none)
  | .laload => (match st with
    | .inl (.inl i) :: .inr (.inr r) :: s => (match ev_al fg μ 101 r i with
      | some x => some (eJ x :: s, μ)
      | none => none)
    | _ => none)
  | .baload => (match st with
    | .inl (.inl i) :: .inr (.inr r) :: s => (match ev_al fg μ 102 r i with
      | some x => some (eI x :: s, μ)
      | none => (match ev_al fg μ 103 r i with
        | some x => some (eI x :: s, μ)
        | none => none))
    | _ => none)
  | .iastore => (match st with
    | .inl (.inl x) :: .inl (.inl i) :: .inr (.inr r) :: s => (match ev_as μ 100 r i x with
      | some z => some (s, z)
      | none => none)
    | _ => none)
  | .lastore => (match st with
    | .inl (.inr x) :: .inl (.inl i) :: .inr (.inr r) :: s => (match ev_as μ 101 r i x with
      | some z => some (s, z)
      | none => none)
    | _ => none)
  | .bastore => (match st with
    | .inl (.inl x) :: .inl (.inl i) :: .inr (.inr r) :: s => (match ev_as μ 102 r i ((x + 128) % 256 - 128) with
      | some z => some (s, z)
      | none => if ev_w x = 0 ∨ ev_w x = 1 then (match ev_as μ 103 r i x with
        | some z => some (s, z)
        | none => none) else none)
    | _ => none)
  | .arraylength => (match st with
    | .inr (.inr r) :: s => (match ev_ln fg μ r with
      | some n => some (eI (n : Int) :: s, μ)
      | none => none)
    | _ => none)
  | .new _ => some (eR (μ.2.1.length + 64) :: st, ev_nw μ a (dt_lay a).length)
  | .newarray _ => (match st with
    | .inl (.inl n) :: s => if 0 ≤ ev_w n ∧ ev_w n ≤ 1000000 then some (eR (μ.2.1.length + 64) :: s, ev_nw μ a (ev_w n).toNat) else none
    | _ => none)
  | .ldc _ => if a = 0 then some (eI x :: st, μ) else none
  | .ldc_w _ => if a = 0 then some (eI x :: st, μ) else none
  | .ldc2_w _ => if a = 1 then some (eJ x :: st, μ) else if a = 2 then some (eD (UInt64.ofNat x.toNat) :: st, μ) else none
  | .getstatic _ => some (eR a :: st, μ)
  | _ => none
def dt_ack (t : ArrayType) (a d : Nat) : Bool := match t with
  | .int => decide (a = 100) && decide (lw_tbl[d]? = some (Cond.arrayClass .int))
  | .long => decide (a = 101) && decide (lw_tbl[d]? = some (Cond.arrayClass .long))
  | .byte => decide (a = 102) && decide (lw_tbl[d]? = some (Cond.arrayClass .byte))
  | .boolean => decide (a = 103) && decide (lw_tbl[d]? = some (Cond.arrayClass .boolean))
  | _ => false
/-- the check of a row's links (calls apart) -/
noncomputable def dt_lk (y : Nat) (i : Instr) (n a b t d : Nat) (x : Int) : Bool := match i with
  | .getfield idx => decide (n = 3) && dt_fck (dt_nm y).cls idx a b t d
  | .putfield idx => decide (n = 3) && dt_fck (dt_nm y).cls idx a b t d && dt_pck y a b d
  | .new idx => decide (n = 3) && dt_nck (dt_nm y).cls idx a d
  | .newarray ty => decide (n = 2) && dt_ack ty a d
  | .ldc idx => decide (n = 2) && ((decide (a ≠ 0) || decide (lw_tbl[d]? = some (Cond.constant (dt_nm y).cls idx (Int32.ofInt x)))) && (decide (a ≠ 3) || dt_kc.any (fun q => decide (q.1 = (dt_nm y).cls) && decide (q.2.1 = idx) && decide (q.2.2.2 = b))))
  | .ldc_w idx => decide (n = 3) && ((decide (a ≠ 0) || decide (lw_tbl[d]? = some (Cond.constant (dt_nm y).cls idx (Int32.ofInt x)))) && (decide (a ≠ 3) || dt_kc.any (fun q => decide (q.1 = (dt_nm y).cls) && decide (q.2.1 = idx) && decide (q.2.2.2 = b))))
  | .ldc2_w idx => decide (n = 3) && (decide (a ≠ 1) || decide (lw_tbl[d]? = some (Cond.constantLong (dt_nm y).cls idx (Int64.ofInt x)))) && (decide (a ≠ 2) || decide (lw_tbl[d]? = some (Cond.constantDouble (dt_nm y).cls idx (UInt64.ofNat x.toNat))))
  | .getstatic idx => decide (n = 3) && dt_gck (dt_nm y).cls idx a d
  | .tableswitch _ _ _ _ => true
  | i => decide (n = ev_len i)
set_option maxHeartbeats 4000000 in
theorem ev_m_ok {p : Program} {l : Launch} {e : Env} {R : Room} {s : State} {m : MethodId} {args : Array Value} {below : List Frame} {meth : Method} {c : Code} {H : Heap} {locs : List Loc} {cells slots : Nat} {Q : State → Prop} {pc : Nat} {ls : Array Slot} {k : eK} {fg : eG} {y : Nat} {μ : eM} {rest : List Value} (X : ev_X k fg y p s m args meth c) (hcl : ∀ ci C T N, vwCl[ci]? = some (C, T, N) → dt_cls ci C T N) (hf2 : ∀ r, (fg r).1 ≠ 102) (hf3 : ∀ r, (fg r).1 ≠ 103) (hI : ev_I k μ s.heap H locs) {i : Instr} {n a b t d : Nat} {x : Int} (hlk : dt_lk y i n a b t d x = true) (hdg : decode (dt_by y) pc = .ok (i, n)) {st st' : List eV} {μ' : eM} (h : ev_m fg i a b t x st μ = some (st', μ')) {c0 s0 : Nat} (hc0 : c0 ≤ μ.2.1.length) (hs0 : s0 ≤ μ.2.2) (hcells : cells = μ.2.1.length - c0) (hslots : slots = μ.2.2 - s0) (hRc : μ'.2.1.length - c0 ≤ R.cells) (hRs : μ'.2.2 - s0 ≤ R.slots)
    (kk : ∀ (H1 : Heap) (locs1 : List Loc), ev_I k μ' s.heap H1 locs1 → W p l e R s m args below meth c H1 locs1 (μ'.2.1.length - c0) (μ'.2.2 - s0) Q (F0 m (pc + n) ls (st'.map (ev_c (ev_ad k))))) : W p l e R s m args below meth c H locs cells slots Q (F0 m pc ls (st.map (ev_c (ev_ad k)))) := by
  subst hcells
  subst hslots
  have hts := X.2.2.2.2.1
  have hx := X.1
  have hb := X.2.1
  have hown := X.2.2.2.1
  have hlen : ∀ (kd n : Nat), (ev_nw μ kd n).2.1.length - c0 = μ.2.1.length - c0 + 1 := fun kd n => by
    show (μ.2.1 ++ [(kd, n)]).length - c0 = _
    rw [List.length_append]
    show μ.2.1.length + 1 - c0 = _
    omega
  have hsl : ∀ (kd n : Nat), (ev_nw μ kd n).2.2 - s0 = μ.2.2 - s0 + n := fun kd n => by
    show μ.2.2 + n - s0 = _
    omega
  cases i
  case getfield idx =>
    simp only [ev_m] at h
    simp only [dt_lk, Bool.and_eq_true, decide_eq_true_eq] at hlk
    obtain ⟨rfl, hck⟩ := hlk
    split at h
    · split at h
      · rename_i hkd
        cases h
        exact ev_getf X hcl hI hck hkd hdg (kk H locs hI)
      · cases h
    · cases h
  case putfield idx =>
    simp only [ev_m] at h
    simp only [dt_lk, Bool.and_eq_true, decide_eq_true_eq] at hlk
    obtain ⟨⟨rfl, hck⟩, hpk⟩ := hlk
    split at h
    · split at h
      · rename_i hkd
        split at h
        · rename_i hq
          cases h
          exact ev_putf X hcl hI hck hpk hkd hq hdg kk
        · cases h
      · cases h
    · cases h
  case iaload =>
    simp only [ev_m] at h
    have hn : n = 1 := of_decide_eq_true hlk
    subst hn
    split at h
    · split at h
      · rename_i hq
        cases h
        exact ev_ld100 X hI hq hdg (kk H locs hI)
      · cases h
    · cases h
  case laload =>
    simp only [ev_m] at h
    have hn : n = 1 := of_decide_eq_true hlk
    subst hn
    split at h
    · split at h
      · rename_i hq
        cases h
        exact ev_ld101 X hI hq hdg (kk H locs hI)
      · cases h
    · cases h
  case baload =>
    simp only [ev_m] at h
    have hn : n = 1 := of_decide_eq_true hlk
    subst hn
    split at h
    · split at h
      · rename_i hq
        cases h
        exact ev_ld102 X hI hf2 hq hdg (kk H locs hI)
      · split at h
        · rename_i hq
          cases h
          exact ev_ld103 X hI hf3 hq hdg (kk H locs hI)
        · cases h
    · cases h
  case iastore =>
    simp only [ev_m] at h
    have hn : n = 1 := of_decide_eq_true hlk
    subst hn
    split at h
    · split at h
      · rename_i hq
        cases h
        obtain ⟨j9, n9, -, -, -, e9⟩ := ev_as_ok hq
        subst e9
        exact ev_st100 X hI hq hdg kk
      · cases h
    · cases h
  case lastore =>
    simp only [ev_m] at h
    have hn : n = 1 := of_decide_eq_true hlk
    subst hn
    split at h
    · split at h
      · rename_i hq
        cases h
        obtain ⟨j9, n9, -, -, -, e9⟩ := ev_as_ok hq
        subst e9
        exact ev_st101 X hI hq hdg kk
      · cases h
    · cases h
  case bastore =>
    simp only [ev_m] at h
    have hn : n = 1 := of_decide_eq_true hlk
    subst hn
    split at h
    · split at h
      · rename_i hq
        cases h
        obtain ⟨j9, n9, -, -, -, e9⟩ := ev_as_ok hq
        subst e9
        exact ev_st102 X hI hq hdg kk
      · split at h
        · rename_i h01
          split at h
          · rename_i hq
            cases h
            obtain ⟨j9, n9, -, -, -, e9⟩ := ev_as_ok hq
            subst e9
            exact ev_st103 X hI hq h01 hdg kk
          · cases h
        · cases h
    · cases h
  case arraylength =>
    simp only [ev_m] at h
    have hn : n = 1 := of_decide_eq_true hlk
    subst hn
    split at h
    · split at h
      · rename_i hq
        cases h
        exact ev_len_ok X hI hq hdg (kk H locs hI)
      · cases h
    · cases h
  case new idx =>
    simp only [ev_m] at h
    simp only [dt_lk, Bool.and_eq_true, decide_eq_true_eq] at hlk
    obtain ⟨rfl, hck⟩ := hlk
    cases h
    rw [hlen] at hRc kk
    rw [hsl] at hRs kk
    exact ev_newo X hcl hI hck hdg hRc hRs (fun H1 hI1 => kk H1 locs hI1)
  case newarray ty =>
    simp only [ev_m] at h
    simp only [dt_lk, Bool.and_eq_true, decide_eq_true_eq] at hlk
    obtain ⟨rfl, hck⟩ := hlk
    split at h
    · split at h
      · rename_i h0
        cases h
        rw [hlen] at hRc kk
        rw [hsl] at hRs kk
        cases ty
        case int =>
          simp only [dt_ack, Bool.and_eq_true, decide_eq_true_eq] at hck
          obtain ⟨rfl, hw⟩ := hck
          exact ev_newa100 X hI (dt_inG hw rfl) h0.1 h0.2 hdg hRc hRs (fun H1 hI1 => kk H1 locs hI1)
        case long =>
          simp only [dt_ack, Bool.and_eq_true, decide_eq_true_eq] at hck
          obtain ⟨rfl, hw⟩ := hck
          exact ev_newa101 X hI (dt_inG hw rfl) h0.1 h0.2 hdg hRc hRs (fun H1 hI1 => kk H1 locs hI1)
        case byte =>
          simp only [dt_ack, Bool.and_eq_true, decide_eq_true_eq] at hck
          obtain ⟨rfl, hw⟩ := hck
          exact ev_newa102 X hI (dt_inG hw rfl) h0.1 h0.2 hdg hRc hRs (fun H1 hI1 => kk H1 locs hI1)
        case boolean =>
          simp only [dt_ack, Bool.and_eq_true, decide_eq_true_eq] at hck
          obtain ⟨rfl, hw⟩ := hck
          exact ev_newa103 X hI (dt_inG hw rfl) h0.1 h0.2 hdg hRc hRs (fun H1 hI1 => kk H1 locs hI1)
        all_goals (simp [dt_ack] at hck)
      · cases h
    · cases h
  case ldc idx =>
    simp only [ev_m] at h
    simp only [dt_lk, Bool.and_eq_true, Bool.or_eq_true, decide_eq_true_eq] at hlk
    obtain ⟨rfl, hck, -⟩ := hlk
    split at h
    · rename_i h0
      cases h
      exact lv_ldc hx hb hown (hts _ (dt_inG (hck.resolve_left (fun q => q h0)) rfl)) hdg (kk H locs hI)
    · cases h
  case ldc_w idx =>
    simp only [ev_m] at h
    simp only [dt_lk, Bool.and_eq_true, Bool.or_eq_true, decide_eq_true_eq] at hlk
    obtain ⟨rfl, hck, -⟩ := hlk
    split at h
    · rename_i h0
      cases h
      exact lv_ldcw hx hb hown (hts _ (dt_inG (hck.resolve_left (fun q => q h0)) rfl)) hdg (kk H locs hI)
    · cases h
  case ldc2_w idx =>
    simp only [ev_m] at h
    simp only [dt_lk, Bool.and_eq_true, Bool.or_eq_true, decide_eq_true_eq] at hlk
    obtain ⟨⟨rfl, hck1⟩, hck2⟩ := hlk
    split at h
    · rename_i h0
      cases h
      exact lv_ldc2 hx hb hown (hts _ (dt_inG (hck1.resolve_left (fun q => q h0)) rfl)) hdg (kk H locs hI)
    · split at h
      · rename_i h0
        cases h
        exact lv_ldc2d hx hb hown (hts _ (dt_inG (hck2.resolve_left (fun q => q h0)) rfl)) hdg (kk H locs hI)
      · cases h
  case getstatic idx =>
    simp only [ev_m] at h
    simp only [dt_lk, Bool.and_eq_true, decide_eq_true_eq] at hlk
    obtain ⟨rfl, hck⟩ := hlk
    cases h
    exact ev_gets X hI hck hdg (kk H locs hI)
  all_goals (simp [ev_m] at h)
theorem ev_m_mono {fg : eG} {i : Instr} {a b t : Nat} {x : Int} {st st' : List eV} {μ μ' : eM} (h : ev_m fg i a b t x st μ = some (st', μ')) : μ.2.1.length ≤ μ'.2.1.length ∧ μ.2.2 ≤ μ'.2.2 := by
  have hnw : ∀ kd n : Nat, μ.2.1.length ≤ (ev_nw μ kd n).2.1.length ∧ μ.2.2 ≤ (ev_nw μ kd n).2.2 := fun kd n => by
    refine ⟨?_, Nat.le_add_right _ _⟩
    show _ ≤ (μ.2.1 ++ [(kd, n)]).length
    rw [List.length_append]
    exact Nat.le_add_right _ _
  have has : ∀ {kd r : Nat} {i x : Int} {z : eM}, ev_as μ kd r i x = some z → μ.2.1.length ≤ z.2.1.length ∧ μ.2.2 ≤ z.2.2 := fun hq => by
    obtain ⟨j9, n9, -, -, -, e9⟩ := ev_as_ok hq
    subst e9
    exact ⟨Nat.le_refl _, Nat.le_refl _⟩
  unfold ev_m at h
  repeat' split at h
  all_goals first
    | (cases h; exact ⟨Nat.le_refl _, Nat.le_refl _⟩)
    | (cases h; exact hnw _ _)
    | (rename_i hq; cases h; exact has hq)
    | (cases h)
