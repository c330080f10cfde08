/-- a branch: where to, if b; else behind it -/
def ev_b (pc : Nat) (off : Int) (b : Prop) [Decidable b] (r : List eV) : Option (Nat × List eV) := if 0 ≤ (pc : Int) + off then (if b then some (((pc : Int) + off).toNat, r) else some (pc + 3, r)) else none
theorem ev_b_ok {pc : Nat} {off : Int} {b : Prop} [Decidable b] {r : List eV} {pc' : Nat} {st' : List eV} (h : ev_b pc off b r = some (pc', st')) : ∃ t : Nat, (pc : Int) + off = (t : Int) ∧ r = st' ∧ (b → t = pc') ∧ (¬ b → pc + 3 = pc') := by
  unfold ev_b at h
  split at h
  · rename_i h0
    refine ⟨((pc : Int) + off).toNat, (Int.toNat_of_nonneg h0).symm, ?_⟩
    split at h
    · rename_i hb
      cases h
      exact ⟨rfl, fun _ => rfl, fun q => absurd hb q⟩
    · rename_i hb
      cases h
      exact ⟨rfl, fun q => absurd q hb, fun _ => rfl⟩
  · cases h
def ev_if (c : Jvm.ClassFile.Cond) (pc : Nat) (off : Int) (x : Int) (r : List eV) : Option (Nat × List eV) := match c with
  | .eq => ev_b pc off (ev_w x = 0) r
  | .ne => ev_b pc off (¬ ev_w x = 0) r
  | .lt => ev_b pc off (ev_w x < 0) r
  | .ge => ev_b pc off (0 ≤ ev_w x) r
  | .gt => ev_b pc off (0 < ev_w x) r
  | .le => ev_b pc off (ev_w x ≤ 0) r
def ev_ic (c : Jvm.ClassFile.Cond) (pc : Nat) (off : Int) (x y : Int) (r : List eV) : Option (Nat × List eV) := match c with
  | .eq => ev_b pc off (ev_w x = ev_w y) r
  | .ne => ev_b pc off (¬ ev_w x = ev_w y) r
  | .lt => ev_b pc off (ev_w x < ev_w y) r
  | .ge => ev_b pc off (ev_w y ≤ ev_w x) r
  | .gt => ev_b pc off (ev_w y < ev_w x) r
  | .le => ev_b pc off (ev_w x ≤ ev_w y) r
def ev_tab (dflt lo hi : Int) (offs : Array Int) (pc : Nat) (x : Int) (r : List eV) : Option (Nat × List eV) :=
  if ev_w x < lo ∨ hi < ev_w x then ev_b pc dflt True r else match offs[(ev_w x - lo).toNat]? with
    | some off => ev_b pc off True r
    | none => none
def ev_j (i : Instr) (n pc : Nat) (st : List eV) : Option (Nat × List eV) := match i with
  | .goto off => if n = 3 then ev_b pc off True st else none
  | .ifCond c off => (match st with
    | .inl (.inl x) :: r => if n = 3 then ev_if c pc off x r else none
    | _ => none)
  | .if_icmp c off => (match st with
    | .inl (.inl y) :: .inl (.inl x) :: r => if n = 3 then ev_ic c pc off x y r else none
    | _ => none)
  | .ifnonnull off => (match st with
    | .inr (.inr q) :: r => if n = 3 then ev_b pc off (¬ q = 0) r else none
    | _ => none)
  | .ifnull off => (match st with
    | .inr (.inr q) :: r => if n = 3 then ev_b pc off (q = 0) r else none
    | _ => none)
  | .tableswitch dflt lo hi offs => (match st with
    | .inl (.inl x) :: r => ev_tab dflt lo hi offs pc x r
    | _ => none)
  | _ => none
set_option maxHeartbeats 4000000 in
theorem ev_j_ok {p : Program} {l : Launch} {e : Env} {R : Room} {s : State} {m : MethodId} {args : Array Value} {below : List Frame} {meth : Method} {c : Code} {H : Heap} {locs : List Loc} {cells slots : Nat} {Q : State → Prop} {cc : ByteArray} {pc n : Nat} {ls : Array Slot} {ad : Nat → Nat} (hx : p.tables.exec = Jvm.exec) (hb : c.code = cc) (i : Instr) (hdg : decode cc pc = .ok (i, n)) {st st' : List eV} {pc' : Nat} (h : ev_j i n pc st = some (pc', st'))
    (kk : W p l e R s m args below meth c H locs cells slots Q (F0 m pc' ls (st'.map (ev_c ad)))) : W p l e R s m args below meth c H locs cells slots Q (F0 m pc ls (st.map (ev_c ad))) := by
  cases i
  case goto off =>
    simp only [ev_j] at h
    split at h
    · rename_i h3
      subst h3
      obtain ⟨t, ht, rfl, h1, -⟩ := ev_b_ok h
      cases h1 trivial
      exact lv_goto (tgt := pc') hx hb hdg ht kk
    · cases h
  case ifCond cd off =>
    simp only [ev_j] at h
    split at h
    · rename_i x r
      split at h
      · rename_i h3
        subst h3
        cases cd
        case eq =>
          obtain ⟨t, ht, rfl, h1, h2⟩ := ev_b_ok h
          exact lv_if_eq (tgt := t) hx hb hdg ht (fun q => by cases h1 ((ev_eq0 x).mp q); exact kk) (fun q => by cases h2 (fun z => q ((ev_eq0 x).mpr z)); exact kk)
        case ne =>
          obtain ⟨t, ht, rfl, h1, h2⟩ := ev_b_ok h
          exact lv_if_ne (tgt := t) hx hb hdg ht (fun q => by cases h1 (fun z => q ((ev_eq0 x).mpr z)); exact kk) (fun q => by cases h2 (fun z => z ((ev_eq0 x).mp q)); exact kk)
        case lt =>
          obtain ⟨t, ht, rfl, h1, h2⟩ := ev_b_ok h
          exact lv_if_lt (tgt := t) hx hb hdg ht (fun q => by cases h1 ((ev_lt0 x).mp q); exact kk) (fun q => by cases h2 (fun z => q ((ev_lt0 x).mpr z)); exact kk)
        case ge =>
          obtain ⟨t, ht, rfl, h1, h2⟩ := ev_b_ok h
          exact lv_if_ge (tgt := t) hx hb hdg ht (fun q => by cases h1 ((ev_ge0 x).mp q); exact kk) (fun q => by cases h2 (fun z => q ((ev_ge0 x).mpr z)); exact kk)
        case gt =>
          obtain ⟨t, ht, rfl, h1, h2⟩ := ev_b_ok h
          exact lv_if_gt (tgt := t) hx hb hdg ht (fun q => by cases h1 ((ev_gt0 x).mp q); exact kk) (fun q => by cases h2 (fun z => q ((ev_gt0 x).mpr z)); exact kk)
        case le =>
          obtain ⟨t, ht, rfl, h1, h2⟩ := ev_b_ok h
          exact lv_if_le (tgt := t) hx hb hdg ht (fun q => by cases h1 ((ev_le0 x).mp q); exact kk) (fun q => by cases h2 (fun z => q ((ev_le0 x).mpr z)); exact kk)
      · cases h
    · cases h
  case if_icmp cd off =>
    simp only [ev_j] at h
    split at h
    · rename_i y x r
      split at h
      · rename_i h3
        subst h3
        cases cd
        case eq =>
          obtain ⟨t, ht, rfl, h1, h2⟩ := ev_b_ok h
          exact lv_icmp_eq (tgt := t) hx hb hdg ht (fun q => by cases h1 ((ev_eq x y).mp q); exact kk) (fun q => by cases h2 (fun z => q ((ev_eq x y).mpr z)); exact kk)
        case ne =>
          obtain ⟨t, ht, rfl, h1, h2⟩ := ev_b_ok h
          exact lv_icmp_ne (tgt := t) hx hb hdg ht (fun q => by cases h1 (fun z => q ((ev_eq x y).mpr z)); exact kk) (fun q => by cases h2 (fun z => z ((ev_eq x y).mp q)); exact kk)
        case lt =>
          obtain ⟨t, ht, rfl, h1, h2⟩ := ev_b_ok h
          exact lv_icmp_lt (tgt := t) hx hb hdg ht (fun q => by cases h1 ((ev_lt x y).mp q); exact kk) (fun q => by cases h2 (fun z => q ((ev_lt x y).mpr z)); exact kk)
        case ge =>
          obtain ⟨t, ht, rfl, h1, h2⟩ := ev_b_ok h
          exact lv_icmp_ge (tgt := t) hx hb hdg ht (fun q => by cases h1 ((ev_le y x).mp q); exact kk) (fun q => by cases h2 (fun z => q ((ev_le y x).mpr z)); exact kk)
        case gt =>
          obtain ⟨t, ht, rfl, h1, h2⟩ := ev_b_ok h
          exact lv_icmp_gt (tgt := t) hx hb hdg ht (fun q => by cases h1 ((ev_lt y x).mp q); exact kk) (fun q => by cases h2 (fun z => q ((ev_lt y x).mpr z)); exact kk)
        case le =>
          obtain ⟨t, ht, rfl, h1, h2⟩ := ev_b_ok h
          exact lv_icmp_le (tgt := t) hx hb hdg ht (fun q => by cases h1 ((ev_le x y).mp q); exact kk) (fun q => by cases h2 (fun z => q ((ev_le x y).mpr z)); exact kk)
      · cases h
    · cases h
  case ifnonnull off =>
    simp only [ev_j] at h
    split at h
    · rename_i q r
      split at h
      · rename_i h3
        subst h3
        obtain ⟨t, ht, rfl, h1, h2⟩ := ev_b_ok h
        cases q with
        | zero =>
          cases h2 (fun z => z rfl)
          exact lv_ifnonnullN hx hb hdg kk
        | succ q =>
          cases h1 (fun z => by cases z)
          exact lv_ifnonnull (tgt := pc') hx hb hdg ht kk
      · cases h
    · cases h
  case ifnull off =>
    simp only [ev_j] at h
    split at h
    · rename_i q r
      split at h
      · rename_i h3
        subst h3
        obtain ⟨t, ht, rfl, h1, h2⟩ := ev_b_ok h
        cases q with
        | zero =>
          cases h1 rfl
          exact lv_ifnullN (tgt := pc') hx hb hdg ht kk
        | succ q =>
          cases h2 (fun z => by cases z)
          exact lv_ifnull hx hb hdg kk
      · cases h
    · cases h
  case tableswitch dflt lo hi offs =>
    simp only [ev_j] at h
    split at h
    · rename_i x r
      unfold ev_tab at h
      split at h
      · rename_i h0
        obtain ⟨t, ht, rfl, h1, -⟩ := ev_b_ok h
        cases h1 trivial
        exact lv_tableOut (tgt := pc') hx hb hdg (by rw [ev_w_ok]; exact h0) ht kk
      · rename_i h0
        split at h
        · rename_i off ho
          obtain ⟨t, ht, rfl, h1, -⟩ := ev_b_ok h
          cases h1 trivial
          exact lv_tableIn (tgt := pc') hx hb hdg (by rw [ev_w_ok]; exact fun q => h0 (Or.inl q)) (by rw [ev_w_ok]; exact fun q => h0 (Or.inr q)) (by rw [ev_w_ok]; exact ho) ht kk
        · cases h
    · cases h
  all_goals (simp [ev_j] at h)
