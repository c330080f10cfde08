/-! THE ABSTRACT EVALUATOR: branches -/
def sv_fl (c : Jvm.ClassFile.Cond) : Bool × Bool × Bool := match c with
  | .eq => (false, true, false)
  | .ne => (true, false, true)
  | .lt => (true, false, false)
  | .ge => (false, true, true)
  | .gt => (false, false, true)
  | .le => (true, true, false)
def sv_f (f : Bool × Bool × Bool) (x k : Int) : Bool := if x < k then f.1 else if x = k then f.2.1 else f.2.2
def sv_tg (pc : Nat) (off : Int) (b : Bool) : Nat := match b with
  | true => ((pc : Int) + off).toNat
  | false => pc + 3
theorem ev_b_f {pc : Nat} {off : Int} {b : Prop} [Decidable b] {r : List eV} {q : Bool} (h0 : 0 ≤ (pc : Int) + off) (hq : b ↔ q = true) : ev_b pc off b r = some (sv_tg pc off q, r) := by
  unfold ev_b
  rw [if_pos h0]
  cases q with
  | true => rw [if_pos (hq.mpr rfl)]; rfl
  | false => rw [if_neg (fun z => by have := hq.mp z; cases this)]; rfl
theorem ev_ic_f {c : Jvm.ClassFile.Cond} {pc : Nat} {off x y : Int} {r : List eV} (h0 : 0 ≤ (pc : Int) + off) : ev_ic c pc off x y r = some (sv_tg pc off (sv_f (sv_fl c) (ev_w x) (ev_w y)), r) := by
  cases c <;> refine ev_b_f h0 ?_ <;> unfold sv_f sv_fl <;> by_cases h1 : ev_w x < ev_w y <;> by_cases h2 : ev_w x = ev_w y <;> simp [h1, h2] <;> omega
theorem ev_w0 : ev_w 0 = 0 := by unfold ev_w; rfl
theorem ev_if_f {c : Jvm.ClassFile.Cond} {pc : Nat} {off x : Int} {r : List eV} (h0 : 0 ≤ (pc : Int) + off) : ev_if c pc off x r = some (sv_tg pc off (sv_f (sv_fl c) (ev_w x) 0), r) := by
  cases c <;> refine ev_b_f h0 ?_ <;> unfold sv_f sv_fl <;> by_cases h1 : ev_w x < 0 <;> by_cases h2 : ev_w x = 0 <;> simp [h1, h2] <;> omega
def sv_ne (b : Bool) (lo hi : Int) : List (Bool × Int × Int) := if lo ≤ hi then [(b, lo, hi)] else []
def sv_rg (f : Bool × Bool × Bool) (lo hi k : Int) : List (Bool × Int × Int) :=
  if f.1 = f.2.1 then sv_ne f.1 lo (min hi k) ++ sv_ne f.2.2 (max lo (k + 1)) hi
  else if f.2.1 = f.2.2 then sv_ne f.1 lo (min hi (k - 1)) ++ sv_ne f.2.2 (max lo k) hi
  else sv_ne f.1 lo (min hi (k - 1)) ++ (sv_ne f.2.1 (max lo k) (min hi k) ++ sv_ne f.2.2 (max lo (k + 1)) hi)
theorem sv_ne_in {b : Bool} {lo hi x : Int} (h1 : lo ≤ x) (h2 : x ≤ hi) : (b, lo, hi) ∈ sv_ne b lo hi := by
  unfold sv_ne
  rw [if_pos (by omega)]
  exact List.mem_singleton.mpr rfl
theorem sv_rg_ok {f : Bool × Bool × Bool} {lo hi k x : Int} (h1 : lo ≤ x) (h2 : x ≤ hi) : ∃ q ∈ sv_rg f lo hi k, q.1 = sv_f f x k ∧ q.2.1 ≤ x ∧ x ≤ q.2.2 := by
  obtain ⟨a, b, d⟩ := f
  unfold sv_rg
  simp only
  rcases Int.lt_trichotomy x k with hx | hx | hx
  · have hf : sv_f (a, b, d) x k = a := by unfold sv_f; rw [if_pos hx]
    rw [hf]
    split
    · exact ⟨_, List.mem_append_left _ (sv_ne_in (x := x) h1 (by omega)), rfl, h1, by simp only; omega⟩
    · split
      · exact ⟨_, List.mem_append_left _ (sv_ne_in (x := x) h1 (by omega)), rfl, h1, by simp only; omega⟩
      · exact ⟨_, List.mem_append_left _ (sv_ne_in (x := x) h1 (by omega)), rfl, h1, by simp only; omega⟩
  · have hf : sv_f (a, b, d) x k = b := by unfold sv_f; rw [if_neg (by omega), if_pos hx]
    rw [hf]
    split
    · rename_i hab
      exact ⟨_, List.mem_append_left _ (sv_ne_in (x := x) h1 (by omega)), hab, h1, by simp only; omega⟩
    · split
      · rename_i hbd
        exact ⟨_, List.mem_append_right _ (sv_ne_in (x := x) (by omega) h2), hbd.symm, by simp only; omega, h2⟩
      · exact ⟨_, List.mem_append_right _ (List.mem_append_left _ (sv_ne_in (x := x) (by omega) (by omega))), rfl, by simp only; omega, by simp only; omega⟩
  · have hf : sv_f (a, b, d) x k = d := by unfold sv_f; rw [if_neg (by omega), if_neg (by omega)]
    rw [hf]
    split
    · exact ⟨_, List.mem_append_right _ (sv_ne_in (x := x) (by omega) h2), rfl, by simp only; omega, h2⟩
    · split
      · exact ⟨_, List.mem_append_right _ (sv_ne_in (x := x) (by omega) h2), rfl, by simp only; omega, h2⟩
      · exact ⟨_, List.mem_append_right _ (List.mem_append_right _ (sv_ne_in (x := x) (by omega) h2)), rfl, by simp only; omega, h2⟩
/-- a test of a value that isn't known against a number: the bounds behind it, and how it comes out -/
def sv_sp (B : sB) (f : Bool × Bool × Bool) (x : sV) (k : Int) : List (sB × Bool) := match x, sc_b B x with
  | .inr (.inl (.inl i)), some b => if -2147483648 ≤ b.1 ∧ b.2 ≤ 2147483647 then (sv_rg f b.1 b.2 k).map (fun q => (B.set i (q.2.1, q.2.2), q.1)) else [(B, true), (B, false)]
  | _, some b => if -2147483648 ≤ b.1 ∧ b.2 ≤ 2147483647 then (sv_rg f b.1 b.2 k).map (fun q => (B, q.1)) else [(B, true), (B, false)]
  | _, none => [(B, true), (B, false)]
theorem sb_in_set {ρ : Nat → Int} {B : sB} (hB : sb_in ρ B) {i : Nat} {lo hi : Int} (h1 : lo ≤ ρ i) (h2 : ρ i ≤ hi) : sb_in ρ (B.set i (lo, hi)) := by
  intro j q hq
  rw [List.getElem?_set] at hq
  split at hq
  · rename_i hij
    subst hij
    split at hq
    · cases hq
      exact ⟨h1, h2⟩
    · cases hq
  · exact hB j q hq
theorem sv_two {B : sB} {q : Bool} : (B, q) ∈ [(B, true), (B, false)] := by
  cases q
  · exact List.mem_cons_of_mem _ (List.mem_singleton.mpr rfl)
  · exact List.mem_cons_self
theorem sv_sp_ok {ρ : Nat → Int} {B : sB} {f : Bool × Bool × Bool} {x : sV} {z k : Int} (hB : sb_in ρ B) (hx : sv_r ρ x (eI z)) : ∃ B' : sB, (B', sv_f f (ev_w z) k) ∈ sv_sp B f x k ∧ sb_in ρ B' := by
  unfold sv_sp
  split
  · rename_i i b hb
    obtain ⟨z', e, h1⟩ := sc_b_ok hB hx hb
    cases e
    have hz : z = ρ i := hx
    split
    · rename_i h0
      obtain ⟨q, hq, h2, h3⟩ := sv_rg_ok (f := f) (k := k) h1.1 h1.2
      rw [ev_w_in (by omega) (by omega), ← h2]
      refine ⟨_, List.mem_map.mpr ⟨q, hq, rfl⟩, sb_in_set hB ?_ ?_⟩
      · rw [← hz]; exact h3.1
      · rw [← hz]; exact h3.2
    · exact ⟨B, sv_two, hB⟩
  · rename_i b hb
    obtain ⟨z', e, h1⟩ := sc_b_ok hB hx hb
    cases e
    split
    · rename_i h0
      obtain ⟨q, hq, h2, h3⟩ := sv_rg_ok (f := f) (k := k) h1.1 h1.2
      rw [ev_w_in (by omega) (by omega), ← h2]
      exact ⟨_, List.mem_map.mpr ⟨q, hq, rfl⟩, hB⟩
    · exact ⟨B, sv_two, hB⟩
  · exact ⟨B, sv_two, hB⟩
def sv_jar : Instr → Option Nat
  | .goto _ => some 0
  | .ifCond _ _ | .ifnonnull _ | .ifnull _ | .tableswitch _ _ _ _ => some 1
  | .if_icmp _ _ => some 2
  | _ => none
theorem ev_b_fr {pc : Nat} {off : Int} {b : Prop} [Decidable b] {r : List eV} {z : Nat × List eV} (h : ev_b pc off b r = some z) (rest : List eV) : ev_b pc off b (r ++ rest) = some (z.1, z.2 ++ rest) := by
  unfold ev_b at h ⊢
  split at h
  · rename_i h0
    rw [if_pos h0]
    split at h
    · rename_i h1
      cases h
      rw [if_pos h1]
    · rename_i h1
      cases h
      rw [if_neg h1]
  · cases h
theorem ev_j_fr {i : Instr} {n pc a : Nat} {es : List eV} {z : Nat × List eV} (ha : sv_jar i = some a) (hl : es.length = a) (h : ev_j i n pc es = some z) (rest : List eV) : ev_j i n pc (es ++ rest) = some (z.1, z.2 ++ rest) := by
  cases i
  case goto off =>
    cases ha
    have he : es = [] := List.length_eq_zero_iff.mp hl
    subst he
    simp only [ev_j] at h ⊢
    split at h
    · rename_i h3
      rw [if_pos h3]
      exact ev_b_fr h rest
    · cases h
  case ifCond c off =>
    cases ha
    match es, hl, h with
    | [v], _, h =>
      rcases v with (x | x) | x
      · have h : (if n = 3 then ev_if c pc off x [] else none) = some z := h
        show (if n = 3 then ev_if c pc off x rest else none) = _
        split at h
        · rename_i h3
          rw [if_pos h3]
          cases c <;> exact ev_b_fr h rest
        · cases h
      · cases h
      · cases h
  case if_icmp c off =>
    cases ha
    match es, hl, h with
    | [v, w], _, h =>
      rcases v with (y | y) | y
      · rcases w with (x | x) | x
        · have h : (if n = 3 then ev_ic c pc off x y [] else none) = some z := h
          show (if n = 3 then ev_ic c pc off x y rest else none) = _
          split at h
          · rename_i h3
            rw [if_pos h3]
            cases c <;> exact ev_b_fr h rest
          · cases h
        · cases h
        · cases h
      · cases h
      · cases h
  case ifnonnull off =>
    cases ha
    match es, hl, h with
    | [v], _, h =>
      rcases v with x | (x | q)
      · cases h
      · cases h
      · have h : (if n = 3 then ev_b pc off (¬ q = 0) [] else none) = some z := h
        show (if n = 3 then ev_b pc off (¬ q = 0) rest else none) = _
        split at h
        · rename_i h3
          rw [if_pos h3]
          exact ev_b_fr h rest
        · cases h
  case ifnull off =>
    cases ha
    match es, hl, h with
    | [v], _, h =>
      rcases v with x | (x | q)
      · cases h
      · cases h
      · have h : (if n = 3 then ev_b pc off (q = 0) [] else none) = some z := h
        show (if n = 3 then ev_b pc off (q = 0) rest else none) = _
        split at h
        · rename_i h3
          rw [if_pos h3]
          exact ev_b_fr h rest
        · cases h
  case tableswitch dflt lo hi offs =>
    cases ha
    match es, hl, h with
    | [v], _, h =>
      rcases v with (x | x) | x
      · have h : ev_tab dflt lo hi offs pc x [] = some z := h
        show ev_tab dflt lo hi offs pc x rest = _
        unfold ev_tab at h ⊢
        split at h
        · rename_i h0
          rw [if_pos h0]
          exact ev_b_fr h rest
        · rename_i h0
          rw [if_neg h0]
          split at h
          · rename_i off ho
            exact ev_b_fr h rest
          · cases h
      · cases h
      · cases h
  all_goals (simp [sv_jar] at ha)
/-- a branch: bounds, where to, the stack -/
def sv_jc (B : sB) (c : Jvm.ClassFile.Cond) (off : Int) (n pc : Nat) (st : List sV) : Option (List (sB × Nat × List sV)) := match st with
  | x :: r => if n = 3 ∧ 0 ≤ (pc : Int) + off ∧ sv_ty x = 0 then some ((sv_sp B (sv_fl c) x 0).map fun q => (q.1, sv_tg pc off q.2, r)) else none
  | [] => none
/-- the number that is known, if one of two is -/
def sv_k (v : sV) : Option Int := match v with
  | .inl (.inl (.inl k)) => some k
  | _ => none
theorem sv_k_ok {v : sV} {k : Int} (h : sv_k v = some k) : v = .inl (eI k) := by
  rcases v with ((x | x) | x) | x
  · cases h
    rfl
  · cases h
  · cases h
  · cases h
def sv_j2 (B : sB) (c : Jvm.ClassFile.Cond) (off : Int) (n pc : Nat) (st : List sV) : Option (List (sB × Nat × List sV)) := match st with
  | y :: x :: r => if n = 3 ∧ 0 ≤ (pc : Int) + off ∧ sv_ty y = 0 ∧ sv_ty x = 0 then (match sv_k y with
    | some k => some ((sv_sp B (sv_fl c) x (ev_w k)).map fun q => (q.1, sv_tg pc off q.2, r))
    | none => (match sv_k x with
      | some k => some ((sv_sp B ((sv_fl c).2.2, (sv_fl c).2.1, (sv_fl c).1) y (ev_w k)).map fun q => (q.1, sv_tg pc off q.2, r))
      | none => some [(B, sv_tg pc off true, r), (B, sv_tg pc off false, r)])) else none
  | _ => none
def sv_j (B : sB) (i : Instr) (n pc : Nat) (st : List sV) : Option (List (sB × Nat × List sV)) := match sv_jar i with
  | none => none
  | some a => if a ≤ st.length then (match sv_c (st.take a) with
    | some es => (match ev_j i n pc es with
      | some z => some [(B, z.1, z.2.map .inl ++ st.drop a)]
      | none => none)
    | none => (match i with
      | .ifCond c off => sv_jc B c off n pc st
      | .if_icmp c off => sv_j2 B c off n pc st
      | _ => none)) else none
theorem sv_f_flip {f : Bool × Bool × Bool} {x y : Int} : sv_f (f.2.2, f.2.1, f.1) y x = sv_f f x y := by
  unfold sv_f
  rcases Int.lt_trichotomy x y with h | h | h
  · rw [if_neg (by omega), if_neg (by omega), if_pos h]
  · rw [if_neg (by omega), if_pos h.symm, if_neg (by omega), if_pos h]
  · rw [if_pos h, if_neg (by omega), if_neg (by omega)]
theorem sv_jc_ok {ρ : Nat → Int} {B : sB} {c : Jvm.ClassFile.Cond} {off : Int} {n pc : Nat} {st : List sV} {est : List eV} {l : List (sB × Nat × List sV)} (hB : sb_in ρ B) (hs : sl_r ρ st est) (h : sv_jc B c off n pc st = some l) : ∃ (q : sB × Nat × List sV) (est' : List eV), q ∈ l ∧ sb_in ρ q.1 ∧ ev_j (.ifCond c off) n pc est = some (q.2.1, est') ∧ sl_r ρ q.2.2 est' := by
  cases st with
  | nil => cases h
  | cons x r =>
    have h : (if n = 3 ∧ 0 ≤ (pc : Int) + off ∧ sv_ty x = 0 then some ((sv_sp B (sv_fl c) x 0).map fun q => (q.1, sv_tg pc off q.2, r)) else none) = some l := h
    split at h
    · rename_i h0
      cases h
      cases est with
      | nil => exact absurd hs id
      | cons v rs =>
        obtain ⟨z, rfl⟩ := sv_ty0 hs.1 h0.2.2
        obtain ⟨B', h1, h2⟩ := sv_sp_ok (f := sv_fl c) (k := 0) hB hs.1
        refine ⟨(B', sv_tg pc off (sv_f (sv_fl c) (ev_w z) 0), r), rs, List.mem_map.mpr ⟨_, h1, rfl⟩, h2, ?_, hs.2⟩
        show (if n = 3 then ev_if c pc off z rs else none) = _
        rw [if_pos h0.1, ev_if_f h0.2.1]
    · cases h
theorem sv_j2_ok {ρ : Nat → Int} {B : sB} {c : Jvm.ClassFile.Cond} {off : Int} {n pc : Nat} {st : List sV} {est : List eV} {l : List (sB × Nat × List sV)} (hB : sb_in ρ B) (hs : sl_r ρ st est) (h : sv_j2 B c off n pc st = some l) : ∃ (q : sB × Nat × List sV) (est' : List eV), q ∈ l ∧ sb_in ρ q.1 ∧ ev_j (.if_icmp c off) n pc est = some (q.2.1, est') ∧ sl_r ρ q.2.2 est' := by
  match st, est, hs, h with
  | [], _, _, h => cases h
  | [_], _, _, h => cases h
  | y :: x :: r, [], hs, _ => exact absurd hs id
  | y :: x :: r, [_], hs, _ => exact absurd hs.2 id
  | y :: x :: r, v :: w :: rs, hs, h =>
    have h : (if n = 3 ∧ 0 ≤ (pc : Int) + off ∧ sv_ty y = 0 ∧ sv_ty x = 0 then (match sv_k y with
      | some k => some ((sv_sp B (sv_fl c) x (ev_w k)).map fun q => (q.1, sv_tg pc off q.2, r))
      | none => (match sv_k x with
        | some k => some ((sv_sp B ((sv_fl c).2.2, (sv_fl c).2.1, (sv_fl c).1) y (ev_w k)).map fun q => (q.1, sv_tg pc off q.2, r))
        | none => some [(B, sv_tg pc off true, r), (B, sv_tg pc off false, r)])) else none) = some l := h
    split at h
    · rename_i h0
      obtain ⟨z, rfl⟩ := sv_ty0 hs.1 h0.2.2.1
      obtain ⟨z2, rfl⟩ := sv_ty0 hs.2.1 h0.2.2.2
      have hev : ev_j (.if_icmp c off) n pc (eI z :: eI z2 :: rs) = some (sv_tg pc off (sv_f (sv_fl c) (ev_w z2) (ev_w z)), rs) := by
        show (if n = 3 then ev_ic c pc off z2 z rs else none) = _
        rw [if_pos h0.1, ev_ic_f h0.2.1]
      cases hy : sv_k y with
      | some k =>
        rw [hy] at h
        cases h
        have e1 := sv_k_ok hy
        subst e1
        have e2 : eI k = eI z := hs.1
        cases e2
        obtain ⟨B', h1, h2⟩ := sv_sp_ok (f := sv_fl c) (k := ev_w z) hB hs.2.1
        exact ⟨(B', sv_tg pc off (sv_f (sv_fl c) (ev_w z2) (ev_w z)), r), rs, List.mem_map.mpr ⟨_, h1, rfl⟩, h2, hev, hs.2.2⟩
      | none =>
        rw [hy] at h
        dsimp only at h
        cases hx : sv_k x with
        | some k =>
          rw [hx] at h
          cases h
          have e1 := sv_k_ok hx
          subst e1
          have e2 : eI k = eI z2 := hs.2.1
          cases e2
          obtain ⟨B', h1, h2⟩ := sv_sp_ok (f := ((sv_fl c).2.2, (sv_fl c).2.1, (sv_fl c).1)) (k := ev_w z2) hB hs.1
          rw [sv_f_flip] at h1
          exact ⟨(B', sv_tg pc off (sv_f (sv_fl c) (ev_w z2) (ev_w z)), r), rs, List.mem_map.mpr ⟨_, h1, rfl⟩, h2, hev, hs.2.2⟩
        | none =>
          rw [hx] at h
          cases h
          cases hf : sv_f (sv_fl c) (ev_w z2) (ev_w z) with
          | true => exact ⟨(B, sv_tg pc off true, r), rs, List.mem_cons_self, hB, by rw [hev, hf], hs.2.2⟩
          | false => exact ⟨(B, sv_tg pc off false, r), rs, List.mem_cons_of_mem _ (List.mem_singleton.mpr rfl), hB, by rw [hev, hf], hs.2.2⟩
    · cases h
theorem sv_j_ok {ρ : Nat → Int} {B : sB} {i : Instr} {n pc : Nat} {st : List sV} {est : List eV} {l : List (sB × Nat × List sV)} (hB : sb_in ρ B) (hs : sl_r ρ st est) (h : sv_j B i n pc st = some l) : ∃ (q : sB × Nat × List sV) (est' : List eV), q ∈ l ∧ sb_in ρ q.1 ∧ ev_j i n pc est = some (q.2.1, est') ∧ sl_r ρ q.2.2 est' := by
  unfold sv_j at h
  split at h
  · cases h
  · rename_i a ha
    split at h
    · rename_i hal
      split at h
      · rename_i es hes
        split at h
        · rename_i z hz
          cases h
          have htk := sl_r_take a st est hs
          have e1 := sv_c_ok _ _ _ hes htk.1
          subst e1
          have hlen : (est.take a).length = a := by
            rw [List.length_take, ← sl_r_len _ _ hs]
            omega
          have h2 := ev_j_fr ha hlen hz (est.drop a)
          rw [List.take_append_drop] at h2
          exact ⟨_, _, List.mem_singleton.mpr rfl, hB, h2, sl_r_app _ _ _ _ (sl_r_inl _) htk.2⟩
        · cases h
      · split at h
        · exact sv_jc_ok hB hs h
        · exact sv_j2_ok hB hs h
        · cases h
    · cases h
