/-! THE ABSTRACT EVALUATOR: memory -/
abbrev sG : Type := Nat → Nat × Nat × Lean.RArray sN
def sg_r (ρ : Nat → Int) (sg : sG) (fg : eG) : Prop := ∀ r : Nat, r < 64 → (sg r).1 ≠ 0 → (sg r).1 = (fg r).1 ∧ (sg r).2.1 = (fg r).2.1 ∧ ∀ j : Nat, j < (fg r).2.1 → sn_r ρ ((sg r).2.2.get j) ((fg r).2.2 j)
def sv_kd (M : sM) (r : Nat) : Option Nat := if r < 64 then none else if r - 64 < M.2.1 then some (M.1.get (r - 64)).1 else none
theorem sv_kd_ok {ρ : Nat → Int} {M : sM} {μ : eM} (hm : sm_r ρ M μ) {r kd : Nat} (h : sv_kd M r = some kd) : ev_kd μ r = some kd ∧ ∃ j, r = j + 64 ∧ j < M.2.1 ∧ (M.1.get j).1 = kd := by
  unfold sv_kd at h
  unfold ev_kd
  split at h
  · cases h
  · rename_i h0
    split at h
    · rename_i h1
      cases h
      rw [if_neg h0, (hm.2.2.2.2 _ h1).1]
      exact ⟨rfl, r - 64, by omega, h1, rfl⟩
    · cases h
def sv_al (sg : sG) (M : sM) (kd r : Nat) (i : Int) : Option sN :=
  if r < 64 then (if 0 < r ∧ (sg r).1 = kd ∧ 0 ≤ ev_w i ∧ ev_w i < ((sg r).2.1 : Int) then some ((sg r).2.2.get (ev_w i).toNat) else none)
  else if r - 64 < M.2.1 ∧ (M.1.get (r - 64)).1 = kd ∧ 0 ≤ ev_w i ∧ ev_w i < ((M.1.get (r - 64)).2.1 : Int) then some ((M.1.get (r - 64)).2.2.get (ev_w i).toNat) else none
theorem sv_al_ok {ρ : Nat → Int} {sg : sG} {fg : eG} {M : sM} {μ : eM} (hg : sg_r ρ sg fg) (hm : sm_r ρ M μ) {kd r : Nat} {i : Int} {n : sN} (hkd : kd ≠ 0) (h : sv_al sg M kd r i = some n) : ∃ x : Int, ev_al fg μ kd r i = some x ∧ sn_r ρ n x := by
  unfold sv_al at h
  unfold ev_al
  split at h
  · rename_i h0
    split at h
    · rename_i h1
      cases h
      obtain ⟨g1, g2, g3⟩ := hg r h0 (by rw [h1.2.1]; exact hkd)
      rw [g1, g2] at h1
      rw [if_pos h0, if_pos h1]
      exact ⟨_, rfl, g3 _ (by omega)⟩
    · cases h
  · rename_i h0
    split at h
    · rename_i h1
      cases h
      obtain ⟨m1, m2, m3, m4⟩ := hm.2.2.2.2 _ h1.1
      rw [if_neg h0, m1]
      dsimp only
      rw [if_pos h1.2]
      refine ⟨_, rfl, ?_⟩
      have h4 := m4 (ev_w i).toNat (by have := h1.2.2; omega)
      rw [show r - 64 + 64 = r by omega] at h4
      exact h4
    · cases h
/-- memory with one number changed -/
def sv_wr (M : sM) (r b : Nat) (v : sN) : sM := (tr_set 8 0 M.1 (r - 64) ((M.1.get (r - 64)).1, (M.1.get (r - 64)).2.1, tr_set (sdp (M.1.get (r - 64)).2.1) 0 (M.1.get (r - 64)).2.2 b v), M.2)
def sv_wrK {α : Type} (M : sM) (r b : Nat) (v : sN) (k : sM → α) : α := match M with
  | (T, n) => (match T.get (r - 64) with
    | (c1, c2, c3) => tr_setK (sdp c2) 0 c3 b v fun c4 => tr_setK 8 0 T (r - 64) (c1, c2, c4) fun T' => k (T', n))
theorem sv_wrK_eq {α : Type} (M : sM) (r b : Nat) (v : sN) (k : sM → α) : sv_wrK M r b v k = k (sv_wr M r b v) := by
  obtain ⟨T, n⟩ := M
  show (match T.get (r - 64) with
    | (c1, c2, c3) => tr_setK (sdp c2) 0 c3 b v fun c4 => tr_setK 8 0 T (r - 64) (c1, c2, c4) fun T' => k (T', n)) = k (tr_set 8 0 T (r - 64) ((T.get (r - 64)).1, (T.get (r - 64)).2.1, tr_set (sdp (T.get (r - 64)).2.1) 0 (T.get (r - 64)).2.2 b v), n)
  obtain ⟨c1, c2, c3⟩ := T.get (r - 64)
  dsimp only
  rw [tr_setK_eq, tr_setK_eq]
theorem sm_r.wr {ρ : Nat → Int} {M : sM} {μ : eM} (hm : sm_r ρ M μ) {j b : Nat} {v : sN} {x : Int} (hj : j < M.2.1) (hb : b < (M.1.get j).2.1) (hv : sn_r ρ v x) : sm_r ρ (sv_wr M (j + 64) b v) (ev_up μ.1 (j + 64) b x, μ.2) := by
  obtain ⟨m1, m2, m3, m4, m5⟩ := hm
  have e64 : j + 64 - 64 = j := by omega
  have hp8 : (2 : Nat) ^ 8 = 256 := rfl
  refine ⟨m1, m2, m3, tr_set_ok _ _ _ _ _ m4, fun q hq => ?_⟩
  have hq : q < M.2.1 := hq
  have hget : (sv_wr M (j + 64) b v).1.get q = if q = j then ((M.1.get j).1, (M.1.get j).2.1, tr_set (sdp (M.1.get j).2.1) 0 (M.1.get j).2.2 b v) else M.1.get q := by
    show (tr_set 8 0 M.1 (j + 64 - 64) ((M.1.get (j + 64 - 64)).1, (M.1.get (j + 64 - 64)).2.1, tr_set (sdp (M.1.get (j + 64 - 64)).2.1) 0 (M.1.get (j + 64 - 64)).2.2 b v)).get q = _
    rw [e64]
    exact tr_get_set 8 0 M.1 j _ m4 (Nat.zero_le _) (by omega) q (Nat.zero_le _) (by omega)
  rw [hget]
  obtain ⟨c1, c2, c3, c4⟩ := m5 q hq
  have hd := sdp_ok c3
  by_cases hqj : q = j
  · subst hqj
    rw [if_pos rfl]
    refine ⟨c1, tr_set_ok _ _ _ _ _ c2, c3, fun i hi => ?_⟩
    have hi : i < (M.1.get q).2.1 := hi
    have hg2 : (tr_set (sdp (M.1.get q).2.1) 0 (M.1.get q).2.2 b v).get i = if i = b then v else (M.1.get q).2.2.get i := tr_get_set (sdp (M.1.get q).2.1) 0 _ b v c2 (Nat.zero_le _) (by omega) i (Nat.zero_le _) (by omega)
    show sn_r ρ ((tr_set (sdp (M.1.get q).2.1) 0 (M.1.get q).2.2 b v).get i) (ev_up μ.1 (q + 64) b x (q + 64) i)
    rw [hg2]
    unfold ev_up ev_ur ev_u1
    rw [if_pos rfl]
    by_cases hib : i = b
    · rw [if_pos hib, if_pos hib]
      exact hv
    · rw [if_neg hib, if_neg hib]
      exact c4 i hi
  · rw [if_neg hqj]
    refine ⟨c1, c2, c3, fun i hi => ?_⟩
    show sn_r ρ ((M.1.get q).2.2.get i) (ev_up μ.1 (j + 64) b x (q + 64) i)
    unfold ev_up ev_ur
    rw [if_neg (by omega)]
    exact c4 i hi
def sv_as (M : sM) (kd r : Nat) (i : Int) (v : sN) : Option sM := if r < 64 then none else if r - 64 < M.2.1 ∧ (M.1.get (r - 64)).1 = kd ∧ 0 ≤ ev_w i ∧ ev_w i < ((M.1.get (r - 64)).2.1 : Int) then sv_wrK M r (ev_w i).toNat v some else none
theorem sv_as_ok {ρ : Nat → Int} {M M' : sM} {μ : eM} (hm : sm_r ρ M μ) {kd r : Nat} {i x : Int} {v : sN} (hv : sn_r ρ v x) (h : sv_as M kd r i v = some M') : ∃ μ' : eM, ev_as μ kd r i x = some μ' ∧ sm_r ρ M' μ' := by
  unfold sv_as at h
  unfold ev_as
  split at h
  · cases h
  · rename_i h0
    split at h
    · rename_i h1
      rw [sv_wrK_eq] at h
      cases h
      obtain ⟨m1, m2, m3, m4⟩ := hm.2.2.2.2 _ h1.1
      rw [if_neg h0, m1]
      dsimp only
      rw [if_pos h1.2]
      refine ⟨_, rfl, ?_⟩
      have h9 := hm.wr (b := (ev_w i).toNat) h1.1 (by have := h1.2.2; omega) hv
      rw [show r - 64 + 64 = r by omega] at h9
      exact h9
    · cases h
def sv_nw (M : sM) (kd n : Nat) : Option sM := if M.2.1 < 256 ∧ n ≤ 16384 then tr_setK 8 0 M.1 M.2.1 (kd, n, .leaf (.inl 0)) fun T => fz_N (M.2.1 + 1) fun a => fz_N (M.2.2 + n) fun b => some (T, a, b) else none
theorem sv_nw_ok {ρ : Nat → Int} {M M' : sM} {μ : eM} (hm : sm_r ρ M μ) {kd n : Nat} (h : sv_nw M kd n = some M') : sm_r ρ M' (ev_nw μ kd n) := by
  unfold sv_nw at h
  split at h
  · rename_i h0
    rw [tr_setK_eq, fz_N_eq, fz_N_eq] at h
    cases h
    obtain ⟨m1, m2, m3, m4, m5⟩ := hm
    have hp8 : (2 : Nat) ^ 8 = 256 := rfl
    refine ⟨?_, ?_, h0.1, tr_set_ok _ _ _ _ _ m4, fun q hq => ?_⟩
    · show (μ.2.1 ++ [(kd, n)]).length = M.2.1 + 1
      rw [List.length_append, m1]
      rfl
    · show μ.2.2 + n = M.2.2 + n
      rw [m2]
    · have hq : q < M.2.1 + 1 := hq
      have hget : (tr_set 8 0 M.1 M.2.1 (kd, n, Lean.RArray.leaf (.inl 0))).get q = if q = M.2.1 then (kd, n, .leaf (.inl 0)) else M.1.get q := tr_get_set 8 0 M.1 M.2.1 _ m4 (Nat.zero_le _) (by omega) q (Nat.zero_le _) (by omega)
      show (μ.2.1 ++ [(kd, n)])[q]? = some (((tr_set 8 0 M.1 M.2.1 (kd, n, Lean.RArray.leaf (.inl 0))).get q).1, ((tr_set 8 0 M.1 M.2.1 (kd, n, Lean.RArray.leaf (.inl 0))).get q).2.1) ∧ tr_ok (sdp ((tr_set 8 0 M.1 M.2.1 (kd, n, Lean.RArray.leaf (.inl 0))).get q).2.1) 0 ((tr_set 8 0 M.1 M.2.1 (kd, n, Lean.RArray.leaf (.inl 0))).get q).2.2 ∧ ((tr_set 8 0 M.1 M.2.1 (kd, n, Lean.RArray.leaf (.inl 0))).get q).2.1 ≤ 16384 ∧ ∀ i : Nat, i < ((tr_set 8 0 M.1 M.2.1 (kd, n, Lean.RArray.leaf (.inl 0))).get q).2.1 → sn_r ρ (((tr_set 8 0 M.1 M.2.1 (kd, n, Lean.RArray.leaf (.inl 0))).get q).2.2.get i) (ev_ur μ.1 (μ.2.1.length + 64) (fun _ => 0) (q + 64) i)
      rw [hget]
      by_cases hqm : q = M.2.1
      · rw [if_pos hqm]
        refine ⟨?_, tr_ok_leaf _ _ _, h0.2, fun i hi => ?_⟩
        · rw [List.getElem?_append_right (by omega), m1, hqm, Nat.sub_self]
          rfl
        · unfold ev_ur
          rw [if_pos (by omega)]
          rfl
      · rw [if_neg hqm]
        obtain ⟨c1, c2, c3, c4⟩ := m5 q (by omega)
        refine ⟨?_, c2, c3, fun i hi => ?_⟩
        · rw [List.getElem?_append_left (by omega)]
          exact c1
        · unfold ev_ur
          rw [if_neg (by omega)]
          exact c4 i hi
  · cases h
/-! numbers of memory as values, and back -/
def sv_nI (n : sN) : sV := match n with
  | .inl x => .inl (eI x)
  | .inr (.inl a) => .inr (.inl a)
  | .inr (.inr _) => sI none
theorem sv_nI_ok {ρ : Nat → Int} {n : sN} {x : Int} (h : sn_r ρ n x) : sv_r ρ (sv_nI n) (eI x) := by
  rcases n with a | ((i | b) | u)
  · have h : a = x := h
    subst h
    rfl
  · exact h
  · cases b with
    | none => exact True.intro
    | some b => exact h
  · exact True.intro
def sv_nJ (n : sN) : sV := match n with
  | .inl x => .inl (eJ x)
  | .inr _ => sJ
theorem sv_nJ_ok {ρ : Nat → Int} {n : sN} {x : Int} (h : sn_r ρ n x) : sv_r ρ (sv_nJ n) (eJ x) := by
  rcases n with a | u
  · have h : a = x := h
    subst h
    rfl
  · exact True.intro
def sv_pv (t : Nat) (n : sN) : Option sV := match t with
  | 2 => some (sv_nJ n)
  | 3 => (match n with
    | .inl x => some (.inl (eR x.toNat))
    | .inr _ => none)
  | _ => some (sv_nI n)
theorem sv_pv_ok {ρ : Nat → Int} {t : Nat} {n : sN} {x : Int} {v : sV} (h : sn_r ρ n x) (hv : sv_pv t n = some v) : sv_r ρ v (ev_pv t x) := by
  match t, hv with
  | 0, hv =>
    cases hv
    exact sv_nI_ok h
  | 1, hv =>
    cases hv
    exact sv_nI_ok h
  | 2, hv =>
    cases hv
    exact sv_nJ_ok h
  | 3, hv =>
    cases n with
    | inl a =>
      cases hv
      have h : a = x := h
      subst h
      rfl
    | inr a => cases hv
  | q + 4, hv =>
    cases hv
    exact sv_nI_ok h
def sv_In (v : sV) : Option sN := match v with
  | .inl (.inl (.inl x)) => some (.inl x)
  | .inr (.inl a) => some (.inr (.inl a))
  | _ => none
theorem sv_In_ok {ρ : Nat → Int} {v : sV} {e : eV} {n : sN} (h : sv_r ρ v e) (hn : sv_In v = some n) : ∃ x : Int, e = eI x ∧ sn_r ρ n x := by
  unfold sv_In at hn
  split at hn
  · rename_i x
    cases hn
    exact ⟨x, h.symm, rfl⟩
  · rename_i a
    cases hn
    obtain ⟨z, rfl⟩ := sv_ty0 h rfl
    refine ⟨z, rfl, ?_⟩
    rcases a with i | b
    · exact h
    · cases b with
      | none => exact True.intro
      | some b => exact h
  · cases hn
def sv_Jn (v : sV) : Option sN := match v with
  | .inl (.inl (.inr x)) => some (.inl x)
  | .inr (.inr u) => some (.inr (.inr u))
  | _ => none
theorem sv_Jn_ok {ρ : Nat → Int} {v : sV} {e : eV} {n : sN} (h : sv_r ρ v e) (hn : sv_Jn v = some n) : ∃ x : Int, e = eJ x ∧ sn_r ρ n x := by
  unfold sv_Jn at hn
  split at hn
  · rename_i x
    cases hn
    exact ⟨x, h.symm, rfl⟩
  · rename_i u
    cases hn
    obtain ⟨z, rfl⟩ := sv_ty1 h rfl
    exact ⟨z, rfl, True.intro⟩
  · cases hn
def sv_qv (B : sB) (t : Nat) (v : sV) : Option sN := match t with
  | 0 => sv_In v
  | 1 => (match v with
    | .inl (.inl (.inl x)) => if ev_w x = 0 ∨ ev_w x = 1 then some (.inl x) else none
    | _ => (match sc_b B v with
      | some b => if 0 ≤ b.1 ∧ b.2 ≤ 1 then sv_In v else none
      | none => none))
  | 2 => sv_Jn v
  | 3 => (match v with
    | .inl (.inr (.inr r)) => some (.inl (r : Int))
    | _ => none)
  | _ => none
theorem sv_qv_ok {ρ : Nat → Int} {B : sB} {t : Nat} {v : sV} {e : eV} {n : sN} (hB : sb_in ρ B) (h : sv_r ρ v e) (hn : sv_qv B t v = some n) : ∃ x : Int, ev_qv t e = some x ∧ sn_r ρ n x := by
  unfold sv_qv at hn
  split at hn
  · obtain ⟨x, rfl, h1⟩ := sv_In_ok h hn
    exact ⟨x, rfl, h1⟩
  · split at hn
    · rename_i x
      split at hn
      · rename_i h0
        cases hn
        have h : eI x = e := h
        subst h
        refine ⟨x, ?_, rfl⟩
        show (if ev_w x = 0 ∨ ev_w x = 1 then some x else none) = _
        rw [if_pos h0]
      · cases hn
    · split at hn
      · rename_i b hb
        split at hn
        · rename_i h0
          obtain ⟨x, rfl, h1⟩ := sv_In_ok h hn
          obtain ⟨z, e1, h2⟩ := sc_b_ok hB h hb
          cases e1
          refine ⟨x, ?_, h1⟩
          show (if ev_w x = 0 ∨ ev_w x = 1 then some x else none) = _
          rw [if_pos (by rw [ev_w_in (by omega) (by omega)]; omega)]
        · cases hn
      · cases hn
  · obtain ⟨x, rfl, h1⟩ := sv_Jn_ok h hn
    exact ⟨x, rfl, h1⟩
  · split at hn
    · rename_i r
      cases hn
      have h : eR r = e := h
      subst h
      exact ⟨(r : Int), rfl, rfl⟩
    · cases hn
  · cases hn
def sv_ln (sg : sG) (M : sM) (r : Nat) : Option Nat :=
  if r < 64 then (if 0 < r ∧ (sg r).1 ≠ 0 then some (sg r).2.1 else none)
  else if r - 64 < M.2.1 ∧ 100 ≤ (M.1.get (r - 64)).1 ∧ (M.1.get (r - 64)).1 ≤ 103 then some (M.1.get (r - 64)).2.1 else none
theorem sv_ln_ok {ρ : Nat → Int} {sg : sG} {fg : eG} {M : sM} {μ : eM} (hg : sg_r ρ sg fg) (hm : sm_r ρ M μ) {r n : Nat} (h : sv_ln sg M r = some n) : ev_ln fg μ r = some n := by
  unfold sv_ln at h
  unfold ev_ln
  split at h
  · rename_i h0
    split at h
    · rename_i h1
      obtain ⟨g1, g2, g3⟩ := hg r h0 h1.2
      cases h
      rw [g1] at h1
      rw [if_pos h0, if_pos h1, g2]
    · cases h
  · rename_i h0
    split at h
    · rename_i h1
      cases h
      rw [if_neg h0, (hm.2.2.2.2 _ h1.1).1]
      dsimp only
      rw [if_pos h1.2]
    · cases h
/-- a number as a byte -/
def sv_bn (v : sV) : sN := match v with
  | .inl (.inl (.inl x)) => .inl ((x + 128) % 256 - 128)
  | _ => .inr (.inl (.inr (some (-128, 127))))
theorem sv_bn_ok {ρ : Nat → Int} {v : sV} {z : Int} (h : sv_r ρ v (eI z)) : sn_r ρ (sv_bn v) ((z + 128) % 256 - 128) := by
  have hb : -128 ≤ (z + 128) % 256 - 128 ∧ (z + 128) % 256 - 128 ≤ 127 := by omega
  rcases v with ((x | x) | x) | a
  · have h : eI x = eI z := h
    cases h
    rfl
  · exact hb
  · exact hb
  · exact hb
/-- the memory's instructions -/
def sv_m (sg : sG) (B : sB) (i : Instr) (a b t : Nat) (x : Int) (st : List sV) (M : sM) : Option (List sV × sM) := match i with
  | .getfield _ => (match st with
    | .inl (.inr (.inr r)) :: s => if sv_kd M r = some a ∧ b < (M.1.get (r - 64)).2.1 then (match sv_pv t ((M.1.get (r - 64)).2.2.get b) with
      | some v => some (v :: s, M)
      | none => none) else none
    | _ => none)
  | .putfield _ => (match st with
    | v :: .inl (.inr (.inr r)) :: s => if sv_kd M r = some a ∧ b < (M.1.get (r - 64)).2.1 then (match sv_qv B t v with
      | some n => sv_wrK M r b n fun M' => some (s, M')
      | none => none) else none
    | _ => none)
  | .iaload => (match st with
    | .inl (.inl (.inl i)) :: .inl (.inr (.inr r)) :: s => (match sv_al sg M 100 r i with
      | some n => some (sv_nI n :: s, M)
      | none => none)
    | _ => none)
  | .laload => (match st with
    | .inl (.inl (.inl i)) :: .inl (.inr (.inr r)) :: s => (match sv_al sg M 101 r i with
      | some n => some (sv_nJ n :: s, M)
      | none => none)
    | _ => none)
  | .baload => (match st with
    | .inl (.inl (.inl i)) :: .inl (.inr (.inr r)) :: s => if sv_kd M r = some 102 then (match sv_al sg M 102 r i with
      | some n => some (sv_nI n :: s, M)
      | none => none) else if sv_kd M r = some 103 then (match sv_al sg M 103 r i with
      | some n => some (sv_nI n :: s, M)
      | none => none) else none
    | _ => none)
  | .iastore => (match st with
    | v :: .inl (.inl (.inl i)) :: .inl (.inr (.inr r)) :: s => (match sv_In v with
      | some n => (match sv_as M 100 r i n with
        | some M' => some (s, M')
        | none => none)
      | none => none)
    | _ => none)
  | .lastore => (match st with
    | v :: .inl (.inl (.inl i)) :: .inl (.inr (.inr r)) :: s => (match sv_Jn v with
      | some n => (match sv_as M 101 r i n with
        | some M' => some (s, M')
        | none => none)
      | none => none)
    | _ => none)
  | .bastore => (match st with
    | v :: .inl (.inl (.inl i)) :: .inl (.inr (.inr r)) :: s => if sv_kd M r = some 102 ∧ sv_ty v = 0 then (match sv_as M 102 r i (sv_bn v) with
      | some M' => some (s, M')
      | none => none) else if sv_kd M r = some 103 then (match sv_qv B 1 v with
      | some n => (match sv_as M 103 r i n with
        | some M' => some (s, M')
        | none => none)
      | none => none) else none
    | _ => none)
  | .arraylength => (match st with
    | .inl (.inr (.inr r)) :: s => (match sv_ln sg M r with
      | some n => some (.inl (eI (n : Int)) :: s, M)
      | none => none)
    | _ => none)
  | .new _ => (match sv_nw M a (dt_lay a).length with
    | some M' => some (.inl (eR (M.2.1 + 64)) :: st, M')
    | none => none)
  | .newarray _ => (match st with
    | .inl (.inl (.inl n)) :: s => if 0 ≤ ev_w n ∧ ev_w n ≤ 1000000 then (match sv_nw M a (ev_w n).toNat with
      | some M' => some (.inl (eR (M.2.1 + 64)) :: s, M')
      | none => none) else none
    | _ => none)
  | .ldc _ => if a = 0 then some (.inl (eI x) :: st, M) else none
  | .ldc_w _ => if a = 0 then some (.inl (eI x) :: st, M) else none
  | .ldc2_w _ => if a = 1 then some (.inl (eJ x) :: st, M) else if a = 2 then some (.inl (eD (UInt64.ofNat x.toNat)) :: st, M) else none
  | .getstatic _ => some (.inl (eR a) :: st, M)
  | _ => none
theorem ev_al_kd {fg : eG} {μ : eM} {kd kd' r : Nat} {i : Int} (h : ev_kd μ r = some kd) (hk : kd ≠ kd') : ev_al fg μ kd' r i = none := by
  obtain ⟨j, n, rfl, hj⟩ := ev_kd_ok h
  unfold ev_al
  rw [if_neg (by omega), show j + 64 - 64 = j by omega, hj]
  dsimp only
  rw [if_neg (fun q => hk q.1)]
theorem ev_as_kd {μ : eM} {kd kd' r : Nat} {i x : Int} (h : ev_kd μ r = some kd) (hk : kd ≠ kd') : ev_as μ kd' r i x = none := by
  obtain ⟨j, n, rfl, hj⟩ := ev_kd_ok h
  unfold ev_as
  rw [if_neg (by omega), show j + 64 - 64 = j by omega, hj]
  dsimp only
  rw [if_neg (fun q => hk q.1)]
theorem sl_r_1 {ρ : Nat → Int} {x : sV} {xs : List sV} {est : List eV} (h : sl_r ρ (x :: xs) est) : ∃ v vs, est = v :: vs ∧ sv_r ρ x v ∧ sl_r ρ xs vs := by
  cases est with
  | nil => exact absurd h id
  | cons v vs => exact ⟨v, vs, rfl, h.1, h.2⟩
theorem sl_r_2 {ρ : Nat → Int} {x y : sV} {xs : List sV} {est : List eV} (h : sl_r ρ (x :: y :: xs) est) : ∃ v w vs, est = v :: w :: vs ∧ sv_r ρ x v ∧ sv_r ρ y w ∧ sl_r ρ xs vs := by
  obtain ⟨v, vs, rfl, h1, h2⟩ := sl_r_1 h
  obtain ⟨w, ws, rfl, h3, h4⟩ := sl_r_1 h2
  exact ⟨v, w, ws, rfl, h1, h3, h4⟩
theorem sl_r_3 {ρ : Nat → Int} {x y z : sV} {xs : List sV} {est : List eV} (h : sl_r ρ (x :: y :: z :: xs) est) : ∃ v w u vs, est = v :: w :: u :: vs ∧ sv_r ρ x v ∧ sv_r ρ y w ∧ sv_r ρ z u ∧ sl_r ρ xs vs := by
  obtain ⟨v, w, vs, rfl, h1, h2, h3⟩ := sl_r_2 h
  obtain ⟨u, us, rfl, h4, h5⟩ := sl_r_1 h3
  exact ⟨v, w, u, us, rfl, h1, h2, h4, h5⟩
set_option maxHeartbeats 2000000 in
theorem sv_m_ok {ρ : Nat → Int} {sg : sG} {fg : eG} {B : sB} {i : Instr} {a b t : Nat} {x : Int} {st st' : List sV} {est : List eV} {M M' : sM} {μ : eM} (hg : sg_r ρ sg fg) (hB : sb_in ρ B) (hs : sl_r ρ st est) (hm : sm_r ρ M μ) (h : sv_m sg B i a b t x st M = some (st', M')) : ∃ est' μ', ev_m fg i a b t x est μ = some (est', μ') ∧ sl_r ρ st' est' ∧ sm_r ρ M' μ' := by
  have hlen : μ.2.1.length = M.2.1 := hm.1
  cases i
  case getfield idx =>
    simp only [sv_m] at h
    split at h
    · rename_i r s
      split at h
      · rename_i h0
        split at h
        · rename_i v hv
          cases h
          obtain ⟨e, vs, rfl, h1, h2⟩ := sl_r_1 hs
          have h1 : eR r = e := h1
          subst h1
          obtain ⟨k1, j, rfl, k2, k3⟩ := sv_kd_ok hm h0.1
          have e64 : j + 64 - 64 = j := by omega
          have h0b := h0.2
          rw [e64] at hv h0b
          refine ⟨ev_pv t (μ.1 (j + 64) b) :: vs, μ, ?_, ⟨sv_pv_ok ((hm.2.2.2.2 j k2).2.2.2 b h0b) hv, h2⟩, hm⟩
          show (if ev_kd μ (j + 64) = some a then _ else none) = _
          rw [if_pos k1]
        · cases h
      · cases h
    · cases h
  case putfield idx =>
    simp only [sv_m] at h
    split at h
    · rename_i v r s
      split at h
      · rename_i h0
        split at h
        · rename_i n hn
          rw [sv_wrK_eq] at h
          cases h
          obtain ⟨e, w, vs, rfl, h1, h2, h3⟩ := sl_r_2 hs
          have h2 : eR r = w := h2
          subst h2
          obtain ⟨x9, q1, q2⟩ := sv_qv_ok hB h1 hn
          obtain ⟨k1, j, rfl, k2, k3⟩ := sv_kd_ok hm h0.1
          have h0b := h0.2
          rw [show j + 64 - 64 = j by omega] at h0b
          refine ⟨vs, (ev_up μ.1 (j + 64) b x9, μ.2), ?_, h3, hm.wr k2 h0b q2⟩
          show (if ev_kd μ (j + 64) = some a then (match ev_qv t e with
            | some x => some (vs, (ev_up μ.1 (j + 64) b x, μ.2))
            | none => none) else none) = _
          rw [if_pos k1, q1]
        · cases h
      · cases h
    · cases h
  case iaload =>
    simp only [sv_m] at h
    split at h
    · rename_i ix r s
      split at h
      · rename_i n hn
        cases h
        obtain ⟨e, w, vs, rfl, h1, h2, h3⟩ := sl_r_2 hs
        have h1 : eI ix = e := h1
        have h2 : eR r = w := h2
        subst h1
        subst h2
        obtain ⟨x9, q1, q2⟩ := sv_al_ok hg hm (by decide) hn
        refine ⟨eI x9 :: vs, μ, ?_, ⟨sv_nI_ok q2, h3⟩, hm⟩
        simp only [ev_m, q1]
      · cases h
    · cases h
  case laload =>
    simp only [sv_m] at h
    split at h
    · rename_i ix r s
      split at h
      · rename_i n hn
        cases h
        obtain ⟨e, w, vs, rfl, h1, h2, h3⟩ := sl_r_2 hs
        have h1 : eI ix = e := h1
        have h2 : eR r = w := h2
        subst h1
        subst h2
        obtain ⟨x9, q1, q2⟩ := sv_al_ok hg hm (by decide) hn
        refine ⟨eJ x9 :: vs, μ, ?_, ⟨sv_nJ_ok q2, h3⟩, hm⟩
        simp only [ev_m, q1]
      · cases h
    · cases h
  case baload =>
    simp only [sv_m] at h
    split at h
    · rename_i ix r s
      obtain ⟨e, w, vs, rfl, h1, h2, h3⟩ := sl_r_2 hs
      have h1 : eI ix = e := h1
      have h2 : eR r = w := h2
      subst h1
      subst h2
      split at h
      · rename_i hk
        split at h
        · rename_i n hn
          cases h
          obtain ⟨x9, q1, q2⟩ := sv_al_ok hg hm (by decide) hn
          refine ⟨eI x9 :: vs, μ, ?_, ⟨sv_nI_ok q2, h3⟩, hm⟩
          simp only [ev_m, q1]
        · cases h
      · split at h
        · rename_i hk
          split at h
          · rename_i n hn
            cases h
            obtain ⟨x9, q1, q2⟩ := sv_al_ok hg hm (by decide) hn
            refine ⟨eI x9 :: vs, μ, ?_, ⟨sv_nI_ok q2, h3⟩, hm⟩
            have q0 := ev_al_kd (fg := fg) (kd' := 102) (i := ix) (sv_kd_ok hm hk).1 (by decide)
            simp only [ev_m, q0, q1]
          · cases h
        · cases h
    · cases h
  case iastore =>
    simp only [sv_m] at h
    split at h
    · rename_i v ix r s
      split at h
      · rename_i n hn
        split at h
        · rename_i M9 hM9
          cases h
          obtain ⟨e, w, u, vs, rfl, h1, h2, h3, h4⟩ := sl_r_3 hs
          have h2 : eI ix = w := h2
          have h3 : eR r = u := h3
          subst h2
          subst h3
          obtain ⟨x9, rfl, q2⟩ := sv_In_ok h1 hn
          obtain ⟨μ9, q3, q4⟩ := sv_as_ok hm q2 hM9
          refine ⟨vs, μ9, ?_, h4, q4⟩
          simp only [ev_m, q3]
        · cases h
      · cases h
    · cases h
  case lastore =>
    simp only [sv_m] at h
    split at h
    · rename_i v ix r s
      split at h
      · rename_i n hn
        split at h
        · rename_i M9 hM9
          cases h
          obtain ⟨e, w, u, vs, rfl, h1, h2, h3, h4⟩ := sl_r_3 hs
          have h2 : eI ix = w := h2
          have h3 : eR r = u := h3
          subst h2
          subst h3
          obtain ⟨x9, rfl, q2⟩ := sv_Jn_ok h1 hn
          obtain ⟨μ9, q3, q4⟩ := sv_as_ok hm q2 hM9
          refine ⟨vs, μ9, ?_, h4, q4⟩
          simp only [ev_m, q3]
        · cases h
      · cases h
    · cases h
  case bastore =>
    simp only [sv_m] at h
    split at h
    · rename_i v ix r s
      obtain ⟨e, w, u, vs, rfl, h1, h2, h3, h4⟩ := sl_r_3 hs
      have h2 : eI ix = w := h2
      have h3 : eR r = u := h3
      subst h2
      subst h3
      split at h
      · rename_i hk
        split at h
        · rename_i M9 hM9
          cases h
          obtain ⟨z, rfl⟩ := sv_ty0 h1 hk.2
          have hn := sv_bn_ok h1
          obtain ⟨μ9, q3, q4⟩ := sv_as_ok hm hn hM9
          refine ⟨vs, μ9, ?_, h4, q4⟩
          simp only [ev_m, q3]
        · cases h
      · split at h
        · rename_i hk
          split at h
          · rename_i n hn
            split at h
            · rename_i M9 hM9
              cases h
              obtain ⟨x9, q1, q2⟩ := sv_qv_ok hB h1 hn
              obtain ⟨rfl, hz⟩ := ev_qv1 q1
              obtain ⟨μ9, q3, q4⟩ := sv_as_ok hm q2 hM9
              refine ⟨vs, μ9, ?_, h4, q4⟩
              have q0 := ev_as_kd (kd' := 102) (i := ix) (x := (x9 + 128) % 256 - 128) (sv_kd_ok hm hk).1 (by decide)
              simp only [ev_m, q0, if_pos hz, q3]
            · cases h
          · cases h
        · cases h
    · cases h
  case arraylength =>
    simp only [sv_m] at h
    split at h
    · rename_i r s
      split at h
      · rename_i n hn
        cases h
        obtain ⟨e, vs, rfl, h1, h2⟩ := sl_r_1 hs
        have h1 : eR r = e := h1
        subst h1
        have q1 := sv_ln_ok hg hm hn
        refine ⟨eI (n : Int) :: vs, μ, ?_, ⟨rfl, h2⟩, hm⟩
        simp only [ev_m, q1]
      · cases h
    · cases h
  case new idx =>
    simp only [sv_m] at h
    split at h
    · rename_i M9 hM9
      cases h
      refine ⟨eR (μ.2.1.length + 64) :: est, ev_nw μ a (dt_lay a).length, rfl, ⟨?_, hs⟩, sv_nw_ok hm hM9⟩
      rw [hlen]
      rfl
    · cases h
  case newarray ty =>
    simp only [sv_m] at h
    split at h
    · rename_i n s
      split at h
      · rename_i h0
        split at h
        · rename_i M9 hM9
          cases h
          obtain ⟨e, vs, rfl, h1, h2⟩ := sl_r_1 hs
          have h1 : eI n = e := h1
          subst h1
          refine ⟨eR (μ.2.1.length + 64) :: vs, ev_nw μ a (ev_w n).toNat, ?_, ⟨?_, h2⟩, sv_nw_ok hm hM9⟩
          · simp only [ev_m, if_pos h0]
          · rw [hlen]
            rfl
        · cases h
      · cases h
    · cases h
  case ldc idx =>
    simp only [sv_m] at h
    split at h
    · rename_i h0
      cases h
      exact ⟨eI x :: est, μ, by simp only [ev_m, if_pos h0], ⟨rfl, hs⟩, hm⟩
    · cases h
  case ldc_w idx =>
    simp only [sv_m] at h
    split at h
    · rename_i h0
      cases h
      exact ⟨eI x :: est, μ, by simp only [ev_m, if_pos h0], ⟨rfl, hs⟩, hm⟩
    · cases h
  case ldc2_w idx =>
    simp only [sv_m] at h
    split at h
    · rename_i h0
      cases h
      exact ⟨eJ x :: est, μ, by simp only [ev_m, if_pos h0], ⟨rfl, hs⟩, hm⟩
    · rename_i h1
      split at h
      · rename_i h0
        cases h
        exact ⟨eD (UInt64.ofNat x.toNat) :: est, μ, by simp only [ev_m, if_neg h1, if_pos h0], ⟨rfl, hs⟩, hm⟩
      · cases h
  case getstatic idx =>
    simp only [sv_m] at h
    cases h
    exact ⟨eR a :: est, μ, rfl, ⟨rfl, hs⟩, hm⟩
  all_goals (simp [sv_m] at h)
