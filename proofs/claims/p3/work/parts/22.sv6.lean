/-! THE ABSTRACT EVALUATOR: the step and the run -/
def dt_kl : Instr → Nat
  | .goto _ | .ifCond _ _ | .if_icmp _ _ | .ifnonnull _ | .ifnull _ | .tableswitch _ _ _ _ => 1
  | .getfield _ | .putfield _ | .iaload | .laload | .baload | .iastore | .lastore | .bastore | .arraylength | .new _ | .newarray _ | .ldc _ | .ldc_w _ | .ldc2_w _ | .getstatic _ => 2
  | .return_ | .ireturn | .lreturn | .dreturn | .areturn => 3
  | .invokespecial _ | .invokestatic _ | .invokevirtual _ => 4
  | _ => 0
theorem kl_s {i : Instr} (h : dt_kl i ≠ 0) (lv : List (Option eV)) (st : List eV) : ev_s i lv st = none := by
  cases i <;> first | rfl | exact absurd rfl h
theorem kl_j {i : Instr} (h : dt_kl i ≠ 1) (n pc : Nat) (st : List eV) : ev_j i n pc st = none := by
  cases i <;> first | rfl | exact absurd rfl h
theorem kl_m {i : Instr} (h : dt_kl i ≠ 2) (fg : eG) (a b t : Nat) (x : Int) (st : List eV) (μ : eM) : ev_m fg i a b t x st μ = none := by
  cases i <;> first | rfl | exact absurd rfl h
theorem kl_rt {i : Instr} (h : dt_kl i ≠ 3) (y : Nat) (st : List eV) : ev_rt y i st = none := by
  cases i <;> first | rfl | exact absurd rfl h
theorem kl_o {i : Instr} (h : dt_kl i ≠ 4) (d a : Nat) (st : List eV) (μ : eM) : ev_o d i a st μ = none := by
  cases i <;> first | rfl | exact absurd rfl h
theorem sv_jar_kl {i : Instr} {a : Nat} (h : sv_jar i = some a) : dt_kl i = 1 := by
  cases i <;> first | rfl | (simp [sv_jar] at h)
theorem sv_j_kl {B : sB} {i : Instr} {n pc : Nat} {st : List sV} {l : List (sB × Nat × List sV)} (h : sv_j B i n pc st = some l) : dt_kl i = 1 := by
  unfold sv_j at h
  split at h
  · cases h
  · rename_i a ha
    exact sv_jar_kl ha
theorem sv_m_kl {sg : sG} {B : sB} {i : Instr} {a b t : Nat} {x : Int} {st : List sV} {M : sM} {z : List sV × sM} (h : sv_m sg B i a b t x st M = some z) : dt_kl i = 2 := by
  cases i <;> first | rfl | (simp [sv_m] at h)
/-! an index that isn't known becomes one number after the other -/
def sv_czp : Instr → Option Nat
  | .iaload | .laload | .baload | .tableswitch _ _ _ _ => some 0
  | .iastore | .lastore | .bastore => some 1
  | _ => none
def sv_cz (B : sB) (i : Instr) (st : List sV) : Option (List (sB × List sV)) := match sv_czp i with
  | none => none
  | some p => (match st[p]? with
    | some (.inr (.inl a)) => (match sc_b B (.inr (.inl a)) with
      | some b => if b.2 - b.1 ≤ 70 then some ((List.range (b.2 - b.1 + 1).toNat).map fun k : Nat => ((match a with
          | .inl i => B.set i (b.1 + (k : Int), b.1 + (k : Int))
          | .inr _ => B), st.set p (.inl (eI (b.1 + (k : Int)))))) else none
      | none => none)
    | _ => none)
theorem sl_r_get {ρ : Nat → Int} : ∀ (st : List sV) (est : List eV) (p : Nat) (x : sV), sl_r ρ st est → st[p]? = some x → ∃ v, est[p]? = some v ∧ sv_r ρ x v := by
  intro st
  induction st with
  | nil =>
    intro est p x h hp
    cases hp
  | cons y ys ih =>
    intro est p x h hp
    obtain ⟨v, vs, rfl, h1, h2⟩ := sl_r_1 h
    cases p with
    | zero =>
      cases hp
      exact ⟨v, rfl, h1⟩
    | succ p => exact ih vs p x h2 hp
theorem sl_r_set {ρ : Nat → Int} : ∀ (st : List sV) (est : List eV) (p : Nat) (x : sV) (v : eV), sl_r ρ st est → est[p]? = some v → sv_r ρ x v → sl_r ρ (st.set p x) est := by
  intro st
  induction st with
  | nil =>
    intro est p x v h hp hx
    exact h
  | cons y ys ih =>
    intro est p x v h hp hx
    obtain ⟨w, vs, rfl, h1, h2⟩ := sl_r_1 h
    cases p with
    | zero =>
      cases hp
      exact ⟨hx, h2⟩
    | succ p => exact ⟨h1, ih vs p x v h2 hp hx⟩
theorem sv_cz_ok {ρ : Nat → Int} {B : sB} {i : Instr} {st : List sV} {est : List eV} {l : List (sB × List sV)} (hB : sb_in ρ B) (hs : sl_r ρ st est) (h : sv_cz B i st = some l) : ∃ q ∈ l, sb_in ρ q.1 ∧ sl_r ρ q.2 est := by
  unfold sv_cz at h
  split at h
  · cases h
  · rename_i p hp
    split at h
    · rename_i a ha
      split at h
      · rename_i b hb
        split at h
        · rename_i h0
          cases h
          obtain ⟨v, h1, h2⟩ := sl_r_get _ _ _ _ hs ha
          obtain ⟨z, rfl, h3⟩ := sc_b_ok hB h2 hb
          have ez : b.1 + (((z - b.1).toNat : Nat) : Int) = z := by omega
          refine ⟨_, List.mem_map.mpr ⟨(z - b.1).toNat, List.mem_range.mpr (by omega), rfl⟩, ?_, ?_⟩
          · dsimp only
            rw [ez]
            cases a with
            | inl j =>
              have h2 : z = ρ j := h2
              exact sb_in_set hB (by omega) (by omega)
            | inr q => exact hB
          · dsimp only
            rw [ez]
            exact sl_r_set _ _ _ _ _ hs h1 rfl
        · cases h
      · cases h
    · cases h
/-! answers -/
noncomputable def sv_rt (B : sB) (y : Nat) (i : Instr) (st : List sV) : Option (Option sV) := match i with
  | .return_ => (match st with
    | [] => if (dt_pl y).2.1 = 0 then some none else none
    | _ => none)
  | .ireturn => (match st with
    | [v] => if (dt_pl y).2.1 = 1 ∧ sv_ty v = 0 then some (some v) else if (dt_pl y).2.1 = 2 then (match sv_qv B 1 v with
      | some _ => some (some v)
      | none => none) else none
    | _ => none)
  | .lreturn => (match st with
    | [v] => if (dt_pl y).2.1 = 3 ∧ sv_ty v = 1 then some (some v) else none
    | _ => none)
  | .dreturn => (match st with
    | [v] => if (dt_pl y).2.1 = 4 ∧ sv_ty v = 2 then some (some v) else none
    | _ => none)
  | .areturn => (match st with
    | [.inl (.inr (.inr r))] => if (dt_pl y).2.1 = 5 then some (some (.inl (eR r))) else none
    | _ => none)
  | _ => none
theorem sv_rt_ok {ρ : Nat → Int} {B : sB} {y : Nat} {i : Instr} {st : List sV} {est : List eV} {r : Option sV} (hB : sb_in ρ B) (hs : sl_r ρ st est) (h : sv_rt B y i st = some r) : dt_kl i = 3 ∧ ∃ er : Option eV, ev_rt y i est = some er ∧ sl_r ρ r.toList er.toList := by
  unfold sv_rt at h
  split at h
  · refine ⟨rfl, ?_⟩
    split at h
    · split at h
      · rename_i h0
        cases h
        cases est with
        | nil => exact ⟨none, by simp only [ev_rt, if_pos h0], True.intro⟩
        | cons v vs => exact absurd hs id
      · cases h
    · cases h
  · refine ⟨rfl, ?_⟩
    split at h
    · rename_i v
      obtain ⟨e, vs, rfl, h1, h2⟩ := sl_r_1 hs
      cases vs with
      | cons a b => exact absurd h2 id
      | nil =>
        split at h
        · rename_i h0
          cases h
          obtain ⟨z, rfl⟩ := sv_ty0 h1 h0.2
          refine ⟨some (eI z), ?_, h1, True.intro⟩
          simp only [ev_rt, if_pos (Or.inl h0.1)]
        · split at h
          · rename_i h0
            split at h
            · rename_i n hn
              cases h
              obtain ⟨x, q1, -⟩ := sv_qv_ok hB h1 hn
              obtain ⟨rfl, hz⟩ := ev_qv1 q1
              refine ⟨some (eI x), ?_, h1, True.intro⟩
              show (if (dt_pl y).2.1 = 1 ∨ ((dt_pl y).2.1 = 2 ∧ (ev_w x = 0 ∨ ev_w x = 1)) then some (some (eI x)) else none) = _
              rw [if_pos (Or.inr ⟨h0, hz⟩)]
            · cases h
          · cases h
    · cases h
  · refine ⟨rfl, ?_⟩
    split at h
    · rename_i v
      obtain ⟨e, vs, rfl, h1, h2⟩ := sl_r_1 hs
      cases vs with
      | cons a b => exact absurd h2 id
      | nil =>
        split at h
        · rename_i h0
          cases h
          obtain ⟨z, rfl⟩ := sv_ty1 h1 h0.2
          exact ⟨some (eJ z), by simp only [ev_rt, if_pos h0.1], h1, True.intro⟩
        · cases h
    · cases h
  · refine ⟨rfl, ?_⟩
    split at h
    · rename_i v
      obtain ⟨e, vs, rfl, h1, h2⟩ := sl_r_1 hs
      cases vs with
      | cons a b => exact absurd h2 id
      | nil =>
        split at h
        · rename_i h0
          cases h
          obtain ⟨z, rfl⟩ := sv_ty2 h1 h0.2
          exact ⟨some (eD z), by simp only [ev_rt, if_pos h0.1], h1, True.intro⟩
        · cases h
    · cases h
  · refine ⟨rfl, ?_⟩
    split at h
    · rename_i q
      obtain ⟨e, vs, rfl, h1, h2⟩ := sl_r_1 hs
      cases vs with
      | cons a b => exact absurd h2 id
      | nil =>
        split at h
        · rename_i h0
          cases h
          have h1 : eR q = e := h1
          subst h1
          exact ⟨some (eR q), by simp only [ev_rt, if_pos h0], rfl, True.intro⟩
        · cases h
    · cases h
  · cases h
/-! calls -/
def sv_sl1 (as : List sV) : List (Option sV) := as.flatMap fun v => if sv_cat v = 2 then [some v, none] else [some v]
def sv_en (n : Nat) (as : List sV) : List (Option sV) := sv_sl1 as ++ List.replicate (n - (sv_sl1 as).length) none
theorem sv_sl1_cons (v : sV) (as : List sV) : sv_sl1 (v :: as) = (if sv_cat v = 2 then [some v, none] else [some v]) ++ sv_sl1 as := by
  unfold sv_sl1
  rw [List.flatMap_cons]
theorem sv_sl1_ok {ρ : Nat → Int} : ∀ (as : List sV) (es : List eV), sl_r ρ as es → lo_r ρ (sv_sl1 as) (ev_sl1 es) := by
  intro as
  induction as with
  | nil =>
    intro es h
    cases es with
    | nil => exact ⟨rfl, fun i => True.intro⟩
    | cons v vs => exact absurd h id
  | cons x xs ih =>
    intro es h
    obtain ⟨v, vs, rfl, h1, h2⟩ := sl_r_1 h
    obtain ⟨i1, i2⟩ := ih vs h2
    rw [sv_sl1_cons, ev_sl1_cons, sv_cat_ok h1]
    split
    · refine ⟨by rw [List.length_append, List.length_append, i1]; rfl, fun i => ?_⟩
      match i with
      | 0 => exact h1
      | 1 => exact True.intro
      | i + 2 => exact i2 i
    · refine ⟨by rw [List.length_append, List.length_append, i1]; rfl, fun i => ?_⟩
      match i with
      | 0 => exact h1
      | i + 1 => exact i2 i
theorem sv_en_ok {ρ : Nat → Int} {as : List sV} {es : List eV} (h : sl_r ρ as es) (n : Nat) : lo_r ρ (sv_en n as) (ev_en n es) := by
  obtain ⟨i1, i2⟩ := sv_sl1_ok _ _ h
  unfold sv_en ev_en
  refine ⟨by rw [List.length_append, List.length_append, List.length_replicate, List.length_replicate, i1], fun i => ?_⟩
  by_cases hl : i < (sv_sl1 as).length
  · rw [List.getElem?_append_left hl, List.getElem?_append_left (by rw [← i1]; exact hl)]
    exact i2 i
  · rw [List.getElem?_append_right (by omega), List.getElem?_replicate]
    split <;> exact True.intro
noncomputable def sv_cl2 (M : sM) (i : Instr) (a b t : Nat) (st : List sV) : Option (List sV × List sV) := if t ≤ st.length then (match i with
  | .invokestatic _ => if a = 2 ∧ ((st.drop t).map sv_cat).sum ≤ 8 ∧ (sv_sl1 (st.take t).reverse).length ≤ dt_mx b then some ((st.take t).reverse, st.drop t) else none
  | .invokevirtual _ => (match st.drop t with
    | .inl (.inr (.inr o)) :: r => if a = 0 ∧ (r.map sv_cat).sum ≤ 8 ∧ (sv_sl1 (.inl (eR o) :: (st.take t).reverse)).length ≤ dt_mx b ∧ sv_kd M o = some (dt_pl b).2.2.2.2.2.2.2 then some (.inl (eR o) :: (st.take t).reverse, r) else none
    | _ => none)
  | .invokespecial _ => (match st.drop t with
    | .inl (.inr (.inr o)) :: r => if a = 1 ∧ (r.map sv_cat).sum ≤ 8 ∧ (sv_sl1 (.inl (eR o) :: (st.take t).reverse)).length ≤ dt_mx b ∧ 64 ≤ o then some (.inl (eR o) :: (st.take t).reverse, r) else none
    | _ => none)
  | _ => none) else none
theorem sl_r_cat {ρ : Nat → Int} : ∀ (xs : List sV) (vs : List eV), sl_r ρ xs vs → vs.map ev_cat = xs.map sv_cat := by
  intro xs
  induction xs with
  | nil =>
    intro vs h
    cases vs with
    | nil => rfl
    | cons v vs => exact absurd h id
  | cons x xs ih =>
    intro vs h
    obtain ⟨v, ws, rfl, h1, h2⟩ := sl_r_1 h
    rw [List.map_cons, List.map_cons, sv_cat_ok h1, ih ws h2]
theorem sv_cl2_ok {ρ : Nat → Int} {M : sM} {μ : eM} {i : Instr} {a b t : Nat} {st as rs : List sV} {est : List eV} (hs : sl_r ρ st est) (hm : sm_r ρ M μ) (h : sv_cl2 M i a b t st = some (as, rs)) : dt_kl i = 4 ∧ a ≤ 2 ∧ ∃ eas ers, ev_cl2 μ i a b t est = some (eas, ers) ∧ sl_r ρ as eas ∧ sl_r ρ rs ers := by
  unfold sv_cl2 at h
  split at h
  · rename_i ht
    have htk := sl_r_take t st est hs
    have hrv := sl_r_rev _ _ htk.1
    have hle : t ≤ est.length := by rw [← sl_r_len _ _ hs]; exact ht
    split at h
    · split at h
      · rename_i h0
        cases h
        refine ⟨rfl, by rw [h0.1]; decide, _, _, ?_, hrv, htk.2⟩
        have h9 : a = 2 ∧ ((est.drop t).map ev_cat).sum ≤ 8 ∧ (ev_sl1 (est.take t).reverse).length ≤ dt_mx b := ⟨h0.1, by rw [sl_r_cat _ _ htk.2]; exact h0.2.1, by rw [← (sv_sl1_ok _ _ hrv).1]; exact h0.2.2⟩
        unfold ev_cl2
        rw [if_pos hle]
        dsimp only
        rw [if_pos h9]
      · cases h
    · split at h
      · rename_i o r hd
        split at h
        · rename_i h0
          cases h
          have h2 := htk.2
          rw [hd] at h2
          obtain ⟨e, vs, he, h3, h4⟩ := sl_r_1 h2
          have h3 : eR o = e := h3
          subst h3
          have hr2 : sl_r ρ (.inl (eR o) :: (st.take t).reverse) (eR o :: (est.take t).reverse) := ⟨rfl, hrv⟩
          refine ⟨rfl, by rw [h0.1]; decide, _, _, ?_, hr2, h4⟩
          have h9 : a = 0 ∧ (vs.map ev_cat).sum ≤ 8 ∧ (ev_sl1 (eR o :: (est.take t).reverse)).length ≤ dt_mx b ∧ ev_kd μ o = some (dt_pl b).2.2.2.2.2.2.2 := ⟨h0.1, by rw [sl_r_cat _ _ h4]; exact h0.2.1, by rw [← (sv_sl1_ok _ _ hr2).1]; exact h0.2.2.1, (sv_kd_ok hm h0.2.2.2).1⟩
          unfold ev_cl2
          rw [if_pos hle]
          dsimp only
          rw [he]
          dsimp only
          rw [if_pos h9]
        · cases h
      · cases h
    · split at h
      · rename_i o r hd
        split at h
        · rename_i h0
          cases h
          have h2 := htk.2
          rw [hd] at h2
          obtain ⟨e, vs, he, h3, h4⟩ := sl_r_1 h2
          have h3 : eR o = e := h3
          subst h3
          have hr2 : sl_r ρ (.inl (eR o) :: (st.take t).reverse) (eR o :: (est.take t).reverse) := ⟨rfl, hrv⟩
          refine ⟨rfl, by rw [h0.1]; decide, _, _, ?_, hr2, h4⟩
          have h9 : a = 1 ∧ (vs.map ev_cat).sum ≤ 8 ∧ (ev_sl1 (eR o :: (est.take t).reverse)).length ≤ dt_mx b ∧ 64 ≤ o := ⟨h0.1, by rw [sl_r_cat _ _ h4]; exact h0.2.1, by rw [← (sv_sl1_ok _ _ hr2).1]; exact h0.2.2.1, h0.2.2.2⟩
          unfold ev_cl2
          rw [if_pos hle]
          dsimp only
          rw [he]
          dsimp only
          rw [if_pos h9]
        · cases h
      · cases h
    · cases h
  · cases h
/-- a row's first places copied -/
def tr_cpK {α β : Type} (d : Nat) (s : Lean.RArray α) : Nat → Lean.RArray α → (Lean.RArray α → β) → β
  | 0, t, k => k t
  | n + 1, t, k => tr_cpK d s n t fun t' => tr_setK d 0 t' n (s.get n) k
def tr_cp {α : Type} (d : Nat) (s : Lean.RArray α) : Nat → Lean.RArray α → Lean.RArray α
  | 0, t => t
  | n + 1, t => tr_set d 0 (tr_cp d s n t) n (s.get n)
theorem tr_cpK_eq {α β : Type} (d : Nat) (s : Lean.RArray α) : ∀ (n : Nat) (t : Lean.RArray α) (k : Lean.RArray α → β), tr_cpK d s n t k = k (tr_cp d s n t) := by
  intro n
  induction n with
  | zero =>
    intro t k
    rfl
  | succ n ih =>
    intro t k
    show tr_cpK d s n t (fun t' => tr_setK d 0 t' n (s.get n) k) = _
    rw [ih, tr_setK_eq]
    rfl
theorem tr_cp_ok {α : Type} {d : Nat} {s : Lean.RArray α} : ∀ (n : Nat) (t : Lean.RArray α), tr_ok d 0 t → n ≤ 2 ^ d → tr_ok d 0 (tr_cp d s n t) ∧ ∀ q, q < 2 ^ d → (tr_cp d s n t).get q = if q < n then s.get q else t.get q := by
  intro n
  induction n with
  | zero =>
    intro t ht _
    exact ⟨ht, fun q _ => by rw [if_neg (Nat.not_lt_zero q)]; rfl⟩
  | succ n ih =>
    intro t ht hn
    obtain ⟨h1, h2⟩ := ih t ht (by omega)
    refine ⟨tr_set_ok _ _ _ _ _ h1, fun q hq => ?_⟩
    show (tr_set d 0 (tr_cp d s n t) n (s.get n)).get q = _
    rw [tr_get_set d 0 _ n _ h1 (Nat.zero_le _) (by omega) q (Nat.zero_le _) (by omega)]
    by_cases hqn : q = n
    · subst hqn
      rw [if_pos rfl, if_pos (by omega)]
    · rw [if_neg hqn, h2 q hq]
      by_cases hl : q < n
      · rw [if_pos hl, if_pos (by omega)]
      · rw [if_neg hl, if_neg (by omega)]
theorem sm_r.row {ρ : Nat → Int} {M : sM} {μ : eM} (hm : sm_r ρ M μ) {j : Nat} (hj : j < M.2.1) {t : Lean.RArray sN} {f : Nat → Int} (ht : tr_ok (sdp (M.1.get j).2.1) 0 t) (hr : ∀ i, i < (M.1.get j).2.1 → sn_r ρ (t.get i) (f i)) : sm_r ρ (tr_set 8 0 M.1 j ((M.1.get j).1, (M.1.get j).2.1, t), M.2) (ev_ur μ.1 (j + 64) f, μ.2) := by
  obtain ⟨m1, m2, m3, m4, m5⟩ := hm
  have hp8 : (2 : Nat) ^ 8 = 256 := rfl
  refine ⟨m1, m2, m3, tr_set_ok _ _ _ _ _ m4, fun q hq => ?_⟩
  have hq : q < M.2.1 := hq
  have hget : (tr_set 8 0 M.1 j ((M.1.get j).1, (M.1.get j).2.1, t)).get q = if q = j then ((M.1.get j).1, (M.1.get j).2.1, t) else M.1.get q := tr_get_set 8 0 M.1 j _ m4 (Nat.zero_le _) (by omega) q (Nat.zero_le _) (by omega)
  dsimp only
  rw [hget]
  obtain ⟨c1, c2, c3, c4⟩ := m5 q hq
  by_cases hqj : q = j
  · subst hqj
    rw [if_pos rfl]
    refine ⟨c1, ht, c3, fun i hi => ?_⟩
    show sn_r ρ (t.get i) (ev_ur μ.1 (q + 64) f (q + 64) i)
    unfold ev_ur
    rw [if_pos rfl]
    exact hr i hi
  · rw [if_neg hqj]
    refine ⟨c1, c2, c3, fun i hi => ?_⟩
    show sn_r ρ ((M.1.get q).2.2.get i) (ev_ur μ.1 (j + 64) f (q + 64) i)
    unfold ev_ur
    rw [if_neg (by omega)]
    exact c4 i hi
def sv_cp (M : sM) (q r n : Nat) : Option sM := if 64 ≤ q ∧ 64 ≤ r ∧ q - 64 < M.2.1 ∧ r - 64 < M.2.1 ∧ (M.1.get (q - 64)).1 = (M.1.get (r - 64)).1 ∧ ((M.1.get (r - 64)).1 = 100 ∨ (M.1.get (r - 64)).1 = 101) ∧ n ≤ (M.1.get (q - 64)).2.1 ∧ n ≤ (M.1.get (r - 64)).2.1 then tr_cpK (sdp (M.1.get (r - 64)).2.1) (M.1.get (q - 64)).2.2 n (M.1.get (r - 64)).2.2 fun t => tr_setK 8 0 M.1 (r - 64) ((M.1.get (r - 64)).1, (M.1.get (r - 64)).2.1, t) fun T => some (T, M.2) else none
def sv_o (d : Nat) (i : Instr) (a : Nat) (st : List sV) (M : sM) : Option (List sV × sM) := match i with
  | .invokespecial _ => (match st with
    | .inl (.inr (.inr r)) :: s => if a = 10 ∧ 0 < d ∧ 0 < r ∧ (s.map sv_cat).sum ≤ 8 then some (s, M) else none
    | _ => none)
  | .invokestatic _ => (match st with
    | .inl (.inr (.inl (.inr b))) :: s => if a = 24 ∧ 0 < d ∧ (s.map sv_cat).sum ≤ 8 then some (.inl (eI b.toInt32.toInt) :: s, M) else none
    | .inl (.inl (.inl n)) :: .inl (.inl (.inl dp)) :: .inl (.inr (.inr r)) :: .inl (.inl (.inl sp)) :: .inl (.inr (.inr q)) :: s => if a = 23 ∧ 0 < d ∧ (s.map sv_cat).sum ≤ 8 ∧ ev_w sp = 0 ∧ ev_w dp = 0 ∧ 0 ≤ ev_w n then (match sv_cp M q r (ev_w n).toNat with
      | some M' => some (s, M')
      | none => none) else none
    | _ => none)
  | _ => none
theorem sv_cp_ok {ρ : Nat → Int} {M M' : sM} {μ : eM} (hm : sm_r ρ M μ) {q r n : Nat} (h : sv_cp M q r n = some M') : ∃ k n0 n1, ev_kn μ q = some (k, n0) ∧ ev_kn μ r = some (k, n1) ∧ (k = 100 ∨ k = 101) ∧ n ≤ n0 ∧ n ≤ n1 ∧ sm_r ρ M' (ev_ur μ.1 r (ev_cp (μ.1 q) (μ.1 r) n), μ.2) := by
  unfold sv_cp at h
  split at h
  · rename_i h0
    obtain ⟨h1, h2, h3, h4, h5, h6, h7, h8⟩ := h0
    rw [tr_cpK_eq, tr_setK_eq] at h
    cases h
    obtain ⟨a1, a2, a3, a4⟩ := hm.2.2.2.2 _ h3
    obtain ⟨b1, b2, b3, b4⟩ := hm.2.2.2.2 _ h4
    have hd := sdp_ok b3
    obtain ⟨t1, t2⟩ := tr_cp_ok (s := (M.1.get (q - 64)).2.2) n _ b2 (by omega)
    refine ⟨(M.1.get (r - 64)).1, (M.1.get (q - 64)).2.1, (M.1.get (r - 64)).2.1, ?_, ?_, h6, h7, h8, ?_⟩
    · unfold ev_kn
      rw [if_neg (by omega), a1, h5]
    · unfold ev_kn
      rw [if_neg (by omega), b1]
    · have h9 := hm.row h4 (f := ev_cp (μ.1 q) (μ.1 r) n) t1 (fun i hi => by
        rw [t2 i (by omega)]
        unfold ev_cp
        by_cases hin : i < n
        · rw [if_pos hin, if_pos hin]
          have := a4 i (by omega)
          rw [show q - 64 + 64 = q by omega] at this
          exact this
        · rw [if_neg hin, if_neg hin]
          have := b4 i hi
          rw [show r - 64 + 64 = r by omega] at this
          exact this)
      rw [show r - 64 + 64 = r by omega] at h9
      exact h9
  · cases h
theorem sv_o_ok {ρ : Nat → Int} {d : Nat} {i : Instr} {a : Nat} {st st' : List sV} {est : List eV} {M M' : sM} {μ : eM} (hs : sl_r ρ st est) (hm : sm_r ρ M μ) (h : sv_o d i a st M = some (st', M')) : dt_kl i = 4 ∧ ∃ est' μ', ev_o d i a est μ = some (est', μ') ∧ sl_r ρ st' est' ∧ sm_r ρ M' μ' := by
  unfold sv_o at h
  split at h
  · split at h
    · rename_i r s
      split at h
      · rename_i h0
        cases h
        obtain ⟨e, vs, rfl, h3, h4⟩ := sl_r_1 hs
        have h3 : eR r = e := h3
        subst h3
        refine ⟨rfl, vs, μ, ?_, h4, hm⟩
        have h9 : a = 10 ∧ 0 < d ∧ 0 < r ∧ (vs.map ev_cat).sum ≤ 8 := ⟨h0.1, h0.2.1, h0.2.2.1, by rw [sl_r_cat _ _ h4]; exact h0.2.2.2⟩
        simp only [ev_o, if_pos h9]
      · cases h
    · cases h
  · split at h
    · rename_i b s
      split at h
      · rename_i h0
        cases h
        obtain ⟨e, vs, rfl, h3, h4⟩ := sl_r_1 hs
        have h3 : eF b = e := h3
        subst h3
        refine ⟨rfl, eI b.toInt32.toInt :: vs, μ, ?_, ⟨rfl, h4⟩, hm⟩
        have h9 : a = 24 ∧ 0 < d ∧ (vs.map ev_cat).sum ≤ 8 := ⟨h0.1, h0.2.1, by rw [sl_r_cat _ _ h4]; exact h0.2.2⟩
        simp only [ev_o, if_pos h9]
      · cases h
    · rename_i n dp r sp q s
      split at h
      · rename_i h0
        split at h
        · rename_i M9 hM9
          cases h
          obtain ⟨e1, e2, e3, w1, rfl, h1, h2, h3, g1⟩ := sl_r_3 hs
          obtain ⟨e4, e5, vs, rfl, h4, h5, g2⟩ := sl_r_2 g1
          have h1 : eI n = e1 := h1
          have h2 : eI dp = e2 := h2
          have h3 : eR r = e3 := h3
          have h4 : eI sp = e4 := h4
          have h5 : eR q = e5 := h5
          subst h1
          subst h2
          subst h3
          subst h4
          subst h5
          obtain ⟨k, n0, n1, q1, q2, q3, q4, q5, q6⟩ := sv_cp_ok hm hM9
          refine ⟨rfl, vs, _, ?_, g2, q6⟩
          have h9 : a = 23 ∧ 0 < d ∧ (vs.map ev_cat).sum ≤ 8 ∧ ev_w sp = 0 ∧ ev_w dp = 0 ∧ 0 ≤ ev_w n := ⟨h0.1, h0.2.1, by rw [sl_r_cat _ _ g2]; exact h0.2.2.1, h0.2.2.2⟩
          have h8 : k = k ∧ (k = 100 ∨ k = 101) ∧ ev_w n ≤ (n0 : Int) ∧ ev_w n ≤ (n1 : Int) := ⟨rfl, q3, by omega, by omega⟩
          simp only [ev_o, if_pos h9, q1, q2]
          rw [if_pos ⟨True.intro, h8.2⟩]
        · cases h
      · cases h
    · cases h
  · cases h
/-! the step: what can come next; nothing, if the answer is 1 -/
noncomputable def sv_1 (sg : sG) (rc rs : Nat) (B : sB) (S : sSt) (q : eL) : Option (List (sB × sSt)) := if q.1 = S.2.1.2.1 then (match sv_s B q.2.1 S.2.1.2.2.1 S.2.1.2.2.2 with
  | some z => some [(B, (S.1, (S.2.1.1, S.2.1.2.1 + ev_len q.2.1, z.1, z.2), S.2.2.1, S.2.2.2))]
  | none => (match sv_j B q.2.1 q.2.2.1 S.2.1.2.1 S.2.1.2.2.2 with
    | some l => some (l.map fun z => (z.1, (S.1, (S.2.1.1, z.2.1, S.2.1.2.2.1, z.2.2), S.2.2.1, S.2.2.2)))
    | none => (match sv_m sg B q.2.1 q.2.2.2.1.1 q.2.2.2.1.2.1 q.2.2.2.1.2.2.1 q.2.2.2.2 S.2.1.2.2.2 S.2.2.2 with
      | some z => some [(B, (S.1, (S.2.1.1, S.2.1.2.1 + q.2.2.1, S.2.1.2.2.1, z.1), S.2.2.1, z.2))]
      | none => (match sv_cz B q.2.1 S.2.1.2.2.2 with
        | some l => some (l.map fun z => (z.1, (S.1, (S.2.1.1, S.2.1.2.1, S.2.1.2.2.1, z.2), S.2.2.1, S.2.2.2)))
        | none => (match sv_o S.1 q.2.1 q.2.2.2.1.1 S.2.1.2.2.2 S.2.2.2 with
          | some z => some [(B, (S.1, (S.2.1.1, S.2.1.2.1 + 3, S.2.1.2.2.1, z.1), S.2.2.1, z.2))]
          | none => (match sv_rt B S.2.1.1 q.2.1 S.2.1.2.2.2 with
            | some r => (match S.2.2.1 with
              | [] => (match r with
                | some (.inl (.inl (.inl 1))) => if S.2.2.2.2.1 ≤ rc ∧ S.2.2.2.2.2 ≤ rs then some [] else none
                | _ => none)
              | f :: fs => some [(B, (S.1 + 1, (f.1, f.2.1, f.2.2.1, r.toList ++ f.2.2.2), fs, S.2.2.2))])
            | none => (match sv_cl2 S.2.2.2 q.2.1 q.2.2.2.1.1 q.2.2.2.1.2.1 q.2.2.2.1.2.2.1 S.2.1.2.2.2 with
              | some z => if 0 < S.1 then some [(B, (S.1 - 1, (q.2.2.2.1.2.1, 0, sv_en (dt_mx q.2.2.2.1.2.1) z.1, []), (S.2.1.1, S.2.1.2.1 + 3, S.2.1.2.2.1, z.2) :: S.2.2.1, S.2.2.2))] else none
              | none => none))))))) else none
set_option maxHeartbeats 2000000 in
theorem sv_1_ok {ρ : Nat → Int} {sg : sG} {fg : eG} {rc rs : Nat} {B : sB} {S : sSt} {E : eSt} {l : List (sB × sSt)} (hg : sg_r ρ sg fg) (hB : sb_in ρ B) (hS : ss_r ρ S E) (h : sv_1 sg rc rs B S ((dt_co S.2.1.1).get S.2.1.2.1) = some l) : (∃ μ' : eM, ex_1 fg E = some (.inr (some (eI 1), μ')) ∧ μ'.2.1.length ≤ rc ∧ μ'.2.2 ≤ rs) ∨ ∃ q ∈ l, sb_in ρ q.1 ∧ (ss_r ρ q.2 E ∨ ∃ E' : eSt, ex_1 fg E = some (.inl E') ∧ ss_r ρ q.2 E') := by
  obtain ⟨d, ⟨y, pc, lv, st⟩, F, M⟩ := S
  obtain ⟨d', ⟨y', pc', elv, est⟩, eF', μ⟩ := E
  obtain ⟨e1, ⟨e2, e3, hl, hs⟩, hF, hm⟩ := hS
  dsimp only at e1 e2 e3 hl hs hF hm h
  subst e1
  subst e2
  subst e3
  unfold ex_1
  dsimp only
  generalize (dt_co y).get pc = q at h
  unfold sv_1 at h
  dsimp only at h
  split at h
  · rename_i hpc
    split at h
    · rename_i z hz
      cases h
      obtain ⟨elv', est', k1, k2, k3⟩ := sv_s_ok (lv' := z.1) (st' := z.2) hB hl hs hz
      have hev : ev_1 fg d y pc q elv est μ = some (.inl (.inl (pc + ev_len q.2.1, elv', est', μ))) := by
        unfold ev_1
        rw [if_pos hpc, k1]
      rw [hev]
      exact Or.inr ⟨_, List.mem_singleton.mpr rfl, hB, Or.inr ⟨_, rfl, rfl, ⟨rfl, rfl, k2, k3⟩, hF, hm⟩⟩
    · split at h
      · rename_i l9 hl9
        cases h
        have hkl := sv_j_kl hl9
        obtain ⟨z, est', k1, k2, k3, k4⟩ := sv_j_ok hB hs hl9
        have hev : ev_1 fg d y pc q elv est μ = some (.inl (.inl (z.2.1, elv, est', μ))) := by
          unfold ev_1
          rw [if_pos hpc, kl_s (by rw [hkl]; decide)]
          dsimp only
          rw [k3]
        rw [hev]
        exact Or.inr ⟨_, List.mem_map.mpr ⟨z, k1, rfl⟩, k2, Or.inr ⟨_, rfl, rfl, ⟨rfl, rfl, hl, k4⟩, hF, hm⟩⟩
      · split at h
        · rename_i z hz
          cases h
          have hkl := sv_m_kl hz
          obtain ⟨est', μ', k1, k2, k3⟩ := sv_m_ok (st' := z.1) (M' := z.2) hg hB hs hm hz
          have hev : ev_1 fg d y pc q elv est μ = some (.inl (.inl (pc + q.2.2.1, elv, est', μ'))) := by
            unfold ev_1
            rw [if_pos hpc, kl_s (by rw [hkl]; decide)]
            dsimp only
            rw [kl_j (by rw [hkl]; decide)]
            dsimp only
            rw [k1]
          rw [hev]
          exact Or.inr ⟨_, List.mem_singleton.mpr rfl, hB, Or.inr ⟨_, rfl, rfl, ⟨rfl, rfl, hl, k2⟩, hF, k3⟩⟩
        · split at h
          · rename_i l9 hl9
            cases h
            obtain ⟨z, k1, k2, k3⟩ := sv_cz_ok hB hs hl9
            exact Or.inr ⟨_, List.mem_map.mpr ⟨z, k1, rfl⟩, k2, Or.inl ⟨rfl, ⟨rfl, rfl, hl, k3⟩, hF, hm⟩⟩
          · split at h
            · rename_i z hz
              cases h
              obtain ⟨hkl, est', μ', k1, k2, k3⟩ := sv_o_ok (st' := z.1) (M' := z.2) hs hm hz
              have hev : ev_1 fg d y pc q elv est μ = some (.inl (.inl (pc + 3, elv, est', μ'))) := by
                unfold ev_1
                rw [if_pos hpc, kl_s (by rw [hkl]; decide)]
                dsimp only
                rw [kl_j (by rw [hkl]; decide)]
                dsimp only
                rw [kl_m (by rw [hkl]; decide)]
                dsimp only
                rw [k1]
              rw [hev]
              exact Or.inr ⟨_, List.mem_singleton.mpr rfl, hB, Or.inr ⟨_, rfl, rfl, ⟨rfl, rfl, hl, k2⟩, hF, k3⟩⟩
            · split at h
              · rename_i r hr
                obtain ⟨hkl, er, k1, k2⟩ := sv_rt_ok hB hs hr
                have hev : ev_1 fg d y pc q elv est μ = some (.inl (.inr er)) := by
                  unfold ev_1
                  rw [if_pos hpc, kl_s (by rw [hkl]; decide)]
                  dsimp only
                  rw [kl_j (by rw [hkl]; decide)]
                  dsimp only
                  rw [kl_m (by rw [hkl]; decide)]
                  dsimp only
                  rw [kl_o (by rw [hkl]; decide)]
                  dsimp only
                  rw [k1]
                rw [hev]
                dsimp only
                split at h
                · cases eF' with
                  | cons a b => exact absurd hF id
                  | nil =>
                    split at h
                    · split at h
                      · rename_i h0
                        cases h
                        cases er with
                        | none => exact absurd k2 id
                        | some v =>
                          have k3 : eI 1 = v := k2.1
                          subst k3
                          refine Or.inl ⟨μ, rfl, ?_, ?_⟩
                          · rw [hm.1]; exact h0.1
                          · rw [hm.2.1]; exact h0.2
                      · cases h
                    · cases h
                · rename_i f fs
                  cases h
                  cases eF' with
                  | nil => exact absurd hF id
                  | cons a b =>
                    obtain ⟨⟨f1, f2, f3, f4⟩, hF2⟩ := hF
                    exact Or.inr ⟨_, List.mem_singleton.mpr rfl, hB, Or.inr ⟨_, rfl, rfl, ⟨f1, f2, f3, sl_r_app _ _ _ _ k2 f4⟩, hF2, hm⟩⟩
              · split at h
                · rename_i z hz
                  split at h
                  · rename_i hd
                    cases h
                    obtain ⟨hkl, ha, eas, ers, k1, k2, k3⟩ := sv_cl2_ok (as := z.1) (rs := z.2) hs hm hz
                    have hno : ev_o d q.2.1 q.2.2.2.1.1 est μ = none := by
                      cases hq : ev_o d q.2.1 q.2.2.2.1.1 est μ with
                      | none => rfl
                      | some w =>
                        rcases ev_o_ok (st' := w.1) (μ' := w.2) hq with ⟨-, -, -, -, h9, -⟩ | ⟨-, -, -, -, -, -, -, h9, -⟩ | ⟨-, -, -, -, -, -, -, -, -, -, -, h9, -⟩ | ⟨-, -, -, -, -, -, -, -, -, -, -, h9, -⟩ <;> omega
                    have hev : ev_1 fg d y pc q elv est μ = some (.inr (q.2.2.2.1.2.1, eas, ers)) := by
                      unfold ev_1
                      rw [if_pos hpc, kl_s (by rw [hkl]; decide)]
                      dsimp only
                      rw [kl_j (by rw [hkl]; decide)]
                      dsimp only
                      rw [kl_m (by rw [hkl]; decide)]
                      dsimp only
                      rw [hno]
                      dsimp only
                      rw [kl_rt (by rw [hkl]; decide)]
                      dsimp only
                      rw [k1]
                    rw [hev]
                    dsimp only
                    rw [if_pos hd]
                    exact Or.inr ⟨_, List.mem_singleton.mpr rfl, hB, Or.inr ⟨_, rfl, rfl, ⟨rfl, rfl, sv_en_ok k2 _, True.intro⟩, ⟨⟨rfl, rfl, hl, k3⟩, hF⟩, hm⟩⟩
                  · cases h
                · cases h
  · cases h
/-! a state whose numbers are worked out -/
def fz_V {α : Type} (v : sV) (k : sV → α) : α := match v with
  | .inl (.inl (.inl x)) => fz_I x fun x => k (.inl (.inl (.inl x)))
  | .inl (.inl (.inr x)) => fz_I x fun x => k (.inl (.inl (.inr x)))
  | .inl (.inr (.inr r)) => fz_N r fun r => k (.inl (.inr (.inr r)))
  | v => k v
theorem fz_V_eq {α : Type} (v : sV) (k : sV → α) : fz_V v k = k v := by
  unfold fz_V
  split
  · exact fz_I_eq _ _
  · exact fz_I_eq _ _
  · exact fz_N_eq _ _
  · rfl
def fz_L {α : Type} : List sV → (List sV → α) → α
  | [], k => k []
  | v :: l, k => fz_V v fun v => fz_L l fun l => k (v :: l)
theorem fz_L_eq {α : Type} : ∀ (l : List sV) (k : List sV → α), fz_L l k = k l := by
  intro l
  induction l with
  | nil =>
    intro k
    rfl
  | cons v l ih =>
    intro k
    show fz_V v (fun v => fz_L l fun l => k (v :: l)) = _
    rw [fz_V_eq, ih]
def fz_S {α : Type} (S : sSt) (k : sSt → α) : α := match S with
  | (d, (y, pc, lv, st), F, M) => fz_N d fun d => fz_N pc fun pc => fz_L st fun st => k (d, (y, pc, lv, st), F, M)
theorem fz_S_eq {α : Type} (S : sSt) (k : sSt → α) : fz_S S k = k S := by
  obtain ⟨d, ⟨y, pc, lv, st⟩, F, M⟩ := S
  show (fz_N d fun d => fz_N pc fun pc => fz_L st fun st => k (d, (y, pc, lv, st), F, M)) = _
  rw [fz_N_eq, fz_N_eq, fz_L_eq]
/-! the run: every way that can come ends with the answer 1 -/
noncomputable def sv (sg : sG) (rc rs : Nat) : Nat → sB → sSt → Bool
  | 0, _, _ => false
  | n + 1, B, S => match sv_1 sg rc rs B S ((dt_co S.2.1.1).get S.2.1.2.1) with
    | some [z] => fz_S z.2 fun S' => sv sg rc rs n z.1 S'
    | some l => l.all fun z => fz_S z.2 fun S' => sv sg rc rs n z.1 S'
    | none => false
theorem sv_ok {ρ : Nat → Int} {sg : sG} {fg : eG} {rc rs : Nat} (hg : sg_r ρ sg fg) : ∀ (n : Nat) (B : sB) (S : sSt) (E : eSt), sv sg rc rs n B S = true → sb_in ρ B → ss_r ρ S E → ∃ (m : Nat) (μ' : eM), ex fg m E = some (some (eI 1), μ') ∧ μ'.2.1.length ≤ rc ∧ μ'.2.2 ≤ rs := by
  intro n
  induction n with
  | zero =>
    intro B S E h
    cases h
  | succ n ih =>
    intro B S E h hB hS
    rw [sv] at h
    have key : ∀ l, sv_1 sg rc rs B S ((dt_co S.2.1.1).get S.2.1.2.1) = some l → (∀ z ∈ l, sv sg rc rs n z.1 z.2 = true) → ∃ (m : Nat) (μ' : eM), ex fg m E = some (some (eI 1), μ') ∧ μ'.2.1.length ≤ rc ∧ μ'.2.2 ≤ rs := by
      intro l hl hall
      rcases sv_1_ok hg hB hS hl with ⟨μ', h1, h2, h3⟩ | ⟨q, hq, h1, h2⟩
      · refine ⟨1, μ', ?_, h2, h3⟩
        rw [ex, h1]
      · rcases h2 with h2 | ⟨E', h2, h3⟩
        · exact ih _ _ _ (hall q hq) h1 h2
        · obtain ⟨m, μ', h4, h5⟩ := ih _ _ _ (hall q hq) h1 h3
          refine ⟨m + 1, μ', ?_, h5⟩
          rw [ex, h2]
          exact h4
    split at h
    · rename_i z hz
      rw [fz_S_eq] at h
      exact key _ hz (fun w hw => by rw [List.mem_singleton.mp hw]; exact h)
    · rename_i l hl
      exact key _ hl (fun w hw => by
        have h9 := List.all_eq_true.mp h w hw
        rw [fz_S_eq] at h9
        exact h9)
    · cases h
