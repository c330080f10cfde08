/-! CHECKPOINTS: a state within another one -/
def nle (a b : sN) : Bool := match a, b with
  | .inl x, .inl y => decide (x = y)
  | .inl x, .inr (.inl (.inr (some c))) => decide (c.1 ≤ x ∧ x ≤ c.2)
  | .inl _, .inr (.inl (.inr none)) => true
  | .inl _, .inr (.inr _) => true
  | .inr (.inl (.inl i)), .inr (.inl (.inl j)) => decide (i = j)
  | .inr (.inl (.inr (some b))), .inr (.inl (.inr (some c))) => decide (c.1 ≤ b.1 ∧ b.2 ≤ c.2)
  | .inr _, .inr (.inl (.inr none)) => true
  | .inr _, .inr (.inr _) => true
  | _, _ => false
theorem nle_ok {ρ : Nat → Int} {a b : sN} {x : Int} (h : nle a b = true) (hx : sn_r ρ a x) : sn_r ρ b x := by
  unfold nle at h
  split at h
  · rw [← of_decide_eq_true h]; exact hx
  · have hx : _ = x := hx
    subst hx
    have h := of_decide_eq_true h
    exact h
  · exact True.intro
  · exact True.intro
  · rw [← of_decide_eq_true h]; exact hx
  · have h := of_decide_eq_true h
    have hx : _ ≤ x ∧ x ≤ _ := hx
    show _ ≤ x ∧ x ≤ _
    omega
  · exact True.intro
  · exact True.intro
  · cases h
def vle (v w : sV) : Bool := match v, w with
  | .inl (.inl (.inl x)), .inl (.inl (.inl y)) => decide (x = y)
  | .inl (.inl (.inr x)), .inl (.inl (.inr y)) => decide (x = y)
  | .inl (.inr (.inr r)), .inl (.inr (.inr q)) => decide (r = q)
  | .inl (.inl (.inl x)), .inr (.inl (.inr (some c))) => decide (c.1 ≤ x ∧ x ≤ c.2)
  | .inl (.inl (.inl _)), .inr (.inl (.inr none)) => true
  | .inl (.inl (.inr _)), .inr (.inr _) => true
  | .inr (.inl (.inl i)), .inr (.inl (.inl j)) => decide (i = j)
  | .inr (.inl (.inr (some b))), .inr (.inl (.inr (some c))) => decide (c.1 ≤ b.1 ∧ b.2 ≤ c.2)
  | .inr (.inl _), .inr (.inl (.inr none)) => true
  | .inr (.inr _), .inr (.inr _) => true
  | _, _ => false
theorem vle_ok {ρ : Nat → Int} {v w : sV} {e : eV} (h : vle v w = true) (hx : sv_r ρ v e) : sv_r ρ w e := by
  unfold vle at h
  split at h
  · rw [← of_decide_eq_true h]; exact hx
  · rw [← of_decide_eq_true h]; exact hx
  · rw [← of_decide_eq_true h]; exact hx
  · have hx : _ = e := hx
    subst hx
    have h := of_decide_eq_true h
    exact h
  · have hx : _ = e := hx
    subst hx
    exact True.intro
  · have hx : _ = e := hx
    subst hx
    exact True.intro
  · rw [← of_decide_eq_true h]; exact hx
  · have h := of_decide_eq_true h
    obtain ⟨z, rfl⟩ := sv_ty0 hx rfl
    have hx : _ ≤ z ∧ z ≤ _ := hx
    show _ ≤ z ∧ z ≤ _
    omega
  · obtain ⟨z, rfl⟩ := sv_ty0 hx rfl
    exact True.intro
  · obtain ⟨z, rfl⟩ := sv_ty1 hx rfl
    exact True.intro
  · cases h
def tg_le {α : Type} (c : α → α → Bool) : Lean.RArray α → Lean.RArray α → Bool
  | .leaf a, .leaf b => c a b
  | .leaf _, .branch _ _ _ => false
  | .branch _ l r, .leaf b => tg_le c l (.leaf b) && tg_le c r (.leaf b)
  | .branch p l r, .branch q l' r' => decide (p = q) && tg_le c l l' && tg_le c r r'
theorem tg_le_ok {α : Type} {c : α → α → Bool} : ∀ (s t : Lean.RArray α), tg_le c s t = true → (∀ i, c (s.get i) (t.get i) = true) ∧ ∀ d lo, tr_ok d lo s → tr_ok d lo t := by
  intro s
  induction s with
  | leaf a =>
    intro t h
    cases t with
    | leaf b => exact ⟨fun i => h, fun d lo _ => tr_ok_leaf d lo b⟩
    | branch q l r => cases h
  | branch p l r ihl ihr =>
    intro t h
    cases t with
    | leaf b =>
      have h : (tg_le c l (.leaf b) && tg_le c r (.leaf b)) = true := h
      rw [Bool.and_eq_true] at h
      refine ⟨fun i => ?_, fun d lo _ => tr_ok_leaf d lo b⟩
      rw [tr_get_branch]
      split
      · exact (ihl _ h.1).1 i
      · exact (ihr _ h.2).1 i
    | branch q l' r' =>
      have h : (decide (p = q) && tg_le c l l' && tg_le c r r') = true := h
      rw [Bool.and_eq_true, Bool.and_eq_true] at h
      obtain ⟨⟨h0, h1⟩, h2⟩ := h
      have h0 := of_decide_eq_true h0
      subst h0
      refine ⟨fun i => ?_, fun d lo hd => ?_⟩
      · rw [tr_get_branch, tr_get_branch]
        split
        · exact (ihl _ h1).1 i
        · exact (ihr _ h2).1 i
      · cases d with
        | zero => exact absurd hd id
        | succ d => exact ⟨hd.1, (ihl _ h1).2 _ _ hd.2.1, (ihr _ h2).2 _ _ hd.2.2⟩
def cl_le (a b : sC) : Bool := decide (a.1 = b.1) && decide (a.2.1 = b.2.1) && tg_le nle a.2.2 b.2.2
def sm_le (M N : sM) : Bool := decide (M.2.1 = N.2.1) && decide (M.2.2 = N.2.2) && tg_le cl_le M.1 N.1
theorem sm_le_ok {ρ : Nat → Int} {M N : sM} {μ : eM} (h : sm_le M N = true) (hm : sm_r ρ M μ) : sm_r ρ N μ := by
  unfold sm_le at h
  rw [Bool.and_eq_true, Bool.and_eq_true] at h
  obtain ⟨⟨h1, h2⟩, h3⟩ := h
  have h1 := of_decide_eq_true h1
  have h2 := of_decide_eq_true h2
  obtain ⟨g1, g2⟩ := tg_le_ok _ _ h3
  obtain ⟨m1, m2, m3, m4, m5⟩ := hm
  refine ⟨by rw [m1, h1], by rw [m2, h2], by omega, g2 _ _ m4, fun j hj => ?_⟩
  obtain ⟨c1, c2, c3, c4⟩ := m5 j (by omega)
  have hc := g1 j
  unfold cl_le at hc
  rw [Bool.and_eq_true, Bool.and_eq_true] at hc
  obtain ⟨⟨k1, k2⟩, k3⟩ := hc
  have k1 := of_decide_eq_true k1
  have k2 := of_decide_eq_true k2
  obtain ⟨q1, q2⟩ := tg_le_ok _ _ k3
  rw [← k1, ← k2]
  exact ⟨c1, q2 _ _ c2, c3, fun i hi => nle_ok (q1 i) (c4 i hi)⟩
def st_le : List sV → List sV → Bool
  | [], [] => true
  | v :: a, w :: b => vle v w && st_le a b
  | _, _ => false
theorem st_le_ok {ρ : Nat → Int} : ∀ (a b : List sV) (es : List eV), st_le a b = true → sl_r ρ a es → sl_r ρ b es := by
  intro a
  induction a with
  | nil =>
    intro b es h hr
    cases b with
    | nil => exact hr
    | cons w b => cases h
  | cons v a ih =>
    intro b es h hr
    cases b with
    | nil => cases h
    | cons w b =>
      have h : (vle v w && st_le a b) = true := h
      rw [Bool.and_eq_true] at h
      obtain ⟨e, vs, rfl, h1, h2⟩ := sl_r_1 hr
      exact ⟨vle_ok h.1 h1, ih b vs h.2 h2⟩
def lo_le : List (Option sV) → List (Option sV) → Bool
  | [], [] => true
  | _ :: a, none :: b => lo_le a b
  | some v :: a, some w :: b => vle v w && lo_le a b
  | _, _ => false
theorem lo_le_ix {ρ : Nat → Int} : ∀ (a b : List (Option sV)), lo_le a b = true → a.length = b.length ∧ ∀ (i : Nat) (e : Option eV), so_r ρ (a[i]?).join e → so_r ρ (b[i]?).join e := by
  intro a
  induction a with
  | nil =>
    intro b h
    cases b with
    | nil => exact ⟨rfl, fun i e h => h⟩
    | cons w b => cases w <;> cases h
  | cons v a ih =>
    intro b h
    cases b with
    | nil => cases v <;> cases h
    | cons w b =>
      have key : lo_le a b = true ∧ ∀ e : Option eV, so_r ρ v e → so_r ρ w e := by
        cases w with
        | none =>
          refine ⟨?_, fun e _ => True.intro⟩
          cases v <;> exact h
        | some w =>
          cases v with
          | none => cases h
          | some v =>
            have h : (vle v w && lo_le a b) = true := h
            rw [Bool.and_eq_true] at h
            refine ⟨h.2, fun e he => ?_⟩
            cases e with
            | none => exact absurd he id
            | some e => exact vle_ok h.1 he
      obtain ⟨i1, i2⟩ := ih b key.1
      refine ⟨by rw [List.length_cons, List.length_cons, i1], fun i e he => ?_⟩
      cases i with
      | zero => exact key.2 e he
      | succ i => exact i2 i e he
theorem lo_le_ok {ρ : Nat → Int} {a b : List (Option sV)} {e : List (Option eV)} (h : lo_le a b = true) (hl : lo_r ρ a e) : lo_r ρ b e := by
  obtain ⟨h1, h2⟩ := lo_le_ix (ρ := ρ) a b h
  exact ⟨by rw [← h1]; exact hl.1, fun i => h2 i _ (hl.2 i)⟩
def fr_le (a b : sFr) : Bool := decide (a.1 = b.1) && decide (a.2.1 = b.2.1) && lo_le a.2.2.1 b.2.2.1 && st_le a.2.2.2 b.2.2.2
theorem fr_le_ok {ρ : Nat → Int} {a b : sFr} {f : eFr} (h : fr_le a b = true) (hf : sf_r ρ a f) : sf_r ρ b f := by
  unfold fr_le at h
  rw [Bool.and_eq_true, Bool.and_eq_true, Bool.and_eq_true] at h
  obtain ⟨⟨⟨h1, h2⟩, h3⟩, h4⟩ := h
  exact ⟨by rw [← of_decide_eq_true h1]; exact hf.1, by rw [← of_decide_eq_true h2]; exact hf.2.1, lo_le_ok h3 hf.2.2.1, st_le_ok _ _ _ h4 hf.2.2.2⟩
def fs_le : List sFr → List sFr → Bool
  | [], [] => true
  | v :: a, w :: b => fr_le v w && fs_le a b
  | _, _ => false
theorem fs_le_ok {ρ : Nat → Int} : ∀ (a b : List sFr) (es : List eFr), fs_le a b = true → sF_r ρ a es → sF_r ρ b es := by
  intro a
  induction a with
  | nil =>
    intro b es h hr
    cases b with
    | nil => exact hr
    | cons w b => cases h
  | cons v a ih =>
    intro b es h hr
    cases b with
    | nil => cases h
    | cons w b =>
      have h : (fr_le v w && fs_le a b) = true := h
      rw [Bool.and_eq_true] at h
      cases es with
      | nil => exact absurd hr id
      | cons e es => exact ⟨fr_le_ok h.1 hr.1, ih b es h.2 hr.2⟩
def sb_le : sB → sB → Bool
  | [], [] => true
  | b :: a, c :: d => decide (c.1 ≤ b.1 ∧ b.2 ≤ c.2) && sb_le a d
  | _, _ => false
theorem sb_le_ok {ρ : Nat → Int} : ∀ (a b : sB) (k : Nat), sb_le a b = true → (∀ (i : Nat) (q : Int × Int), a[i]? = some q → q.1 ≤ ρ (k + i) ∧ ρ (k + i) ≤ q.2) → ∀ (i : Nat) (q : Int × Int), b[i]? = some q → q.1 ≤ ρ (k + i) ∧ ρ (k + i) ≤ q.2 := by
  intro a
  induction a with
  | nil =>
    intro b k h hr
    cases b with
    | nil => exact hr
    | cons w b => cases h
  | cons v a ih =>
    intro b k h hr
    cases b with
    | nil => cases h
    | cons w b =>
      have h : (decide (w.1 ≤ v.1 ∧ v.2 ≤ w.2) && sb_le a b) = true := h
      rw [Bool.and_eq_true] at h
      intro i q hq
      cases i with
      | zero =>
        cases hq
        have h1 := of_decide_eq_true h.1
        have h2 := hr 0 v rfl
        omega
      | succ i =>
        have h3 := ih b (k + 1) h.2 (fun i q hq => by
          have h4 := hr (i + 1) q hq
          rw [show k + (i + 1) = k + 1 + i by omega] at h4
          exact h4) i q hq
        rw [show k + (i + 1) = k + 1 + i by omega]
        exact h3
def ss_le (S C : sSt) : Bool := decide (S.1 = C.1) && fr_le S.2.1 C.2.1 && fs_le S.2.2.1 C.2.2.1 && sm_le S.2.2.2 C.2.2.2
theorem ss_le_ok {ρ : Nat → Int} {S C : sSt} {E : eSt} (h : ss_le S C = true) (hS : ss_r ρ S E) : ss_r ρ C E := by
  unfold ss_le at h
  rw [Bool.and_eq_true, Bool.and_eq_true, Bool.and_eq_true] at h
  obtain ⟨⟨⟨h1, h2⟩, h3⟩, h4⟩ := h
  exact ⟨by rw [← of_decide_eq_true h1]; exact hS.1, fr_le_ok h2 hS.2.1, fs_le_ok _ _ _ h3 hS.2.2.1, sm_le_ok h4 hS.2.2.2⟩
/-- a checkpoint as a rule -/
def chk (BC : sB) (C : sSt) : sR := fun B S => if sb_le B BC && ss_le S C then some [] else none
theorem chk_ok {sg : sG} {fg : eG} {rc rs : Nat} {ρ : Nat → Int} {BC : sB} {C : sSt} (hC : ∀ E : eSt, sb_in ρ BC → ss_r ρ C E → ex_fine fg rc rs E) : sr_ok sg fg rc rs ρ (chk BC C) := by
  intro B S l E h hB hS _
  unfold chk at h
  split at h
  · rename_i h0
    rw [Bool.and_eq_true] at h0
    refine hC E ?_ (ss_le_ok h0.2 hS)
    intro i q hq
    have h9 := sb_le_ok (ρ := ρ) B BC 0 h0.1 (fun i q hq => by rw [Nat.zero_add]; exact hB i q hq) i q hq
    rw [Nat.zero_add] at h9
    exact h9
  · cases h
