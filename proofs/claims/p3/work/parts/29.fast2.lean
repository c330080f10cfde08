/-! THE FAST EVALUATOR: memory -/
noncomputable def f_set {α : Type} (i : Nat) (v : α) (d : Nat) : Nat → Lean.RArray α → (Lean.RArray α → Bool) → Bool := @Nat.rec (fun _ => Nat → Lean.RArray α → (Lean.RArray α → Bool) → Bool) (fun _ _ K => K (.leaf v)) (fun d ih lo t K => @Lean.RArray.rec α (fun _ => Bool) (fun a => @Bool.rec (fun _ => Bool) (ih lo (.leaf a) fun l => K (.branch (Nat.add lo (Nat.pow 2 d)) l (.leaf a))) (ih (Nat.add lo (Nat.pow 2 d)) (.leaf a) fun r => K (.branch (Nat.add lo (Nat.pow 2 d)) (.leaf a) r)) (Nat.ble (Nat.add lo (Nat.pow 2 d)) i)) (fun p l r _ _ => @Bool.rec (fun _ => Bool) (ih lo l fun l' => K (.branch p l' r)) (ih p r fun r' => K (.branch p l r')) (Nat.ble p i)) t) d
theorem f_set_eq {α : Type} (i : Nat) (v : α) : ∀ (d lo : Nat) (t : Lean.RArray α) (K : Lean.RArray α → Bool), f_set i v d lo t K = K (tr_set d lo t i v) := by
  intro d
  induction d with
  | zero =>
    intro lo t K
    rfl
  | succ d ih =>
    intro lo t K
    cases t with
    | leaf a =>
      show @Bool.rec (fun _ => Bool) (f_set i v d lo (.leaf a) fun l => K (.branch (lo + 2 ^ d) l (.leaf a))) (f_set i v d (lo + 2 ^ d) (.leaf a) fun r => K (.branch (lo + 2 ^ d) (.leaf a) r)) (Nat.ble (lo + 2 ^ d) i) = K (match Nat.ble (lo + 2 ^ d) i with
        | false => .branch (lo + 2 ^ d) (tr_set d lo (.leaf a) i v) (.leaf a)
        | true => .branch (lo + 2 ^ d) (.leaf a) (tr_set d (lo + 2 ^ d) (.leaf a) i v))
      cases Nat.ble (lo + 2 ^ d) i with
      | false => exact ih _ _ _
      | true => exact ih _ _ _
    | branch p l r =>
      show @Bool.rec (fun _ => Bool) (f_set i v d lo l fun l' => K (.branch p l' r)) (f_set i v d p r fun r' => K (.branch p l r')) (Nat.ble p i) = K (match Nat.ble p i with
        | false => .branch p (tr_set d lo l i v) r
        | true => .branch p l (tr_set d p r i v))
      cases Nat.ble p i with
      | false => exact ih _ _ _
      | true => exact ih _ _ _
/-- a cell of this run: memory's parts, its sort, length, row -/
noncomputable def f_cell (z : Bool) (M : sM) (r : Nat) (K : Lean.RArray sC → Nat × Nat → Nat → Nat → Lean.RArray sN → Bool) : Bool := @Bool.rec (fun _ => Bool) z (@Prod.rec (Lean.RArray sC) (Nat × Nat) (fun _ => Bool) (fun T nn => @Bool.rec (fun _ => Bool) z (@Prod.rec Nat (Nat × Lean.RArray sN) (fun _ => Bool) (fun kd c => @Prod.rec Nat (Lean.RArray sN) (fun _ => Bool) (fun len t => K T nn kd len t) c) (T.get (Nat.sub r 64))) (Nat.ble (Nat.succ (Nat.sub r 64)) nn.1)) M) (Nat.ble 64 r)
theorem f_cell_ok {M : sM} {r : Nat} {K : Lean.RArray sC → Nat × Nat → Nat → Nat → Lean.RArray sN → Bool} (h : f_cell false M r K = true) : ∃ j kd len t, r = j + 64 ∧ j < M.2.1 ∧ M.1.get j = (kd, len, t) ∧ K M.1 M.2 kd len t = true := by
  obtain ⟨T, nn⟩ := M
  unfold f_cell at h
  cases h1 : Nat.ble 64 r with
  | false => rw [h1] at h; exact f_none h
  | true =>
    rw [h1] at h
    have h1 := Nat.ble_eq.mp h1
    dsimp only at h
    cases h2 : Nat.ble (Nat.succ (Nat.sub r 64)) nn.1 with
    | false => rw [h2] at h; exact f_none h
    | true =>
      rw [h2] at h
      have h2 := Nat.ble_eq.mp h2
      refine ⟨r - 64, (T.get (r - 64)).1, (T.get (r - 64)).2.1, (T.get (r - 64)).2.2, by omega, h2, rfl, h⟩
/-- an array: of this run, or one that was there before -/
noncomputable def f_arr (z : Bool) (sg : sG) (M : sM) (r : Nat) (K : Nat → Nat → Lean.RArray sN → Bool) : Bool := @Bool.rec (fun _ => Bool) (f_cell z M r fun _ _ kd len t => K kd len t) (@Bool.rec (fun _ => Bool) z (@Prod.rec Nat (Nat × Lean.RArray sN) (fun _ => Bool) (fun kd c => @Prod.rec Nat (Lean.RArray sN) (fun _ => Bool) (fun len t => K kd len t) c) (sg r)) (Nat.ble 1 r)) (Nat.ble (Nat.succ r) 64)
theorem f_arr_ok {sg : sG} {M : sM} {r : Nat} {K : Nat → Nat → Lean.RArray sN → Bool} (h : f_arr false sg M r K = true) : (∃ j kd len t, r = j + 64 ∧ j < M.2.1 ∧ M.1.get j = (kd, len, t) ∧ K kd len t = true) ∨ (0 < r ∧ r < 64 ∧ K (sg r).1 (sg r).2.1 (sg r).2.2 = true) := by
  unfold f_arr at h
  cases h1 : Nat.ble (Nat.succ r) 64 with
  | false =>
    rw [h1] at h
    exact Or.inl (f_cell_ok h)
  | true =>
    rw [h1] at h
    have h1 := Nat.ble_eq.mp h1
    dsimp only at h
    cases h2 : Nat.ble 1 r with
    | false => rw [h2] at h; exact f_none h
    | true =>
      rw [h2] at h
      have h2 := Nat.ble_eq.mp h2
      exact Or.inr ⟨by omega, by omega, h⟩
/-! numbers of memory as values, and back -/
noncomputable def pvI (_ : Bool) (n : sN) (K : sV → Bool) : Bool := @Sum.rec Int aV (fun _ => Bool) (fun x => K (.inl (.inl (.inl x)))) (fun a => @Sum.rec (Nat ⊕ Option (Int × Int)) Unit (fun _ => Bool) (fun c => K (.inr (.inl c))) (fun _ => K (sI none)) a) n
theorem pvI_eq (z : Bool) (n : sN) (K : sV → Bool) : pvI z n K = K (sv_nI n) := by rcases n with x | (c | u) <;> rfl
noncomputable def pvJ (_ : Bool) (n : sN) (K : sV → Bool) : Bool := @Sum.rec Int aV (fun _ => Bool) (fun x => K (.inl (.inl (.inr x)))) (fun _ => K sJ) n
theorem pvJ_eq (z : Bool) (n : sN) (K : sV → Bool) : pvJ z n K = K (sv_nJ n) := by rcases n with x | a <;> rfl
noncomputable def pvR (z : Bool) (n : sN) (K : sV → Bool) : Bool := @Sum.rec Int aV (fun _ => Bool) (fun x => @Int.rec (fun _ => Bool) (fun r => K (.inl (.inr (.inr r)))) (fun _ => z) x) (fun _ => z) n
def pv_ok (t : Nat) (pv : Bool → sN → (sV → Bool) → Bool) : Prop := ∀ (n : sN) (K : sV → Bool), pv false n K = true → ∃ w, sv_pv t n = some w ∧ K w = true
theorem pvI_ok0 : pv_ok 0 pvI := fun n K h => ⟨_, rfl, by rw [pvI_eq] at h; exact h⟩
theorem pvI_ok1 : pv_ok 1 pvI := fun n K h => ⟨_, rfl, by rw [pvI_eq] at h; exact h⟩
theorem pvJ_ok2 : pv_ok 2 pvJ := fun n K h => ⟨_, rfl, by rw [pvJ_eq] at h; exact h⟩
theorem pvR_ok3 : pv_ok 3 pvR := by
  intro n K h
  rcases n with (x | x) | a
  · exact ⟨_, rfl, h⟩
  · exact f_none h
  · exact f_none h
noncomputable def qvI (z : Bool) (v : sV) (K : sN → Bool) : Bool := @Sum.rec eV aV (fun _ => Bool) (fun e => @Sum.rec (Int ⊕ Int) ((UInt64 ⊕ UInt32) ⊕ Nat) (fun _ => Bool) (fun x => @Sum.rec Int Int (fun _ => Bool) (fun x => K (.inl x)) (fun _ => z) x) (fun _ => z) e) (fun a => @Sum.rec (Nat ⊕ Option (Int × Int)) Unit (fun _ => Bool) (fun c => K (.inr (.inl c))) (fun _ => z) a) v
theorem qvI_ok {v : sV} {K : sN → Bool} (h : qvI false v K = true) : ∃ n, sv_In v = some n ∧ K n = true := by
  rcases v with ((x | x) | x) | (c | u)
  · exact ⟨_, rfl, h⟩
  · exact f_none h
  · exact f_none h
  · exact ⟨_, rfl, h⟩
  · exact f_none h
noncomputable def qvJ (z : Bool) (v : sV) (K : sN → Bool) : Bool := @Sum.rec eV aV (fun _ => Bool) (fun e => @Sum.rec (Int ⊕ Int) ((UInt64 ⊕ UInt32) ⊕ Nat) (fun _ => Bool) (fun x => @Sum.rec Int Int (fun _ => Bool) (fun _ => z) (fun x => K (.inl x)) x) (fun _ => z) e) (fun a => @Sum.rec (Nat ⊕ Option (Int × Int)) Unit (fun _ => Bool) (fun _ => z) (fun u => K (.inr (.inr u))) a) v
theorem qvJ_ok {v : sV} {K : sN → Bool} (h : qvJ false v K = true) : ∃ n, sv_Jn v = some n ∧ K n = true := by
  rcases v with ((x | x) | x) | (c | u)
  · exact f_none h
  · exact ⟨_, rfl, h⟩
  · exact f_none h
  · exact f_none h
  · exact ⟨_, rfl, h⟩
noncomputable def qvZ (z : Bool) (v : sV) (K : sN → Bool) : Bool := f_pI z v fun x => @Int.rec (fun _ => Bool) (fun n => f_if z (Nat.ble n 1) (K (.inl (Int.ofNat n)))) (fun _ => z) x
noncomputable def qvR (z : Bool) (v : sV) (K : sN → Bool) : Bool := f_pR z v fun r => K (.inl (Int.ofNat r))
def qv_ok (t : Nat) (qv : Bool → sV → (sN → Bool) → Bool) : Prop := ∀ (B : sB) (v : sV) (K : sN → Bool), qv false v K = true → ∃ n, sv_qv B t v = some n ∧ K n = true
theorem qvI_ok0 : qv_ok 0 qvI := fun B v K h => qvI_ok h
theorem qvJ_ok2 : qv_ok 2 qvJ := fun B v K h => qvJ_ok h
theorem sv_qv1 (B : sB) (x : Int) : sv_qv B 1 (.inl (eI x)) = if ev_w x = 0 ∨ ev_w x = 1 then some (.inl x) else none := rfl
theorem ev_w_small (n : Nat) (h : n ≤ 1) : ev_w (Int.ofNat n) = 0 ∨ ev_w (Int.ofNat n) = 1 := by
  have h2 : n = 0 ∨ n = 1 := by omega
  rcases h2 with rfl | rfl
  · exact Or.inl (by unfold ev_w; rfl)
  · exact Or.inr (by unfold ev_w; rfl)
theorem sv_qv1_ok {B : sB} {n : Nat} (h : n ≤ 1) : sv_qv B 1 (.inl (eI (Int.ofNat n))) = some (.inl (Int.ofNat n)) := by
  rw [sv_qv1, if_pos (ev_w_small n h)]
theorem qvZ_ok1 : qv_ok 1 qvZ := by
  intro B v K h
  obtain ⟨x, rfl, h_1⟩ := f_pI_ok h
  rcases x with n | n
  · obtain ⟨h1, h2⟩ := f_if_ok h_1
    exact ⟨_, sv_qv1_ok (Nat.ble_eq.mp h1), h2⟩
  · exact f_none h_1
theorem qvR_ok3 : qv_ok 3 qvR := by
  intro B v K h
  obtain ⟨r, rfl, h_1⟩ := f_pR_ok h
  exact ⟨_, rfl, h_1⟩
/-! instructions of the memory -/
def fm_ok (sg : sG) (i : Instr) (a b t : Nat) (x : Int) (y np : Nat) (f : fC) : Prop := ∀ (B : sB) (d : Nat) (lv : List (Option sV)) (st : List sV) (F : List sFr) (M : sM) (Q : fK), f d lv st F M Q false = true → ∃ st' M', sv_m sg B i a b t x st M = some (st', M') ∧ Q d y np lv st' F M' = true
theorem sv_kd_of {M : sM} {j kd len : Nat} {t : Lean.RArray sN} (hj : j < M.2.1) (h : M.1.get j = (kd, len, t)) : sv_kd M (j + 64) = some kd := by
  unfold sv_kd
  rw [if_neg (by omega), show j + 64 - 64 = j by omega, if_pos hj, h]
noncomputable def fm_gf (pv : Bool → sN → (sV → Bool) → Bool) (a b y np : Nat) : fC := fun d lv st F M Q z => f_pop z st fun v s => f_pR z v fun r => f_cell z M r fun _ _ kd len t => f_if z (Nat.beq kd a) (f_if z (Nat.ble (Nat.succ b) len) (pv z (t.get b) fun w => Q d y np lv (w :: s) F M))
theorem fm_gf_ok {sg : sG} {idx : Nat} {pv : Bool → sN → (sV → Bool) → Bool} {a b t : Nat} {x : Int} {y np : Nat} (hp : pv_ok t pv) : fm_ok sg (.getfield idx) a b t x y np (fm_gf pv a b y np) := by
  intro B d lv st F M Q h
  obtain ⟨v, s, rfl, h_1⟩ := f_pop_ok h
  obtain ⟨r, rfl, h_2⟩ := f_pR_ok h_1
  obtain ⟨j, kd, len, tr, rfl, hj, hg, h_3⟩ := f_cell_ok h_2
  obtain ⟨h1, h_4⟩ := f_if_ok h_3
  obtain ⟨h2, h_5⟩ := f_if_ok h_4
  obtain ⟨w, h3, h_6⟩ := hp _ _ h_5
  have h1 := Nat.eq_of_beq_eq_true h1
  have h2 : b < len := Nat.ble_eq.mp h2
  subst h1
  refine ⟨w :: s, M, ?_, h_6⟩
  show (if sv_kd M (j + 64) = some kd ∧ b < (M.1.get (j + 64 - 64)).2.1 then (match sv_pv t ((M.1.get (j + 64 - 64)).2.2.get b) with
      | some v => some (v :: s, M)
      | none => none) else none) = _
  rw [show j + 64 - 64 = j by omega, hg, if_pos ⟨sv_kd_of hj hg, h2⟩]
  dsimp only
  rw [h3]
noncomputable def f_wr (T : Lean.RArray sC) (nn : Nat × Nat) (r kd len : Nat) (t : Lean.RArray sN) (b : Nat) (n : sN) (K : sM → Bool) : Bool := f_set b n (sdp len) 0 t fun t' => f_set (Nat.sub r 64) (kd, len, t') 8 0 T fun T' => K (T', nn)
theorem f_wr_eq {M : sM} {j kd len : Nat} {t : Lean.RArray sN} (hg : M.1.get j = (kd, len, t)) (b : Nat) (n : sN) (K : sM → Bool) : f_wr M.1 M.2 (j + 64) kd len t b n K = K (sv_wr M (j + 64) b n) := by
  unfold f_wr sv_wr
  rw [f_set_eq, f_set_eq, show j + 64 - 64 = j by omega, hg]
  rfl
noncomputable def fm_pf (qv : Bool → sV → (sN → Bool) → Bool) (a b y np : Nat) : fC := fun d lv st F M Q z => f_pop z st fun v s1 => f_pop z s1 fun w s => f_pR z w fun r => f_cell z M r fun T nn kd len t => f_if z (Nat.beq kd a) (f_if z (Nat.ble (Nat.succ b) len) (qv z v fun n => f_wr T nn r kd len t b n fun M' => Q d y np lv (s) F M'))
theorem fm_pf_ok {sg : sG} {idx : Nat} {qv : Bool → sV → (sN → Bool) → Bool} {a b t : Nat} {x : Int} {y np : Nat} (hp : qv_ok t qv) : fm_ok sg (.putfield idx) a b t x y np (fm_pf qv a b y np) := by
  intro B d lv st F M Q h
  obtain ⟨v, s1, rfl, h_1⟩ := f_pop_ok h
  obtain ⟨w, s, rfl, h_2⟩ := f_pop_ok h_1
  obtain ⟨r, rfl, h_3⟩ := f_pR_ok h_2
  obtain ⟨j, kd, len, tr, rfl, hj, hg, h_4⟩ := f_cell_ok h_3
  obtain ⟨h1, h_5⟩ := f_if_ok h_4
  obtain ⟨h2, h_6⟩ := f_if_ok h_5
  obtain ⟨n, h3, h_7⟩ := hp B _ _ h_6
  rw [f_wr_eq hg] at h_7
  have h1 := Nat.eq_of_beq_eq_true h1
  have h2 : b < len := Nat.ble_eq.mp h2
  subst h1
  refine ⟨s, _, ?_, h_7⟩
  show (if sv_kd M (j + 64) = some kd ∧ b < (M.1.get (j + 64 - 64)).2.1 then (match sv_qv B t v with
      | some n => sv_wrK M (j + 64) b n fun M' => some (s, M')
      | none => none) else none) = _
  rw [show j + 64 - 64 = j by omega, hg, if_pos ⟨sv_kd_of hj hg, h2⟩, h3]
  dsimp only
  rw [sv_wrK_eq]
/-- an index that is known -/
noncomputable def f_ix (z : Bool) (i : Int) (len : Nat) (K : Nat → Bool) : Bool := @Int.rec (fun _ => Bool) (fun n => f_if z (Nat.ble (Nat.succ n) len) (f_if z (Nat.ble n 16383) (K n))) (fun _ => z) i
theorem f_ix_ok {i : Int} {len : Nat} {K : Nat → Bool} (h : f_ix false i len K = true) : ∃ n : Nat, ev_w i = (n : Int) ∧ (ev_w i).toNat = n ∧ n < len ∧ K n = true := by
  rcases i with n | n
  · obtain ⟨h1, h_1⟩ := f_if_ok h
    obtain ⟨h2, h_2⟩ := f_if_ok h_1
    have h1 := Nat.ble_eq.mp h1
    have h2 := Nat.ble_eq.mp h2
    have hw : ev_w (Int.ofNat n) = (n : Int) := ev_w_in (by show (-2147483648 : Int) ≤ (n : Int); omega) (by show (n : Int) < 2147483648; omega)
    exact ⟨n, hw, by rw [hw]; rfl, h1, h_2⟩
  · exact f_none h
noncomputable def fm_al (pv : Bool → sN → (sV → Bool) → Bool) (sg : sG) (kk y np : Nat) : fC := fun d lv st F M Q z => f_pop z st fun v s1 => f_pI z v fun i => f_pop z s1 fun w s => f_pR z w fun r => f_arr z sg M r fun kd len t => f_if z (Nat.beq kd kk) (f_ix z i len fun n => pv z (t.get n) fun u => Q d y np lv (u :: s) F M)
theorem sv_al_of {sg : sG} {M : sM} {kd len r n : Nat} {i : Int} {t : Lean.RArray sN} (hw : ev_w i = (n : Int)) (hn : (ev_w i).toNat = n) (hl : n < len) (h : (∃ j, r = j + 64 ∧ j < M.2.1 ∧ M.1.get j = (kd, len, t)) ∨ (0 < r ∧ r < 64 ∧ sg r = (kd, len, t))) : sv_al sg M kd r i = some (t.get n) := by
  unfold sv_al
  rw [hn, hw]
  rcases h with ⟨j, rfl, hj, hg⟩ | ⟨h1, h2, hg⟩
  · rw [if_neg (by omega), show j + 64 - 64 = j by omega, hg, if_pos ⟨hj, rfl, by omega, by show (n : Int) < (len : Int); omega⟩]
  · rw [if_pos h2, hg, if_pos ⟨h1, rfl, by omega, by show (n : Int) < (len : Int); omega⟩]
theorem fm_iaload_ok {sg : sG} {a b t : Nat} {x : Int} {y np : Nat} : fm_ok sg .iaload a b t x y np (fm_al pvI sg 100 y np) := by
  intro B d lv st F M Q h
  obtain ⟨v, s1, rfl, h_1⟩ := f_pop_ok h
  obtain ⟨i, rfl, h_2⟩ := f_pI_ok h_1
  obtain ⟨w, s, rfl, h_3⟩ := f_pop_ok h_2
  obtain ⟨r, rfl, h_4⟩ := f_pR_ok h_3
  have key : ∀ (kd len : Nat) (tr : Lean.RArray sN), ((∃ j, r = j + 64 ∧ j < M.2.1 ∧ M.1.get j = (kd, len, tr)) ∨ (0 < r ∧ r < 64 ∧ sg r = (kd, len, tr))) → f_if false (Nat.beq kd 100) (f_ix false i len fun n => pvI false (tr.get n) fun u => Q d y np lv (u :: s) F M) = true → ∃ st' M', sv_m sg B .iaload a b t x (.inl (eI i) :: .inl (eR r) :: s) M = some (st', M') ∧ Q d y np lv st' F M' = true := by
    intro kd len tr hr g0
    obtain ⟨h1, g1⟩ := f_if_ok g0
    have h1 := Nat.eq_of_beq_eq_true h1
    subst h1
    obtain ⟨n, h2, h3, h4, g2⟩ := f_ix_ok g1
    rw [pvI_eq] at g2
    refine ⟨_, M, ?_, g2⟩
    show (match sv_al sg M 100 r i with
      | some n => some (sv_nI n :: s, M)
      | none => none) = _
    rw [sv_al_of h2 h3 h4 hr]
  rcases f_arr_ok h_4 with ⟨j, kd, len, tr, h1, h2, h3, g9⟩ | ⟨h1, h2, g9⟩
  · exact key kd len tr (Or.inl ⟨j, h1, h2, h3⟩) g9
  · exact key _ _ _ (Or.inr ⟨h1, h2, rfl⟩) g9
theorem fm_laload_ok {sg : sG} {a b t : Nat} {x : Int} {y np : Nat} : fm_ok sg .laload a b t x y np (fm_al pvJ sg 101 y np) := by
  intro B d lv st F M Q h
  obtain ⟨v, s1, rfl, h_1⟩ := f_pop_ok h
  obtain ⟨i, rfl, h_2⟩ := f_pI_ok h_1
  obtain ⟨w, s, rfl, h_3⟩ := f_pop_ok h_2
  obtain ⟨r, rfl, h_4⟩ := f_pR_ok h_3
  have key : ∀ (kd len : Nat) (tr : Lean.RArray sN), ((∃ j, r = j + 64 ∧ j < M.2.1 ∧ M.1.get j = (kd, len, tr)) ∨ (0 < r ∧ r < 64 ∧ sg r = (kd, len, tr))) → f_if false (Nat.beq kd 101) (f_ix false i len fun n => pvJ false (tr.get n) fun u => Q d y np lv (u :: s) F M) = true → ∃ st' M', sv_m sg B .laload a b t x (.inl (eI i) :: .inl (eR r) :: s) M = some (st', M') ∧ Q d y np lv st' F M' = true := by
    intro kd len tr hr g0
    obtain ⟨h1, g1⟩ := f_if_ok g0
    have h1 := Nat.eq_of_beq_eq_true h1
    subst h1
    obtain ⟨n, h2, h3, h4, g2⟩ := f_ix_ok g1
    rw [pvJ_eq] at g2
    refine ⟨_, M, ?_, g2⟩
    show (match sv_al sg M 101 r i with
      | some n => some (sv_nJ n :: s, M)
      | none => none) = _
    rw [sv_al_of h2 h3 h4 hr]
  rcases f_arr_ok h_4 with ⟨j, kd, len, tr, h1, h2, h3, g9⟩ | ⟨h1, h2, g9⟩
  · exact key kd len tr (Or.inl ⟨j, h1, h2, h3⟩) g9
  · exact key _ _ _ (Or.inr ⟨h1, h2, rfl⟩) g9
noncomputable def fm_as (qv : Bool → sV → (sN → Bool) → Bool) (kk y np : Nat) : fC := fun d lv st F M Q z => f_pop z st fun v s1 => f_pop z s1 fun u s2 => f_pI z u fun i => f_pop z s2 fun w s => f_pR z w fun r => f_cell z M r fun T nn kd len t => f_if z (Nat.beq kd kk) (f_ix z i len fun n => qv z v fun z => f_wr T nn r kd len t n z fun M' => Q d y np lv (s) F M')
theorem sv_as_of {M : sM} {kd len j n : Nat} {i : Int} {t : Lean.RArray sN} (hw : ev_w i = (n : Int)) (hn : (ev_w i).toNat = n) (hl : n < len) (hj : j < M.2.1) (hg : M.1.get j = (kd, len, t)) (z : sN) : sv_as M kd (j + 64) i z = some (sv_wr M (j + 64) n z) := by
  unfold sv_as
  rw [if_neg (by omega), hn, hw, show j + 64 - 64 = j by omega, hg, if_pos ⟨hj, rfl, by omega, by show (n : Int) < (len : Int); omega⟩, sv_wrK_eq]
theorem fm_iastore_ok {sg : sG} {a b t : Nat} {x : Int} {y np : Nat} : fm_ok sg .iastore a b t x y np (fm_as qvI 100 y np) := by
  intro B d lv st F M Q h
  obtain ⟨v, s1, rfl, h_1⟩ := f_pop_ok h
  obtain ⟨u, s2, rfl, h_2⟩ := f_pop_ok h_1
  obtain ⟨i, rfl, h_3⟩ := f_pI_ok h_2
  obtain ⟨w, s, rfl, h_4⟩ := f_pop_ok h_3
  obtain ⟨r, rfl, h_5⟩ := f_pR_ok h_4
  obtain ⟨j, kd, len, tr, rfl, hj, hg, h_6⟩ := f_cell_ok h_5
  obtain ⟨h1, h_7⟩ := f_if_ok h_6
  have h1 := Nat.eq_of_beq_eq_true h1
  subst h1
  obtain ⟨n, h2, h3, h4, h_8⟩ := f_ix_ok h_7
  obtain ⟨z, h5, h_9⟩ := qvI_ok h_8
  rw [f_wr_eq hg] at h_9
  refine ⟨s, _, ?_, h_9⟩
  show (match sv_In v with
      | some n => (match sv_as M 100 (j + 64) i n with
        | some M' => some (s, M')
        | none => none)
      | none => none) = _
  rw [h5]
  dsimp only
  rw [sv_as_of h2 h3 h4 hj hg]
theorem fm_lastore_ok {sg : sG} {a b t : Nat} {x : Int} {y np : Nat} : fm_ok sg .lastore a b t x y np (fm_as qvJ 101 y np) := by
  intro B d lv st F M Q h
  obtain ⟨v, s1, rfl, h_1⟩ := f_pop_ok h
  obtain ⟨u, s2, rfl, h_2⟩ := f_pop_ok h_1
  obtain ⟨i, rfl, h_3⟩ := f_pI_ok h_2
  obtain ⟨w, s, rfl, h_4⟩ := f_pop_ok h_3
  obtain ⟨r, rfl, h_5⟩ := f_pR_ok h_4
  obtain ⟨j, kd, len, tr, rfl, hj, hg, h_6⟩ := f_cell_ok h_5
  obtain ⟨h1, h_7⟩ := f_if_ok h_6
  have h1 := Nat.eq_of_beq_eq_true h1
  subst h1
  obtain ⟨n, h2, h3, h4, h_8⟩ := f_ix_ok h_7
  obtain ⟨z, h5, h_9⟩ := qvJ_ok h_8
  rw [f_wr_eq hg] at h_9
  refine ⟨s, _, ?_, h_9⟩
  show (match sv_Jn v with
      | some n => (match sv_as M 101 (j + 64) i n with
        | some M' => some (s, M')
        | none => none)
      | none => none) = _
  rw [h5]
  dsimp only
  rw [sv_as_of h2 h3 h4 hj hg]
noncomputable def fm_len (sg : sG) (y np : Nat) : fC := fun d lv st F M Q z => f_pop z st fun v s => f_pR z v fun r => f_arr z sg M r fun kd len _ => f_if z (Nat.ble 100 kd) (f_if z (Nat.ble kd 103) (Q d y np lv (.inl (.inl (.inl (Int.ofNat len))) :: s) F M))
theorem fm_len_ok {sg : sG} {a b t : Nat} {x : Int} {y np : Nat} : fm_ok sg .arraylength a b t x y np (fm_len sg y np) := by
  intro B d lv st F M Q h
  obtain ⟨v, s, rfl, h_1⟩ := f_pop_ok h
  obtain ⟨r, rfl, h_2⟩ := f_pR_ok h_1
  rcases f_arr_ok h_2 with ⟨j, kd, len, tr, rfl, hj, hg, g9⟩ | ⟨h1, h2, g9⟩
  · obtain ⟨q1, g8⟩ := f_if_ok g9
    obtain ⟨q2, g7⟩ := f_if_ok g8
    have q1 := Nat.ble_eq.mp q1
    have q2 := Nat.ble_eq.mp q2
    refine ⟨_, M, ?_, g7⟩
    show (match sv_ln sg M (j + 64) with
      | some n => some (Sum.inl (eI (n : Int)) :: s, M)
      | none => none) = _
    have hl : sv_ln sg M (j + 64) = some len := by
      unfold sv_ln
      rw [if_neg (by omega), show j + 64 - 64 = j by omega, hg, if_pos ⟨hj, q1, q2⟩]
    rw [hl]
    rfl
  · obtain ⟨q1, g8⟩ := f_if_ok g9
    obtain ⟨q2, g7⟩ := f_if_ok g8
    have q1 := Nat.ble_eq.mp q1
    refine ⟨_, M, ?_, g7⟩
    show (match sv_ln sg M r with
      | some n => some (Sum.inl (eI (n : Int)) :: s, M)
      | none => none) = _
    have hl : sv_ln sg M r = some (sg r).2.1 := by
      unfold sv_ln
      rw [if_pos h2, if_pos ⟨h1, by omega⟩]
    rw [hl]
    rfl
noncomputable def f_nw (z : Bool) (M : sM) (kd n : Nat) (K : Nat → sM → Bool) : Bool := @Prod.rec (Lean.RArray sC) (Nat × Nat) (fun _ => Bool) (fun T nn => @Prod.rec Nat Nat (fun _ => Bool) (fun c sl => f_if z (Nat.ble (Nat.succ c) 256) (f_if z (Nat.ble n 16384) (f_set c (kd, n, .leaf (.inl 0)) 8 0 T fun T' => f_N (Nat.succ c) fun c' => f_N (Nat.add sl n) fun sl' => f_N (Nat.add c 64) fun r => K r (T', c', sl')))) nn) M
theorem f_nw_ok {M : sM} {kd n : Nat} {K : Nat → sM → Bool} (h : f_nw false M kd n K = true) : ∃ M', sv_nw M kd n = some M' ∧ K (M.2.1 + 64) M' = true := by
  obtain ⟨T, c, sl⟩ := M
  have h : f_if false (Nat.ble (Nat.succ c) 256) (f_if false (Nat.ble n 16384) (f_set c (kd, n, .leaf (.inl 0)) 8 0 T fun T' => f_N (Nat.succ c) fun c' => f_N (Nat.add sl n) fun sl' => f_N (Nat.add c 64) fun r => K r (T', c', sl'))) = true := h
  obtain ⟨q1, h_1⟩ := f_if_ok h
  obtain ⟨q2, h_2⟩ := f_if_ok h_1
  have q1 := Nat.ble_eq.mp q1
  have q2 := Nat.ble_eq.mp q2
  rw [f_set_eq, f_N_eq, f_N_eq, f_N_eq] at h_2
  refine ⟨_, ?_, h_2⟩
  unfold sv_nw
  rw [if_pos ⟨q1, q2⟩, tr_setK_eq, fz_N_eq, fz_N_eq]
  rfl
noncomputable def fm_new (a n y np : Nat) : fC := fun d lv st F M Q z => f_nw z M a n fun r M' => Q d y np lv (.inl (.inr (.inr r)) :: st) F M'
theorem fm_new_ok {sg : sG} {idx a b t : Nat} {x : Int} {y np : Nat} : fm_ok sg (.new idx) a b t x y np (fm_new a (dt_lay a).length y np) := by
  intro B d lv st F M Q h
  obtain ⟨M', h1, h_1⟩ := f_nw_ok h
  refine ⟨_, M', ?_, h_1⟩
  show (match sv_nw M a (dt_lay a).length with
    | some M' => some (Sum.inl (eR (M.2.1 + 64)) :: st, M')
    | none => none) = _
  rw [h1]
noncomputable def fm_na (a y np : Nat) : fC := fun d lv st F M Q z => f_pop z st fun v s => f_pI z v fun i => f_ix z i 16384 fun n => f_nw z M a n fun r M' => Q d y np lv (.inl (.inr (.inr r)) :: s) F M'
theorem fm_na_ok {sg : sG} {ty : Jvm.ClassFile.ArrayType} {a b t : Nat} {x : Int} {y np : Nat} : fm_ok sg (.newarray ty) a b t x y np (fm_na a y np) := by
  intro B d lv st F M Q h
  obtain ⟨v, s, rfl, h_1⟩ := f_pop_ok h
  obtain ⟨i, rfl, h_2⟩ := f_pI_ok h_1
  obtain ⟨n, h1, h2, h3, h_3⟩ := f_ix_ok h_2
  obtain ⟨M', h4, h_4⟩ := f_nw_ok h_3
  refine ⟨_, M', ?_, h_4⟩
  show (if 0 ≤ ev_w i ∧ ev_w i ≤ 1000000 then (match sv_nw M a (ev_w i).toNat with
      | some M' => some (Sum.inl (eR (M.2.1 + 64)) :: s, M')
      | none => none) else none) = _
  rw [h2, h1, if_pos ⟨by omega, by omega⟩, h4]
theorem fm_c_ok {sg : sG} {i : Instr} {a b t : Nat} {x : Int} {v : sV} {y np : Nat} (hi : ∀ (B : sB) (st : List sV) (M : sM), sv_m sg B i a b t x st M = some (v :: st, M)) : fm_ok sg i a b t x y np (fs_c v y np) := by
  intro B d lv st F M Q h
  exact ⟨_, M, hi B st M, h⟩
/-! calls -/
noncomputable def fc_pop (z : Bool) (K : List sV → List (Option sV) → Nat → Bool) (t : Nat) : List sV → List (Option sV) → Nat → Bool := @Nat.rec (fun _ => List sV → List (Option sV) → Nat → Bool) K (fun _ ih st acc c => @List.rec sV (fun _ => Bool) z (fun v s _ => @Bool.rec (fun _ => Bool) (ih s (some v :: none :: acc) (Nat.succ (Nat.succ c))) (ih s (some v :: acc) (Nat.succ c)) (f_c1 v)) st) t
theorem sv_sl1_snoc (xs : List sV) (v : sV) : sv_sl1 (xs ++ [v]) = sv_sl1 xs ++ (if sv_cat v = 2 then [some v, none] else [some v]) := by
  unfold sv_sl1
  rw [List.flatMap_append]
  congr 1
  rw [List.flatMap_cons, List.flatMap_nil, List.append_nil]
theorem fc_pop_ok {K : List sV → List (Option sV) → Nat → Bool} : ∀ (t : Nat) (st : List sV) (acc : List (Option sV)) (c : Nat), fc_pop false K t st acc c = true → t ≤ st.length ∧ K (st.drop t) (sv_sl1 (st.take t).reverse ++ acc) (c + (sv_sl1 (st.take t).reverse).length) = true := by
  intro t
  induction t with
  | zero =>
    intro st acc c h
    exact ⟨Nat.zero_le _, h⟩
  | succ t ih =>
    intro st acc c h
    obtain ⟨v, s, rfl, h_1⟩ := f_pop_ok (K := fun v s => @Bool.rec (fun _ => Bool) (fc_pop false K t s (some v :: none :: acc) (Nat.succ (Nat.succ c))) (fc_pop false K t s (some v :: acc) (Nat.succ c)) (f_c1 v)) h
    rw [List.take_succ_cons, List.reverse_cons, sv_sl1_snoc, List.drop_succ_cons, List.length_cons]
    have h_1 : @Bool.rec (fun _ => Bool) (fc_pop false K t s (some v :: none :: acc) (Nat.succ (Nat.succ c))) (fc_pop false K t s (some v :: acc) (Nat.succ c)) (f_c1 v) = true := h_1
    cases hc : f_c1 v with
    | false =>
      rw [hc] at h_1
      obtain ⟨h1, h2⟩ := ih _ _ _ h_1
      refine ⟨by omega, ?_⟩
      rw [if_pos (f_c1_no hc), List.append_assoc, List.length_append]
      rw [show c + ((sv_sl1 (s.take t).reverse).length + [some v, none].length) = Nat.succ (Nat.succ c) + (sv_sl1 (s.take t).reverse).length by simp only [List.length_cons, List.length_nil]; omega]
      exact h2
    | true =>
      rw [hc] at h_1
      obtain ⟨h1, h2⟩ := ih _ _ _ h_1
      refine ⟨by omega, ?_⟩
      rw [if_neg (by rw [f_c1_ok hc]; decide), List.append_assoc, List.length_append]
      rw [show c + ((sv_sl1 (s.take t).reverse).length + [some v].length) = Nat.succ c + (sv_sl1 (s.take t).reverse).length by simp only [List.length_cons, List.length_nil]; omega]
      exact h2
noncomputable def fc_s (st : List sV) : Nat := @List.rec sV (fun _ => Nat) 0 (fun v _ n => @Bool.rec (fun _ => Nat) (Nat.succ (Nat.succ n)) (Nat.succ n) (f_c1 v)) st
theorem fc_s_eq (st : List sV) : fc_s st = (st.map sv_cat).sum := by
  induction st with
  | nil => rfl
  | cons v s ih =>
    rw [List.map_cons, List.sum_cons, ← ih]
    show @Bool.rec (fun _ => Nat) (Nat.succ (Nat.succ (fc_s s))) (Nat.succ (fc_s s)) (f_c1 v) = _
    cases hc : f_c1 v with
    | false => rw [f_c1_no hc]; show Nat.succ (Nat.succ (fc_s s)) = _; omega
    | true => rw [f_c1_ok hc]; show Nat.succ (fc_s s) = _; omega
/-- a step into a method -/
noncomputable def f_in (z : Bool) (Q : fK) (b y np : Nat) (loc : List (Option sV)) (d : Nat) (lv : List (Option sV)) (rest : List sV) (F : List sFr) (M : sM) : Bool := f_if z (Nat.ble (fc_s rest) 8) (@Nat.rec (fun _ => Bool) z (fun d' _ => Q d' b 0 loc [] ((y, np, lv, rest) :: F) M) d)
def fq_ok (i : Instr) (a b t y pc : Nat) (f : fC) : Prop := ∀ (d : Nat) (lv : List (Option sV)) (st : List sV) (F : List sFr) (M : sM) (Q : fK), f d lv st F M Q false = true → ∃ as rs, sv_cl2 M i a b t st = some (as, rs) ∧ 0 < d ∧ Q (d - 1) b 0 (sv_en (dt_mx b) as) [] ((y, pc + 3, lv, rs) :: F) M = true
theorem f_in_ok {Q : fK} {b y np : Nat} {loc : List (Option sV)} {d : Nat} {lv : List (Option sV)} {rest : List sV} {F : List sFr} {M : sM} (h : f_in false Q b y np loc d lv rest F M = true) : (rest.map sv_cat).sum ≤ 8 ∧ 0 < d ∧ Q (d - 1) b 0 loc [] ((y, np, lv, rest) :: F) M = true := by
  obtain ⟨h1, h_1⟩ := f_if_ok h
  rw [fc_s_eq] at h1
  cases d with
  | zero => exact f_none h_1
  | succ d => exact ⟨Nat.ble_eq.mp h1, Nat.succ_pos _, h_1⟩
noncomputable def fq_s (b t x mx y np : Nat) : fC := fun d lv st F M Q z => fc_pop z (fun rest loc c => f_if z (Nat.beq c x) (f_in z Q b y np loc d lv rest F M)) t st (List.replicate (Nat.sub mx x) none) 0
theorem fq_s_ok {idx b t x y pc : Nat} (hx : x ≤ dt_mx b) : fq_ok (.invokestatic idx) 2 b t y pc (fq_s b t x (dt_mx b) y (pc + 3)) := by
  intro d lv st F M Q h
  obtain ⟨h1, h_1⟩ := fc_pop_ok _ _ _ _ h
  obtain ⟨h2, h_2⟩ := f_if_ok h_1
  have h2 := Nat.eq_of_beq_eq_true h2
  rw [Nat.zero_add] at h2
  obtain ⟨h3, h4, h5⟩ := f_in_ok h_2
  refine ⟨(st.take t).reverse, st.drop t, ?_, h4, ?_⟩
  · unfold sv_cl2
    rw [if_pos h1]
    dsimp only
    rw [if_pos ⟨rfl, h3, by rw [h2]; exact hx⟩]
  · unfold sv_en
    rw [h2]
    exact h5
noncomputable def fq_v (b t x mx cl y np : Nat) : fC := fun d lv st F M Q z => fc_pop z (fun rest loc c => f_if z (Nat.beq (Nat.succ c) x) (f_pop z rest fun w r => f_pR z w fun ob => f_cell z M ob fun _ _ kd _ _ => f_if z (Nat.beq kd cl) (f_in z Q b y np (some w :: loc) d lv r F M))) t st (List.replicate (Nat.sub mx x) none) 0
theorem sv_sl1_ref (ob : Nat) (as : List sV) : sv_sl1 (.inl (eR ob) :: as) = some (.inl (eR ob)) :: sv_sl1 as := by
  rw [sv_sl1_cons]
  rfl
theorem fq_v_ok {idx b t x y pc : Nat} (hx : x ≤ dt_mx b) : fq_ok (.invokevirtual idx) 0 b t y pc (fq_v b t x (dt_mx b) (dt_pl b).2.2.2.2.2.2.2 y (pc + 3)) := by
  intro d lv st F M Q h
  obtain ⟨h1, h_1⟩ := fc_pop_ok _ _ _ _ h
  obtain ⟨h2, h_2⟩ := f_if_ok h_1
  have h2 := Nat.eq_of_beq_eq_true h2
  rw [Nat.zero_add] at h2
  have h2' : (sv_sl1 (st.take t).reverse).length + 1 = x := h2
  obtain ⟨w, r, hr, h_3⟩ := f_pop_ok h_2
  obtain ⟨ob, rfl, h_4⟩ := f_pR_ok h_3
  obtain ⟨j, kd, len, tr, rfl, hj, hg, h_5⟩ := f_cell_ok h_4
  obtain ⟨h6, h_6⟩ := f_if_ok h_5
  have h6 := Nat.eq_of_beq_eq_true h6
  obtain ⟨h3, h4, h5⟩ := f_in_ok h_6
  refine ⟨.inl (eR (j + 64)) :: (st.take t).reverse, r, ?_, h4, ?_⟩
  · unfold sv_cl2
    rw [if_pos h1]
    dsimp only
    rw [hr]
    dsimp only
    rw [if_pos ⟨rfl, h3, by rw [sv_sl1_ref, List.length_cons, h2']; exact hx, by rw [sv_kd_of hj hg, h6]⟩]
  · unfold sv_en
    rw [sv_sl1_ref, List.length_cons, h2']
    exact h5
noncomputable def fq_i (b t x mx y np : Nat) : fC := fun d lv st F M Q z => fc_pop z (fun rest loc c => f_if z (Nat.beq (Nat.succ c) x) (f_pop z rest fun w r => f_pR z w fun ob => f_if z (Nat.ble 64 ob) (f_in z Q b y np (some w :: loc) d lv r F M))) t st (List.replicate (Nat.sub mx x) none) 0
theorem fq_i_ok {idx b t x y pc : Nat} (hx : x ≤ dt_mx b) : fq_ok (.invokespecial idx) 1 b t y pc (fq_i b t x (dt_mx b) y (pc + 3)) := by
  intro d lv st F M Q h
  obtain ⟨h1, h_1⟩ := fc_pop_ok _ _ _ _ h
  obtain ⟨h2, h_2⟩ := f_if_ok h_1
  have h2 := Nat.eq_of_beq_eq_true h2
  rw [Nat.zero_add] at h2
  have h2' : (sv_sl1 (st.take t).reverse).length + 1 = x := h2
  obtain ⟨w, r, hr, h_3⟩ := f_pop_ok h_2
  obtain ⟨ob, rfl, h_4⟩ := f_pR_ok h_3
  obtain ⟨h6, h_5⟩ := f_if_ok h_4
  have h6 := Nat.ble_eq.mp h6
  obtain ⟨h3, h4, h5⟩ := f_in_ok h_5
  refine ⟨.inl (eR ob) :: (st.take t).reverse, r, ?_, h4, ?_⟩
  · unfold sv_cl2
    rw [if_pos h1]
    dsimp only
    rw [hr]
    dsimp only
    rw [if_pos ⟨rfl, h3, by rw [sv_sl1_ref, List.length_cons, h2']; exact hx, h6⟩]
  · unfold sv_en
    rw [sv_sl1_ref, List.length_cons, h2']
    exact h5
noncomputable def fq_o (y np : Nat) : fC := fun d lv st F M Q z => f_pop z st fun v s => f_pR z v fun r => f_if z (Nat.ble 1 d) (f_if z (Nat.ble 1 r) (f_if z (Nat.ble (fc_s s) 8) (Q d y np lv (s) F M)))
theorem fq_o_ok {idx y np : Nat} {d : Nat} {lv : List (Option sV)} {st : List sV} {F : List sFr} {M : sM} {Q : fK} (h : fq_o y np d lv st F M Q false = true) : ∃ s, sv_o d (.invokespecial idx) 10 st M = some (s, M) ∧ Q d y np lv s F M = true := by
  obtain ⟨v, s, rfl, h_1⟩ := f_pop_ok h
  obtain ⟨r, rfl, h_2⟩ := f_pR_ok h_1
  obtain ⟨h1, h_3⟩ := f_if_ok h_2
  obtain ⟨h2, h_4⟩ := f_if_ok h_3
  obtain ⟨h3, h_5⟩ := f_if_ok h_4
  refine ⟨s, ?_, h_5⟩
  show (if 10 = 10 ∧ 0 < d ∧ 0 < r ∧ (s.map sv_cat).sum ≤ 8 then some (s, M) else none) = _
  rw [if_pos ⟨rfl, Nat.ble_eq.mp h1, Nat.ble_eq.mp h2, by rw [← fc_s_eq]; exact Nat.ble_eq.mp h3⟩]
/-! answers -/
noncomputable def fr_0 : fC := fun d _ st F M Q z => @List.rec sV (fun _ => Bool) (@List.rec sFr (fun _ => Bool) z (fun f fs _ => @Prod.rec Nat (Nat × List (Option sV) × List sV) (fun _ => Bool) (fun y f1 => @Prod.rec Nat (List (Option sV) × List sV) (fun _ => Bool) (fun pc f2 => @Prod.rec (List (Option sV)) (List sV) (fun _ => Bool) (fun lv st' => Q (Nat.succ d) y pc lv st' fs M) f2) f1) f) F) (fun _ _ _ => z) st
noncomputable def fr_1 (q : sV → Bool) : fC := fun d _ st F M Q z => @List.rec sV (fun _ => Bool) z (fun v s _ => @List.rec sV (fun _ => Bool) (f_if z (q v) (@List.rec sFr (fun _ => Bool) z (fun f fs _ => @Prod.rec Nat (Nat × List (Option sV) × List sV) (fun _ => Bool) (fun y f1 => @Prod.rec Nat (List (Option sV) × List sV) (fun _ => Bool) (fun pc f2 => @Prod.rec (List (Option sV)) (List sV) (fun _ => Bool) (fun lv st' => Q (Nat.succ d) y pc lv (v :: st') fs M) f2) f1) f) F)) (fun _ _ _ => z) s) st
def fr_ok (y : Nat) (i : Instr) (f : fC) : Prop := ∀ (B : sB) (d : Nat) (lv : List (Option sV)) (st : List sV) (F : List sFr) (M : sM) (Q : fK), f d lv st F M Q false = true → ∃ r f0 fs, sv_rt B y i st = some r ∧ F = f0 :: fs ∧ Q (d + 1) f0.1 f0.2.1 f0.2.2.1 (r.toList ++ f0.2.2.2) fs M = true
theorem fr_0_ok {y : Nat} (h0 : (dt_pl y).2.1 = 0) : fr_ok y .return_ fr_0 := by
  intro B d lv st F M Q h
  cases st with
  | cons v s => exact f_none h
  | nil =>
    cases F with
    | nil => exact f_none h
    | cons f fs => exact ⟨none, f, fs, by show (if (dt_pl y).2.1 = 0 then some none else none) = _; rw [if_pos h0], rfl, h⟩
theorem fr_1_ok {y : Nat} {i : Instr} {q : sV → Bool} (hq : ∀ (B : sB) (v : sV), q v = true → sv_rt B y i [v] = some (some v)) : fr_ok y i (fr_1 q) := by
  intro B d lv st F M Q h
  cases st with
  | nil => exact f_none h
  | cons v s =>
    cases s with
    | cons w s => exact f_none h
    | nil =>
      obtain ⟨h1, h2⟩ := f_if_ok h
      cases F with
      | nil => exact f_none h2
      | cons f fs => exact ⟨some v, f, fs, hq B v h1, rfl, h2⟩
noncomputable def f_z (v : sV) : Bool := @Sum.rec eV aV (fun _ => Bool) (fun e => @Sum.rec (Int ⊕ Int) ((UInt64 ⊕ UInt32) ⊕ Nat) (fun _ => Bool) (fun x => @Sum.rec Int Int (fun _ => Bool) (fun x => @Int.rec (fun _ => Bool) (fun n => Nat.ble n 1) (fun _ => false) x) (fun _ => false) x) (fun _ => false) e) (fun _ => false) v
theorem f_z_ok {v : sV} (h : f_z v = true) : ∃ n : Nat, v = .inl (eI (Int.ofNat n)) ∧ n ≤ 1 := by
  rcases v with (((n | n) | x) | x) | x
  · exact ⟨n, rfl, Nat.ble_eq.mp h⟩
  · cases h
  · cases h
  · cases h
  · cases h
noncomputable def f_r (v : sV) : Bool := @Sum.rec eV aV (fun _ => Bool) (fun e => @Sum.rec (Int ⊕ Int) ((UInt64 ⊕ UInt32) ⊕ Nat) (fun _ => Bool) (fun _ => false) (fun x => @Sum.rec (UInt64 ⊕ UInt32) Nat (fun _ => Bool) (fun _ => false) (fun _ => true) x) e) (fun _ => false) v
theorem f_r_ok {v : sV} (h : f_r v = true) : ∃ n : Nat, v = .inl (eR n) := by
  rcases v with (x | (x | n)) | x
  · cases h
  · cases h
  · exact ⟨n, rfl⟩
  · cases h
