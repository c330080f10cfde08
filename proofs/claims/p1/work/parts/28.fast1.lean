/-! THE FAST EVALUATOR: steps on numbers that are known, by recursors alone -/
abbrev fT : Type := Option sSt
abbrev fC : Type := Nat → List (Option sV) → List sV → List sFr → sM → fT
noncomputable def f_N (n : Nat) (K : Nat → fT) : fT := @Nat.rec (fun _ => fT) (K 0) (fun m _ => K (Nat.succ m)) n
theorem f_N_eq (n : Nat) (K : Nat → fT) : f_N n K = K n := by cases n <;> rfl
noncomputable def f_I (x : Int) (K : Int → fT) : fT := @Int.rec (fun _ => fT) (fun n => f_N n fun n => K (Int.ofNat n)) (fun n => f_N n fun n => K (Int.negSucc n)) x
theorem f_I_eq (x : Int) (K : Int → fT) : f_I x K = K x := by
  cases x with
  | ofNat n => exact f_N_eq n (fun n => K (Int.ofNat n))
  | negSucc n => exact f_N_eq n (fun n => K (Int.negSucc n))
theorem f_none {S : sSt} {P : Prop} (h : (none : fT) = some S) : P := by cases h
noncomputable def fl_get (n : Nat) : List (Option sV) → (sV → fT) → fT := @Nat.rec (fun _ => List (Option sV) → (sV → fT) → fT) (fun l K => @List.rec (Option sV) (fun _ => fT) none (fun o _ _ => @Option.rec sV (fun _ => fT) none K o) l) (fun _ ih l K => @List.rec (Option sV) (fun _ => fT) none (fun _ t _ => ih t K) l) n
theorem fl_get_ok : ∀ (n : Nat) (l : List (Option sV)) (K : sV → fT) (S : sSt), fl_get n l K = some S → ∃ v, l[n]? = some (some v) ∧ K v = some S := by
  intro n
  induction n with
  | zero =>
    intro l K S h
    cases l with
    | nil => exact f_none h
    | cons o t =>
      cases o with
      | none => exact f_none h
      | some v => exact ⟨v, rfl, h⟩
  | succ n ih =>
    intro l K S h
    cases l with
    | nil => exact f_none h
    | cons o t =>
      obtain ⟨v, h1, h2⟩ := ih t K S h
      exact ⟨v, by rw [List.getElem?_cons_succ]; exact h1, h2⟩
/-- a value of one place -/
noncomputable def f_c1 (v : sV) : Bool := @Sum.rec eV aV (fun _ => Bool) (fun e => @Sum.rec (Int ⊕ Int) ((UInt64 ⊕ UInt32) ⊕ Nat) (fun _ => Bool) (fun x => @Sum.rec Int Int (fun _ => Bool) (fun _ => true) (fun _ => false) x) (fun x => @Sum.rec (UInt64 ⊕ UInt32) Nat (fun _ => Bool) (fun z => @Sum.rec UInt64 UInt32 (fun _ => Bool) (fun _ => false) (fun _ => true) z) (fun _ => true) x) e) (fun a => @Sum.rec (Nat ⊕ Option (Int × Int)) Unit (fun _ => Bool) (fun _ => true) (fun _ => false) a) v
theorem f_c1_ok {v : sV} (h : f_c1 v = true) : sv_cat v = 1 := by
  rcases v with ((x | x) | ((x | x) | x)) | (x | x)
  · rfl
  · cases h
  · cases h
  · rfl
  · rfl
  · rfl
  · cases h
theorem f_c1_no {v : sV} (h : f_c1 v = false) : sv_cat v = 2 := by
  rcases v with ((x | x) | ((x | x) | x)) | (x | x)
  · cases h
  · rfl
  · rfl
  · cases h
  · cases h
  · cases h
  · rfl
noncomputable def fl_st (v : sV) (n : Nat) : Option sV → List (Option sV) → (List (Option sV) → fT) → fT := @Nat.rec (fun _ => Option sV → List (Option sV) → (List (Option sV) → fT) → fT) (fun o l K => @List.rec (Option sV) (fun _ => fT) none (fun _ t _ => @Option.rec sV (fun _ => fT) (K (some v :: t)) (fun w => @Bool.rec (fun _ => fT) none (K (some v :: t)) (f_c1 w)) o) l) (fun _ ih _ l K => @List.rec (Option sV) (fun _ => fT) none (fun o t _ => ih o t fun t' => K (o :: t')) l) n
noncomputable def fl_st2 (v : sV) (n : Nat) : Option sV → List (Option sV) → (List (Option sV) → fT) → fT := @Nat.rec (fun _ => Option sV → List (Option sV) → (List (Option sV) → fT) → fT) (fun o l K => @List.rec (Option sV) (fun _ => fT) none (fun _ t1 _ => @List.rec (Option sV) (fun _ => fT) none (fun _ t _ => @Option.rec sV (fun _ => fT) (K (some v :: none :: t)) (fun w => @Bool.rec (fun _ => fT) none (K (some v :: none :: t)) (f_c1 w)) o) t1) l) (fun _ ih _ l K => @List.rec (Option sV) (fun _ => fT) none (fun o t _ => ih o t fun t' => K (o :: t')) l) n
theorem fl_st_ok {v : sV} : ∀ (n : Nat) (o : Option sV) (l : List (Option sV)) (K : List (Option sV) → fT) (S : sSt), fl_st v n o l K = some S → n < l.length ∧ K (l.set n (some v)) = some S ∧ (n = 0 → ∀ w, o = some w → sv_cat w ≠ 2) ∧ ∀ m, n = m + 1 → ∀ w, l[m]? = some (some w) → sv_cat w ≠ 2 := by
  intro n
  induction n with
  | zero =>
    intro o l K S h
    cases l with
    | nil => exact f_none h
    | cons o' t =>
      cases o with
      | none => exact ⟨Nat.succ_pos _, h, fun _ w hw => (by cases hw), fun m hm => (by cases hm)⟩
      | some w =>
        have h : @Bool.rec (fun _ => fT) none (K (some v :: t)) (f_c1 w) = some S := h
        cases hc : f_c1 w with
        | false => rw [hc] at h; exact f_none h
        | true =>
          rw [hc] at h
          exact ⟨Nat.succ_pos _, h, fun _ u hu => (by cases hu; rw [f_c1_ok hc]; decide), fun m hm => (by cases hm)⟩
  | succ n ih =>
    intro o l K S h
    cases l with
    | nil => exact f_none h
    | cons o' t =>
      obtain ⟨h1, h2, h3, h4⟩ := ih o' t _ S h
      refine ⟨by rw [List.length_cons]; omega, h2, fun q => (by cases q), fun m hm w hw => ?_⟩
      have hm : n = m := by omega
      subst hm
      cases n with
      | zero => exact h3 rfl w (Option.some.inj hw)
      | succ k => exact h4 k rfl w (by rw [List.getElem?_cons_succ] at hw; exact hw)
theorem fl_st2_ok {v : sV} : ∀ (n : Nat) (o : Option sV) (l : List (Option sV)) (K : List (Option sV) → fT) (S : sSt), fl_st2 v n o l K = some S → n + 1 < l.length ∧ K ((l.set n (some v)).set (n + 1) none) = some S ∧ (n = 0 → ∀ w, o = some w → sv_cat w ≠ 2) ∧ ∀ m, n = m + 1 → ∀ w, l[m]? = some (some w) → sv_cat w ≠ 2 := by
  intro n
  induction n with
  | zero =>
    intro o l K S h
    cases l with
    | nil => exact f_none h
    | cons o' t1 =>
      cases t1 with
      | nil => exact f_none h
      | cons o2 t =>
        cases o with
        | none => exact ⟨by simp, h, fun _ w hw => (by cases hw), fun m hm => (by cases hm)⟩
        | some w =>
          have h : @Bool.rec (fun _ => fT) none (K (some v :: none :: t)) (f_c1 w) = some S := h
          cases hc : f_c1 w with
          | false => rw [hc] at h; exact f_none h
          | true =>
            rw [hc] at h
            exact ⟨by simp, h, fun _ u hu => (by cases hu; rw [f_c1_ok hc]; decide), fun m hm => (by cases hm)⟩
  | succ n ih =>
    intro o l K S h
    cases l with
    | nil => exact f_none h
    | cons o' t =>
      obtain ⟨h1, h2, h3, h4⟩ := ih o' t _ S h
      refine ⟨by rw [List.length_cons]; omega, h2, fun q => (by cases q), fun m hm w hw => ?_⟩
      have hm : n = m := by omega
      subst hm
      cases n with
      | zero => exact h3 rfl w (Option.some.inj hw)
      | succ k => exact h4 k rfl w (by rw [List.getElem?_cons_succ] at hw; exact hw)
theorem sv_cl_id {l : List (Option sV)} {n : Nat} (h : ∀ m, n = m + 1 → ∀ w, l[m]? = some (some w) → sv_cat w ≠ 2) : sv_cl l n = l := by
  cases n with
  | zero => rfl
  | succ m =>
    unfold sv_cl
    dsimp only
    split
    · rename_i v hv
      rw [if_neg (h m rfl v hv)]
    · rfl
/-! sorts -/
noncomputable def f_t0 (v : sV) : Bool := @Sum.rec eV aV (fun _ => Bool) (fun e => @Sum.rec (Int ⊕ Int) ((UInt64 ⊕ UInt32) ⊕ Nat) (fun _ => Bool) (fun x => @Sum.rec Int Int (fun _ => Bool) (fun _ => true) (fun _ => false) x) (fun _ => false) e) (fun a => @Sum.rec (Nat ⊕ Option (Int × Int)) Unit (fun _ => Bool) (fun _ => true) (fun _ => false) a) v
noncomputable def f_t1 (v : sV) : Bool := @Sum.rec eV aV (fun _ => Bool) (fun e => @Sum.rec (Int ⊕ Int) ((UInt64 ⊕ UInt32) ⊕ Nat) (fun _ => Bool) (fun x => @Sum.rec Int Int (fun _ => Bool) (fun _ => false) (fun _ => true) x) (fun _ => false) e) (fun a => @Sum.rec (Nat ⊕ Option (Int × Int)) Unit (fun _ => Bool) (fun _ => false) (fun _ => true) a) v
noncomputable def f_t4 (v : sV) : Bool := @Sum.rec eV aV (fun _ => Bool) (fun e => @Sum.rec (Int ⊕ Int) ((UInt64 ⊕ UInt32) ⊕ Nat) (fun _ => Bool) (fun _ => false) (fun x => @Sum.rec (UInt64 ⊕ UInt32) Nat (fun _ => Bool) (fun _ => false) (fun r => Nat.ble 1 r) x) e) (fun _ => false) v
theorem f_t0_ok {v : sV} (h : f_t0 v = true) : sv_ty v = 0 := by
  rcases v with ((x | x) | ((x | x) | x)) | (x | x) <;> first | rfl | cases h
theorem f_t1_ok {v : sV} (h : f_t1 v = true) : sv_ty v = 1 := by
  rcases v with ((x | x) | ((x | x) | x)) | (x | x) <;> first | rfl | cases h
theorem f_t4_ok {v : sV} (h : f_t4 v = true) : sv_ty v = 4 := by
  rcases v with ((x | x) | ((x | x) | x)) | (x | x)
  · cases h
  · cases h
  · cases h
  · cases h
  · have h : Nat.ble 1 x = true := h
    have := Nat.ble_eq.mp h
    show (if x = 0 then 9 else 4) = 4
    rw [if_neg (by omega)]
  · cases h
  · cases h
noncomputable def f_if (b : Bool) (K : fT) : fT := @Bool.rec (fun _ => fT) none K b
theorem f_if_ok {b : Bool} {K : fT} {S : sSt} (h : f_if b K = some S) : b = true ∧ K = some S := by
  cases b with
  | false => exact f_none h
  | true => exact ⟨rfl, h⟩
noncomputable def f_pop (st : List sV) (K : sV → List sV → fT) : fT := @List.rec sV (fun _ => fT) none (fun v s _ => K v s) st
theorem f_pop_ok {st : List sV} {K : sV → List sV → fT} {S : sSt} (h : f_pop st K = some S) : ∃ v s, st = v :: s ∧ K v s = some S := by
  cases st with
  | nil => exact f_none h
  | cons v s => exact ⟨v, s, rfl, h⟩
noncomputable def f_pI (v : sV) (K : Int → fT) : fT := @Sum.rec eV aV (fun _ => fT) (fun e => @Sum.rec (Int ⊕ Int) ((UInt64 ⊕ UInt32) ⊕ Nat) (fun _ => fT) (fun x => @Sum.rec Int Int (fun _ => fT) K (fun _ => none) x) (fun _ => none) e) (fun _ => none) v
theorem f_pI_ok {v : sV} {K : Int → fT} {S : sSt} (h : f_pI v K = some S) : ∃ x, v = .inl (eI x) ∧ K x = some S := by
  rcases v with ((x | x) | x) | x
  · exact ⟨x, rfl, h⟩
  · exact f_none h
  · exact f_none h
  · exact f_none h
noncomputable def f_pJ (v : sV) (K : Int → fT) : fT := @Sum.rec eV aV (fun _ => fT) (fun e => @Sum.rec (Int ⊕ Int) ((UInt64 ⊕ UInt32) ⊕ Nat) (fun _ => fT) (fun x => @Sum.rec Int Int (fun _ => fT) (fun _ => none) K x) (fun _ => none) e) (fun _ => none) v
theorem f_pJ_ok {v : sV} {K : Int → fT} {S : sSt} (h : f_pJ v K = some S) : ∃ x, v = .inl (eJ x) ∧ K x = some S := by
  rcases v with ((x | x) | x) | x
  · exact f_none h
  · exact ⟨x, rfl, h⟩
  · exact f_none h
  · exact f_none h
noncomputable def f_pR (v : sV) (K : Nat → fT) : fT := @Sum.rec eV aV (fun _ => fT) (fun e => @Sum.rec (Int ⊕ Int) ((UInt64 ⊕ UInt32) ⊕ Nat) (fun _ => fT) (fun _ => none) (fun x => @Sum.rec (UInt64 ⊕ UInt32) Nat (fun _ => fT) (fun _ => none) K x) e) (fun _ => none) v
theorem f_pR_ok {v : sV} {K : Nat → fT} {S : sSt} (h : f_pR v K = some S) : ∃ x, v = .inl (eR x) ∧ K x = some S := by
  rcases v with (x | (x | x)) | x
  · exact f_none h
  · exact f_none h
  · exact ⟨x, rfl, h⟩
  · exact f_none h
/-! what a fast step of a plain instruction says -/
def fs_ok (i : Instr) (y np : Nat) (f : fC) : Prop := ∀ (B : sB) (d : Nat) (lv : List (Option sV)) (st : List sV) (F : List sFr) (M : sM) (S : sSt), f d lv st F M = some S → ∃ lv' st', S = (d, (y, np, lv', st'), F, M) ∧ sv_s B i lv st = some (lv', st')
noncomputable def fs_ld (q : sV → Bool) (k y np : Nat) : fC := fun d lv st F M => fl_get k lv fun v => f_if (q v) (some (d, (y, np, lv, v :: st), F, M))
theorem fs_ld_ok {i : Instr} {q : sV → Bool} {t k y np : Nat} (hq : ∀ v, q v = true → sv_ty v = t) (hi : ∀ (B : sB) (lv : List (Option sV)) (st : List sV), sv_s B i lv st = sv_ld t lv k st) : fs_ok i y np (fs_ld q k y np) := by
  intro B d lv st F M S h
  obtain ⟨v, h1, h2⟩ := fl_get_ok _ _ _ _ h
  obtain ⟨h3, h4⟩ := f_if_ok h2
  cases h4
  refine ⟨lv, v :: st, rfl, ?_⟩
  rw [hi]
  unfold sv_ld
  rw [h1]
  dsimp only
  rw [if_pos (hq v h3)]
noncomputable def fs_sr (q : sV → Bool) (k y np : Nat) : fC := fun d lv st F M => f_pop st fun v s => f_if (q v) (fl_st v k none lv fun lv' => some (d, (y, np, lv', s), F, M))
theorem fs_sr_ok {i : Instr} {q : sV → Bool} {t k y np : Nat} (hq : ∀ v, q v = true → sv_ty v = t) (hi : ∀ (B : sB) (lv : List (Option sV)) (st : List sV), sv_s B i lv st = sv_sr t lv k st) : fs_ok i y np (fs_sr q k y np) := by
  intro B d lv st F M S h
  obtain ⟨v, s, rfl, h2⟩ := f_pop_ok h
  obtain ⟨h3, h4⟩ := f_if_ok h2
  obtain ⟨h5, h6, -, h7⟩ := fl_st_ok _ _ _ _ _ h4
  cases h6
  refine ⟨_, s, rfl, ?_⟩
  rw [hi]
  show (if sv_ty v = t ∧ k < lv.length then _ else none) = _
  rw [if_pos ⟨hq v h3, h5⟩, fz_O_eq]
  unfold sv_st1
  rw [sv_cl_id h7]
noncomputable def fs_sr2 (q : sV → Bool) (k y np : Nat) : fC := fun d lv st F M => f_pop st fun v s => f_if (q v) (fl_st2 v k none lv fun lv' => some (d, (y, np, lv', s), F, M))
theorem fs_sr2_ok {i : Instr} {q : sV → Bool} {t k y np : Nat} (hq : ∀ v, q v = true → sv_ty v = t) (hi : ∀ (B : sB) (lv : List (Option sV)) (st : List sV), sv_s B i lv st = sv_sr2 t lv k st) : fs_ok i y np (fs_sr2 q k y np) := by
  intro B d lv st F M S h
  obtain ⟨v, s, rfl, h2⟩ := f_pop_ok h
  obtain ⟨h3, h4⟩ := f_if_ok h2
  obtain ⟨h5, h6, -, h7⟩ := fl_st2_ok _ _ _ _ _ h4
  cases h6
  refine ⟨_, s, rfl, ?_⟩
  rw [hi]
  show (if sv_ty v = t ∧ k + 1 < lv.length then _ else none) = _
  rw [if_pos ⟨hq v h3, h5⟩, fz_O_eq]
  unfold sv_st2
  rw [sv_cl_id h7]
noncomputable def fi_add (x y : Int) (K : Int → fT) : fT := @Int.rec (fun _ => fT) (fun a => @Int.rec (fun _ => fT) (fun b => f_N (Nat.add a b) fun n => K (Int.ofNat n)) (fun _ => f_I (x + y) K) y) (fun _ => f_I (x + y) K) x
theorem fi_add_eq (x y : Int) (K : Int → fT) : fi_add x y K = K (x + y) := by
  rcases x with a | a <;> rcases y with b | b
  · show f_N (Nat.add a b) (fun n => K (Int.ofNat n)) = _
    rw [f_N_eq]
    rfl
  · exact f_I_eq (Int.ofNat a + Int.negSucc b) K
  · exact f_I_eq (Int.negSucc a + Int.ofNat b) K
  · exact f_I_eq (Int.negSucc a + Int.negSucc b) K
noncomputable def fi_sub (x y : Int) (K : Int → fT) : fT := @Int.rec (fun _ => fT) (fun a => @Int.rec (fun _ => fT) (fun b => @Bool.rec (fun _ => fT) (f_N (Nat.sub (Nat.sub b a) 1) fun n => K (Int.negSucc n)) (f_N (Nat.sub a b) fun n => K (Int.ofNat n)) (Nat.ble b a)) (fun _ => f_I (x - y) K) y) (fun _ => f_I (x - y) K) x
theorem fi_sub_eq (x y : Int) (K : Int → fT) : fi_sub x y K = K (x - y) := by
  rcases x with a | a <;> rcases y with b | b
  · show @Bool.rec (fun _ => fT) (f_N (Nat.sub (Nat.sub b a) 1) fun n => K (Int.negSucc n)) (f_N (Nat.sub a b) fun n => K (Int.ofNat n)) (Nat.ble b a) = _
    cases h : Nat.ble b a with
    | true =>
      have := Nat.ble_eq.mp h
      show f_N (Nat.sub a b) (fun n => K (Int.ofNat n)) = _
      rw [f_N_eq]
      congr 1
      show ((a - b : Nat) : Int) = (a : Int) - (b : Int)
      omega
    | false =>
      have : ¬ b ≤ a := fun q => by rw [Nat.ble_eq.mpr q] at h; cases h
      show f_N (Nat.sub (Nat.sub b a) 1) (fun n => K (Int.negSucc n)) = _
      rw [f_N_eq]
      congr 1
      show Int.negSucc (b - a - 1) = (a : Int) - (b : Int)
      rw [Int.negSucc_eq]
      omega
  · exact f_I_eq (Int.ofNat a - Int.negSucc b) K
  · exact f_I_eq (Int.negSucc a - Int.ofNat b) K
  · exact f_I_eq (Int.negSucc a - Int.negSucc b) K
noncomputable def fs_inc (k : Nat) (n : Int) (y np : Nat) : fC := fun d lv st F M => fl_get k lv fun v => f_pI v fun x => fi_add x n fun z => fl_st (.inl (.inl (.inl z))) k none lv fun lv' => some (d, (y, np, lv', st), F, M)
theorem fs_inc_ok {k y np : Nat} {n : Int} : fs_ok (.iinc k n) y np (fs_inc k n y np) := by
  intro B d lv st F M S h
  obtain ⟨v, h1, h2⟩ := fl_get_ok _ _ _ _ h
  obtain ⟨x, rfl, h3⟩ := f_pI_ok h2
  rw [fi_add_eq] at h3
  obtain ⟨h5, h6, -, h7⟩ := fl_st_ok _ _ _ _ _ h3
  cases h6
  refine ⟨_, st, rfl, ?_⟩
  show sv_inc B lv k n st = _
  unfold sv_inc
  rw [h1]
  dsimp only
  rw [fz_I_eq, fz_O_eq]
  unfold sv_st1
  rw [sv_cl_id h7]
/-! those of the stack alone -/
theorem sv_s_ar {B : sB} {i : Instr} {a : Nat} {lv : List (Option sV)} {st : List sV} (ha : sv_ar i = some a) : sv_s B i lv st = (if a ≤ st.length then (match sv_c (st.take a) with
      | some es => (match ev_s i [] es with
        | some z => some (lv, (z.2.map Sum.inl : List sV) ++ st.drop a)
        | none => none)
      | none => (match sv_ab B i st with
        | some s => some (lv, s)
        | none => none)) else none) := by
  cases i <;> first | (cases ha; rfl) | (simp [sv_ar] at ha)
noncomputable def fs_c (v : sV) (y np : Nat) : fC := fun d lv st F M => some (d, (y, np, lv, v :: st), F, M)
theorem fs_c_ok {i : Instr} {e : eV} {y np : Nat} (ha : sv_ar i = some 0) (he : ∃ lv', ev_s i [] [] = some (lv', [e])) : fs_ok i y np (fs_c (.inl e) y np) := by
  intro B d lv st F M S h
  cases h
  refine ⟨lv, _, rfl, ?_⟩
  obtain ⟨lv', he⟩ := he
  rw [sv_s_ar ha, if_pos (Nat.zero_le _)]
  show (match ev_s i [] [] with
        | some z => some (lv, (z.2.map Sum.inl : List sV) ++ st)
        | none => none) = _
  rw [he]
  rfl
noncomputable def fs_III (g : Int → Int → (Int → fT) → fT) (y np : Nat) : fC := fun d lv st F M => f_pop st fun v s => f_pI v fun b => f_pop s fun w r => f_pI w fun a => g a b fun z => some (d, (y, np, lv, .inl (.inl (.inl z)) :: r), F, M)
theorem fs_III_ok {i : Instr} {g : Int → Int → (Int → fT) → fT} {y np : Nat} (ha : sv_ar i = some 2) (hg : ∀ (a b : Int) (K : Int → fT) (S : sSt), g a b K = some S → ∃ z lv', ev_s i [] [eI b, eI a] = some (lv', [eI z]) ∧ K z = some S) : fs_ok i y np (fs_III g y np) := by
  intro B d lv st F M S h
  obtain ⟨v, s, rfl, h_1⟩ := f_pop_ok h
  obtain ⟨b, rfl, h_2⟩ := f_pI_ok h_1
  obtain ⟨w, r, rfl, h_3⟩ := f_pop_ok h_2
  obtain ⟨a, rfl, h_4⟩ := f_pI_ok h_3
  obtain ⟨z, lv', h1, h2⟩ := hg a b _ S h_4
  cases h2
  refine ⟨lv, _, rfl, ?_⟩
  rw [sv_s_ar ha, if_pos (by simp)]
  show (match ev_s i [] [eI b, eI a] with
        | some z => some (lv, (z.2.map Sum.inl : List sV) ++ r)
        | none => none) = _
  rw [h1]
  rfl
noncomputable def fs_JJI (g : Int → Int → (Int → fT) → fT) (y np : Nat) : fC := fun d lv st F M => f_pop st fun v s => f_pJ v fun b => f_pop s fun w r => f_pJ w fun a => g a b fun z => some (d, (y, np, lv, .inl (.inl (.inl z)) :: r), F, M)
theorem fs_JJI_ok {i : Instr} {g : Int → Int → (Int → fT) → fT} {y np : Nat} (ha : sv_ar i = some 2) (hg : ∀ (a b : Int) (K : Int → fT) (S : sSt), g a b K = some S → ∃ z lv', ev_s i [] [eJ b, eJ a] = some (lv', [eI z]) ∧ K z = some S) : fs_ok i y np (fs_JJI g y np) := by
  intro B d lv st F M S h
  obtain ⟨v, s, rfl, h_1⟩ := f_pop_ok h
  obtain ⟨b, rfl, h_2⟩ := f_pJ_ok h_1
  obtain ⟨w, r, rfl, h_3⟩ := f_pop_ok h_2
  obtain ⟨a, rfl, h_4⟩ := f_pJ_ok h_3
  obtain ⟨z, lv', h1, h2⟩ := hg a b _ S h_4
  cases h2
  refine ⟨lv, _, rfl, ?_⟩
  rw [sv_s_ar ha, if_pos (by simp)]
  show (match ev_s i [] [eJ b, eJ a] with
        | some z => some (lv, (z.2.map Sum.inl : List sV) ++ r)
        | none => none) = _
  rw [h1]
  rfl
noncomputable def fs_JJJ (g : Int → Int → (Int → fT) → fT) (y np : Nat) : fC := fun d lv st F M => f_pop st fun v s => f_pJ v fun b => f_pop s fun w r => f_pJ w fun a => g a b fun z => some (d, (y, np, lv, .inl (.inl (.inr z)) :: r), F, M)
theorem fs_JJJ_ok {i : Instr} {g : Int → Int → (Int → fT) → fT} {y np : Nat} (ha : sv_ar i = some 2) (hg : ∀ (a b : Int) (K : Int → fT) (S : sSt), g a b K = some S → ∃ z lv', ev_s i [] [eJ b, eJ a] = some (lv', [eJ z]) ∧ K z = some S) : fs_ok i y np (fs_JJJ g y np) := by
  intro B d lv st F M S h
  obtain ⟨v, s, rfl, h_1⟩ := f_pop_ok h
  obtain ⟨b, rfl, h_2⟩ := f_pJ_ok h_1
  obtain ⟨w, r, rfl, h_3⟩ := f_pop_ok h_2
  obtain ⟨a, rfl, h_4⟩ := f_pJ_ok h_3
  obtain ⟨z, lv', h1, h2⟩ := hg a b _ S h_4
  cases h2
  refine ⟨lv, _, rfl, ?_⟩
  rw [sv_s_ar ha, if_pos (by simp)]
  show (match ev_s i [] [eJ b, eJ a] with
        | some z => some (lv, (z.2.map Sum.inl : List sV) ++ r)
        | none => none) = _
  rw [h1]
  rfl
noncomputable def fs_JIJ (g : Int → Int → (Int → fT) → fT) (y np : Nat) : fC := fun d lv st F M => f_pop st fun v s => f_pI v fun b => f_pop s fun w r => f_pJ w fun a => g a b fun z => some (d, (y, np, lv, .inl (.inl (.inr z)) :: r), F, M)
theorem fs_JIJ_ok {i : Instr} {g : Int → Int → (Int → fT) → fT} {y np : Nat} (ha : sv_ar i = some 2) (hg : ∀ (a b : Int) (K : Int → fT) (S : sSt), g a b K = some S → ∃ z lv', ev_s i [] [eI b, eJ a] = some (lv', [eJ z]) ∧ K z = some S) : fs_ok i y np (fs_JIJ g y np) := by
  intro B d lv st F M S h
  obtain ⟨v, s, rfl, h_1⟩ := f_pop_ok h
  obtain ⟨b, rfl, h_2⟩ := f_pI_ok h_1
  obtain ⟨w, r, rfl, h_3⟩ := f_pop_ok h_2
  obtain ⟨a, rfl, h_4⟩ := f_pJ_ok h_3
  obtain ⟨z, lv', h1, h2⟩ := hg a b _ S h_4
  cases h2
  refine ⟨lv, _, rfl, ?_⟩
  rw [sv_s_ar ha, if_pos (by simp)]
  show (match ev_s i [] [eI b, eJ a] with
        | some z => some (lv, (z.2.map Sum.inl : List sV) ++ r)
        | none => none) = _
  rw [h1]
  rfl
noncomputable def fs_uII (g : Int → (Int → fT) → fT) (y np : Nat) : fC := fun d lv st F M => f_pop st fun v s => f_pI v fun a => g a fun z => some (d, (y, np, lv, .inl (.inl (.inl z)) :: s), F, M)
theorem fs_uII_ok {i : Instr} {g : Int → (Int → fT) → fT} {y np : Nat} (ha : sv_ar i = some 1) (hg : ∀ (a : Int) (K : Int → fT) (S : sSt), g a K = some S → ∃ z lv', ev_s i [] [eI a] = some (lv', [eI z]) ∧ K z = some S) : fs_ok i y np (fs_uII g y np) := by
  intro B d lv st F M S h
  obtain ⟨v, s, rfl, h_1⟩ := f_pop_ok h
  obtain ⟨a, rfl, h_2⟩ := f_pI_ok h_1
  obtain ⟨z, lv', h1, h2⟩ := hg a _ S h_2
  cases h2
  refine ⟨lv, _, rfl, ?_⟩
  rw [sv_s_ar ha, if_pos (by simp)]
  show (match ev_s i [] [eI a] with
        | some z => some (lv, (z.2.map Sum.inl : List sV) ++ s)
        | none => none) = _
  rw [h1]
  rfl
noncomputable def fs_uIJ (g : Int → (Int → fT) → fT) (y np : Nat) : fC := fun d lv st F M => f_pop st fun v s => f_pI v fun a => g a fun z => some (d, (y, np, lv, .inl (.inl (.inr z)) :: s), F, M)
theorem fs_uIJ_ok {i : Instr} {g : Int → (Int → fT) → fT} {y np : Nat} (ha : sv_ar i = some 1) (hg : ∀ (a : Int) (K : Int → fT) (S : sSt), g a K = some S → ∃ z lv', ev_s i [] [eI a] = some (lv', [eJ z]) ∧ K z = some S) : fs_ok i y np (fs_uIJ g y np) := by
  intro B d lv st F M S h
  obtain ⟨v, s, rfl, h_1⟩ := f_pop_ok h
  obtain ⟨a, rfl, h_2⟩ := f_pI_ok h_1
  obtain ⟨z, lv', h1, h2⟩ := hg a _ S h_2
  cases h2
  refine ⟨lv, _, rfl, ?_⟩
  rw [sv_s_ar ha, if_pos (by simp)]
  show (match ev_s i [] [eI a] with
        | some z => some (lv, (z.2.map Sum.inl : List sV) ++ s)
        | none => none) = _
  rw [h1]
  rfl
noncomputable def fs_uJI (g : Int → (Int → fT) → fT) (y np : Nat) : fC := fun d lv st F M => f_pop st fun v s => f_pJ v fun a => g a fun z => some (d, (y, np, lv, .inl (.inl (.inl z)) :: s), F, M)
theorem fs_uJI_ok {i : Instr} {g : Int → (Int → fT) → fT} {y np : Nat} (ha : sv_ar i = some 1) (hg : ∀ (a : Int) (K : Int → fT) (S : sSt), g a K = some S → ∃ z lv', ev_s i [] [eJ a] = some (lv', [eI z]) ∧ K z = some S) : fs_ok i y np (fs_uJI g y np) := by
  intro B d lv st F M S h
  obtain ⟨v, s, rfl, h_1⟩ := f_pop_ok h
  obtain ⟨a, rfl, h_2⟩ := f_pJ_ok h_1
  obtain ⟨z, lv', h1, h2⟩ := hg a _ S h_2
  cases h2
  refine ⟨lv, _, rfl, ?_⟩
  rw [sv_s_ar ha, if_pos (by simp)]
  show (match ev_s i [] [eJ a] with
        | some z => some (lv, (z.2.map Sum.inl : List sV) ++ s)
        | none => none) = _
  rw [h1]
  rfl
noncomputable def fs_dup (y np : Nat) : fC := fun d lv st F M => f_pop st fun v s => @Sum.rec eV aV (fun _ => fT) (fun _ => f_if (f_c1 v) (some (d, (y, np, lv, v :: v :: s), F, M))) (fun _ => none) v
theorem fs_dup_ok {y np : Nat} : fs_ok .dup y np (fs_dup y np) := by
  intro B d lv st F M S h
  obtain ⟨v, s, rfl, h_1⟩ := f_pop_ok h
  rcases v with e | a
  · obtain ⟨h1, h2⟩ := f_if_ok h_1
    cases h2
    refine ⟨lv, _, rfl, ?_⟩
    rw [sv_s_ar (a := 1) rfl, if_pos (by simp)]
    have hc : ev_cat e = 1 := f_c1_ok h1
    show (match (if ev_cat e = 1 then some (([] : List (Option eV)), [e, e]) else none) with
        | some z => some (lv, (z.2.map Sum.inl : List sV) ++ s)
        | none => none) = _
    rw [if_pos hc]
    rfl
  · exact f_none h_1
noncomputable def fs_pop (y np : Nat) : fC := fun d lv st F M => f_pop st fun v s => @Sum.rec eV aV (fun _ => fT) (fun _ => f_if (f_c1 v) (some (d, (y, np, lv, s), F, M))) (fun _ => none) v
theorem fs_pop_ok {y np : Nat} : fs_ok .pop y np (fs_pop y np) := by
  intro B d lv st F M S h
  obtain ⟨v, s, rfl, h_1⟩ := f_pop_ok h
  rcases v with e | a
  · obtain ⟨h1, h2⟩ := f_if_ok h_1
    cases h2
    refine ⟨lv, _, rfl, ?_⟩
    rw [sv_s_ar (a := 1) rfl, if_pos (by simp)]
    have hc : ev_cat e = 1 := f_c1_ok h1
    show (match (if ev_cat e = 1 then some (([] : List (Option eV)), ([] : List eV)) else none) with
        | some z => some (lv, (z.2.map Sum.inl : List sV) ++ s)
        | none => none) = _
    rw [if_pos hc]
    rfl
  · exact f_none h_1
/-! numbers within their range -/
noncomputable def f_w (x : Int) : Bool := @Int.rec (fun _ => Bool) (fun n => Nat.ble n 2147483647) (fun n => Nat.ble n 2147483647) x
theorem f_w_ok {x : Int} (h : f_w x = true) : ev_w x = x := by
  rcases x with n | n
  · have h : Nat.ble n 2147483647 = true := h
    have := Nat.ble_eq.mp h
    exact ev_w_in (by show (-2147483648 : Int) ≤ (n : Int); omega) (by show (n : Int) < 2147483648; omega)
  · have h : Nat.ble n 2147483647 = true := h
    have := Nat.ble_eq.mp h
    rw [Int.negSucc_eq]
    exact ev_w_in (by omega) (by omega)
noncomputable def f_W (x : Int) : Bool := @Int.rec (fun _ => Bool) (fun n => Nat.ble n 9223372036854775807) (fun n => Nat.ble n 9223372036854775807) x
theorem f_W_ok {x : Int} (h : f_W x = true) : ev_W x = x := by
  rcases x with n | n
  · have h : Nat.ble n 9223372036854775807 = true := h
    have := Nat.ble_eq.mp h
    exact ev_W_in (by show (-9223372036854775808 : Int) ≤ (n : Int); omega) (by show (n : Int) < 9223372036854775808; omega)
  · have h : Nat.ble n 9223372036854775807 = true := h
    have := Nat.ble_eq.mp h
    rw [Int.negSucc_eq]
    exact ev_W_in (by omega) (by omega)
/-- less, equal, greater -/
noncomputable def f_cmp {α : Type} (x y : Int) (l e g : α) : α := @Int.rec (fun _ => α) (fun a => @Int.rec (fun _ => α) (fun b => @Bool.rec (fun _ => α) (@Bool.rec (fun _ => α) g e (Nat.beq a b)) l (Nat.ble (Nat.succ a) b)) (fun _ => g) y) (fun a => @Int.rec (fun _ => α) (fun _ => l) (fun b => @Bool.rec (fun _ => α) (@Bool.rec (fun _ => α) g e (Nat.beq a b)) l (Nat.ble (Nat.succ b) a)) y) x
theorem f_cmp_ok {α : Type} (x y : Int) (l e g : α) : (x < y ∧ f_cmp x y l e g = l) ∨ (x = y ∧ f_cmp x y l e g = e) ∨ (y < x ∧ f_cmp x y l e g = g) := by
  rcases x with a | a <;> rcases y with b | b
  · have hf : f_cmp (Int.ofNat a) (Int.ofNat b) l e g = @Bool.rec (fun _ => α) (@Bool.rec (fun _ => α) g e (Nat.beq a b)) l (Nat.ble (Nat.succ a) b) := rfl
    rw [hf]
    cases h : Nat.ble (Nat.succ a) b with
    | true =>
      have := Nat.ble_eq.mp h
      exact Or.inl ⟨by show (a : Int) < (b : Int); omega, rfl⟩
    | false =>
      have h1 : ¬ Nat.succ a ≤ b := fun q => by rw [Nat.ble_eq.mpr q] at h; cases h
      cases h2 : Nat.beq a b with
      | true =>
        have := Nat.eq_of_beq_eq_true h2
        exact Or.inr (Or.inl ⟨by rw [this], rfl⟩)
      | false =>
        have := Nat.ne_of_beq_eq_false h2
        exact Or.inr (Or.inr ⟨by show (b : Int) < (a : Int); omega, rfl⟩)
  · exact Or.inr (Or.inr ⟨by rw [Int.negSucc_eq]; show (-((b : Int) + 1)) < (a : Int); omega, rfl⟩)
  · exact Or.inl ⟨by rw [Int.negSucc_eq]; show (-((a : Int) + 1)) < (b : Int); omega, rfl⟩
  · have hf : f_cmp (Int.negSucc a) (Int.negSucc b) l e g = @Bool.rec (fun _ => α) (@Bool.rec (fun _ => α) g e (Nat.beq a b)) l (Nat.ble (Nat.succ b) a) := rfl
    rw [hf]
    cases h : Nat.ble (Nat.succ b) a with
    | true =>
      have := Nat.ble_eq.mp h
      exact Or.inl ⟨by rw [Int.negSucc_eq, Int.negSucc_eq]; omega, rfl⟩
    | false =>
      have h1 : ¬ Nat.succ b ≤ a := fun q => by rw [Nat.ble_eq.mpr q] at h; cases h
      cases h2 : Nat.beq a b with
      | true =>
        have := Nat.eq_of_beq_eq_true h2
        exact Or.inr (Or.inl ⟨by rw [this], rfl⟩)
      | false =>
        have := Nat.ne_of_beq_eq_false h2
        exact Or.inr (Or.inr ⟨by rw [Int.negSucc_eq, Int.negSucc_eq]; omega, rfl⟩)
/-! branches -/
def fj_ok (i : Instr) (n pc y : Nat) (f : fC) : Prop := ∀ (B : sB) (d : Nat) (lv : List (Option sV)) (st : List sV) (F : List sFr) (M : sM) (S : sSt), f d lv st F M = some S → ∃ np st', S = (d, (y, np, lv, st'), F, M) ∧ sv_j B i n pc st = some [(B, np, st')]
noncomputable def fj_if (t1 t2 t3 y : Nat) : fC := fun d lv st F M => f_pop st fun v s => f_pI v fun x => f_if (f_w x) (some (d, (y, f_cmp x 0 t1 t2 t3, lv, s), F, M))
noncomputable def fj_ic (t1 t2 t3 y : Nat) : fC := fun d lv st F M => f_pop st fun v s => f_pI v fun b => f_if (f_w b) (f_pop s fun w r => f_pI w fun a => f_if (f_w a) (some (d, (y, f_cmp a b t1 t2 t3, lv, r), F, M)))
theorem f_cmp_f (f : Bool × Bool × Bool) (pc : Nat) (off x y : Int) : f_cmp x y (sv_tg pc off f.1) (sv_tg pc off f.2.1) (sv_tg pc off f.2.2) = sv_tg pc off (sv_f f x y) := by
  unfold sv_f
  rcases f_cmp_ok x y (sv_tg pc off f.1) (sv_tg pc off f.2.1) (sv_tg pc off f.2.2) with ⟨h1, h2⟩ | ⟨h1, h2⟩ | ⟨h1, h2⟩
  · rw [h2, if_pos h1]
  · rw [h2, if_neg (by omega), if_pos h1]
  · rw [h2, if_neg (by omega), if_neg (by omega)]
theorem fj_if_ok {c : Jvm.ClassFile.Cond} {off : Int} {n pc y : Nat} (hn : n = 3) (h0 : 0 ≤ (pc : Int) + off) : fj_ok (.ifCond c off) n pc y (fj_if (sv_tg pc off (sv_fl c).1) (sv_tg pc off (sv_fl c).2.1) (sv_tg pc off (sv_fl c).2.2) y) := by
  intro B d lv st F M S h
  obtain ⟨v, s, rfl, h_1⟩ := f_pop_ok h
  obtain ⟨x, rfl, h_2⟩ := f_pI_ok h_1
  obtain ⟨h1, h_3⟩ := f_if_ok h_2
  cases h_3
  refine ⟨_, s, rfl, ?_⟩
  have hj : ev_j (.ifCond c off) n pc [eI x] = some (sv_tg pc off (sv_f (sv_fl c) (ev_w x) 0), []) := by
    show (if n = 3 then ev_if c pc off x [] else none) = _
    rw [if_pos hn, ev_if_f h0]
  show (if 1 ≤ (Sum.inl (eI x) :: s : List sV).length then (match ev_j (.ifCond c off) n pc [eI x] with
      | some z => some [(B, z.1, (z.2.map Sum.inl : List sV) ++ s)]
      | none => none) else none) = _
  rw [if_pos (by simp), hj, f_cmp_f, f_w_ok h1]
  rfl
theorem fj_ic_ok {c : Jvm.ClassFile.Cond} {off : Int} {n pc y : Nat} (hn : n = 3) (h0 : 0 ≤ (pc : Int) + off) : fj_ok (.if_icmp c off) n pc y (fj_ic (sv_tg pc off (sv_fl c).1) (sv_tg pc off (sv_fl c).2.1) (sv_tg pc off (sv_fl c).2.2) y) := by
  intro B d lv st F M S h
  obtain ⟨v, s, rfl, h_1⟩ := f_pop_ok h
  obtain ⟨b, rfl, h_2⟩ := f_pI_ok h_1
  obtain ⟨h1, h_3⟩ := f_if_ok h_2
  obtain ⟨w, r, rfl, h_4⟩ := f_pop_ok h_3
  obtain ⟨a, rfl, h_5⟩ := f_pI_ok h_4
  obtain ⟨h2, h_6⟩ := f_if_ok h_5
  cases h_6
  refine ⟨_, r, rfl, ?_⟩
  have hj : ev_j (.if_icmp c off) n pc [eI b, eI a] = some (sv_tg pc off (sv_f (sv_fl c) (ev_w a) (ev_w b)), []) := by
    show (if n = 3 then ev_ic c pc off a b [] else none) = _
    rw [if_pos hn, ev_ic_f h0]
  show (if 2 ≤ (Sum.inl (eI b) :: Sum.inl (eI a) :: r : List sV).length then (match ev_j (.if_icmp c off) n pc [eI b, eI a] with
      | some z => some [(B, z.1, (z.2.map Sum.inl : List sV) ++ r)]
      | none => none) else none) = _
  rw [if_pos (by simp), hj, f_cmp_f, f_w_ok h1, f_w_ok h2]
  rfl
noncomputable def fj_go (t y : Nat) : fC := fun d lv st F M => some (d, (y, t, lv, st), F, M)
theorem fj_go_ok {off : Int} {n pc y : Nat} (hn : n = 3) (h0 : 0 ≤ (pc : Int) + off) : fj_ok (.goto off) n pc y (fj_go (((pc : Int) + off).toNat) y) := by
  intro B d lv st F M S h
  cases h
  refine ⟨_, st, rfl, ?_⟩
  have hj : ev_j (.goto off) n pc [] = some (((pc : Int) + off).toNat, []) := by
    show (if n = 3 then ev_b pc off True [] else none) = _
    rw [if_pos hn]
    unfold ev_b
    rw [if_pos h0, if_pos True.intro]
  show (if 0 ≤ st.length then (match ev_j (.goto off) n pc [] with
      | some z => some [(B, z.1, (z.2.map Sum.inl : List sV) ++ st)]
      | none => none) else none) = _
  rw [if_pos (Nat.zero_le _), hj]
  rfl
noncomputable def fj_nu (t1 t2 y : Nat) : fC := fun d lv st F M => f_pop st fun v s => f_pR v fun r => some (d, (y, @Nat.rec (fun _ => Nat) t1 (fun _ _ => t2) r, lv, s), F, M)
theorem fj_nn_ok {off : Int} {n pc y : Nat} (hn : n = 3) (h0 : 0 ≤ (pc : Int) + off) : fj_ok (.ifnonnull off) n pc y (fj_nu (pc + 3) (((pc : Int) + off).toNat) y) := by
  intro B d lv st F M S h
  obtain ⟨v, s, rfl, h_1⟩ := f_pop_ok h
  obtain ⟨r, rfl, h_2⟩ := f_pR_ok h_1
  cases h_2
  refine ⟨_, s, rfl, ?_⟩
  show (if 1 ≤ (Sum.inl (eR r) :: s : List sV).length then (match (if n = 3 then ev_b pc off (¬ r = 0) [] else none) with
      | some z => some [(B, z.1, (z.2.map Sum.inl : List sV) ++ s)]
      | none => none) else none) = _
  rw [if_pos (by simp), if_pos hn]
  unfold ev_b
  rw [if_pos h0]
  cases r with
  | zero => rw [if_neg (by simp)]; rfl
  | succ r => rw [if_pos (by simp)]; rfl
theorem fj_nl_ok {off : Int} {n pc y : Nat} (hn : n = 3) (h0 : 0 ≤ (pc : Int) + off) : fj_ok (.ifnull off) n pc y (fj_nu (((pc : Int) + off).toNat) (pc + 3) y) := by
  intro B d lv st F M S h
  obtain ⟨v, s, rfl, h_1⟩ := f_pop_ok h
  obtain ⟨r, rfl, h_2⟩ := f_pR_ok h_1
  cases h_2
  refine ⟨_, s, rfl, ?_⟩
  show (if 1 ≤ (Sum.inl (eR r) :: s : List sV).length then (match (if n = 3 then ev_b pc off (r = 0) [] else none) with
      | some z => some [(B, z.1, (z.2.map Sum.inl : List sV) ++ s)]
      | none => none) else none) = _
  rw [if_pos (by simp), if_pos hn]
  unfold ev_b
  rw [if_pos h0]
  cases r with
  | zero => rw [if_pos rfl]; rfl
  | succ r => rw [if_neg (by simp)]; rfl
