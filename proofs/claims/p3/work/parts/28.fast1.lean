/-! THE FAST EVALUATOR: steps on numbers that are known, by recursors alone; what comes next is handed on, z stands where there is no such step -/
abbrev fK : Type := Nat → Nat → Nat → List (Option sV) → List sV → List sFr → sM → Bool
abbrev fC : Type := Nat → List (Option sV) → List sV → List sFr → sM → fK → Bool → Bool
noncomputable def f_N (n : Nat) (K : Nat → Bool) : Bool := @Nat.rec (fun _ => Bool) (K 0) (fun m _ => K (Nat.succ m)) n
theorem f_N_eq (n : Nat) (K : Nat → Bool) : f_N n K = K n := by cases n <;> rfl
noncomputable def f_I (x : Int) (K : Int → Bool) : Bool := @Int.rec (fun _ => Bool) (fun n => @Nat.rec (fun _ => Bool) (K (Int.ofNat 0)) (fun m _ => K (Int.ofNat (Nat.succ m))) n) (fun n => @Nat.rec (fun _ => Bool) (K (Int.negSucc 0)) (fun m _ => K (Int.negSucc (Nat.succ m))) n) x
theorem f_I_eq (x : Int) (K : Int → Bool) : f_I x K = K x := by
  cases x with
  | ofNat n => cases n <;> rfl
  | negSucc n => cases n <;> rfl
theorem f_none {P : Prop} (h : false = true) : P := by cases h
noncomputable def fl_get (z : Bool) (K : sV → Bool) (n : Nat) : List (Option sV) → Bool := @Nat.rec (fun _ => List (Option sV) → Bool) (fun l => @List.rec (Option sV) (fun _ => Bool) z (fun o _ _ => @Option.rec sV (fun _ => Bool) z K o) l) (fun _ ih l => @List.rec (Option sV) (fun _ => Bool) z (fun _ t _ => ih t) l) n
theorem fl_get_ok {K : sV → Bool} : ∀ (n : Nat) (l : List (Option sV)), fl_get false K n l = true → ∃ v, l[n]? = some (some v) ∧ K v = true := by
  intro n
  induction n with
  | zero =>
    intro l h
    cases l with
    | nil => exact f_none h
    | cons o t =>
      cases o with
      | none => exact f_none h
      | some v => exact ⟨v, rfl, h⟩
  | succ n ih =>
    intro l h
    cases l with
    | nil => exact f_none h
    | cons o t =>
      obtain ⟨v, h1, h2⟩ := ih t h
      exact ⟨v, by rw [List.getElem?_cons_succ]; exact h1, h2⟩
/-- a value of one place -/
noncomputable def f_c1 (v : sV) : Bool := @Sum.rec eV aV (fun _ => Bool) (fun e => @Sum.rec (Int ⊕ Int) ((UInt64 ⊕ UInt32) ⊕ Nat) (fun _ => Bool) (fun x => @Sum.rec Int Int (fun _ => Bool) (fun _ => true) (fun _ => false) x) (fun x => @Sum.rec (UInt64 ⊕ UInt32) Nat (fun _ => Bool) (fun z => @Sum.rec UInt64 UInt32 (fun _ => Bool) (fun _ => false) (fun _ => true) z) (fun _ => true) x) e) (fun a => @Sum.rec (Nat ⊕ Option (Int × Int)) Unit (fun _ => Bool) (fun _ => true) (fun _ => false) a) v
theorem f_c1_ok {v : sV} (h : f_c1 v = true) : sv_cat v = 1 := by
  rcases v with ((x | x) | ((x | x) | x)) | (x | x)
  · rfl
  · cases h
  · cases h
  · rfl
  · rfl
  · rfl
  · cases h
theorem f_c1_no {v : sV} (h : f_c1 v = false) : sv_cat v = 2 := by
  rcases v with ((x | x) | ((x | x) | x)) | (x | x)
  · cases h
  · rfl
  · rfl
  · cases h
  · cases h
  · cases h
  · rfl
noncomputable def fl_st (z : Bool) (v : sV) (n : Nat) : Option sV → List (Option sV) → (List (Option sV) → Bool) → Bool := @Nat.rec (fun _ => Option sV → List (Option sV) → (List (Option sV) → Bool) → Bool) (fun o l K => @List.rec (Option sV) (fun _ => Bool) z (fun _ t _ => @Option.rec sV (fun _ => Bool) (K (some v :: t)) (fun w => @Bool.rec (fun _ => Bool) z (K (some v :: t)) (f_c1 w)) o) l) (fun _ ih _ l K => @List.rec (Option sV) (fun _ => Bool) z (fun o t _ => ih o t fun t' => K (o :: t')) l) n
noncomputable def fl_st2 (z : Bool) (v : sV) (n : Nat) : Option sV → List (Option sV) → (List (Option sV) → Bool) → Bool := @Nat.rec (fun _ => Option sV → List (Option sV) → (List (Option sV) → Bool) → Bool) (fun o l K => @List.rec (Option sV) (fun _ => Bool) z (fun _ t1 _ => @List.rec (Option sV) (fun _ => Bool) z (fun _ t _ => @Option.rec sV (fun _ => Bool) (K (some v :: none :: t)) (fun w => @Bool.rec (fun _ => Bool) z (K (some v :: none :: t)) (f_c1 w)) o) t1) l) (fun _ ih _ l K => @List.rec (Option sV) (fun _ => Bool) z (fun o t _ => ih o t fun t' => K (o :: t')) l) n
theorem fl_st_ok {v : sV} : ∀ (n : Nat) (o : Option sV) (l : List (Option sV)) (K : List (Option sV) → Bool), fl_st false v n o l K = true → n < l.length ∧ K (l.set n (some v)) = true ∧ (n = 0 → ∀ w, o = some w → sv_cat w ≠ 2) ∧ ∀ m, n = m + 1 → ∀ w, l[m]? = some (some w) → sv_cat w ≠ 2 := by
  intro n
  induction n with
  | zero =>
    intro o l K h
    cases l with
    | nil => exact f_none h
    | cons o' t =>
      cases o with
      | none => exact ⟨by simp, h, fun _ w hw => (by cases hw), fun m hm => (by cases hm)⟩
      | some w =>
        have h : @Bool.rec (fun _ => Bool) false (K (some v :: t)) (f_c1 w) = true := h
        cases hc : f_c1 w with
        | false => rw [hc] at h; exact f_none h
        | true =>
          rw [hc] at h
          exact ⟨by simp, h, fun _ u hu => (by cases hu; rw [f_c1_ok hc]; decide), fun m hm => (by cases hm)⟩
  | succ n ih =>
    intro o l K h
    cases l with
    | nil => exact f_none h
    | cons o' t =>
      obtain ⟨h1, h2, h3, h4⟩ := ih o' t _ h
      refine ⟨by rw [List.length_cons]; omega, h2, fun q => (by cases q), fun m hm w hw => ?_⟩
      have hm : n = m := by omega
      subst hm
      cases n with
      | zero => exact h3 rfl w (Option.some.inj hw)
      | succ k => exact h4 k rfl w (by rw [List.getElem?_cons_succ] at hw; exact hw)
theorem fl_st2_ok {v : sV} : ∀ (n : Nat) (o : Option sV) (l : List (Option sV)) (K : List (Option sV) → Bool), fl_st2 false v n o l K = true → n + 1 < l.length ∧ K ((l.set n (some v)).set (n + 1) none) = true ∧ (n = 0 → ∀ w, o = some w → sv_cat w ≠ 2) ∧ ∀ m, n = m + 1 → ∀ w, l[m]? = some (some w) → sv_cat w ≠ 2 := by
  intro n
  induction n with
  | zero =>
    intro o l K h
    cases l with
    | nil => exact f_none h
    | cons o' t1 =>
      cases t1 with
      | nil => exact f_none h
      | cons o2 t =>
        cases o with
        | none => exact ⟨by simp, h, fun _ w hw => (by cases hw), fun m hm => (by cases hm)⟩
        | some w =>
          have h : @Bool.rec (fun _ => Bool) false (K (some v :: none :: t)) (f_c1 w) = true := h
          cases hc : f_c1 w with
          | false => rw [hc] at h; exact f_none h
          | true =>
            rw [hc] at h
            exact ⟨by simp, h, fun _ u hu => (by cases hu; rw [f_c1_ok hc]; decide), fun m hm => (by cases hm)⟩
  | succ n ih =>
    intro o l K h
    cases l with
    | nil => exact f_none h
    | cons o' t =>
      obtain ⟨h1, h2, h3, h4⟩ := ih o' t _ h
      refine ⟨by rw [List.length_cons]; omega, h2, fun q => (by cases q), fun m hm w hw => ?_⟩
      have hm : n = m := by omega
      subst hm
      cases n with
      | zero => exact h3 rfl w (Option.some.inj hw)
      | succ k => exact h4 k rfl w (by rw [List.getElem?_cons_succ] at hw; exact hw)
theorem sv_cl_id {l : List (Option sV)} {n : Nat} (h : ∀ m, n = m + 1 → ∀ w, l[m]? = some (some w) → sv_cat w ≠ 2) : sv_cl l n = l := by
  cases n with
  | zero => rfl
  | succ m =>
    unfold sv_cl
    dsimp only
    split
    · rename_i v hv
      rw [if_neg (h m rfl v hv)]
    · rfl
/-! sorts -/
noncomputable def f_t0 (v : sV) : Bool := @Sum.rec eV aV (fun _ => Bool) (fun e => @Sum.rec (Int ⊕ Int) ((UInt64 ⊕ UInt32) ⊕ Nat) (fun _ => Bool) (fun x => @Sum.rec Int Int (fun _ => Bool) (fun _ => true) (fun _ => false) x) (fun _ => false) e) (fun a => @Sum.rec (Nat ⊕ Option (Int × Int)) Unit (fun _ => Bool) (fun _ => true) (fun _ => false) a) v
noncomputable def f_t1 (v : sV) : Bool := @Sum.rec eV aV (fun _ => Bool) (fun e => @Sum.rec (Int ⊕ Int) ((UInt64 ⊕ UInt32) ⊕ Nat) (fun _ => Bool) (fun x => @Sum.rec Int Int (fun _ => Bool) (fun _ => false) (fun _ => true) x) (fun _ => false) e) (fun a => @Sum.rec (Nat ⊕ Option (Int × Int)) Unit (fun _ => Bool) (fun _ => false) (fun _ => true) a) v
noncomputable def f_t4 (v : sV) : Bool := @Sum.rec eV aV (fun _ => Bool) (fun e => @Sum.rec (Int ⊕ Int) ((UInt64 ⊕ UInt32) ⊕ Nat) (fun _ => Bool) (fun _ => false) (fun x => @Sum.rec (UInt64 ⊕ UInt32) Nat (fun _ => Bool) (fun _ => false) (fun r => Nat.ble 1 r) x) e) (fun _ => false) v
theorem f_t0_ok {v : sV} (h : f_t0 v = true) : sv_ty v = 0 := by
  rcases v with ((x | x) | ((x | x) | x)) | (x | x) <;> first | rfl | cases h
theorem f_t1_ok {v : sV} (h : f_t1 v = true) : sv_ty v = 1 := by
  rcases v with ((x | x) | ((x | x) | x)) | (x | x) <;> first | rfl | cases h
theorem f_t4_ok {v : sV} (h : f_t4 v = true) : sv_ty v = 4 := by
  rcases v with ((x | x) | ((x | x) | x)) | (x | x)
  · cases h
  · cases h
  · cases h
  · cases h
  · have h : Nat.ble 1 x = true := h
    have := Nat.ble_eq.mp h
    show (if x = 0 then 9 else 4) = 4
    rw [if_neg (by omega)]
  · cases h
  · cases h
noncomputable def f_if (z b K : Bool) : Bool := @Bool.rec (fun _ => Bool) z K b
theorem f_if_ok {b K : Bool} (h : f_if false b K = true) : b = true ∧ K = true := by
  cases b with
  | false => exact f_none h
  | true => exact ⟨rfl, h⟩
noncomputable def f_pop (z : Bool) (st : List sV) (K : sV → List sV → Bool) : Bool := @List.rec sV (fun _ => Bool) z (fun v s _ => K v s) st
theorem f_pop_ok {st : List sV} {K : sV → List sV → Bool} (h : f_pop false st K = true) : ∃ v s, st = v :: s ∧ K v s = true := by
  cases st with
  | nil => exact f_none h
  | cons v s => exact ⟨v, s, rfl, h⟩
noncomputable def f_pI (z : Bool) (v : sV) (K : Int → Bool) : Bool := @Sum.rec eV aV (fun _ => Bool) (@Sum.rec (Int ⊕ Int) ((UInt64 ⊕ UInt32) ⊕ Nat) (fun _ => Bool) (@Sum.rec Int Int (fun _ => Bool) K (fun _ => z)) (fun _ => z)) (fun _ => z) v
theorem f_pI_ok {v : sV} {K : Int → Bool} (h : f_pI false v K = true) : ∃ x, v = .inl (eI x) ∧ K x = true := by
  rcases v with ((x | x) | x) | x
  · exact ⟨x, rfl, h⟩
  · exact f_none h
  · exact f_none h
  · exact f_none h
noncomputable def f_pJ (z : Bool) (v : sV) (K : Int → Bool) : Bool := @Sum.rec eV aV (fun _ => Bool) (@Sum.rec (Int ⊕ Int) ((UInt64 ⊕ UInt32) ⊕ Nat) (fun _ => Bool) (@Sum.rec Int Int (fun _ => Bool) (fun _ => z) K) (fun _ => z)) (fun _ => z) v
theorem f_pJ_ok {v : sV} {K : Int → Bool} (h : f_pJ false v K = true) : ∃ x, v = .inl (eJ x) ∧ K x = true := by
  rcases v with ((x | x) | x) | x
  · exact f_none h
  · exact ⟨x, rfl, h⟩
  · exact f_none h
  · exact f_none h
noncomputable def f_pR (z : Bool) (v : sV) (K : Nat → Bool) : Bool := @Sum.rec eV aV (fun _ => Bool) (@Sum.rec (Int ⊕ Int) ((UInt64 ⊕ UInt32) ⊕ Nat) (fun _ => Bool) (fun _ => z) (@Sum.rec (UInt64 ⊕ UInt32) Nat (fun _ => Bool) (fun _ => z) K)) (fun _ => z) v
theorem f_pR_ok {v : sV} {K : Nat → Bool} (h : f_pR false v K = true) : ∃ x, v = .inl (eR x) ∧ K x = true := by
  rcases v with (x | (x | x)) | x
  · exact f_none h
  · exact f_none h
  · exact ⟨x, rfl, h⟩
  · exact f_none h
/-! what a fast step of a plain instruction says -/
def fs_ok (i : Instr) (y np : Nat) (f : fC) : Prop := ∀ (B : sB) (d : Nat) (lv : List (Option sV)) (st : List sV) (F : List sFr) (M : sM) (Q : fK), f d lv st F M Q false = true → ∃ lv' st', sv_s B i lv st = some (lv', st') ∧ Q d y np lv' st' F M = true
noncomputable def fs_ld (q : sV → Bool) (k y np : Nat) : fC := fun d lv st F M Q z => fl_get z (fun v => f_if z (q v) (Q d y np lv (v :: st) F M)) k lv
theorem fs_ld_ok {i : Instr} {q : sV → Bool} {t k y np : Nat} (hq : ∀ v, q v = true → sv_ty v = t) (hi : ∀ (B : sB) (lv : List (Option sV)) (st : List sV), sv_s B i lv st = sv_ld t lv k st) : fs_ok i y np (fs_ld q k y np) := by
  intro B d lv st F M Q h
  obtain ⟨v, h1, h2⟩ := fl_get_ok _ _ h
  obtain ⟨h3, h4⟩ := f_if_ok h2
  refine ⟨lv, v :: st, ?_, h4⟩
  rw [hi]
  unfold sv_ld
  rw [h1]
  dsimp only
  rw [if_pos (hq v h3)]
noncomputable def fs_sr (q : sV → Bool) (k y np : Nat) : fC := fun d lv st F M Q z => f_pop z st fun v s => f_if z (q v) (fl_st z v k none lv fun lv' => Q d y (np) lv' (s) F M)
theorem fs_sr_ok {i : Instr} {q : sV → Bool} {t k y np : Nat} (hq : ∀ v, q v = true → sv_ty v = t) (hi : ∀ (B : sB) (lv : List (Option sV)) (st : List sV), sv_s B i lv st = sv_sr t lv k st) : fs_ok i y np (fs_sr q k y np) := by
  intro B d lv st F M Q h
  obtain ⟨v, s, rfl, h2⟩ := f_pop_ok h
  obtain ⟨h3, h4⟩ := f_if_ok h2
  obtain ⟨h5, h6, -, h7⟩ := fl_st_ok _ _ _ _ h4
  refine ⟨_, s, ?_, h6⟩
  rw [hi]
  show (if sv_ty v = t ∧ k < lv.length then _ else none) = _
  rw [if_pos ⟨hq v h3, h5⟩, fz_O_eq]
  unfold sv_st1
  rw [sv_cl_id h7]
noncomputable def fs_sr2 (q : sV → Bool) (k y np : Nat) : fC := fun d lv st F M Q z => f_pop z st fun v s => f_if z (q v) (fl_st2 z v k none lv fun lv' => Q d y (np) lv' (s) F M)
theorem fs_sr2_ok {i : Instr} {q : sV → Bool} {t k y np : Nat} (hq : ∀ v, q v = true → sv_ty v = t) (hi : ∀ (B : sB) (lv : List (Option sV)) (st : List sV), sv_s B i lv st = sv_sr2 t lv k st) : fs_ok i y np (fs_sr2 q k y np) := by
  intro B d lv st F M Q h
  obtain ⟨v, s, rfl, h2⟩ := f_pop_ok h
  obtain ⟨h3, h4⟩ := f_if_ok h2
  obtain ⟨h5, h6, -, h7⟩ := fl_st2_ok _ _ _ _ h4
  refine ⟨_, s, ?_, h6⟩
  rw [hi]
  show (if sv_ty v = t ∧ k + 1 < lv.length then _ else none) = _
  rw [if_pos ⟨hq v h3, h5⟩, fz_O_eq]
  unfold sv_st2
  rw [sv_cl_id h7]
noncomputable def fi_add (x y : Int) (K : Int → Bool) : Bool := @Int.rec (fun _ => Bool) (fun a => @Int.rec (fun _ => Bool) (fun b => f_N (Nat.add a b) fun n => K (Int.ofNat n)) (fun _ => f_I (x + y) K) y) (fun _ => f_I (x + y) K) x
theorem fi_add_eq (x y : Int) (K : Int → Bool) : fi_add x y K = K (x + y) := by
  rcases x with a | a <;> rcases y with b | b
  · show f_N (Nat.add a b) (fun n => K (Int.ofNat n)) = _
    rw [f_N_eq]
    rfl
  · exact f_I_eq (Int.ofNat a + Int.negSucc b) K
  · exact f_I_eq (Int.negSucc a + Int.ofNat b) K
  · exact f_I_eq (Int.negSucc a + Int.negSucc b) K
noncomputable def fi_sub (x y : Int) (K : Int → Bool) : Bool := @Int.rec (fun _ => Bool) (fun a => @Int.rec (fun _ => Bool) (fun b => @Bool.rec (fun _ => Bool) (f_N (Nat.sub (Nat.sub b a) 1) fun n => K (Int.negSucc n)) (f_N (Nat.sub a b) fun n => K (Int.ofNat n)) (Nat.ble b a)) (fun _ => f_I (x - y) K) y) (fun _ => f_I (x - y) K) x
theorem fi_sub_eq (x y : Int) (K : Int → Bool) : fi_sub x y K = K (x - y) := by
  rcases x with a | a <;> rcases y with b | b
  · show @Bool.rec (fun _ => Bool) (f_N (Nat.sub (Nat.sub b a) 1) fun n => K (Int.negSucc n)) (f_N (Nat.sub a b) fun n => K (Int.ofNat n)) (Nat.ble b a) = _
    cases h : Nat.ble b a with
    | true =>
      have := Nat.ble_eq.mp h
      show f_N (Nat.sub a b) (fun n => K (Int.ofNat n)) = _
      rw [f_N_eq]
      congr 1
      show ((a - b : Nat) : Int) = (a : Int) - (b : Int)
      omega
    | false =>
      have : ¬ b ≤ a := fun q => by rw [Nat.ble_eq.mpr q] at h; cases h
      show f_N (Nat.sub (Nat.sub b a) 1) (fun n => K (Int.negSucc n)) = _
      rw [f_N_eq]
      congr 1
      show Int.negSucc (b - a - 1) = (a : Int) - (b : Int)
      rw [Int.negSucc_eq]
      omega
  · exact f_I_eq (Int.ofNat a - Int.negSucc b) K
  · exact f_I_eq (Int.negSucc a - Int.ofNat b) K
  · exact f_I_eq (Int.negSucc a - Int.negSucc b) K
/-! numbers within their range -/
noncomputable def f_w (x : Int) : Bool := @Int.rec (fun _ => Bool) (fun n => Nat.ble n 2147483647) (fun n => Nat.ble n 2147483647) x
theorem f_w_ok {x : Int} (h : f_w x = true) : ev_w x = x := by
  rcases x with n | n
  · have h : Nat.ble n 2147483647 = true := h
    have := Nat.ble_eq.mp h
    exact ev_w_in (by show (-2147483648 : Int) ≤ (n : Int); omega) (by show (n : Int) < 2147483648; omega)
  · have h : Nat.ble n 2147483647 = true := h
    have := Nat.ble_eq.mp h
    rw [Int.negSucc_eq]
    exact ev_w_in (by omega) (by omega)
noncomputable def f_W (x : Int) : Bool := @Int.rec (fun _ => Bool) (fun n => Nat.ble n 9223372036854775807) (fun n => Nat.ble n 9223372036854775807) x
theorem f_W_ok {x : Int} (h : f_W x = true) : ev_W x = x := by
  rcases x with n | n
  · have h : Nat.ble n 9223372036854775807 = true := h
    have := Nat.ble_eq.mp h
    exact ev_W_in (by show (-9223372036854775808 : Int) ≤ (n : Int); omega) (by show (n : Int) < 9223372036854775808; omega)
  · have h : Nat.ble n 9223372036854775807 = true := h
    have := Nat.ble_eq.mp h
    rw [Int.negSucc_eq]
    exact ev_W_in (by omega) (by omega)
/-- an int, a long brought into its range -/
noncomputable def f_wz (x : Int) (K : Int → Bool) : Bool := @Bool.rec (fun _ => Bool) (f_I (ev_w x) K) (K x) (f_w x)
theorem f_wz_eq (x : Int) (K : Int → Bool) : f_wz x K = K (ev_w x) := by
  unfold f_wz
  cases h : f_w x with
  | false => exact f_I_eq _ _
  | true => rw [f_w_ok h]
noncomputable def f_Wz (x : Int) (K : Int → Bool) : Bool := @Bool.rec (fun _ => Bool) (f_I (ev_W x) K) (K x) (f_W x)
theorem f_Wz_eq (x : Int) (K : Int → Bool) : f_Wz x K = K (ev_W x) := by
  unfold f_Wz
  cases h : f_W x with
  | false => exact f_I_eq _ _
  | true => rw [f_W_ok h]
noncomputable def fs_inc (k : Nat) (n : Int) (y np : Nat) : fC := fun d lv st F M Q z => fl_get z (fun v => f_pI z v fun x => fi_add x n fun u9 => f_wz u9 fun u => fl_st z (.inl (.inl (.inl u))) k none lv fun lv' => Q d y np lv' st F M) k lv
theorem fs_inc_ok {k y np : Nat} {n : Int} : fs_ok (.iinc k n) y np (fs_inc k n y np) := by
  intro B d lv st F M Q h
  obtain ⟨v, h1, h2⟩ := fl_get_ok _ _ h
  obtain ⟨x, rfl, h3⟩ := f_pI_ok h2
  rw [fi_add_eq] at h3
  rw [f_wz_eq] at h3
  obtain ⟨h5, h6, -, h7⟩ := fl_st_ok _ _ _ _ h3
  refine ⟨_, st, ?_, h6⟩
  show sv_inc B lv k n st = _
  unfold sv_inc
  rw [h1]
  dsimp only
  rw [fz_I_eq, fz_O_eq]
  unfold sv_st1
  rw [sv_cl_id h7]
/-! those of the stack alone -/
theorem sv_s_ar {B : sB} {i : Instr} {a : Nat} {lv : List (Option sV)} {st : List sV} (ha : sv_ar i = some a) : sv_s B i lv st = (if a ≤ st.length then (match sv_c (st.take a) with
      | some es => (match ev_s i [] es with
        | some z => some (lv, (z.2.map Sum.inl : List sV) ++ st.drop a)
        | none => none)
      | none => (match sv_ab B i st with
        | some s => some (lv, s)
        | none => none)) else none) := by
  cases i <;> first | (cases ha; rfl) | (simp [sv_ar] at ha)
noncomputable def fs_c (v : sV) (y np : Nat) : fC := fun d lv st F M Q z => Q d y (np) lv (v :: st) F M
theorem fs_c_ok {i : Instr} {e : eV} {y np : Nat} (ha : sv_ar i = some 0) (he : ∃ lv', ev_s i [] [] = some (lv', [e])) : fs_ok i y np (fs_c (.inl e) y np) := by
  intro B d lv st F M Q h
  refine ⟨lv, _, ?_, h⟩
  obtain ⟨lv', he⟩ := he
  rw [sv_s_ar ha, if_pos (Nat.zero_le _)]
  show (match ev_s i [] [] with
        | some z => some (lv, (z.2.map Sum.inl : List sV) ++ st)
        | none => none) = _
  rw [he]
  rfl
noncomputable def fs_III (g : Int → Int → (Int → Bool) → Bool) (y np : Nat) : fC := fun d lv st F M Q z => f_pop z st fun v s => f_pI z v fun b => f_pop z s fun w r => f_pI z w fun a => g a b fun u => Q d y np lv (.inl (.inl (.inl u)) :: r) F M
theorem fs_III_ok {i : Instr} {g : Int → Int → (Int → Bool) → Bool} {y np : Nat} (ha : sv_ar i = some 2) (hg : ∀ (a b : Int) (K : Int → Bool), g a b K = true → ∃ z lv', ev_s i [] [eI b, eI a] = some (lv', [eI z]) ∧ K z = true) : fs_ok i y np (fs_III g y np) := by
  intro B d lv st F M Q h
  obtain ⟨v, s, rfl, h_1⟩ := f_pop_ok h
  obtain ⟨b, rfl, h_2⟩ := f_pI_ok h_1
  obtain ⟨w, r, rfl, h_3⟩ := f_pop_ok h_2
  obtain ⟨a, rfl, h_4⟩ := f_pI_ok h_3
  obtain ⟨z, lv', h1, h2⟩ := hg a b _ h_4
  refine ⟨lv, _, ?_, h2⟩
  rw [sv_s_ar ha, if_pos (by simp)]
  show (match ev_s i [] [eI b, eI a] with
        | some z => some (lv, (z.2.map Sum.inl : List sV) ++ r)
        | none => none) = _
  rw [h1]
  rfl
noncomputable def fs_JJI (g : Int → Int → (Int → Bool) → Bool) (y np : Nat) : fC := fun d lv st F M Q z => f_pop z st fun v s => f_pJ z v fun b => f_pop z s fun w r => f_pJ z w fun a => g a b fun u => Q d y np lv (.inl (.inl (.inl u)) :: r) F M
theorem fs_JJI_ok {i : Instr} {g : Int → Int → (Int → Bool) → Bool} {y np : Nat} (ha : sv_ar i = some 2) (hg : ∀ (a b : Int) (K : Int → Bool), g a b K = true → ∃ z lv', ev_s i [] [eJ b, eJ a] = some (lv', [eI z]) ∧ K z = true) : fs_ok i y np (fs_JJI g y np) := by
  intro B d lv st F M Q h
  obtain ⟨v, s, rfl, h_1⟩ := f_pop_ok h
  obtain ⟨b, rfl, h_2⟩ := f_pJ_ok h_1
  obtain ⟨w, r, rfl, h_3⟩ := f_pop_ok h_2
  obtain ⟨a, rfl, h_4⟩ := f_pJ_ok h_3
  obtain ⟨z, lv', h1, h2⟩ := hg a b _ h_4
  refine ⟨lv, _, ?_, h2⟩
  rw [sv_s_ar ha, if_pos (by simp)]
  show (match ev_s i [] [eJ b, eJ a] with
        | some z => some (lv, (z.2.map Sum.inl : List sV) ++ r)
        | none => none) = _
  rw [h1]
  rfl
noncomputable def fs_JJJ (g : Int → Int → (Int → Bool) → Bool) (y np : Nat) : fC := fun d lv st F M Q z => f_pop z st fun v s => f_pJ z v fun b => f_pop z s fun w r => f_pJ z w fun a => g a b fun u => Q d y np lv (.inl (.inl (.inr u)) :: r) F M
theorem fs_JJJ_ok {i : Instr} {g : Int → Int → (Int → Bool) → Bool} {y np : Nat} (ha : sv_ar i = some 2) (hg : ∀ (a b : Int) (K : Int → Bool), g a b K = true → ∃ z lv', ev_s i [] [eJ b, eJ a] = some (lv', [eJ z]) ∧ K z = true) : fs_ok i y np (fs_JJJ g y np) := by
  intro B d lv st F M Q h
  obtain ⟨v, s, rfl, h_1⟩ := f_pop_ok h
  obtain ⟨b, rfl, h_2⟩ := f_pJ_ok h_1
  obtain ⟨w, r, rfl, h_3⟩ := f_pop_ok h_2
  obtain ⟨a, rfl, h_4⟩ := f_pJ_ok h_3
  obtain ⟨z, lv', h1, h2⟩ := hg a b _ h_4
  refine ⟨lv, _, ?_, h2⟩
  rw [sv_s_ar ha, if_pos (by simp)]
  show (match ev_s i [] [eJ b, eJ a] with
        | some z => some (lv, (z.2.map Sum.inl : List sV) ++ r)
        | none => none) = _
  rw [h1]
  rfl
noncomputable def fs_JIJ (g : Int → Int → (Int → Bool) → Bool) (y np : Nat) : fC := fun d lv st F M Q z => f_pop z st fun v s => f_pI z v fun b => f_pop z s fun w r => f_pJ z w fun a => g a b fun u => Q d y np lv (.inl (.inl (.inr u)) :: r) F M
theorem fs_JIJ_ok {i : Instr} {g : Int → Int → (Int → Bool) → Bool} {y np : Nat} (ha : sv_ar i = some 2) (hg : ∀ (a b : Int) (K : Int → Bool), g a b K = true → ∃ z lv', ev_s i [] [eI b, eJ a] = some (lv', [eJ z]) ∧ K z = true) : fs_ok i y np (fs_JIJ g y np) := by
  intro B d lv st F M Q h
  obtain ⟨v, s, rfl, h_1⟩ := f_pop_ok h
  obtain ⟨b, rfl, h_2⟩ := f_pI_ok h_1
  obtain ⟨w, r, rfl, h_3⟩ := f_pop_ok h_2
  obtain ⟨a, rfl, h_4⟩ := f_pJ_ok h_3
  obtain ⟨z, lv', h1, h2⟩ := hg a b _ h_4
  refine ⟨lv, _, ?_, h2⟩
  rw [sv_s_ar ha, if_pos (by simp)]
  show (match ev_s i [] [eI b, eJ a] with
        | some z => some (lv, (z.2.map Sum.inl : List sV) ++ r)
        | none => none) = _
  rw [h1]
  rfl
noncomputable def fs_uII (g : Int → (Int → Bool) → Bool) (y np : Nat) : fC := fun d lv st F M Q z => f_pop z st fun v s => f_pI z v fun a => g a fun u => Q d y np lv (.inl (.inl (.inl u)) :: s) F M
theorem fs_uII_ok {i : Instr} {g : Int → (Int → Bool) → Bool} {y np : Nat} (ha : sv_ar i = some 1) (hg : ∀ (a : Int) (K : Int → Bool), g a K = true → ∃ z lv', ev_s i [] [eI a] = some (lv', [eI z]) ∧ K z = true) : fs_ok i y np (fs_uII g y np) := by
  intro B d lv st F M Q h
  obtain ⟨v, s, rfl, h_1⟩ := f_pop_ok h
  obtain ⟨a, rfl, h_2⟩ := f_pI_ok h_1
  obtain ⟨z, lv', h1, h2⟩ := hg a _ h_2
  refine ⟨lv, _, ?_, h2⟩
  rw [sv_s_ar ha, if_pos (by simp)]
  show (match ev_s i [] [eI a] with
        | some z => some (lv, (z.2.map Sum.inl : List sV) ++ s)
        | none => none) = _
  rw [h1]
  rfl
noncomputable def fs_uIJ (g : Int → (Int → Bool) → Bool) (y np : Nat) : fC := fun d lv st F M Q z => f_pop z st fun v s => f_pI z v fun a => g a fun u => Q d y np lv (.inl (.inl (.inr u)) :: s) F M
theorem fs_uIJ_ok {i : Instr} {g : Int → (Int → Bool) → Bool} {y np : Nat} (ha : sv_ar i = some 1) (hg : ∀ (a : Int) (K : Int → Bool), g a K = true → ∃ z lv', ev_s i [] [eI a] = some (lv', [eJ z]) ∧ K z = true) : fs_ok i y np (fs_uIJ g y np) := by
  intro B d lv st F M Q h
  obtain ⟨v, s, rfl, h_1⟩ := f_pop_ok h
  obtain ⟨a, rfl, h_2⟩ := f_pI_ok h_1
  obtain ⟨z, lv', h1, h2⟩ := hg a _ h_2
  refine ⟨lv, _, ?_, h2⟩
  rw [sv_s_ar ha, if_pos (by simp)]
  show (match ev_s i [] [eI a] with
        | some z => some (lv, (z.2.map Sum.inl : List sV) ++ s)
        | none => none) = _
  rw [h1]
  rfl
noncomputable def fs_uJI (g : Int → (Int → Bool) → Bool) (y np : Nat) : fC := fun d lv st F M Q z => f_pop z st fun v s => f_pJ z v fun a => g a fun u => Q d y np lv (.inl (.inl (.inl u)) :: s) F M
theorem fs_uJI_ok {i : Instr} {g : Int → (Int → Bool) → Bool} {y np : Nat} (ha : sv_ar i = some 1) (hg : ∀ (a : Int) (K : Int → Bool), g a K = true → ∃ z lv', ev_s i [] [eJ a] = some (lv', [eI z]) ∧ K z = true) : fs_ok i y np (fs_uJI g y np) := by
  intro B d lv st F M Q h
  obtain ⟨v, s, rfl, h_1⟩ := f_pop_ok h
  obtain ⟨a, rfl, h_2⟩ := f_pJ_ok h_1
  obtain ⟨z, lv', h1, h2⟩ := hg a _ h_2
  refine ⟨lv, _, ?_, h2⟩
  rw [sv_s_ar ha, if_pos (by simp)]
  show (match ev_s i [] [eJ a] with
        | some z => some (lv, (z.2.map Sum.inl : List sV) ++ s)
        | none => none) = _
  rw [h1]
  rfl
noncomputable def fs_dup (y np : Nat) : fC := fun d lv st F M Q z => f_pop z st fun v s => @Sum.rec eV aV (fun _ => Bool) (fun _ => f_if z (f_c1 v) (Q d y np lv (v :: v :: s) F M)) (fun _ => z) v
theorem fs_dup_ok {y np : Nat} : fs_ok .dup y np (fs_dup y np) := by
  intro B d lv st F M Q h
  obtain ⟨v, s, rfl, h_1⟩ := f_pop_ok h
  rcases v with e | a
  · obtain ⟨h1, h2⟩ := f_if_ok h_1
    refine ⟨lv, _, ?_, h2⟩
    rw [sv_s_ar (a := 1) rfl, if_pos (by simp)]
    have hc : ev_cat e = 1 := f_c1_ok h1
    show (match (if ev_cat e = 1 then some (([] : List (Option eV)), [e, e]) else none) with
        | some z => some (lv, (z.2.map Sum.inl : List sV) ++ s)
        | none => none) = _
    rw [if_pos hc]
    rfl
  · exact f_none h_1
noncomputable def fs_pop (y np : Nat) : fC := fun d lv st F M Q z => f_pop z st fun v s => @Sum.rec eV aV (fun _ => Bool) (fun _ => f_if z (f_c1 v) (Q d y np lv s F M)) (fun _ => z) v
theorem fs_pop_ok {y np : Nat} : fs_ok .pop y np (fs_pop y np) := by
  intro B d lv st F M Q h
  obtain ⟨v, s, rfl, h_1⟩ := f_pop_ok h
  rcases v with e | a
  · obtain ⟨h1, h2⟩ := f_if_ok h_1
    refine ⟨lv, _, ?_, h2⟩
    rw [sv_s_ar (a := 1) rfl, if_pos (by simp)]
    have hc : ev_cat e = 1 := f_c1_ok h1
    show (match (if ev_cat e = 1 then some (([] : List (Option eV)), ([] : List eV)) else none) with
        | some z => some (lv, (z.2.map Sum.inl : List sV) ++ s)
        | none => none) = _
    rw [if_pos hc]
    rfl
  · exact f_none h_1
/-- less, equal, greater -/
noncomputable def f_cmp {α : Type} (x y : Int) (l e g : α) : α := @Int.rec (fun _ => α) (fun a => @Int.rec (fun _ => α) (fun b => @Bool.rec (fun _ => α) (@Bool.rec (fun _ => α) g e (Nat.beq a b)) l (Nat.ble (Nat.succ a) b)) (fun _ => g) y) (fun a => @Int.rec (fun _ => α) (fun _ => l) (fun b => @Bool.rec (fun _ => α) (@Bool.rec (fun _ => α) g e (Nat.beq a b)) l (Nat.ble (Nat.succ b) a)) y) x
theorem f_cmp_ok {α : Type} (x y : Int) (l e g : α) : (x < y ∧ f_cmp x y l e g = l) ∨ (x = y ∧ f_cmp x y l e g = e) ∨ (y < x ∧ f_cmp x y l e g = g) := by
  rcases x with a | a <;> rcases y with b | b
  · have hf : f_cmp (Int.ofNat a) (Int.ofNat b) l e g = @Bool.rec (fun _ => α) (@Bool.rec (fun _ => α) g e (Nat.beq a b)) l (Nat.ble (Nat.succ a) b) := rfl
    rw [hf]
    cases h : Nat.ble (Nat.succ a) b with
    | true =>
      have := Nat.ble_eq.mp h
      exact Or.inl ⟨by show (a : Int) < (b : Int); omega, rfl⟩
    | false =>
      have h1 : ¬ Nat.succ a ≤ b := fun q => by rw [Nat.ble_eq.mpr q] at h; cases h
      cases h2 : Nat.beq a b with
      | true =>
        have := Nat.eq_of_beq_eq_true h2
        exact Or.inr (Or.inl ⟨by rw [this], rfl⟩)
      | false =>
        have := Nat.ne_of_beq_eq_false h2
        exact Or.inr (Or.inr ⟨by show (b : Int) < (a : Int); omega, rfl⟩)
  · exact Or.inr (Or.inr ⟨by rw [Int.negSucc_eq]; show (-((b : Int) + 1)) < (a : Int); omega, rfl⟩)
  · exact Or.inl ⟨by rw [Int.negSucc_eq]; show (-((a : Int) + 1)) < (b : Int); omega, rfl⟩
  · have hf : f_cmp (Int.negSucc a) (Int.negSucc b) l e g = @Bool.rec (fun _ => α) (@Bool.rec (fun _ => α) g e (Nat.beq a b)) l (Nat.ble (Nat.succ b) a) := rfl
    rw [hf]
    cases h : Nat.ble (Nat.succ b) a with
    | true =>
      have := Nat.ble_eq.mp h
      exact Or.inl ⟨by rw [Int.negSucc_eq, Int.negSucc_eq]; omega, rfl⟩
    | false =>
      have h1 : ¬ Nat.succ b ≤ a := fun q => by rw [Nat.ble_eq.mpr q] at h; cases h
      cases h2 : Nat.beq a b with
      | true =>
        have := Nat.eq_of_beq_eq_true h2
        exact Or.inr (Or.inl ⟨by rw [this], rfl⟩)
      | false =>
        have := Nat.ne_of_beq_eq_false h2
        exact Or.inr (Or.inr ⟨by rw [Int.negSucc_eq, Int.negSucc_eq]; omega, rfl⟩)
/-! branches -/
def fj_ok (i : Instr) (n pc y : Nat) (f : fC) : Prop := ∀ (B : sB) (d : Nat) (lv : List (Option sV)) (st : List sV) (F : List sFr) (M : sM) (Q : fK), f d lv st F M Q false = true → ∃ np st', sv_j B i n pc st = some [(B, np, st')] ∧ Q d y np lv st' F M = true
noncomputable def fj_if (t1 t2 t3 y : Nat) : fC := fun d lv st F M Q z => f_pop z st fun v s => f_pI z v fun x => f_if z (f_w x) (f_cmp x 0 (Q d y t1 lv s F M) (Q d y t2 lv s F M) (Q d y t3 lv s F M))
noncomputable def fj_ic (t1 t2 t3 y : Nat) : fC := fun d lv st F M Q z => f_pop z st fun v s => f_pI z v fun b => f_if z (f_w b) (f_pop z s fun w r => f_pI z w fun a => f_if z (f_w a) (f_cmp a b (Q d y t1 lv r F M) (Q d y t2 lv r F M) (Q d y t3 lv r F M)))
theorem f_cmp_g {α β : Type} (g : α → β) (x y : Int) (l e r : α) : f_cmp x y (g l) (g e) (g r) = g (f_cmp x y l e r) := by
  rcases x with a | a <;> rcases y with b | b
  · show @Bool.rec (fun _ => β) (@Bool.rec (fun _ => β) (g r) (g e) (Nat.beq a b)) (g l) (Nat.ble (Nat.succ a) b) = g (@Bool.rec (fun _ => α) (@Bool.rec (fun _ => α) r e (Nat.beq a b)) l (Nat.ble (Nat.succ a) b))
    cases Nat.ble (Nat.succ a) b <;> cases Nat.beq a b <;> rfl
  · rfl
  · rfl
  · show @Bool.rec (fun _ => β) (@Bool.rec (fun _ => β) (g r) (g e) (Nat.beq a b)) (g l) (Nat.ble (Nat.succ b) a) = g (@Bool.rec (fun _ => α) (@Bool.rec (fun _ => α) r e (Nat.beq a b)) l (Nat.ble (Nat.succ b) a))
    cases Nat.ble (Nat.succ b) a <;> cases Nat.beq a b <;> rfl
theorem f_cmp_f (f : Bool × Bool × Bool) (pc : Nat) (off x y : Int) : f_cmp x y (sv_tg pc off f.1) (sv_tg pc off f.2.1) (sv_tg pc off f.2.2) = sv_tg pc off (sv_f f x y) := by
  unfold sv_f
  rcases f_cmp_ok x y (sv_tg pc off f.1) (sv_tg pc off f.2.1) (sv_tg pc off f.2.2) with ⟨h1, h2⟩ | ⟨h1, h2⟩ | ⟨h1, h2⟩
  · rw [h2, if_pos h1]
  · rw [h2, if_neg (by omega), if_pos h1]
  · rw [h2, if_neg (by omega), if_neg (by omega)]
theorem fj_if_ok {c : Jvm.ClassFile.Cond} {off : Int} {n pc y : Nat} (hn : n = 3) (h0 : 0 ≤ (pc : Int) + off) : fj_ok (.ifCond c off) n pc y (fj_if (sv_tg pc off (sv_fl c).1) (sv_tg pc off (sv_fl c).2.1) (sv_tg pc off (sv_fl c).2.2) y) := by
  intro B d lv st F M Q h
  obtain ⟨v, s, rfl, h_1⟩ := f_pop_ok h
  obtain ⟨x, rfl, h_2⟩ := f_pI_ok h_1
  obtain ⟨h1, h_3⟩ := f_if_ok h_2
  have h9 : Q d y (f_cmp x 0 (sv_tg pc off (sv_fl c).1) (sv_tg pc off (sv_fl c).2.1) (sv_tg pc off (sv_fl c).2.2)) lv s F M = true := by
    rw [← f_cmp_g (fun t => Q d y t lv s F M)]
    exact h_3
  refine ⟨_, s, ?_, h9⟩
  have hj : ev_j (.ifCond c off) n pc [eI x] = some (sv_tg pc off (sv_f (sv_fl c) (ev_w x) 0), []) := by
    show (if n = 3 then ev_if c pc off x [] else none) = _
    rw [if_pos hn, ev_if_f h0]
  show (if 1 ≤ (Sum.inl (eI x) :: s : List sV).length then (match ev_j (.ifCond c off) n pc [eI x] with
      | some z => some [(B, z.1, (z.2.map Sum.inl : List sV) ++ s)]
      | none => none) else none) = _
  rw [if_pos (by simp), hj, f_cmp_f, f_w_ok h1]
  rfl
theorem fj_ic_ok {c : Jvm.ClassFile.Cond} {off : Int} {n pc y : Nat} (hn : n = 3) (h0 : 0 ≤ (pc : Int) + off) : fj_ok (.if_icmp c off) n pc y (fj_ic (sv_tg pc off (sv_fl c).1) (sv_tg pc off (sv_fl c).2.1) (sv_tg pc off (sv_fl c).2.2) y) := by
  intro B d lv st F M Q h
  obtain ⟨v, s, rfl, h_1⟩ := f_pop_ok h
  obtain ⟨b, rfl, h_2⟩ := f_pI_ok h_1
  obtain ⟨h1, h_3⟩ := f_if_ok h_2
  obtain ⟨w, r, rfl, h_4⟩ := f_pop_ok h_3
  obtain ⟨a, rfl, h_5⟩ := f_pI_ok h_4
  obtain ⟨h2, h_6⟩ := f_if_ok h_5
  have h9 : Q d y (f_cmp a b (sv_tg pc off (sv_fl c).1) (sv_tg pc off (sv_fl c).2.1) (sv_tg pc off (sv_fl c).2.2)) lv r F M = true := by
    rw [← f_cmp_g (fun t => Q d y t lv r F M)]
    exact h_6
  refine ⟨_, r, ?_, h9⟩
  have hj : ev_j (.if_icmp c off) n pc [eI b, eI a] = some (sv_tg pc off (sv_f (sv_fl c) (ev_w a) (ev_w b)), []) := by
    show (if n = 3 then ev_ic c pc off a b [] else none) = _
    rw [if_pos hn, ev_ic_f h0]
  show (if 2 ≤ (Sum.inl (eI b) :: Sum.inl (eI a) :: r : List sV).length then (match ev_j (.if_icmp c off) n pc [eI b, eI a] with
      | some z => some [(B, z.1, (z.2.map Sum.inl : List sV) ++ r)]
      | none => none) else none) = _
  rw [if_pos (by simp), hj, f_cmp_f, f_w_ok h1, f_w_ok h2]
  rfl
noncomputable def fj_go (t y : Nat) : fC := fun d lv st F M Q z => Q d y (t) lv (st) F M
theorem fj_go_ok {off : Int} {n pc y : Nat} (hn : n = 3) (h0 : 0 ≤ (pc : Int) + off) : fj_ok (.goto off) n pc y (fj_go (((pc : Int) + off).toNat) y) := by
  intro B d lv st F M Q h
  refine ⟨_, st, ?_, h⟩
  have hj : ev_j (.goto off) n pc [] = some (((pc : Int) + off).toNat, []) := by
    show (if n = 3 then ev_b pc off True [] else none) = _
    rw [if_pos hn]
    unfold ev_b
    rw [if_pos h0, if_pos True.intro]
  show (if 0 ≤ st.length then (match ev_j (.goto off) n pc [] with
      | some z => some [(B, z.1, (z.2.map Sum.inl : List sV) ++ st)]
      | none => none) else none) = _
  rw [if_pos (Nat.zero_le _), hj]
  rfl
noncomputable def fj_nu (t1 t2 y : Nat) : fC := fun d lv st F M Q z => f_pop z st fun v s => f_pR z v fun r => @Nat.rec (fun _ => Bool) (Q d y t1 lv s F M) (fun _ _ => Q d y t2 lv s F M) r
theorem fj_nn_ok {off : Int} {n pc y : Nat} (hn : n = 3) (h0 : 0 ≤ (pc : Int) + off) : fj_ok (.ifnonnull off) n pc y (fj_nu (pc + 3) (((pc : Int) + off).toNat) y) := by
  intro B d lv st F M Q h
  obtain ⟨v, s, rfl, h_1⟩ := f_pop_ok h
  obtain ⟨r, rfl, h_2⟩ := f_pR_ok h_1
  have h9 : Q d y (@Nat.rec (fun _ => Nat) (pc + 3) (fun _ _ => ((pc : Int) + off).toNat) r) lv s F M = true := by
    cases r <;> exact h_2
  refine ⟨_, s, ?_, h9⟩
  show (if 1 ≤ (Sum.inl (eR r) :: s : List sV).length then (match (if n = 3 then ev_b pc off (¬ r = 0) [] else none) with
      | some z => some [(B, z.1, (z.2.map Sum.inl : List sV) ++ s)]
      | none => none) else none) = _
  rw [if_pos (by simp), if_pos hn]
  unfold ev_b
  rw [if_pos h0]
  cases r with
  | zero => rw [if_neg (by simp)]; rfl
  | succ r => rw [if_pos (by simp)]; rfl
theorem fj_nl_ok {off : Int} {n pc y : Nat} (hn : n = 3) (h0 : 0 ≤ (pc : Int) + off) : fj_ok (.ifnull off) n pc y (fj_nu (((pc : Int) + off).toNat) (pc + 3) y) := by
  intro B d lv st F M Q h
  obtain ⟨v, s, rfl, h_1⟩ := f_pop_ok h
  obtain ⟨r, rfl, h_2⟩ := f_pR_ok h_1
  have h9 : Q d y (@Nat.rec (fun _ => Nat) (((pc : Int) + off).toNat) (fun _ _ => pc + 3) r) lv s F M = true := by
    cases r <;> exact h_2
  refine ⟨_, s, ?_, h9⟩
  show (if 1 ≤ (Sum.inl (eR r) :: s : List sV).length then (match (if n = 3 then ev_b pc off (r = 0) [] else none) with
      | some z => some [(B, z.1, (z.2.map Sum.inl : List sV) ++ s)]
      | none => none) else none) = _
  rw [if_pos (by simp), if_pos hn]
  unfold ev_b
  rw [if_pos h0]
  cases r with
  | zero => rw [if_pos rfl]; rfl
  | succ r => rw [if_neg (by simp)]; rfl
