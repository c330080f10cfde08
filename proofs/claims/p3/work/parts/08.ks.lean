/-! STRING CONSTANTS: which, what they hold; length and charAt of the JDK, by contract -/
/-- class, entry, text, number -/
def dt_kc : List (String × Nat × String × Nat) := [("RhombInflator$Printer", 26, "thin", 3), ("RhombInflator$Printer", 28, "thick", 4), ("RhombInflator$Printer", 44, " -", 5), ("RhombInflator$Printer", 55, " turn", 6), ("RhombInflator$Printer", 60, " hand", 7), ("RhombInflator$Printer", 65, ";", 8), ("RhombInflator$Reader", 59, "thin", 9), ("RhombInflator$Reader", 65, "thick", 10), ("RhombInflator$Reader", 82, "turn", 11), ("RhombInflator$Reader", 91, "hand", 12), ("RhombInflatorModel", 589, " - ", 25), ("RhombInflatorModel", 591, " ", 26), ("RhombInflatorModel", 597, "thin", 27), ("RhombInflatorModel", 599, "thick", 28), ("RhombInflatorModel", 604, " turn", 29), ("RhombInflatorModel", 606, " hand", 30), ("RhombInflatorModel", 608, ";", 31)]
/-- what a constant holds -/
def dt_ks (r : Nat) : List Int := match r with
  | 3 => [116, 104, 105, 110]
  | 4 => [116, 104, 105, 99, 107]
  | 5 => [32, 45]
  | 6 => [32, 116, 117, 114, 110]
  | 7 => [32, 104, 97, 110, 100]
  | 8 => [59]
  | 9 => [116, 104, 105, 110]
  | 10 => [116, 104, 105, 99, 107]
  | 11 => [116, 117, 114, 110]
  | 12 => [104, 97, 110, 100]
  | 25 => [32, 45, 32]
  | 26 => [32]
  | 27 => [116, 104, 105, 110]
  | 28 => [116, 104, 105, 99, 107]
  | 29 => [32, 116, 117, 114, 110]
  | 30 => [32, 104, 97, 110, 100]
  | 31 => [59]
  | _ => []
/-- where the premises stand: exactly, coder, array, length, places -/
def kt_pa (r : Nat) : List (List Bool) := match r with
  | 3 => [[true, false, true, true, true, true, true, true, false, true], [true, false, true, true, true, true, true, true, true, false], [true, false, true, true, true, true, true, true, true, true], [true, true, false, false, false, false, false, false, false], [true, true, false, false, false, false, false, false, true, false], [true, true, false, false, false, false, false, false, true, true], [true, true, false, false, false, false, false, true, false, false], [true, true, false, false, false, false, false, true, false, true]]
  | 4 => [[true, true, false, false, false, false, true, false, true, false], [true, true, false, false, false, false, true, false, true, true], [true, true, false, false, false, false, true, true, false, false], [true, true, false, false, false, false, true, true, false, true], [true, true, false, false, false, false, true, true, true, false], [true, true, false, false, false, false, true, true, true, true], [true, true, false, false, false, true, false, false, false, false], [true, true, false, false, false, true, false, false, false, true], [true, true, false, false, false, true, false, false, true, false]]
  | 5 => [[true, true, false, false, false, true, true, false, false, false], [true, true, false, false, false, true, true, false, false, true], [true, true, false, false, false, true, true, false, true, false], [true, true, false, false, false, true, true, false, true, true], [true, true, false, false, false, true, true, true, false, false], [true, true, false, false, false, true, true, true, false, true]]
  | 6 => [[true, true, false, false, true, false, false, true, false, true], [true, true, false, false, true, false, false, true, true, false], [true, true, false, false, true, false, false, true, true, true], [true, true, false, false, true, false, true, false, false, false], [true, true, false, false, true, false, true, false, false, true], [true, true, false, false, true, false, true, false, true, false], [true, true, false, false, true, false, true, false, true, true], [true, true, false, false, true, false, true, true, false, false], [true, true, false, false, true, false, true, true, false, true]]
  | 7 => [[true, true, false, false, true, true, false, true, false, true], [true, true, false, false, true, true, false, true, true, false], [true, true, false, false, true, true, false, true, true, true], [true, true, false, false, true, true, true, false, false, false], [true, true, false, false, true, true, true, false, false, true], [true, true, false, false, true, true, true, false, true, false], [true, true, false, false, true, true, true, false, true, true], [true, true, false, false, true, true, true, true, false, false], [true, true, false, false, true, true, true, true, false, true]]
  | 8 => [[true, true, false, true, false, false, false, true, true, true], [true, true, false, true, false, false, true, false, false, false], [true, true, false, true, false, false, true, false, false, true], [true, true, false, true, false, false, true, false, true, false], [true, true, false, true, false, false, true, false, true, true]]
  | 9 => [[true, false, true, true, false, true, false, true, true, false], [true, false, true, true, false, true, false, true, true, true], [true, false, true, true, false, true, true, false, false, false], [true, false, true, true, false, true, true, false, false, true], [true, false, true, true, false, true, true, false, true, false], [true, false, true, true, false, true, true, false, true, true], [true, false, true, true, false, true, true, true, false, false], [true, false, true, true, false, true, true, true, false, true]]
  | 10 => [[true, false, true, true, false, true, true, true, true, false], [true, false, true, true, false, true, true, true, true, true], [true, false, true, true, true, false, false, false, false, false], [true, false, true, true, true, false, false, false, false, true], [true, false, true, true, true, false, false, false, true, false], [true, false, true, true, true, false, false, false, true, true], [true, false, true, true, true, false, false, true, false, false], [true, false, true, true, true, false, false, true, false, true], [true, false, true, true, true, false, false, true, true, false]]
  | 11 => [[true, false, true, true, true, false, true, false, false, false], [true, false, true, true, true, false, true, false, false, true], [true, false, true, true, true, false, true, false, true, false], [true, false, true, true, true, false, true, false, true, true], [true, false, true, true, true, false, true, true, false, false], [true, false, true, true, true, false, true, true, false, true], [true, false, true, true, true, false, true, true, true, false], [true, false, true, true, true, false, true, true, true, true]]
  | 12 => [[true, false, true, true, true, true, false, false, true, false], [true, false, true, true, true, true, false, false, true, true], [true, false, true, true, true, true, false, true, false, false], [true, false, true, true, true, true, false, true, false, true], [true, false, true, true, true, true, false, true, true, false], [true, false, true, true, true, true, false, true, true, true], [true, false, true, true, true, true, true, false, false, false], [true, false, true, true, true, true, true, false, false, true]]
  | 25 => [[true, true, false, true, true, true, true, false, true, true], [true, true, false, true, true, true, true, true, false, false], [true, true, false, true, true, true, true, true, false, true], [true, true, false, true, true, true, true, true, true, false], [true, true, false, true, true, true, true, true, true, true], [true, true, true, false, false, false, false, false, false], [true, true, true, false, false, false, false, false, true, false]]
  | 26 => [[true, true, true, false, false, false, true, true, true, true], [true, true, true, false, false, true, false, false, false, false], [true, true, true, false, false, true, false, false, false, true], [true, true, true, false, false, true, false, false, true, false], [true, true, true, false, false, true, false, false, true, true]]
  | 27 => [[true, true, false, true, false, true, false, true, false, true], [true, true, false, true, false, true, false, true, true, false], [true, true, false, true, false, true, false, true, true, true], [true, true, false, true, false, true, true, false, false, false], [true, true, false, true, false, true, true, false, false, true], [true, true, false, true, false, true, true, false, true, false], [true, true, false, true, false, true, true, false, true, true], [true, true, false, true, false, true, true, true, false, false]]
  | 28 => [[true, true, false, true, true, false, false, true, true, true], [true, true, false, true, true, false, true, false, false, false], [true, true, false, true, true, false, true, false, false, true], [true, true, false, true, true, false, true, false, true, false], [true, true, false, true, true, false, true, false, true, true], [true, true, false, true, true, false, true, true, false, false], [true, true, false, true, true, false, true, true, false, true], [true, true, false, true, true, false, true, true, true, false], [true, true, false, true, true, false, true, true, true, true]]
  | 29 => [[true, true, true, false, true, false, false, false, false, true], [true, true, true, false, true, false, false, false, true, false], [true, true, true, false, true, false, false, false, true, true], [true, true, true, false, true, false, false, true, false, false], [true, true, true, false, true, false, false, true, false, true], [true, true, true, false, true, false, false, true, true, false], [true, true, true, false, true, false, false, true, true, true], [true, true, true, false, true, false, true, false, false, false], [true, true, true, false, true, false, true, false, false, true]]
  | 30 => [[true, true, true, false, true, true, true, false, false, false], [true, true, true, false, true, true, true, false, false, true], [true, true, true, false, true, true, true, false, true, false], [true, true, true, false, true, true, true, false, true, true], [true, true, true, false, true, true, true, true, false, false], [true, true, true, false, true, true, true, true, false, true], [true, true, true, false, true, true, true, true, true, false], [true, true, true, false, true, true, true, true, true, true], [true, true, true, true, false, false, false, false, false]]
  | 31 => [[true, true, true, true, false, true, false, false, false, true], [true, true, true, true, false, true, false, false, true, false], [true, true, true, true, false, true, false, false, true, true], [true, true, true, true, false, true, false, true, false, false], [true, true, true, true, false, true, false, true, false, true]]
  | _ => []
def ks_f (r : Nat) (j : Nat) : Int32 := ((dt_ks r).map Int32.ofInt).getD j 0
abbrev ks_S : String := "java/lang/String"
abbrev ks_L : String := "java/lang/StringLatin1"
abbrev ks_P : String := "jdk/internal/util/Preconditions"
abbrev ks_F : String := "Ljava/util/function/BiFunction;"
abbrev ks_len : MethodName := ⟨"java/lang/String", "length", "()I"⟩
abbrev ks_cod : MethodName := ⟨"java/lang/String", "coder", "()B"⟩
abbrev ks_cha : MethodName := ⟨"java/lang/String", "charAt", "(I)C"⟩
abbrev ks_lat : MethodName := ⟨"java/lang/String", "isLatin1", "()Z"⟩
abbrev ks_lca : MethodName := ⟨"java/lang/StringLatin1", "charAt", "([BI)C"⟩
abbrev ks_chk : MethodName := ⟨"java/lang/String", "checkIndex", "(II)V"⟩
abbrev ks_pre : MethodName := ⟨"jdk/internal/util/Preconditions", "checkIndex", "(IILjava/util/function/BiFunction;)I"⟩
/-- the statics that they read -/
def ks_st (A : Nat → Prop) (U : State) (H : Heap) : Prop := va_Z ks_S "COMPACT_STRINGS" "Z" (.int 1) A U H ∧ va_Zq ks_P "SIOOBE_FORMATTER" ks_F A U H
/-- a String of n chars at a -/
def ks_at (a n : Nat) (f : Nat → Int32) (A : Nat → Prop) (U : State) (H : Heap) : Prop := va_O ks_S a A U H ∧ va_OF ks_S "coder" "B" (.int 0) a A U H ∧ ∃ v : Nat, va_OF ks_S "value" "[B" (.ref v) a A U H ∧ va_T .byte v n (fun j => .int (f j)) A U H
theorem ks_st.moved {A : Nat → Prop} {u U : State} {H : Heap} (hvm : u.vm.Alike U.vm) (h : ks_st A u H) : ks_st A U H := ⟨va_Z.moved hvm h.1, va_Zq.moved hvm h.2⟩
theorem ks_st.kept {A : Nat → Prop} {U : State} {H H1 : Heap} (h : ks_st A U H) (hq : ∀ a : Nat, a < H.size → ¬ A a → H1[a]? = H[a]?) : ks_st A U H1 := ⟨h.1.kept hq, h.2.kept hq⟩
theorem ks_at.moved {a n : Nat} {f : Nat → Int32} {A : Nat → Prop} {u U : State} {H : Heap} (hvm : u.vm.Alike U.vm) (h : ks_at a n f A u H) : ks_at a n f A U H := by
  obtain ⟨h1, h2, v, h3, h4⟩ := h
  exact ⟨va_O.moved hvm h1, va_OF.moved hvm h2, v, va_OF.moved hvm h3, va_T.moved hvm h4⟩
theorem ks_at.kept {a n : Nat} {f : Nat → Int32} {A : Nat → Prop} {U : State} {H H1 : Heap} (h : ks_at a n f A U H) (hq : ∀ a : Nat, a < H.size → ¬ A a → H1[a]? = H[a]?) : ks_at a n f A U H1 := by
  obtain ⟨h1, h2, v, h3, h4⟩ := h
  exact ⟨h1.kept hq, h2.kept hq, v, h3.kept hq, h4.kept hq⟩
def ks_all (A : Nat → Prop) (ad : Nat → Nat) (U : State) (H : Heap) : Prop := ks_st A U H ∧ ∀ q ∈ dt_kc, vk_R q.1 q.2.1 q.2.2.1 (ad q.2.2.2) U ∧ ks_at (ad q.2.2.2) (dt_ks q.2.2.2).length (ks_f q.2.2.2) A U H
theorem ks_all.warm {A : Nat → Prop} {ad : Nat → Nat} {s U : State} {H : Heap} (hW : s.WarmedH U.vm) (h : ks_all A ad s H) : ks_all A ad U H := ⟨h.1.moved hW.alike, fun q hq => ⟨vk_R.warm hW (h.2 q hq).1, (h.2 q hq).2.moved hW.alike⟩⟩
theorem ks_all.same {A : Nat → Prop} {ad : Nat → Nat} {s U : State} {H : Heap} (hv : s.vm = U.vm) (h : ks_all A ad s H) : ks_all A ad U H := by
  have ha : s.vm.Alike U.vm := by rw [hv]; exact Vm.Alike.refl _
  exact ⟨h.1.moved ha, fun q hq => ⟨vk_R.same (u := s) hv.symm (h.2 q hq).1, (h.2 q hq).2.moved ha⟩⟩
theorem ks_all.kept {A : Nat → Prop} {ad : Nat → Nat} {U : State} {H H1 : Heap} (h : ks_all A ad U H) (hq : ∀ a : Nat, a < H.size → ¬ A a → H1[a]? = H[a]?) : ks_all A ad U H1 := ⟨h.1.kept hq, fun q hq1 => ⟨(h.2 q hq1).1, (h.2 q hq1).2.kept hq⟩⟩
/-! the premises -/
def kt_at : Cond → List Bool → Option Cond
  | .and a _, false :: p => kt_at a p
  | .and _ b, true :: p => kt_at b p
  | .and _ _, [] => none
  | .tt, _ => none
  | w, [] => some w
  | _, _ :: _ => none
theorem kt_at_ok : ∀ (T : Cond) (p : List Bool) (w : Cond), kt_at T p = some w → w ∈ flatC T := by
  intro T
  induction T with
  | and a b iha ihb =>
    intro p w h
    cases p with
    | nil => cases h
    | cons q p =>
      cases q with
      | false => exact List.mem_append_left _ (iha p w h)
      | true => exact List.mem_append_right _ (ihb p w h)
  | tt =>
    intro p w h
    cases h
  | _ =>
    intro p w h
    cases p with
    | nil =>
      cases h
      exact List.mem_singleton.mpr rfl
    | cons q p => cases h
abbrev kt_T : Cond := Jvm.Cond.and given_1 narrow_1
abbrev kt_v (q : String × Nat × String × Nat) : Term := .field (.string q.1 q.2.1) "java/lang/String" "value" "[B"
def kt_ck (q : String × Nat × String × Nat) : Prop := Cond.exactly (.string q.1 q.2.1) "java/lang/String" ∈ flatC kt_T ∧ Cond.eq (.field (.string q.1 q.2.1) "java/lang/String" "coder" "B") (.int 0) ∈ flatC kt_T ∧ Cond.arrayOf (kt_v q) .byte ∈ flatC kt_T ∧ Cond.eq (.length (kt_v q)) (.int (Int32.ofNat (dt_ks q.2.2.2).length)) ∈ flatC kt_T ∧ (∀ j, j < (dt_ks q.2.2.2).length → Cond.eq (.elem (kt_v q) (.int (Int32.ofNat j))) (.int (ks_f q.2.2.2 j)) ∈ flatC kt_T) ∧ (Cond.stringRef q.1 q.2.1 q.2.2.1 ∈ lw_tbl ∧ (dt_ks q.2.2.2).length < 2 ^ 31 ∧ q.2.2.2 < 64) ∧ 1 < q.2.2.2
def kt_cb (q : String × Nat × String × Nat) : Bool := decide (kt_at kt_T ((kt_pa q.2.2.2).getD 0 []) = some (Cond.exactly (.string q.1 q.2.1) "java/lang/String")) && decide (kt_at kt_T ((kt_pa q.2.2.2).getD 1 []) = some (Cond.eq (.field (.string q.1 q.2.1) "java/lang/String" "coder" "B") (.int 0))) && decide (kt_at kt_T ((kt_pa q.2.2.2).getD 2 []) = some (Cond.arrayOf (kt_v q) .byte)) && decide (kt_at kt_T ((kt_pa q.2.2.2).getD 3 []) = some (Cond.eq (.length (kt_v q)) (.int (Int32.ofNat (dt_ks q.2.2.2).length)))) && (List.range (dt_ks q.2.2.2).length).all (fun j => decide (kt_at kt_T ((kt_pa q.2.2.2).getD (j + 4) []) = some (Cond.eq (.elem (kt_v q) (.int (Int32.ofNat j))) (.int (ks_f q.2.2.2 j))))) && decide (Cond.stringRef q.1 q.2.1 q.2.2.1 ∈ lw_tbl) && decide ((dt_ks q.2.2.2).length < 2 ^ 31) && decide (q.2.2.2 < 64) && decide (1 < q.2.2.2)
theorem kt_cb_ok {q : String × Nat × String × Nat} (h : kt_cb q = true) : kt_ck q := by
  unfold kt_cb at h
  simp only [Bool.and_eq_true, decide_eq_true_eq] at h
  obtain ⟨⟨⟨⟨⟨⟨⟨⟨h1, h2⟩, h3⟩, h4⟩, h5⟩, h6⟩, h7⟩, h8⟩, h9⟩ := h
  exact ⟨kt_at_ok _ _ _ h1, kt_at_ok _ _ _ h2, kt_at_ok _ _ _ h3, kt_at_ok _ _ _ h4, fun j hj => kt_at_ok _ _ _ (of_decide_eq_true (List.all_eq_true.mp h5 j (List.mem_range.mpr hj))), ⟨h6, h7, h8⟩, h9⟩
theorem kt_ok : ∀ q ∈ dt_kc, kt_ck q := fun q hq => kt_cb_ok (List.all_eq_true.mp (show dt_kc.all kt_cb = true by decide +kernel) q hq)
theorem kt_one : ∀ q ∈ dt_kc, ∀ q' ∈ dt_kc, q.2.2.2 = q'.2.2.2 → q = q' := by decide +kernel
theorem kt_dis : ∀ q ∈ dt_kc, ∀ q' ∈ dt_st, q.2.2.2 ≠ q'.2.2.2 := by decide +kernel
theorem kt_old {s : State} {b : Nat} (hts : ∀ w ∈ lw_tbl, w.before #[Value.ref b] s = true) (hgv : (Jvm.Cond.and given_1 narrow_1).before #[Value.ref b] s = true) {q : String × Nat × String × Nat} (hq : kt_ck q) : ∃ t : Nat, vk_R q.1 q.2.1 q.2.2.1 t s ∧ ks_at t (dt_ks q.2.2.2).length (ks_f q.2.2.2) (fun a => s.heap.size ≤ a) s s.heap := by
  have hs := flat_of_before _ hgv
  obtain ⟨h1, h2, h3, h4, h5, ⟨h6, h7, -⟩, -⟩ := hq
  have hA : ∀ a : Nat, a < s.heap.size → ¬ s.heap.size ≤ a := fun a h => by omega
  obtain ⟨adK, adV, g1, g2⟩ := vk_Sof (N := 1) (tm := fun _ => Term.string q.1 q.2.1) (len := [(dt_ks q.2.2.2).length]) (byt := [(dt_ks q.2.2.2).map Int32.ofInt]) (A := fun a => s.heap.size ≤ a) (args := #[Value.ref b]) (s := s)
    (fun i hi => by obtain rfl : i = 0 := by omega
                    exact h7)
    (fun i hi => hs _ h1) (fun i hi => hs _ h2) (fun i hi => hs _ h3)
    (fun i hi => by obtain rfl : i = 0 := by omega
                    exact hs _ h4)
    (fun i hi j hj => by
      obtain rfl : i = 0 := by omega
      exact hs _ (h5 j hj))
    (fun i j hi hj hij => absurd (show i = j by omega) hij) hA
  have g3 := g2 0 (by omega)
  obtain ⟨g4, g5, g6, g7⟩ := g1.1 0 (by omega)
  exact ⟨adK 0, vk_R.of (A := #[Value.ref b]) (hts _ h6) g3, g4, g5, adV 0, g6, g7⟩
theorem kt_st {s : State} {b : Nat} (hts : ∀ w ∈ lw_tbl, w.before #[Value.ref b] s = true) (hgv : (Jvm.Cond.and given_1 narrow_1).before #[Value.ref b] s = true) : ks_st (fun a => s.heap.size ≤ a) s s.heap := by
  have hs := flat_of_before _ hgv
  have hA : ∀ a : Nat, a < s.heap.size → ¬ s.heap.size ≤ a := fun a h => by omega
  have h1 : kt_at kt_T [true, false, true, false, false, false, false, false, true, true] = some (Cond.eq (.static ks_S "COMPACT_STRINGS" "Z") (.int 1)) := by decide +kernel
  have h2 : kt_at kt_T [true, false, true, false, false, false, false, true, false, false] = some (Cond.isRef (.static ks_P "SIOOBE_FORMATTER" ks_F)) := by decide +kernel
  have m1 : Cond.laysStatic ks_S "COMPACT_STRINGS" "Z" ∈ lw_tbl := by decide +kernel
  have m2 : Cond.initialized ks_S ∈ lw_tbl := by decide +kernel
  have m3 : Cond.laysStatic ks_P "SIOOBE_FORMATTER" ks_F ∈ lw_tbl := by decide +kernel
  have m4 : Cond.initialized ks_P ∈ lw_tbl := by decide +kernel
  exact ⟨va_Zof (hts _ m1) (hts _ m2) (va_eqt (hs _ (kt_at_ok _ _ _ h1))) hA, va_Zqof (hts _ m3) (hts _ m4) (hs _ (kt_at_ok _ _ _ h2)) hA⟩
/-! the JDK's methods -/
theorem ks_Gin {w0 : Cond} (hc : w0 ∈ dt_G) : GoodIn dt_G (w0 :: dt_G) := by
  intro w hw
  have hm : w ∈ dt_G := by
    rcases List.mem_cons.mp hw with rfl | h1
    · exact hc
    · exact h1
  exact ⟨hm, good_of_word (List.mem_filter.mp hm).2⟩
theorem ks_go {p : Program} {l : Launch} {e : Env} {R : Room} {s : State} {m : MethodId} {args : Array Value} {below : List Frame} {meth : Method} {c : Code} {H : Heap} {locs : List Loc} {cells slots : Nat} {Q : State → Prop} {pc : Nat} {ls : Array Slot} {st0 rest : List Value} {Qa : State → Outcome → State → Prop} {r : Option Value} (hrun : va_Run p l e R s m args below meth c H locs cells slots 0 0 (F0 m pc ls st0) rest Qa (fun _ => False)) (hQ : ∀ st oc t, Qa st oc t → oc = .returned r ∧ t.heap = st.heap) (kk : W p l e R s m args below meth c H locs cells slots Q (F0 m (pc + 3) ls (r.toList ++ rest))) : W p l e R s m args below meth c H locs cells slots Q (F0 m pc ls st0) := by
  intro T hT X
  obtain ⟨v, st1, t, T', L, h0, X2, hL, e1, e2, hq, hgo⟩ := hrun T hT X
  obtain ⟨q1, q2⟩ := hQ _ _ _ hq
  have hLn : L = [] := List.eq_nil_iff_forall_not_mem.mpr (fun z hz => hL z hz)
  subst hLn
  rw [List.append_nil] at X2
  have q1 : v = r := by cases q1; rfl
  subst q1
  obtain ⟨t2, a1, b1⟩ := kk T' (by rw [e1, q2, h0]) X2
  exact ⟨t2, hgo t2 a1, b1⟩
abbrev ks_Q (r : Option Value) : Array Value → State → Outcome → State → Prop := fun _ st oc t => oc = .returned r ∧ t.heap = st.heap
def ks_P1 (A : Nat → Prop) (a n : Nat) (f : Nat → Int32) (U : State) : Prop := ks_st A U U.heap ∧ ks_at a n f A U U.heap
def ks_P2 (A : Nat → Prop) (v n : Nat) (f : Nat → Int32) (U : State) : Prop := ks_st A U U.heap ∧ va_T .byte v n (fun j => .int (f j)) A U U.heap
def ks_P3 (A : Nat → Prop) (U : State) : Prop := ks_st A U U.heap
theorem ks_b1 {A : Nat → Prop} {a n : Nat} {f : Nat → Int32} (av : List Value) : FrameBlind (va_Pc av (ks_P1 A a n f)) := fun aa U g mk h => ⟨h.1, ks_st.moved (u := U) (U := U.calling g mk aa) (Vm.Alike.refl U.vm) h.2.1, ks_at.moved (u := U) (U := U.calling g mk aa) (Vm.Alike.refl U.vm) h.2.2⟩
theorem ks_b2 {A : Nat → Prop} {v n : Nat} {f : Nat → Int32} (av : List Value) : FrameBlind (va_Pc av (ks_P2 A v n f)) := fun aa U g mk h => ⟨h.1, ks_st.moved (u := U) (U := U.calling g mk aa) (Vm.Alike.refl U.vm) h.2.1, va_T.moved (u := U) (U := U.calling g mk aa) (Vm.Alike.refl U.vm) h.2.2⟩
theorem ks_b3 {A : Nat → Prop} (av : List Value) : FrameBlind (va_Pc av (ks_P3 A)) := fun aa U g mk h => ⟨h.1, ks_st.moved (u := U) (U := U.calling g mk aa) (Vm.Alike.refl U.vm) h.2⟩
theorem ks_b0 (av : List Value) : FrameBlind (va_Pc av (fun _ => True)) := fun aa U g mk h => ⟨h.1, trivial⟩
theorem kw_c_len : Cond.code ks_len prog_19_method_54_code 1 (some .int) ∈ dt_G := List.mem_filter.mpr ⟨by decide +kernel, rfl⟩
theorem kw_c_cod : Cond.code ks_cod prog_19_method_152_code 1 (some .byte) ∈ dt_G := List.mem_filter.mpr ⟨by decide +kernel, rfl⟩
theorem kw_c_cha : Cond.code ks_cha prog_19_method_56_code 2 (some .char) ∈ dt_G := List.mem_filter.mpr ⟨by decide +kernel, rfl⟩
theorem kw_c_lat : Cond.code ks_lat prog_19_method_154_code 1 (some .boolean) ∈ dt_G := List.mem_filter.mpr ⟨by decide +kernel, rfl⟩
theorem kw_c_lca : Cond.code ks_lca prog_20_method_2_code 2 (some .char) ∈ dt_G := List.mem_filter.mpr ⟨by decide +kernel, rfl⟩
theorem kw_c_chk : Cond.code ks_chk prog_19_method_155_code 2 none ∈ dt_G := List.mem_filter.mpr ⟨by decide +kernel, rfl⟩
theorem kw_c_pre : Cond.code ks_pre prog_24_method_11_code 3 (some .int) ∈ dt_G := List.mem_filter.mpr ⟨by decide +kernel, rfl⟩
theorem kw_i_len : Cond.instanceMethod ks_len ∈ dt_G := List.mem_filter.mpr ⟨by decide +kernel, rfl⟩
theorem kw_s_len : Cond.selects ks_S ks_len ks_len ∈ dt_G := List.mem_filter.mpr ⟨by decide +kernel, rfl⟩
theorem kw_i_cod : Cond.instanceMethod ks_cod ∈ dt_G := List.mem_filter.mpr ⟨by decide +kernel, rfl⟩
theorem kw_s_cod : Cond.selects ks_S ks_cod ks_cod ∈ dt_G := List.mem_filter.mpr ⟨by decide +kernel, rfl⟩
theorem kw_i_cha : Cond.instanceMethod ks_cha ∈ dt_G := List.mem_filter.mpr ⟨by decide +kernel, rfl⟩
theorem kw_s_cha : Cond.selects ks_S ks_cha ks_cha ∈ dt_G := List.mem_filter.mpr ⟨by decide +kernel, rfl⟩
theorem kw_i_lat : Cond.instanceMethod ks_lat ∈ dt_G := List.mem_filter.mpr ⟨by decide +kernel, rfl⟩
theorem kw_s_lat : Cond.selects ks_S ks_lat ks_lat ∈ dt_G := List.mem_filter.mpr ⟨by decide +kernel, rfl⟩
theorem kw_t_lca : Cond.static ks_lca ∈ dt_G := List.mem_filter.mpr ⟨by decide +kernel, rfl⟩
theorem kw_t_chk : Cond.static ks_chk ∈ dt_G := List.mem_filter.mpr ⟨by decide +kernel, rfl⟩
theorem kw_t_pre : Cond.static ks_pre ∈ dt_G := List.mem_filter.mpr ⟨by decide +kernel, rfl⟩
theorem kw_n_S : Cond.initialized ks_S ∈ dt_G := List.mem_filter.mpr ⟨by decide +kernel, rfl⟩
theorem kw_n_L : Cond.initialized ks_L ∈ dt_G := List.mem_filter.mpr ⟨by decide +kernel, rfl⟩
theorem kw_n_P : Cond.initialized ks_P ∈ dt_G := List.mem_filter.mpr ⟨by decide +kernel, rfl⟩
theorem kw_l1 : Cond.methodLink ks_S 335 ks_cod ∈ dt_G := List.mem_filter.mpr ⟨by decide +kernel, rfl⟩
theorem kw_l2 : Cond.methodLink ks_S 492 ks_lat ∈ dt_G := List.mem_filter.mpr ⟨by decide +kernel, rfl⟩
theorem kw_l3 : Cond.methodLink ks_S 495 ks_lca ∈ dt_G := List.mem_filter.mpr ⟨by decide +kernel, rfl⟩
theorem kw_l4 : Cond.methodLink ks_L 9 ks_chk ∈ dt_G := List.mem_filter.mpr ⟨by decide +kernel, rfl⟩
theorem kw_l5 : Cond.methodLink ks_S 1059 ks_pre ∈ dt_G := List.mem_filter.mpr ⟨by decide +kernel, rfl⟩
theorem kw_f1 : Cond.fieldLink ks_S 38 ks_S "COMPACT_STRINGS" "Z" ∈ dt_G := List.mem_filter.mpr ⟨by decide +kernel, rfl⟩
theorem kw_f2 : Cond.fieldLink ks_S 15 ks_S "coder" "B" ∈ dt_G := List.mem_filter.mpr ⟨by decide +kernel, rfl⟩
theorem kw_f3 : Cond.fieldLink ks_S 9 ks_S "value" "[B" ∈ dt_G := List.mem_filter.mpr ⟨by decide +kernel, rfl⟩
theorem kw_f4 : Cond.fieldLink ks_S 1053 ks_P "SIOOBE_FORMATTER" ks_F ∈ dt_G := List.mem_filter.mpr ⟨by decide +kernel, rfl⟩
theorem kd_pre_0 : decode prog_24_method_11_code 0 = .ok (.iload_n 0, 1) := by decide +kernel
theorem kd_pre_1 : decode prog_24_method_11_code 1 = .ok (.ifCond .lt 8, 3) := by decide +kernel
theorem kd_pre_4 : decode prog_24_method_11_code 4 = .ok (.iload_n 0, 1) := by decide +kernel
theorem kd_pre_5 : decode prog_24_method_11_code 5 = .ok (.iload_n 1, 1) := by decide +kernel
theorem kd_pre_6 : decode prog_24_method_11_code 6 = .ok (.if_icmp .lt 10, 3) := by decide +kernel
theorem kd_pre_16 : decode prog_24_method_11_code 16 = .ok (.iload_n 0, 1) := by decide +kernel
theorem kd_pre_17 : decode prog_24_method_11_code 17 = .ok (.ireturn, 1) := by decide +kernel
theorem kd_chk_0 : decode prog_19_method_155_code 0 = .ok (.iload_n 0, 1) := by decide +kernel
theorem kd_chk_1 : decode prog_19_method_155_code 1 = .ok (.iload_n 1, 1) := by decide +kernel
theorem kd_chk_2 : decode prog_19_method_155_code 2 = .ok (.getstatic 1053, 3) := by decide +kernel
theorem kd_chk_5 : decode prog_19_method_155_code 5 = .ok (.invokestatic 1059, 3) := by decide +kernel
theorem kd_chk_8 : decode prog_19_method_155_code 8 = .ok (.pop, 1) := by decide +kernel
theorem kd_chk_9 : decode prog_19_method_155_code 9 = .ok (.return_, 1) := by decide +kernel
theorem kd_lca_0 : decode prog_20_method_2_code 0 = .ok (.iload_n 1, 1) := by decide +kernel
theorem kd_lca_1 : decode prog_20_method_2_code 1 = .ok (.aload_n 0, 1) := by decide +kernel
theorem kd_lca_2 : decode prog_20_method_2_code 2 = .ok (.arraylength, 1) := by decide +kernel
theorem kd_lca_3 : decode prog_20_method_2_code 3 = .ok (.invokestatic 9, 3) := by decide +kernel
theorem kd_lca_6 : decode prog_20_method_2_code 6 = .ok (.aload_n 0, 1) := by decide +kernel
theorem kd_lca_7 : decode prog_20_method_2_code 7 = .ok (.iload_n 1, 1) := by decide +kernel
theorem kd_lca_8 : decode prog_20_method_2_code 8 = .ok (.baload, 1) := by decide +kernel
theorem kd_lca_9 : decode prog_20_method_2_code 9 = .ok (.sipush 255, 3) := by decide +kernel
theorem kd_lca_12 : decode prog_20_method_2_code 12 = .ok (.iand, 1) := by decide +kernel
theorem kd_lca_13 : decode prog_20_method_2_code 13 = .ok (.i2c, 1) := by decide +kernel
theorem kd_lca_14 : decode prog_20_method_2_code 14 = .ok (.ireturn, 1) := by decide +kernel
theorem kd_lat_0 : decode prog_19_method_154_code 0 = .ok (.getstatic 38, 3) := by decide +kernel
theorem kd_lat_3 : decode prog_19_method_154_code 3 = .ok (.ifCond .eq 14, 3) := by decide +kernel
theorem kd_lat_6 : decode prog_19_method_154_code 6 = .ok (.aload_n 0, 1) := by decide +kernel
theorem kd_lat_7 : decode prog_19_method_154_code 7 = .ok (.getfield 15, 3) := by decide +kernel
theorem kd_lat_10 : decode prog_19_method_154_code 10 = .ok (.ifCond .ne 7, 3) := by decide +kernel
theorem kd_lat_13 : decode prog_19_method_154_code 13 = .ok (.iconst 1, 1) := by decide +kernel
theorem kd_lat_14 : decode prog_19_method_154_code 14 = .ok (.goto 4, 3) := by decide +kernel
theorem kd_lat_18 : decode prog_19_method_154_code 18 = .ok (.ireturn, 1) := by decide +kernel
theorem kd_cod_0 : decode prog_19_method_152_code 0 = .ok (.getstatic 38, 3) := by decide +kernel
theorem kd_cod_3 : decode prog_19_method_152_code 3 = .ok (.ifCond .eq 10, 3) := by decide +kernel
theorem kd_cod_6 : decode prog_19_method_152_code 6 = .ok (.aload_n 0, 1) := by decide +kernel
theorem kd_cod_7 : decode prog_19_method_152_code 7 = .ok (.getfield 15, 3) := by decide +kernel
theorem kd_cod_10 : decode prog_19_method_152_code 10 = .ok (.goto 4, 3) := by decide +kernel
theorem kd_cod_14 : decode prog_19_method_152_code 14 = .ok (.ireturn, 1) := by decide +kernel
theorem kd_len_0 : decode prog_19_method_54_code 0 = .ok (.aload_n 0, 1) := by decide +kernel
theorem kd_len_1 : decode prog_19_method_54_code 1 = .ok (.getfield 9, 3) := by decide +kernel
theorem kd_len_4 : decode prog_19_method_54_code 4 = .ok (.arraylength, 1) := by decide +kernel
theorem kd_len_5 : decode prog_19_method_54_code 5 = .ok (.aload_n 0, 1) := by decide +kernel
theorem kd_len_6 : decode prog_19_method_54_code 6 = .ok (.invokevirtual 335, 3) := by decide +kernel
theorem kd_len_9 : decode prog_19_method_54_code 9 = .ok (.ishr, 1) := by decide +kernel
theorem kd_len_10 : decode prog_19_method_54_code 10 = .ok (.ireturn, 1) := by decide +kernel
theorem kd_cha_0 : decode prog_19_method_56_code 0 = .ok (.aload_n 0, 1) := by decide +kernel
theorem kd_cha_1 : decode prog_19_method_56_code 1 = .ok (.invokevirtual 492, 3) := by decide +kernel
theorem kd_cha_4 : decode prog_19_method_56_code 4 = .ok (.ifCond .eq 12, 3) := by decide +kernel
theorem kd_cha_7 : decode prog_19_method_56_code 7 = .ok (.aload_n 0, 1) := by decide +kernel
theorem kd_cha_8 : decode prog_19_method_56_code 8 = .ok (.getfield 9, 3) := by decide +kernel
theorem kd_cha_11 : decode prog_19_method_56_code 11 = .ok (.iload_n 1, 1) := by decide +kernel
theorem kd_cha_12 : decode prog_19_method_56_code 12 = .ok (.invokestatic 495, 3) := by decide +kernel
theorem kd_cha_15 : decode prog_19_method_56_code 15 = .ok (.ireturn, 1) := by decide +kernel
theorem kc_preN (l : Launch) {i n : Int32}  (h0 : ¬ i < 0) (h1 : i < n) : Met l ks_pre (Cond.code ks_pre prog_24_method_11_code 3 (some .int) :: dt_G) { frames := 0, cells := 0, slots := 0, locals := 0 } (va_Pc [.int i, .int n, .null] (fun _ => True)) (ks_Q (some (.int i))) 0 0 (fun _ => False) := by
  refine Met.ofW (cc := prog_24_method_11_code) (maxL := 3) (ret := (some .int)) (by decide) rfl ?_
  intro p e s m args below meth c s₁ B hml hv
  obtain ⟨rfl, -⟩ := hv
  have hx := B.exec
  have hb := B.bytes
  have hr := B.returns
  have hlocks := B.notSynchronized
  have hts0 := atoms_spec (ws := Cond.code ks_pre prog_24_method_11_code 3 (some .int) :: dt_G) B.pre
  have hts : ∀ w ∈ dt_G, w.before _ s = true := fun w hw => hts0 w (List.mem_cons_of_mem _ hw)
  have hown : s.vm.findClass ks_P = some m.cls := findClass_of_methodNamed B.named
  have hl := lv_entry [.int i, .int n, .null] (n := 3) (Nat.le_of_ble_eq_true rfl)
  rw [lg_entry_eq]
  generalize (lg_sl [.int i, .int n, .null] ++ List.replicate (3 - (lg_sl [.int i, .int n, .null]).length) Slot.unset).toArray = ls at hl ⊢
  have hl : lv_has ls 3 [(0, .int i), (1, .int n), (2, .null)] := hl
  refine lv_iload_n hx hb kd_pre_0 rfl (lv_at hl 0 rfl) ?_
  refine lv_if_lt hx hb kd_pre_1 (tgt := 9) (by decide) (fun q => absurd q h0) (fun _ => ?_)
  refine lv_iload_n hx hb kd_pre_4 rfl (lv_at hl 0 rfl) ?_
  refine lv_iload_n hx hb kd_pre_5 rfl (lv_at hl 1 rfl) ?_
  refine lv_icmp_lt hx hb kd_pre_6 (tgt := 16) (by decide) (fun _ => ?_) (fun q => absurd h1 q)
  refine lv_iload_n hx hb kd_pre_16 rfl (lv_at hl 0 rfl) ?_
  exact W.iret hx hb hr (fun t ht _ => ⟨rfl, ht⟩) (fun q hq => by cases hq) kd_pre_17
theorem kc_preR (l : Launch) {i n : Int32} {t : Nat} (h0 : ¬ i < 0) (h1 : i < n) : Met l ks_pre (Cond.code ks_pre prog_24_method_11_code 3 (some .int) :: dt_G) { frames := 0, cells := 0, slots := 0, locals := 0 } (va_Pc [.int i, .int n, .ref t] (fun _ => True)) (ks_Q (some (.int i))) 0 0 (fun _ => False) := by
  refine Met.ofW (cc := prog_24_method_11_code) (maxL := 3) (ret := (some .int)) (by decide) rfl ?_
  intro p e s m args below meth c s₁ B hml hv
  obtain ⟨rfl, -⟩ := hv
  have hx := B.exec
  have hb := B.bytes
  have hr := B.returns
  have hlocks := B.notSynchronized
  have hts0 := atoms_spec (ws := Cond.code ks_pre prog_24_method_11_code 3 (some .int) :: dt_G) B.pre
  have hts : ∀ w ∈ dt_G, w.before _ s = true := fun w hw => hts0 w (List.mem_cons_of_mem _ hw)
  have hown : s.vm.findClass ks_P = some m.cls := findClass_of_methodNamed B.named
  have hl := lv_entry [.int i, .int n, .ref t] (n := 3) (Nat.le_of_ble_eq_true rfl)
  rw [lg_entry_eq]
  generalize (lg_sl [.int i, .int n, .ref t] ++ List.replicate (3 - (lg_sl [.int i, .int n, .ref t]).length) Slot.unset).toArray = ls at hl ⊢
  have hl : lv_has ls 3 [(0, .int i), (1, .int n), (2, .ref t)] := hl
  refine lv_iload_n hx hb kd_pre_0 rfl (lv_at hl 0 rfl) ?_
  refine lv_if_lt hx hb kd_pre_1 (tgt := 9) (by decide) (fun q => absurd q h0) (fun _ => ?_)
  refine lv_iload_n hx hb kd_pre_4 rfl (lv_at hl 0 rfl) ?_
  refine lv_iload_n hx hb kd_pre_5 rfl (lv_at hl 1 rfl) ?_
  refine lv_icmp_lt hx hb kd_pre_6 (tgt := 16) (by decide) (fun _ => ?_) (fun q => absurd h1 q)
  refine lv_iload_n hx hb kd_pre_16 rfl (lv_at hl 0 rfl) ?_
  exact W.iret hx hb hr (fun t ht _ => ⟨rfl, ht⟩) (fun q hq => by cases hq) kd_pre_17
theorem kc_chk (l : Launch) {A : Nat → Prop} {i n : Int32} (h0 : ¬ i < 0) (h1 : i < n) : Met l ks_chk (Cond.code ks_chk prog_19_method_155_code 2 none :: dt_G) { frames := 1, cells := 0, slots := 0, locals := 22 } (va_Pc [.int i, .int n] (ks_P3 A)) (ks_Q none) 0 0 (fun _ => False) := by
  refine Met.ofW (cc := prog_19_method_155_code) (maxL := 2) (ret := none) (by decide) rfl ?_
  intro p e s m args below meth c s₁ B hml hv
  obtain ⟨rfl, hZ1, hZ2⟩ := hv
  have hx := B.exec
  have hb := B.bytes
  have hr := B.returns
  have hlocks := B.notSynchronized
  have hts0 := atoms_spec (ws := Cond.code ks_chk prog_19_method_155_code 2 none :: dt_G) B.pre
  have hts : ∀ w ∈ dt_G, w.before _ s = true := fun w hw => hts0 w (List.mem_cons_of_mem _ hw)
  have hown : s.vm.findClass ks_S = some m.cls := findClass_of_methodNamed B.named
  have hl := lv_entry [.int i, .int n] (n := 2) (Nat.le_of_ble_eq_true rfl)
  rw [lg_entry_eq]
  generalize (lg_sl [.int i, .int n] ++ List.replicate (2 - (lg_sl [.int i, .int n]).length) Slot.unset).toArray = ls at hl ⊢
  have hl : lv_has ls 2 [(0, .int i), (1, .int n)] := hl
  have hS : va_S A s.heap s.heap [] := va_S.rf
  refine lv_iload_n hx hb kd_chk_0 rfl (lv_at hl 0 rfl) ?_
  refine lv_iload_n hx hb kd_chk_1 rfl (lv_at hl 1 rfl) ?_
  rcases hZ2 with hZ | ⟨t, hZ⟩
  · refine va_gets hx hb hZ hS hown (hts _ kw_f4) (fun _ h9 => h9) kd_chk_2 ?_
    refine ks_go (r := some (.int i)) (va_runS (As := [.int i, .int n, .null]) (rest := []) ⟨hx, hb, hml, hown, hts⟩ (kc_preN l h0 h1) ⟨callB_of 3 hts (ks_Gin kw_c_pre) rfl rfl rfl (hts _ kw_n_P) (hts _ kw_l5) ⟨by decide, by decide, by decide +kernel⟩ ⟨Nat.le_of_ble_eq_true rfl, Nat.le_of_ble_eq_true rfl⟩, hts _ kw_t_pre⟩ ⟨ks_b0 _, fun U hU hW => ⟨rfl, trivial⟩⟩ rfl rfl hl.1 rfl (lv_room (Nat.le_of_ble_eq_true rfl)) kd_chk_5 ⟨Nat.zero_le _, Nat.zero_le _⟩) (fun _ _ _ h => h) ?_
    refine lv_pop hx hb kd_chk_8 rfl ?_
    exact W.vret hx hb hr (fun t ht _ => ⟨rfl, ht⟩) (fun q hq => by cases hq) kd_chk_9
  · refine va_gets hx hb hZ hS hown (hts _ kw_f4) (fun _ h9 => h9) kd_chk_2 ?_
    refine ks_go (r := some (.int i)) (va_runS (As := [.int i, .int n, .ref t]) (rest := []) ⟨hx, hb, hml, hown, hts⟩ (kc_preR l h0 h1) ⟨callB_of 3 hts (ks_Gin kw_c_pre) rfl rfl rfl (hts _ kw_n_P) (hts _ kw_l5) ⟨by decide, by decide, by decide +kernel⟩ ⟨Nat.le_of_ble_eq_true rfl, Nat.le_of_ble_eq_true rfl⟩, hts _ kw_t_pre⟩ ⟨ks_b0 _, fun U hU hW => ⟨rfl, trivial⟩⟩ rfl rfl hl.1 rfl (lv_room (Nat.le_of_ble_eq_true rfl)) kd_chk_5 ⟨Nat.zero_le _, Nat.zero_le _⟩) (fun _ _ _ h => h) ?_
    refine lv_pop hx hb kd_chk_8 rfl ?_
    exact W.vret hx hb hr (fun t ht _ => ⟨rfl, ht⟩) (fun q hq => by cases hq) kd_chk_9
theorem kc_lca (l : Launch) {A : Nat → Prop} {v n : Nat} {f : Nat → Int32} {i w x : Int32} (h0 : ¬ i < 0) (hw : Int32.ofNat n = w) (h1 : i < w) (hin : vp_in i n) (hxv : ((f i.toNatClampNeg &&& 255).toUInt32 % 65536).toInt32 = x) (hxn : narrow .char (.int x) = .int x) : Met l ks_lca (Cond.code ks_lca prog_20_method_2_code 2 (some .char) :: dt_G) { frames := 2, cells := 0, slots := 0, locals := 43 } (va_Pc [.ref v, .int i] (ks_P2 A v n f)) (ks_Q (some (.int x))) 0 0 (fun _ => False) := by
  refine Met.ofW (cc := prog_20_method_2_code) (maxL := 2) (ret := (some .char)) (by decide) rfl ?_
  intro p e s m args below meth c s₁ B hml hv
  obtain ⟨rfl, hZ, hT⟩ := hv
  have hx := B.exec
  have hb := B.bytes
  have hr := B.returns
  have hlocks := B.notSynchronized
  have hts0 := atoms_spec (ws := Cond.code ks_lca prog_20_method_2_code 2 (some .char) :: dt_G) B.pre
  have hts : ∀ w ∈ dt_G, w.before _ s = true := fun w hw => hts0 w (List.mem_cons_of_mem _ hw)
  have hown : s.vm.findClass ks_L = some m.cls := findClass_of_methodNamed B.named
  have hl := lv_entry [.ref v, .int i] (n := 2) (Nat.le_of_ble_eq_true rfl)
  rw [lg_entry_eq]
  generalize (lg_sl [.ref v, .int i] ++ List.replicate (2 - (lg_sl [.ref v, .int i]).length) Slot.unset).toArray = ls at hl ⊢
  have hl : lv_has ls 2 [(0, .ref v), (1, .int i)] := hl
  have hS : va_S A s.heap s.heap [] := va_S.rf
  refine lv_iload_n hx hb kd_lca_0 rfl (lv_at hl 1 rfl) ?_
  refine lv_aload_n hx hb kd_lca_1 rfl (lv_at hl 0 rfl) ?_
  refine va_tlen hx hb hT hS hw kd_lca_2 ?_
  refine ks_go (r := none) (va_runS (As := [.int i, .int w]) (rest := []) ⟨hx, hb, hml, hown, hts⟩ (kc_chk l (A := A) h0 h1) ⟨callB_of 2 hts (ks_Gin kw_c_chk) rfl rfl rfl (hts _ kw_n_S) (hts _ kw_l4) ⟨by decide, by decide, by decide +kernel⟩ ⟨Nat.le_of_ble_eq_true rfl, Nat.le_of_ble_eq_true rfl⟩, hts _ kw_t_chk⟩ ⟨ks_b3 _, fun U hU hW => ⟨rfl, by show ks_st A U U.heap; rw [hU]; exact hZ.moved hW.alike⟩⟩ rfl rfl hl.1 rfl (lv_room (Nat.le_of_ble_eq_true rfl)) kd_lca_3 ⟨Nat.zero_le _, Nat.zero_le _⟩) (fun _ _ _ h => h) ?_
  refine lv_aload_n hx hb kd_lca_6 rfl (lv_at hl 0 rfl) ?_
  refine lv_iload_n hx hb kd_lca_7 rfl (lv_at hl 1 rfl) ?_
  refine va_tb hx hb hT hS hin rfl kd_lca_8 ?_
  refine lv_sipush (v := 255) hx hb kd_lca_9 (by decide) ?_
  refine lv_iand hx hb kd_lca_12 ?_
  refine lv_i2c hx hb kd_lca_13 hxv ?_
  exact W.zret hx hb hr hxn (fun t ht _ => ⟨rfl, ht⟩) (fun q hq => by cases hq) kd_lca_14
theorem kc_lat (l : Launch) {A : Nat → Prop} {a n : Nat} {f : Nat → Int32} : Met l ks_lat (Cond.code ks_lat prog_19_method_154_code 1 (some .boolean) :: dt_G) { frames := 0, cells := 0, slots := 0, locals := 0 } (va_Pc [.ref a] (ks_P1 A a n f)) (ks_Q (some (.int 1))) 0 0 (fun _ => False) := by
  refine Met.ofW (cc := prog_19_method_154_code) (maxL := 1) (ret := (some .boolean)) (by decide) rfl ?_
  intro p e s m args below meth c s₁ B hml hv
  obtain ⟨rfl, hZ, hO, hC, hV⟩ := hv
  have hx := B.exec
  have hb := B.bytes
  have hr := B.returns
  have hlocks := B.notSynchronized
  have hts0 := atoms_spec (ws := Cond.code ks_lat prog_19_method_154_code 1 (some .boolean) :: dt_G) B.pre
  have hts : ∀ w ∈ dt_G, w.before _ s = true := fun w hw => hts0 w (List.mem_cons_of_mem _ hw)
  have hown : s.vm.findClass ks_S = some m.cls := findClass_of_methodNamed B.named
  have hl := lv_entry [.ref a] (n := 1) (Nat.le_of_ble_eq_true rfl)
  rw [lg_entry_eq]
  generalize (lg_sl [.ref a] ++ List.replicate (1 - (lg_sl [.ref a]).length) Slot.unset).toArray = ls at hl ⊢
  have hl : lv_has ls 1 [(0, .ref a)] := hl
  have hS : va_S A s.heap s.heap [] := va_S.rf
  refine va_gets hx hb hZ.1 hS hown (hts _ kw_f1) (fun _ h9 => h9) kd_lat_0 ?_
  refine lv_if_eq hx hb kd_lat_3 (tgt := 17) (by decide) (fun q => absurd q (by decide)) (fun _ => ?_)
  refine lv_aload_n hx hb kd_lat_6 rfl (lv_at hl 0 rfl) ?_
  refine vk_getf hx hb hC hS hown (hts _ kw_f2) (fun _ h9 => h9) kd_lat_7 ?_
  refine lv_if_ne hx hb kd_lat_10 (tgt := 17) (by decide) (fun q => absurd rfl q) (fun _ => ?_)
  refine lv_iconst (v := 1) hx hb kd_lat_13 (by decide) ?_
  refine lv_goto hx hb kd_lat_14 (tgt := 18) (by decide) ?_
  exact W.zret hx hb hr rfl (fun t ht _ => ⟨rfl, ht⟩) (fun q hq => by cases hq) kd_lat_18
theorem kc_cod (l : Launch) {A : Nat → Prop} {a n : Nat} {f : Nat → Int32} : Met l ks_cod (Cond.code ks_cod prog_19_method_152_code 1 (some .byte) :: dt_G) { frames := 0, cells := 0, slots := 0, locals := 0 } (va_Pc [.ref a] (ks_P1 A a n f)) (ks_Q (some (.int 0))) 0 0 (fun _ => False) := by
  refine Met.ofW (cc := prog_19_method_152_code) (maxL := 1) (ret := (some .byte)) (by decide) rfl ?_
  intro p e s m args below meth c s₁ B hml hv
  obtain ⟨rfl, hZ, hO, hC, hV⟩ := hv
  have hx := B.exec
  have hb := B.bytes
  have hr := B.returns
  have hlocks := B.notSynchronized
  have hts0 := atoms_spec (ws := Cond.code ks_cod prog_19_method_152_code 1 (some .byte) :: dt_G) B.pre
  have hts : ∀ w ∈ dt_G, w.before _ s = true := fun w hw => hts0 w (List.mem_cons_of_mem _ hw)
  have hown : s.vm.findClass ks_S = some m.cls := findClass_of_methodNamed B.named
  have hl := lv_entry [.ref a] (n := 1) (Nat.le_of_ble_eq_true rfl)
  rw [lg_entry_eq]
  generalize (lg_sl [.ref a] ++ List.replicate (1 - (lg_sl [.ref a]).length) Slot.unset).toArray = ls at hl ⊢
  have hl : lv_has ls 1 [(0, .ref a)] := hl
  have hS : va_S A s.heap s.heap [] := va_S.rf
  refine va_gets hx hb hZ.1 hS hown (hts _ kw_f1) (fun _ h9 => h9) kd_cod_0 ?_
  refine lv_if_eq hx hb kd_cod_3 (tgt := 13) (by decide) (fun q => absurd q (by decide)) (fun _ => ?_)
  refine lv_aload_n hx hb kd_cod_6 rfl (lv_at hl 0 rfl) ?_
  refine vk_getf hx hb hC hS hown (hts _ kw_f2) (fun _ h9 => h9) kd_cod_7 ?_
  refine lv_goto hx hb kd_cod_10 (tgt := 14) (by decide) ?_
  exact W.zret hx hb hr rfl (fun t ht _ => ⟨rfl, ht⟩) (fun q hq => by cases hq) kd_cod_14
theorem kc_len (l : Launch) {A : Nat → Prop} {a n : Nat} {f : Nat → Int32} {w : Int32} (hw : Int32.ofNat n = w) : Met l ks_len (Cond.code ks_len prog_19_method_54_code 1 (some .int) :: dt_G) { frames := 1, cells := 0, slots := 0, locals := 20 } (va_Pc [.ref a] (ks_P1 A a n f)) (ks_Q (some (.int w))) 0 0 (fun _ => False) := by
  refine Met.ofW (cc := prog_19_method_54_code) (maxL := 1) (ret := (some .int)) (by decide) rfl ?_
  intro p e s m args below meth c s₁ B hml hv
  obtain ⟨rfl, hZ, hO, hC, vv, hV, hT⟩ := hv
  have hx := B.exec
  have hb := B.bytes
  have hr := B.returns
  have hlocks := B.notSynchronized
  have hts0 := atoms_spec (ws := Cond.code ks_len prog_19_method_54_code 1 (some .int) :: dt_G) B.pre
  have hts : ∀ w ∈ dt_G, w.before _ s = true := fun w hw => hts0 w (List.mem_cons_of_mem _ hw)
  have hown : s.vm.findClass ks_S = some m.cls := findClass_of_methodNamed B.named
  have hl := lv_entry [.ref a] (n := 1) (Nat.le_of_ble_eq_true rfl)
  rw [lg_entry_eq]
  generalize (lg_sl [.ref a] ++ List.replicate (1 - (lg_sl [.ref a]).length) Slot.unset).toArray = ls at hl ⊢
  have hl : lv_has ls 1 [(0, .ref a)] := hl
  have hS : va_S A s.heap s.heap [] := va_S.rf
  refine lv_aload_n hx hb kd_len_0 rfl (lv_at hl 0 rfl) ?_
  refine vk_getf hx hb hV hS hown (hts _ kw_f3) (fun _ h9 => h9) kd_len_1 ?_
  refine va_tlen hx hb hT hS hw kd_len_4 ?_
  refine lv_aload_n hx hb kd_len_5 rfl (lv_at hl 0 rfl) ?_
  refine ks_go (r := some (.int 0)) (va_runV (C := ks_S) (As := []) (rest := [.int w]) ⟨hx, hb, hml, hown, hts⟩ (kc_cod l (A := A) (a := a) (n := n) (f := f)) ⟨callB_of 0 hts (ks_Gin kw_c_cod) rfl rfl rfl (hts _ kw_n_S) (hts _ kw_l1) ⟨by decide, by decide, by decide +kernel⟩ ⟨Nat.le_of_ble_eq_true rfl, Nat.le_of_ble_eq_true rfl⟩, hts _ kw_i_cod, hts _ kw_s_cod⟩ ⟨ks_b1 _, by obtain ⟨ce, g1, g2, g3, -⟩ := hO; exact ⟨ce, g1, g2, g3⟩, fun U hU hW => ⟨rfl, by show ks_st A U U.heap; rw [hU]; exact hZ.moved hW.alike, by show ks_at a n f A U U.heap; rw [hU]; exact ks_at.moved hW.alike ⟨hO, hC, vv, hV, hT⟩⟩⟩ rfl rfl hl.1 rfl (lv_room (Nat.le_of_ble_eq_true rfl)) kd_len_6 ⟨Nat.zero_le _, Nat.zero_le _⟩) (fun _ _ _ h => h) ?_
  refine lv_ishr hx hb kd_len_9 ?_
  have hz : w >>> ((0 : Int32) &&& 31) = w := by simp
  rw [hz]
  exact W.iret hx hb hr (fun t ht _ => ⟨rfl, ht⟩) (fun q hq => by cases hq) kd_len_10
theorem kc_cha (l : Launch) {A : Nat → Prop} {a n : Nat} {f : Nat → Int32} {i w x : Int32} (h0 : ¬ i < 0) (hw : Int32.ofNat n = w) (h1 : i < w) (hin : vp_in i n) (hxv : ((f i.toNatClampNeg &&& 255).toUInt32 % 65536).toInt32 = x) (hxn : narrow .char (.int x) = .int x) : Met l ks_cha (Cond.code ks_cha prog_19_method_56_code 2 (some .char) :: dt_G) { frames := 3, cells := 0, slots := 0, locals := 64 } (va_Pc [.ref a, .int i] (ks_P1 A a n f)) (ks_Q (some (.int x))) 0 0 (fun _ => False) := by
  refine Met.ofW (cc := prog_19_method_56_code) (maxL := 2) (ret := (some .char)) (by decide) rfl ?_
  intro p e s m args below meth c s₁ B hml hv
  obtain ⟨rfl, hZ, hO, hC, vv, hV, hT⟩ := hv
  have hx := B.exec
  have hb := B.bytes
  have hr := B.returns
  have hlocks := B.notSynchronized
  have hts0 := atoms_spec (ws := Cond.code ks_cha prog_19_method_56_code 2 (some .char) :: dt_G) B.pre
  have hts : ∀ w ∈ dt_G, w.before _ s = true := fun w hw => hts0 w (List.mem_cons_of_mem _ hw)
  have hown : s.vm.findClass ks_S = some m.cls := findClass_of_methodNamed B.named
  have hl := lv_entry [.ref a, .int i] (n := 2) (Nat.le_of_ble_eq_true rfl)
  rw [lg_entry_eq]
  generalize (lg_sl [.ref a, .int i] ++ List.replicate (2 - (lg_sl [.ref a, .int i]).length) Slot.unset).toArray = ls at hl ⊢
  have hl : lv_has ls 2 [(0, .ref a), (1, .int i)] := hl
  have hS : va_S A s.heap s.heap [] := va_S.rf
  refine lv_aload_n hx hb kd_cha_0 rfl (lv_at hl 0 rfl) ?_
  refine ks_go (r := some (.int 1)) (va_runV (C := ks_S) (As := []) (rest := []) ⟨hx, hb, hml, hown, hts⟩ (kc_lat l (A := A) (a := a) (n := n) (f := f)) ⟨callB_of 0 hts (ks_Gin kw_c_lat) rfl rfl rfl (hts _ kw_n_S) (hts _ kw_l2) ⟨by decide, by decide, by decide +kernel⟩ ⟨Nat.le_of_ble_eq_true rfl, Nat.le_of_ble_eq_true rfl⟩, hts _ kw_i_lat, hts _ kw_s_lat⟩ ⟨ks_b1 _, by obtain ⟨ce, g1, g2, g3, -⟩ := hO; exact ⟨ce, g1, g2, g3⟩, fun U hU hW => ⟨rfl, by show ks_st A U U.heap; rw [hU]; exact hZ.moved hW.alike, by show ks_at a n f A U U.heap; rw [hU]; exact ks_at.moved hW.alike ⟨hO, hC, vv, hV, hT⟩⟩⟩ rfl rfl hl.1 rfl (lv_room (Nat.le_of_ble_eq_true rfl)) kd_cha_1 ⟨Nat.zero_le _, Nat.zero_le _⟩) (fun _ _ _ h => h) ?_
  refine lv_if_eq hx hb kd_cha_4 (tgt := 16) (by decide) (fun q => absurd q (by decide)) (fun _ => ?_)
  refine lv_aload_n hx hb kd_cha_7 rfl (lv_at hl 0 rfl) ?_
  refine vk_getf hx hb hV hS hown (hts _ kw_f3) (fun _ h9 => h9) kd_cha_8 ?_
  refine lv_iload_n hx hb kd_cha_11 rfl (lv_at hl 1 rfl) ?_
  refine ks_go (r := some (.int x)) (va_runS (As := [.ref vv, .int i]) (rest := []) ⟨hx, hb, hml, hown, hts⟩ (kc_lca l (A := A) (v := vv) (n := n) (f := f) h0 hw h1 hin hxv hxn) ⟨callB_of 2 hts (ks_Gin kw_c_lca) rfl rfl rfl (hts _ kw_n_L) (hts _ kw_l3) ⟨by decide, by decide, by decide +kernel⟩ ⟨Nat.le_of_ble_eq_true rfl, Nat.le_of_ble_eq_true rfl⟩, hts _ kw_t_lca⟩ ⟨ks_b2 _, fun U hU hW => ⟨rfl, by show ks_st A U U.heap; rw [hU]; exact hZ.moved hW.alike, by show va_T .byte vv n (fun j => .int (f j)) A U U.heap; rw [hU]; exact va_T.moved hW.alike hT⟩⟩ rfl rfl hl.1 rfl (lv_room (Nat.le_of_ble_eq_true rfl)) kd_cha_12 ⟨Nat.zero_le _, Nat.zero_le _⟩) (fun _ _ _ h => h) ?_
  exact W.zret hx hb hr hxn (fun t ht _ => ⟨rfl, ht⟩) (fun q hq => by cases hq) kd_cha_15
