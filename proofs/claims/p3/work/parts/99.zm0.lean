/-! DOUBLES: bounds of their sizes; none that is no number -/
def DB (K : Nat) (a : UInt64) : Prop := a.toNat % 2 ^ 63 < K * 2 ^ 52
theorem DB_c {K : Nat} {a : UInt64} (h : DB K a) (hK : K ≤ 2047) : a &&& 0x7fffffffffffffff ≤ 0x7ff0000000000000 := by
  rw [UInt64.le_iff_toNat_le, UInt64.toNat_and]
  show a.toNat &&& (2 ^ 63 - 1) ≤ 9218868437227405312
  rw [Nat.and_two_pow_sub_one_eq_mod]
  unfold DB at h
  omega
theorem d_i2d (x : Int) : ∃ v : UInt64, (∀ (lv : List (Option eV)) (st : List eV), ev_s .i2d lv (eI x :: st) = some (lv, eD v :: st)) ∧ DB 1056 v := ⟨_, fun _ _ => rfl, Jvm.FP.Core.i2d_mag _⟩
theorem d_dmul {a b : UInt64} {Ka Kb K : Nat} (ha : DB Ka a) (hb : DB Kb b) (h1 : Ka ≤ 2047) (h2 : Kb ≤ 2047) (h3 : Ka + Kb - 1025 + 3 = K) (h4 : K ≤ 2047) : ∃ v : UInt64, (∀ (lv : List (Option eV)) (st : List eV), ev_s .dmul lv (eD b :: eD a :: st) = some (lv, eD v :: st)) ∧ DB K v := by
  have h5 : DB K (FP.dmul a b) := by
    subst h3
    exact Jvm.FP.Core.dmul_mag ha hb h1 h2
  exact ⟨FP.dmul a b, fun lv st => by show Option.map _ (if _ then _ else _) = _; rw [if_pos (DB_c h5 h4)]; rfl, h5⟩
theorem d_dadd {a b : UInt64} {K K2 : Nat} (ha : DB K a) (hb : DB K b) (h1 : K ≤ 2045) (h2 : K + 2 = K2) : ∃ v : UInt64, (∀ (lv : List (Option eV)) (st : List eV), ev_s .dadd lv (eD b :: eD a :: st) = some (lv, eD v :: st)) ∧ DB K2 v := by
  have h5 : DB K2 (FP.dadd a b) := by
    subst h2
    exact Jvm.FP.Core.dadd_mag ha hb (by omega)
  exact ⟨FP.dadd a b, fun lv st => by show Option.map _ (if _ then _ else _) = _; rw [if_pos (DB_c h5 (by omega))]; rfl, h5⟩
theorem d_dsub {a b : UInt64} {K K2 : Nat} (ha : DB K a) (hb : DB K b) (h1 : K ≤ 2045) (h2 : K + 2 = K2) : ∃ v : UInt64, (∀ (lv : List (Option eV)) (st : List eV), ev_s .dsub lv (eD b :: eD a :: st) = some (lv, eD v :: st)) ∧ DB K2 v := by
  have h5 : DB K2 (FP.dsub a b) := by
    subst h2
    exact Jvm.FP.Core.dsub_mag ha hb (by omega)
  exact ⟨FP.dsub a b, fun lv st => by show Option.map _ (if _ then _ else _) = _; rw [if_pos (DB_c h5 (by omega))]; rfl, h5⟩
theorem DB.up {K K2 : Nat} {a : UInt64} (h : DB K a) (hK : K ≤ K2) : DB K2 a := by
  unfold DB at h ⊢
  omega
/-- a float that is a number -/
def FN (a : UInt32) : Prop := a &&& 0x7fffffff ≤ 0x7f800000
theorem d_d2f {a : UInt64} {K : Nat} (ha : DB K a) (hK : K ≤ 2047) : ∃ v : UInt32, (∀ (lv : List (Option eV)) (st : List eV), ev_s .d2f lv (eD a :: st) = some (lv, eF v :: st)) ∧ FN v := by
  have h1 : Jvm.FP.Core.dIsNaN a = false := by
    rw [Bool.eq_false_iff]
    intro h
    have h2 := (Jvm.FP.Core.isNaN_bits a).mp h
    unfold DB at ha
    omega
  have h3 := Jvm.FP.Core.d2f_out h1
  have h4 : FN (FP.d2f a) := by
    show FP.d2f a &&& 0x7fffffff ≤ 0x7f800000
    rw [UInt32.le_iff_toNat_le, UInt32.toNat_and]
    show (FP.d2f a).toNat &&& (2 ^ 31 - 1) ≤ 2139095040
    rw [Nat.and_two_pow_sub_one_eq_mod]
    have h5 : ¬ 2139095040 < (FP.d2f a).toNat % 2 ^ 31 := fun h6 => by
      have h7 := (Jvm.FP.Core.isNaN_bits32 (FP.d2f a)).mpr h6
      have h8 : Jvm.FP.Core.fIsNaN (FP.d2f a) = false := h3
      rw [h8] at h7
      cases h7
    omega
  exact ⟨FP.d2f a, fun lv st => by show Option.map _ (if _ then _ else _) = _; rw [if_pos h4]; rfl, h4⟩
theorem d_fcmp (o : Jvm.ClassFile.CmpOp) (a b : UInt32) : ∃ v : Int, (∀ (lv : List (Option eV)) (st : List eV), ev_s (.fcmp o) lv (eF b :: eF a :: st) = some (lv, eI v :: st)) ∧ (-2147483648 ≤ v ∧ v ≤ 2147483647) := ⟨_, fun _ _ => rfl, ev_i32 _⟩
