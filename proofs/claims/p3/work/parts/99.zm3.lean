/-! DOUBLES: bounds of their sizes; none that is no number -/
def DB (K : Nat) (a : UInt64) : Prop := a.toNat % 2 ^ 63 < K * 2 ^ 52
theorem DB_c {K : Nat} {a : UInt64} (h : DB K a) (hK : K ≤ 2047) : a &&& 0x7fffffffffffffff ≤ 0x7ff0000000000000 := by
  rw [UInt64.le_iff_toNat_le, UInt64.toNat_and]
  show a.toNat &&& (2 ^ 63 - 1) ≤ 9218868437227405312
  rw [Nat.and_two_pow_sub_one_eq_mod]
  unfold DB at h
  omega
theorem d_i2d (x : Int) : ∃ v : UInt64, (∀ (lv : List (Option eV)) (st : List eV), ev_s .i2d lv (eI x :: st) = some (lv, eD v :: st)) ∧ DB 1056 v := ⟨_, fun _ _ => rfl, Jvm.FP.Core.i2d_mag _⟩
theorem d_dmul {a b : UInt64} {Ka Kb K : Nat} (ha : DB Ka a) (hb : DB Kb b) (h1 : Ka ≤ 2047) (h2 : Kb ≤ 2047) (h3 : Ka + Kb - 1025 + 3 = K) (h4 : K ≤ 2047) : ∃ v : UInt64, (∀ (lv : List (Option eV)) (st : List eV), ev_s .dmul lv (eD b :: eD a :: st) = some (lv, eD v :: st)) ∧ DB K v := by
  have h5 : DB K (FP.dmul a b) := by
    subst h3
    exact Jvm.FP.Core.dmul_mag ha hb h1 h2
  exact ⟨FP.dmul a b, fun lv st => by show Option.map _ (if _ then _ else _) = _; rw [if_pos (DB_c h5 h4)]; rfl, h5⟩
theorem d_dadd {a b : UInt64} {K K2 : Nat} (ha : DB K a) (hb : DB K b) (h1 : K ≤ 2045) (h2 : K + 2 = K2) : ∃ v : UInt64, (∀ (lv : List (Option eV)) (st : List eV), ev_s .dadd lv (eD b :: eD a :: st) = some (lv, eD v :: st)) ∧ DB K2 v := by
  have h5 : DB K2 (FP.dadd a b) := by
    subst h2
    exact Jvm.FP.Core.dadd_mag ha hb (by omega)
  exact ⟨FP.dadd a b, fun lv st => by show Option.map _ (if _ then _ else _) = _; rw [if_pos (DB_c h5 (by omega))]; rfl, h5⟩
theorem d_dsub {a b : UInt64} {K K2 : Nat} (ha : DB K a) (hb : DB K b) (h1 : K ≤ 2045) (h2 : K + 2 = K2) : ∃ v : UInt64, (∀ (lv : List (Option eV)) (st : List eV), ev_s .dsub lv (eD b :: eD a :: st) = some (lv, eD v :: st)) ∧ DB K2 v := by
  have h5 : DB K2 (FP.dsub a b) := by
    subst h2
    exact Jvm.FP.Core.dsub_mag ha hb (by omega)
  exact ⟨FP.dsub a b, fun lv st => by show Option.map _ (if _ then _ else _) = _; rw [if_pos (DB_c h5 (by omega))]; rfl, h5⟩
theorem DB.up {K K2 : Nat} {a : UInt64} (h : DB K a) (hK : K ≤ K2) : DB K2 a := Nat.lt_of_lt_of_le h (Nat.mul_le_mul_right _ hK)
/-- a float that is a number -/
def FN (a : UInt32) : Prop := a &&& 0x7fffffff ≤ 0x7f800000
theorem d_fcmp (o : Jvm.ClassFile.CmpOp) (a b : UInt32) : ∃ v : Int, (∀ (lv : List (Option eV)) (st : List eV), ev_s (.fcmp o) lv (eF b :: eF a :: st) = some (lv, eI v :: st)) ∧ (-2147483648 ≤ v ∧ v ≤ 2147483647) := ⟨_, fun _ _ => rfl, ev_i32 _⟩
/-! DOUBLES: none that is no number -/
def NN (a : UInt64) : Prop := a &&& 0x7fffffffffffffff ≤ 0x7ff0000000000000
theorem NN_bits {a : UInt64} : NN a ↔ a.toNat % 2 ^ 63 ≤ 9218868437227405312 := by
  unfold NN
  rw [UInt64.le_iff_toNat_le, UInt64.toNat_and]
  show a.toNat &&& (2 ^ 63 - 1) ≤ 9218868437227405312 ↔ _
  rw [Nat.and_two_pow_sub_one_eq_mod]
theorem NN_nan {a : UInt64} : NN a ↔ Jvm.FP.Core.dIsNaN a = false := by
  rw [NN_bits, Bool.eq_false_iff]
  have h := Jvm.FP.Core.isNaN_bits a
  constructor
  · intro h1 h2
    have := h.mp h2
    omega
  · intro h1
    have h2 : ¬ 9218868437227405312 < a.toNat % 2 ^ 63 := fun h2 => h1 (h.mpr h2)
    omega
theorem FN_bits {a : UInt32} : FN a ↔ a.toNat % 2 ^ 31 ≤ 2139095040 := by
  unfold FN
  rw [UInt32.le_iff_toNat_le, UInt32.toNat_and]
  show a.toNat &&& (2 ^ 31 - 1) ≤ 2139095040 ↔ _
  rw [Nat.and_two_pow_sub_one_eq_mod]
theorem FN_nan {a : UInt32} : FN a ↔ Jvm.FP.Core.fIsNaN a = false := by
  rw [FN_bits, Bool.eq_false_iff]
  have h := Jvm.FP.Core.isNaN_bits32 a
  constructor
  · intro h1 h2
    have := h.mp h2
    omega
  · intro h1
    have h2 : ¬ 2139095040 < a.toNat % 2 ^ 31 := fun h2 => h1 (h.mpr h2)
    omega
theorem DB.nn {K : Nat} {a : UInt64} (h : DB K a) (hK : K ≤ 2047) : NN a := DB_c h hK
theorem c_d2f {a : UInt64} (h1 : Jvm.FP.Core.dIsNaN a = false) : FP.d2f a = Jvm.FP.Core.d2f a := by
  show (if Jvm.FP.Core.dIsNaN a = true then _ else _) = _
  rw [if_neg (by rw [h1]; exact Bool.false_ne_true)]
theorem c_f2d {a : UInt32} (h1 : Jvm.FP.Core.fIsNaN a = false) : FP.f2d a = Jvm.FP.Core.f2d a := by
  show (if Jvm.FP.Core.fIsNaN a = true then _ else _) = _
  rw [if_neg (by rw [h1]; exact Bool.false_ne_true)]
theorem d_d2f {a : UInt64} {K : Nat} (ha : DB K a) (hK : K ≤ 2047) : ∃ v : UInt32, (∀ (lv : List (Option eV)) (st : List eV), ev_s .d2f lv (eD a :: st) = some (lv, eF v :: st)) ∧ FN v := by
  have h1 : Jvm.FP.Core.dIsNaN a = false := NN_nan.mp (ha.nn hK)
  have h4 : FN (FP.d2f a) := by
    rw [c_d2f h1]
    exact FN_nan.mpr (Jvm.FP.Core.d2f_out h1)
  exact ⟨FP.d2f a, fun lv st => by show Option.map _ (if _ then _ else _) = _; rw [if_pos (show FP.d2f a &&& 0x7fffffff ≤ 0x7f800000 from h4)]; rfl, h4⟩
theorem DB.fin {K : Nat} {a : UInt64} (h : DB K a) (hK : K ≤ 2047) : Jvm.FP.Core.DFin a := by
  rw [Jvm.FP.Core.fin_bits]
  unfold DB at h
  omega
theorem DB_1 : DB 1024 FP.dconst1 := by
  unfold DB
  decide +kernel
theorem d_dmulN {a b : UInt64} {K : Nat} (ha : NN a) (hb : DB K b) (h1 : K ≤ 2047) (h0 : b.toNat % 2 ^ 63 ≠ 0) : ∃ v : UInt64, (∀ (lv : List (Option eV)) (st : List eV), ev_s .dmul lv (eD b :: eD a :: st) = some (lv, eD v :: st)) ∧ NN v := by
  have h5 : NN (FP.dmul a b) := NN_nan.mpr (Jvm.FP.Core.dmul_out' (NN_nan.mp ha) (hb.fin h1) (fun z => h0 ((Jvm.FP.Core.zero_bits2 b).mp z)))
  exact ⟨FP.dmul a b, fun lv st => by show Option.map _ (if _ then _ else _) = _; rw [if_pos (show FP.dmul a b &&& 0x7fffffffffffffff ≤ 0x7ff0000000000000 from h5)]; rfl, h5⟩
theorem d_ddivN {a b : UInt64} {K : Nat} (ha : NN a) (hb : DB K b) (h1 : K ≤ 2047) (h0 : b.toNat % 2 ^ 63 ≠ 0) : ∃ v : UInt64, (∀ (lv : List (Option eV)) (st : List eV), ev_s .ddiv lv (eD b :: eD a :: st) = some (lv, eD v :: st)) ∧ NN v := by
  have h5 : NN (FP.ddiv a b) := NN_nan.mpr (Jvm.FP.Core.ddiv_out (NN_nan.mp ha) (hb.fin h1) (fun z => h0 ((Jvm.FP.Core.zero_bits2 b).mp z)))
  exact ⟨FP.ddiv a b, fun lv st => by show Option.map _ (if _ then _ else _) = _; rw [if_pos (show FP.ddiv a b &&& 0x7fffffffffffffff ≤ 0x7ff0000000000000 from h5)]; rfl, h5⟩
theorem d_dsubN {a b : UInt64} {K : Nat} (ha : NN a) (hb : DB K b) (h1 : K ≤ 2047) : ∃ v : UInt64, (∀ (lv : List (Option eV)) (st : List eV), ev_s .dsub lv (eD b :: eD a :: st) = some (lv, eD v :: st)) ∧ NN v := by
  have h5 : NN (FP.dsub a b) := NN_nan.mpr (Jvm.FP.Core.dsub_out (NN_nan.mp ha) (hb.fin h1))
  exact ⟨FP.dsub a b, fun lv st => by show Option.map _ (if _ then _ else _) = _; rw [if_pos (show FP.dsub a b &&& 0x7fffffffffffffff ≤ 0x7ff0000000000000 from h5)]; rfl, h5⟩
theorem d_dcmp (o : Jvm.ClassFile.CmpOp) (a b : UInt64) : ∃ v : Int, (∀ (lv : List (Option eV)) (st : List eV), ev_s (.dcmp o) lv (eD b :: eD a :: st) = some (lv, eI v :: st)) ∧ (-2147483648 ≤ v ∧ v ≤ 2147483647) := ⟨_, fun _ _ => rfl, ev_i32 _⟩
theorem d_d2i (a : UInt64) : ∃ v : Int, (∀ (lv : List (Option eV)) (st : List eV), ev_s .d2i lv (eD a :: st) = some (lv, eI v :: st)) ∧ (-2147483648 ≤ v ∧ v ≤ 2147483647) := ⟨_, fun _ _ => rfl, ev_i32 _⟩
theorem d_fneg {a : UInt32} (ha : FN a) : ∃ v : UInt32, (∀ (lv : List (Option eV)) (st : List eV), ev_s .fneg lv (eF a :: st) = some (lv, eF v :: st)) ∧ FN v := by
  refine ⟨FP.fneg a, fun _ _ => rfl, ?_⟩
  rw [FN_bits] at ha ⊢
  show (a ^^^ 0x80000000).toNat % 2 ^ 31 ≤ 2139095040
  rw [UInt32.toNat_xor, Nat.xor_mod_two_pow]
  show a.toNat % 2 ^ 31 ^^^ 0 ≤ 2139095040
  rw [Nat.xor_zero]
  exact ha
theorem d_f2d {a : UInt32} (ha : FN a) : ∃ v : UInt64, (∀ (lv : List (Option eV)) (st : List eV), ev_s .f2d lv (eF a :: st) = some (lv, eD v :: st)) ∧ NN v := by
  have h5 : NN (FP.f2d a) := by
    rw [c_f2d (FN_nan.mp ha)]
    exact NN_nan.mpr (Jvm.FP.Core.f2d_out (FN_nan.mp ha))
  exact ⟨FP.f2d a, fun lv st => by show Option.map _ (if _ then _ else _) = _; rw [if_pos (show FP.f2d a &&& 0x7fffffffffffffff ≤ 0x7ff0000000000000 from h5)]; rfl, h5⟩
theorem b_rd {fg : eG} {rc : eQ} {d y pc : Nat} {x : Int} {lv : List (Option eV)} {F : List eFr} {μ : eM} {n : Nat} {v : UInt64} {z : Nat × Nat × Nat × Nat} {f : eFr} (hr : (dt_co y).get pc = (pc, .dreturn, n, z, x)) (h2 : (dt_pl y).2.1 = 4) (K : ex_q fg rc (d + 1, (f.1, f.2.1, f.2.2.1, eD v :: f.2.2.2), F, μ)) : ex_q fg rc (d, (y, pc, lv, [eD v]), f :: F, μ) := by
  refine w_rt (r := some (eD v)) hr rfl ?_ K
  show (if (dt_pl y).2.1 = 4 then some (some (eD v)) else none) = _
  rw [if_pos h2]
/-! rows of doubles -/
theorem v_ld {fg : eG} {rc : eQ} {d y pc np b t pl idx : Nat} {x : Int} {c : UInt64} {lv : List (Option eV)} {st : List eV} {F : List eFr} {μ : eM} (hr : (dt_co y).get pc = (pc, .ldc2_w idx, 3, (2, b, t, pl), x)) (hp : pc + 3 = np) (e : UInt64.ofNat x.toNat = c) (K : ex_q fg rc (d, (y, np, lv, eD c :: st), F, μ)) : ex_q fg rc (d, (y, pc, lv, st), F, μ) := by
  subst hp
  subst e
  exact ex_q_1 (xs_m hr rfl rfl) K
theorem v_fb {fg : eG} {rc : eQ} {d y pc np b t pl idx : Nat} {x : Int} {z : UInt32} {lv : List (Option eV)} {st : List eV} {F : List eFr} {μ : eM} (hr : (dt_co y).get pc = (pc, .invokestatic idx, 3, (24, b, t, pl), x)) (hp : pc + 3 = np) (h9 : Nat.ble (st.map ev_cat).sum 8 = true) (K : ∀ v : Int, (-2147483648 ≤ v ∧ v ≤ 2147483647) → ex_q fg rc (d + 1, (y, np, lv, eI v :: st), F, μ)) : ex_q fg rc (d + 1, (y, pc, lv, eF z :: st), F, μ) := by
  subst hp
  refine ex_q_1 (xs_o (st' := eI z.toInt32.toInt :: st) (μ' := μ) hr rfl ?_) (K _ (ev_i32 _))
  show (if 24 = 24 ∧ 0 < d + 1 ∧ (st.map ev_cat).sum ≤ 8 then some (eI z.toInt32.toInt :: st, μ) else none) = _
  rw [if_pos ⟨rfl, by omega, Nat.ble_eq.mp h9⟩]
