/-! METHODS AS FUNCTIONS OF NUMBERS: values. An int is a number (its bits, by 32), a long likewise by 64, a reference its own number -/
theorem z_bne {p q : Nat} (h : Nat.beq p q = false) : p ≠ q := by
  intro e
  subst e
  rw [Nat.beq_refl] at h
  cases h
def zI (c : Nat) : Int := sg32 (c % 4294967296)
def zJ (c : Nat) : Int := sg64 (c % 18446744073709551616)
noncomputable def z_l (x : Nat) (K : Nat → Bool) : Bool := K x
noncomputable def z_f (x : Nat) (K : Nat → Bool) : Bool := @Nat.rec (fun _ => Bool) (K 0) (fun m _ => K (Nat.succ m)) x
theorem z_l_ex {x : Nat} {K : Nat → Bool} (h : z_l x K = true) : ∃ v, x = v ∧ K v = true := ⟨x, rfl, h⟩
theorem z_f_ex {x : Nat} {K : Nat → Bool} (h : z_f x K = true) : ∃ v, x = v ∧ K v = true := ⟨x, rfl, by cases x <;> exact h⟩
theorem zI_w (c : Nat) : ev_w (zI c) = zI c := sg32_w _ (Nat.mod_lt _ (by decide))
theorem zJ_W (c : Nat) : ev_W (zJ c) = zJ c := sg64_W _ (Nat.mod_lt _ (by decide))
theorem zI_m (c : Nat) : (zI c - (c : Int)) % 4294967296 = 0 := by
  unfold zI sg32
  split <;> omega
theorem zJ_m (c : Nat) : (zJ c - (c : Int)) % 18446744073709551616 = 0 := by
  unfold zJ sg64
  split <;> omega
theorem zI_b (c : Nat) : -2147483648 ≤ zI c ∧ zI c < 2147483648 := sg32_lt _ (Nat.mod_lt _ (by decide))
theorem zJ_b (c : Nat) : -9223372036854775808 ≤ zJ c ∧ zJ c < 9223372036854775808 := by
  unfold zJ sg64
  split <;> omega
theorem zI_of {z : Int} {p : Nat} (he : (z - (p : Int)) % 4294967296 = 0) : ev_w z = zI p := by
  unfold zI sg32 ev_w
  split <;> omega
theorem zJ_of {z : Int} {p : Nat} (he : (z - (p : Int)) % 18446744073709551616 = 0) : ev_W z = zJ p := by
  unfold zJ sg64 ev_W
  split <;> omega
theorem zI_at {z : Int} {p : Nat} (he : (z - (p : Int)) % 4294967296 = 0) (h : -2147483648 ≤ z ∧ z < 2147483648) : z = zI p := by
  rw [← zI_of he, ev_w_in h.1 h.2]
theorem zJ_at {z : Int} {p : Nat} (he : (z - (p : Int)) % 18446744073709551616 = 0) (h : -9223372036854775808 ≤ z ∧ z < 9223372036854775808) : z = zJ p := by
  rw [← zJ_of he, ev_W_in h.1 h.2]
theorem zI_32 (x : Int32) : x.toInt = zI x.toBitVec.toNat := by
  obtain ⟨h1, h2⟩ := i32_sg x
  unfold zI
  rw [Nat.mod_eq_of_lt h2]
  exact h1
theorem zJ_64 (x : Int64) : x.toInt = zJ x.toBitVec.toNat := by
  obtain ⟨h1, h2⟩ := i64_sg x
  unfold zJ
  rw [Nat.mod_eq_of_lt h2]
  exact h1
theorem zI_nat (c : Nat) : (Int32.ofInt (zI c)).toBitVec.toNat = c % 4294967296 := i32_nat (Nat.mod_lt _ (by decide))
theorem zJ_nat (c : Nat) : (Int64.ofInt (zJ c)).toBitVec.toNat = c % 18446744073709551616 := i64_nat (Nat.mod_lt _ (by decide))
/-! what is reckoned -/
noncomputable def z_add (a b : Nat) : Nat := Nat.mod (Nat.add a b) 4294967296
noncomputable def z_sub (a b : Nat) : Nat := Nat.mod (Nat.add a (Nat.sub 4294967296 (Nat.mod b 4294967296))) 4294967296
noncomputable def z_mul (a b : Nat) : Nat := Nat.mod (Nat.mul a b) 4294967296
noncomputable def z_neg (a : Nat) : Nat := Nat.mod (Nat.sub 4294967296 (Nat.mod a 4294967296)) 4294967296
noncomputable def z_and (a b : Nat) : Nat := Nat.land (Nat.mod a 4294967296) (Nat.mod b 4294967296)
noncomputable def z_or (a b : Nat) : Nat := Nat.lor (Nat.mod a 4294967296) (Nat.mod b 4294967296)
noncomputable def z_xor (a b : Nat) : Nat := Nat.xor (Nat.mod a 4294967296) (Nat.mod b 4294967296)
noncomputable def z_shl (a s : Nat) : Nat := Nat.mod (Nat.shiftLeft (Nat.mod a 4294967296) s) 4294967296
noncomputable def z_ushr (a s : Nat) : Nat := Nat.shiftRight (Nat.mod a 4294967296) s
noncomputable def z_shr (a s : Nat) : Nat := @Bool.rec (fun _ => Nat) (Nat.sub 4294967295 (Nat.shiftRight (Nat.sub 4294967295 (Nat.mod a 4294967296)) s)) (Nat.shiftRight (Nat.mod a 4294967296) s) (Nat.ble (Nat.mod a 4294967296) 2147483647)
noncomputable def z_div (a b : Nat) : Nat := @Bool.rec (fun _ => Nat) (z_neg (Nat.div (Nat.sub 4294967296 (Nat.mod a 4294967296)) b)) (Nat.div (Nat.mod a 4294967296) b) (Nat.ble (Nat.mod a 4294967296) 2147483647)
noncomputable def z_rem (a b : Nat) : Nat := @Bool.rec (fun _ => Nat) (z_neg (Nat.mod (Nat.sub 4294967296 (Nat.mod a 4294967296)) b)) (Nat.mod (Nat.mod a 4294967296) b) (Nat.ble (Nat.mod a 4294967296) 2147483647)
noncomputable def z_ladd (a b : Nat) : Nat := Nat.mod (Nat.add a b) 18446744073709551616
noncomputable def z_lsub (a b : Nat) : Nat := Nat.mod (Nat.add a (Nat.sub 18446744073709551616 (Nat.mod b 18446744073709551616))) 18446744073709551616
noncomputable def z_lmul (a b : Nat) : Nat := Nat.mod (Nat.mul a b) 18446744073709551616
noncomputable def z_land (a b : Nat) : Nat := Nat.land (Nat.mod a 18446744073709551616) (Nat.mod b 18446744073709551616)
noncomputable def z_lor (a b : Nat) : Nat := Nat.lor (Nat.mod a 18446744073709551616) (Nat.mod b 18446744073709551616)
noncomputable def z_lxor (a b : Nat) : Nat := Nat.xor (Nat.mod a 18446744073709551616) (Nat.mod b 18446744073709551616)
noncomputable def z_lshl (a s : Nat) : Nat := Nat.mod (Nat.shiftLeft (Nat.mod a 18446744073709551616) s) 18446744073709551616
noncomputable def z_lushr (a s : Nat) : Nat := Nat.shiftRight (Nat.mod a 18446744073709551616) s
noncomputable def z_lshr (a s : Nat) : Nat := @Bool.rec (fun _ => Nat) (Nat.sub 18446744073709551615 (Nat.shiftRight (Nat.sub 18446744073709551615 (Nat.mod a 18446744073709551616)) s)) (Nat.shiftRight (Nat.mod a 18446744073709551616) s) (Nat.ble (Nat.mod a 18446744073709551616) 9223372036854775807)
noncomputable def z_i2l (a : Nat) : Nat := @Bool.rec (fun _ => Nat) (Nat.add (Nat.mod a 4294967296) 18446744069414584320) (Nat.mod a 4294967296) (Nat.ble (Nat.mod a 4294967296) 2147483647)
noncomputable def z_l2i (a : Nat) : Nat := Nat.mod a 4294967296
noncomputable def z_i2s (a : Nat) : Nat := @Bool.rec (fun _ => Nat) (Nat.add (Nat.mod a 65536) 4294901760) (Nat.mod a 65536) (Nat.ble (Nat.mod a 65536) 32767)
noncomputable def z_i2b (a : Nat) : Nat := @Bool.rec (fun _ => Nat) (Nat.add (Nat.mod a 256) 4294967040) (Nat.mod a 256) (Nat.ble (Nat.mod a 256) 127)
/-! tests -/
noncomputable def z_eq (a b : Nat) : Bool := Nat.beq (Nat.mod a 4294967296) (Nat.mod b 4294967296)
noncomputable def z_lt (a b : Nat) : Bool := Nat.ble (Nat.succ (Nat.mod (Nat.add a 2147483648) 4294967296)) (Nat.mod (Nat.add b 2147483648) 4294967296)
noncomputable def z_e0 (a : Nat) : Bool := Nat.beq (Nat.mod a 4294967296) 0
noncomputable def z_l0 (a : Nat) : Bool := Nat.ble 2147483648 (Nat.mod a 4294967296)
noncomputable def z_leq (a b : Nat) : Bool := Nat.beq (Nat.mod a 18446744073709551616) (Nat.mod b 18446744073709551616)
noncomputable def z_llt (a b : Nat) : Bool := Nat.ble (Nat.succ (Nat.mod (Nat.add a 9223372036854775808) 18446744073709551616)) (Nat.mod (Nat.add b 9223372036854775808) 18446744073709551616)
noncomputable def z_c3 (x y : Bool) : Nat := @Bool.rec (fun _ => Nat) (@Bool.rec (fun _ => Nat) 4294967295 0 y) 1 x
noncomputable def z_lcmp (a b : Nat) : Nat := z_c3 (z_llt b a) (z_leq a b)
theorem z_c3_t (y : Bool) : z_c3 true y = 1 := rfl
theorem z_c3_f : z_c3 false true = 0 := rfl
theorem z_c3_g : z_c3 false false = 4294967295 := rfl
theorem z_lcmp_def (a b : Nat) : z_lcmp a b = z_c3 (z_llt b a) (z_leq a b) := rfl
theorem z_eq_t {a b : Nat} (h : z_eq a b = true) : zI a = zI b := by
  have h : a % 4294967296 = b % 4294967296 := Nat.eq_of_beq_eq_true h
  unfold zI
  rw [h]
theorem z_eq_f {a b : Nat} (h : z_eq a b = false) : ¬ zI a = zI b := by
  have h : ¬ a % 4294967296 = b % 4294967296 := z_bne h
  unfold zI sg32
  split <;> split <;> omega
theorem z_lt_t {a b : Nat} (h : z_lt a b = true) : zI a < zI b := by
  have h : (a + 2147483648) % 4294967296 + 1 ≤ (b + 2147483648) % 4294967296 := Nat.ble_eq.mp h
  unfold zI sg32
  split <;> split <;> omega
theorem z_lt_f {a b : Nat} (h : z_lt a b = false) : ¬ zI a < zI b := by
  have h : ¬ (a + 2147483648) % 4294967296 + 1 ≤ (b + 2147483648) % 4294967296 := ble_no h
  unfold zI sg32
  split <;> split <;> omega
theorem z_e0_t {a : Nat} (h : z_e0 a = true) : zI a = 0 := by
  have h : a % 4294967296 = 0 := Nat.eq_of_beq_eq_true h
  unfold zI sg32
  split <;> omega
theorem z_e0_f {a : Nat} (h : z_e0 a = false) : ¬ zI a = 0 := by
  have h : ¬ a % 4294967296 = 0 := z_bne h
  unfold zI sg32
  split <;> omega
theorem z_l0_t {a : Nat} (h : z_l0 a = true) : zI a < 0 := by
  have h : 2147483648 ≤ a % 4294967296 := Nat.ble_eq.mp h
  unfold zI sg32
  split <;> omega
theorem z_l0_f {a : Nat} (h : z_l0 a = false) : ¬ zI a < 0 := by
  have h : ¬ 2147483648 ≤ a % 4294967296 := ble_no h
  unfold zI sg32
  split <;> omega
theorem z_llt_t {a b : Nat} (h : z_llt a b = true) : zJ a < zJ b := by
  have h : (a + 9223372036854775808) % 18446744073709551616 + 1 ≤ (b + 9223372036854775808) % 18446744073709551616 := Nat.ble_eq.mp h
  unfold zJ sg64
  split <;> split <;> omega
theorem z_llt_f {a b : Nat} (h : z_llt a b = false) : ¬ zJ a < zJ b := by
  have h : ¬ (a + 9223372036854775808) % 18446744073709551616 + 1 ≤ (b + 9223372036854775808) % 18446744073709551616 := ble_no h
  unfold zJ sg64
  split <;> split <;> omega
theorem z_leq_t {a b : Nat} (h : z_leq a b = true) : zJ a = zJ b := by
  have h : a % 18446744073709551616 = b % 18446744073709551616 := Nat.eq_of_beq_eq_true h
  unfold zJ
  rw [h]
theorem z_leq_f {a b : Nat} (h : z_leq a b = false) : ¬ zJ a = zJ b := by
  have h : ¬ a % 18446744073709551616 = b % 18446744073709551616 := z_bne h
  unfold zJ sg64
  split <;> split <;> omega
/-! the plain rows over numbers -/
section
variable {lv lv' : List (Option eV)} {st : List eV} {a b v : Nat}
theorem s_ic {n : Int} (e : zI v = n) : ev_s (.iconst n) lv st = some (lv, eI (zI v) :: st) := by subst e; rfl
theorem s_iadd (e : z_add a b = v) : ev_s .iadd lv (eI (zI b) :: eI (zI a) :: st) = some (lv, eI (zI v) :: st) := by
  subst e
  show some (lv, eI (ev_w (zI a + zI b)) :: st) = _
  have ha := zI_m a
  have hb := zI_m b
  rw [zI_of (p := z_add a b) (by show (zI a + zI b - (((a + b) % 4294967296 : Nat) : Int)) % 4294967296 = 0; omega)]
theorem s_isub (e : z_sub a b = v) : ev_s .isub lv (eI (zI b) :: eI (zI a) :: st) = some (lv, eI (zI v) :: st) := by
  subst e
  show some (lv, eI (ev_w (zI a - zI b)) :: st) = _
  have ha := zI_m a
  have hb := zI_m b
  rw [zI_of (p := z_sub a b) (by show (zI a - zI b - (((a + (4294967296 - b % 4294967296)) % 4294967296 : Nat) : Int)) % 4294967296 = 0; omega)]
theorem z_mulm {N x y : Int} {a b : Int} (hx : (x - a) % N = 0) (hy : (y - b) % N = 0) : (x * y - a * b) % N = 0 := by
  obtain ⟨k, hk⟩ := Int.dvd_of_emod_eq_zero hx
  obtain ⟨l, hl⟩ := Int.dvd_of_emod_eq_zero hy
  have e1 : x = a + N * k := by omega
  have e2 : y = b + N * l := by omega
  apply Int.emod_eq_zero_of_dvd
  refine ⟨a * l + k * b + k * (N * l), ?_⟩
  subst e1
  subst e2
  simp only [Int.add_mul, Int.mul_add, Int.mul_assoc]
  have h1 : a * (N * l) = N * (a * l) := by rw [← Int.mul_assoc, Int.mul_comm a N, Int.mul_assoc]
  omega
theorem s_imul (e : z_mul a b = v) : ev_s .imul lv (eI (zI b) :: eI (zI a) :: st) = some (lv, eI (zI v) :: st) := by
  subst e
  show some (lv, eI (ev_w (zI a * zI b)) :: st) = _
  have h := z_mulm (zI_m a) (zI_m b)
  rw [zI_of (p := z_mul a b) (by
    show (zI a * zI b - (((a * b) % 4294967296 : Nat) : Int)) % 4294967296 = 0
    rw [← Int.natCast_mul] at h
    generalize zI a * zI b = x at h ⊢
    generalize a * b = y at h ⊢
    omega)]
theorem s_ineg (e : z_neg a = v) : ev_s .ineg lv (eI (zI a) :: st) = some (lv, eI (zI v) :: st) := by
  subst e
  show some (lv, eI (ev_w (-zI a)) :: st) = _
  have ha := zI_m a
  rw [zI_of (p := z_neg a) (by show (-zI a - (((4294967296 - a % 4294967296) % 4294967296 : Nat) : Int)) % 4294967296 = 0; omega)]
theorem s_iand (e : z_and a b = v) : ev_s .iand lv (eI (zI b) :: eI (zI a) :: st) = some (lv, eI (zI v) :: st) := by
  subst e
  show some (lv, eI (Int32.ofInt (zI a) &&& Int32.ofInt (zI b)).toInt :: st) = _
  rw [zI_32, Int32.toBitVec_and, BitVec.toNat_and, zI_nat, zI_nat]
  rfl
theorem s_ior (e : z_or a b = v) : ev_s .ior lv (eI (zI b) :: eI (zI a) :: st) = some (lv, eI (zI v) :: st) := by
  subst e
  show some (lv, eI (Int32.ofInt (zI a) ||| Int32.ofInt (zI b)).toInt :: st) = _
  rw [zI_32, Int32.toBitVec_or, BitVec.toNat_or, zI_nat, zI_nat]
  rfl
theorem s_ixor (e : z_xor a b = v) : ev_s .ixor lv (eI (zI b) :: eI (zI a) :: st) = some (lv, eI (zI v) :: st) := by
  subst e
  show some (lv, eI (Int32.ofInt (zI a) ^^^ Int32.ofInt (zI b)).toInt :: st) = _
  rw [zI_32, Int32.toBitVec_xor, BitVec.toNat_xor, zI_nat, zI_nat]
  rfl
theorem s_land (e : z_land a b = v) : ev_s .land lv (eJ (zJ b) :: eJ (zJ a) :: st) = some (lv, eJ (zJ v) :: st) := by
  subst e
  show some (lv, eJ (Int64.ofInt (zJ a) &&& Int64.ofInt (zJ b)).toInt :: st) = _
  rw [zJ_64, Int64.toBitVec_and, BitVec.toNat_and, zJ_nat, zJ_nat]
  rfl
theorem s_lor (e : z_lor a b = v) : ev_s .lor lv (eJ (zJ b) :: eJ (zJ a) :: st) = some (lv, eJ (zJ v) :: st) := by
  subst e
  show some (lv, eJ (Int64.ofInt (zJ a) ||| Int64.ofInt (zJ b)).toInt :: st) = _
  rw [zJ_64, Int64.toBitVec_or, BitVec.toNat_or, zJ_nat, zJ_nat]
  rfl
theorem s_lxor (e : z_lxor a b = v) : ev_s .lxor lv (eJ (zJ b) :: eJ (zJ a) :: st) = some (lv, eJ (zJ v) :: st) := by
  subst e
  show some (lv, eJ (Int64.ofInt (zJ a) ^^^ Int64.ofInt (zJ b)).toInt :: st) = _
  rw [zJ_64, Int64.toBitVec_xor, BitVec.toNat_xor, zJ_nat, zJ_nat]
  rfl
theorem z_s31 : ∀ k : Fin 32, ((Int32.ofInt (zI k.val) &&& 31).toBitVec.smod 32).toNat = k.val := by decide +kernel
theorem z_u31 : ∀ k : Fin 32, (((Int32.ofInt (zI k.val)).toUInt32 &&& Int32.toUInt32 31).toBitVec % 32).toNat = k.val := by decide +kernel
theorem z_s63 : ∀ k : Fin 64, (((Int32.ofInt (zI k.val)).toInt64 &&& 63).toBitVec.smod 64).toNat = k.val := by decide +kernel
theorem z_u63 : ∀ k : Fin 64, (((Int32.ofInt (zI k.val)).toInt64.toUInt64 &&& Int64.toUInt64 63).toBitVec % 64).toNat = k.val := by decide +kernel
theorem s_ishl (hb : b ≤ 31) (e : z_shl a b = v) : ev_s .ishl lv (eI (zI b) :: eI (zI a) :: st) = some (lv, eI (zI v) :: st) := by
  subst e
  show some (lv, eI (Int32.ofInt (zI a) <<< (Int32.ofInt (zI b) &&& 31)).toInt :: st) = _
  have hk := z_s31 ⟨b, by omega⟩
  rw [zI_32, Int32.toBitVec_shiftLeft, BitVec.shiftLeft_eq', hk, BitVec.toNat_shiftLeft, zI_nat]
  rfl
theorem s_iushr (hb : b ≤ 31) (e : z_ushr a b = v) : ev_s .iushr lv (eI (zI b) :: eI (zI a) :: st) = some (lv, eI (zI v) :: st) := by
  subst e
  show some (lv, eI (((Int32.ofInt (zI a)).toUInt32 >>> ((Int32.ofInt (zI b)).toUInt32 &&& Int32.toUInt32 31)).toInt32).toInt :: st) = _
  have hk := z_u31 ⟨b, by omega⟩
  rw [zI_32, UInt32.toBitVec_toInt32, UInt32.toBitVec_shiftRight, BitVec.ushiftRight_eq', hk, BitVec.toNat_ushiftRight, Int32.toBitVec_toUInt32, zI_nat]
  rfl
theorem z_msb32 {x : BitVec 32} {p : Nat} (h : x.toNat = p) : x.msb = !(Nat.ble p 2147483647) := by
  cases hm : x.msb with
  | false =>
    have := BitVec.msb_eq_false_iff_two_mul_lt.mp hm
    rw [Nat.ble_eq.mpr (by omega)]
    rfl
  | true =>
    have h2 : ¬ 2 * x.toNat < 2 ^ 32 := fun q => by rw [BitVec.msb_eq_false_iff_two_mul_lt.mpr q] at hm; cases hm
    cases hq : Nat.ble p 2147483647 with
    | false => rfl
    | true =>
      have := Nat.ble_eq.mp hq
      omega
theorem z_msb64 {x : BitVec 64} {p : Nat} (h : x.toNat = p) : x.msb = !(Nat.ble p 9223372036854775807) := by
  cases hm : x.msb with
  | false =>
    have := BitVec.msb_eq_false_iff_two_mul_lt.mp hm
    rw [Nat.ble_eq.mpr (by omega)]
    rfl
  | true =>
    have h2 : ¬ 2 * x.toNat < 2 ^ 64 := fun q => by rw [BitVec.msb_eq_false_iff_two_mul_lt.mpr q] at hm; cases hm
    cases hq : Nat.ble p 9223372036854775807 with
    | false => rfl
    | true =>
      have := Nat.ble_eq.mp hq
      omega
theorem s_ishr (hb : b ≤ 31) (e : z_shr a b = v) : ev_s .ishr lv (eI (zI b) :: eI (zI a) :: st) = some (lv, eI (zI v) :: st) := by
  subst e
  show some (lv, eI (Int32.ofInt (zI a) >>> (Int32.ofInt (zI b) &&& 31)).toInt :: st) = _
  have hk := z_s31 ⟨b, by omega⟩
  have hm := z_msb32 (zI_nat a)
  rw [zI_32, Int32.toBitVec_shiftRight, BitVec.toNat_sshiftRight', hk, zI_nat, hm]
  unfold z_shr
  show some (lv, eI (zI _) :: st) = some (lv, eI (zI (@Bool.rec (fun _ => Nat) _ _ (Nat.ble (a % 4294967296) 2147483647))) :: st)
  cases Nat.ble (a % 4294967296) 2147483647 <;> rfl
theorem s_lshl (hb : b ≤ 63) (e : z_lshl a b = v) : ev_s .lshl lv (eI (zI b) :: eJ (zJ a) :: st) = some (lv, eJ (zJ v) :: st) := by
  subst e
  show some (lv, eJ (Int64.ofInt (zJ a) <<< ((Int32.ofInt (zI b)).toInt64 &&& 63)).toInt :: st) = _
  have hk := z_s63 ⟨b, by omega⟩
  rw [zJ_64, Int64.toBitVec_shiftLeft, BitVec.shiftLeft_eq', hk, BitVec.toNat_shiftLeft, zJ_nat]
  rfl
theorem s_lushr (hb : b ≤ 63) (e : z_lushr a b = v) : ev_s .lushr lv (eI (zI b) :: eJ (zJ a) :: st) = some (lv, eJ (zJ v) :: st) := by
  subst e
  show some (lv, eJ (((Int64.ofInt (zJ a)).toUInt64 >>> ((Int32.ofInt (zI b)).toInt64.toUInt64 &&& Int64.toUInt64 63)).toInt64).toInt :: st) = _
  have hk := z_u63 ⟨b, by omega⟩
  rw [zJ_64, UInt64.toBitVec_toInt64, UInt64.toBitVec_shiftRight, BitVec.ushiftRight_eq', hk, BitVec.toNat_ushiftRight, Int64.toBitVec_toUInt64, zJ_nat]
  rfl
theorem s_lshr (hb : b ≤ 63) (e : z_lshr a b = v) : ev_s .lshr lv (eI (zI b) :: eJ (zJ a) :: st) = some (lv, eJ (zJ v) :: st) := by
  subst e
  show some (lv, eJ (Int64.ofInt (zJ a) >>> ((Int32.ofInt (zI b)).toInt64 &&& 63)).toInt :: st) = _
  have hk := z_s63 ⟨b, by omega⟩
  have hm := z_msb64 (zJ_nat a)
  rw [zJ_64, Int64.toBitVec_shiftRight, BitVec.toNat_sshiftRight', hk, zJ_nat, hm]
  unfold z_lshr
  show some (lv, eJ (zJ _) :: st) = some (lv, eJ (zJ (@Bool.rec (fun _ => Nat) _ _ (Nat.ble (a % 18446744073709551616) 9223372036854775807))) :: st)
  cases Nat.ble (a % 18446744073709551616) 9223372036854775807 <;> rfl
theorem s_ladd (e : z_ladd a b = v) : ev_s .ladd lv (eJ (zJ b) :: eJ (zJ a) :: st) = some (lv, eJ (zJ v) :: st) := by
  subst e
  show some (lv, eJ (ev_W (zJ a + zJ b)) :: st) = _
  have ha := zJ_m a
  have hb := zJ_m b
  rw [zJ_of (p := z_ladd a b) (by show (zJ a + zJ b - (((a + b) % 18446744073709551616 : Nat) : Int)) % 18446744073709551616 = 0; omega)]
theorem s_lsub (e : z_lsub a b = v) : ev_s .lsub lv (eJ (zJ b) :: eJ (zJ a) :: st) = some (lv, eJ (zJ v) :: st) := by
  subst e
  show some (lv, eJ (ev_W (zJ a - zJ b)) :: st) = _
  have ha := zJ_m a
  have hb := zJ_m b
  rw [zJ_of (p := z_lsub a b) (by show (zJ a - zJ b - (((a + (18446744073709551616 - b % 18446744073709551616)) % 18446744073709551616 : Nat) : Int)) % 18446744073709551616 = 0; omega)]
theorem s_lmul (e : z_lmul a b = v) : ev_s .lmul lv (eJ (zJ b) :: eJ (zJ a) :: st) = some (lv, eJ (zJ v) :: st) := by
  subst e
  show some (lv, eJ (ev_W (zJ a * zJ b)) :: st) = _
  have h := z_mulm (zJ_m a) (zJ_m b)
  rw [zJ_of (p := z_lmul a b) (by
    show (zJ a * zJ b - (((a * b) % 18446744073709551616 : Nat) : Int)) % 18446744073709551616 = 0
    rw [← Int.natCast_mul] at h
    generalize zJ a * zJ b = x at h ⊢
    generalize a * b = y at h ⊢
    omega)]
theorem s_i2l (e : z_i2l a = v) : ev_s .i2l lv (eI (zI a) :: st) = some (lv, eJ (zJ v) :: st) := by
  subst e
  show some (lv, eJ (ev_w (zI a)) :: st) = _
  rw [zI_w]
  have e1 : zI a = zJ (z_i2l a) := by
    unfold z_i2l
    show zI a = zJ (@Bool.rec (fun _ => Nat) (a % 4294967296 + 18446744069414584320) (a % 4294967296) (Nat.ble (a % 4294967296) 2147483647))
    cases hq : Nat.ble (a % 4294967296) 2147483647 with
    | true =>
      have := Nat.ble_eq.mp hq
      show zI a = zJ (a % 4294967296)
      unfold zI zJ sg32 sg64
      split <;> split <;> omega
    | false =>
      have := ble_no hq
      show zI a = zJ (a % 4294967296 + 18446744069414584320)
      unfold zI zJ sg32 sg64
      split <;> split <;> omega
  rw [e1]
theorem s_l2i (e : z_l2i a = v) : ev_s .l2i lv (eJ (zJ a) :: st) = some (lv, eI (zI v) :: st) := by
  subst e
  show some (lv, eI (ev_w (zJ a)) :: st) = _
  have ha := zJ_m a
  rw [zI_of (p := z_l2i a) (by show (zJ a - ((a % 4294967296 : Nat) : Int)) % 4294967296 = 0; omega)]
theorem s_i2s (e : z_i2s a = v) : ev_s .i2s lv (eI (zI a) :: st) = some (lv, eI (zI v) :: st) := by
  subst e
  show some (lv, eI ((zI a + 32768) % 65536 - 32768) :: st) = _
  have ha := zI_m a
  have e1 : (zI a + 32768) % 65536 - 32768 = zI (z_i2s a) := by
    unfold z_i2s
    show _ = zI (@Bool.rec (fun _ => Nat) (a % 65536 + 4294901760) (a % 65536) (Nat.ble (a % 65536) 32767))
    cases hq : Nat.ble (a % 65536) 32767 with
    | true =>
      have := Nat.ble_eq.mp hq
      show _ = zI (a % 65536)
      exact zI_at (by omega) (by omega)
    | false =>
      have := ble_no hq
      show _ = zI (a % 65536 + 4294901760)
      exact zI_at (by omega) (by omega)
  rw [e1]
theorem s_i2b (e : z_i2b a = v) : ev_s .i2b lv (eI (zI a) :: st) = some (lv, eI (zI v) :: st) := by
  subst e
  show some (lv, eI ((zI a + 128) % 256 - 128) :: st) = _
  have ha := zI_m a
  have e1 : (zI a + 128) % 256 - 128 = zI (z_i2b a) := by
    unfold z_i2b
    show _ = zI (@Bool.rec (fun _ => Nat) (a % 256 + 4294967040) (a % 256) (Nat.ble (a % 256) 127))
    cases hq : Nat.ble (a % 256) 127 with
    | true =>
      have := Nat.ble_eq.mp hq
      show _ = zI (a % 256)
      exact zI_at (by omega) (by omega)
    | false =>
      have := ble_no hq
      show _ = zI (a % 256 + 4294967040)
      exact zI_at (by omega) (by omega)
  rw [e1]
theorem z_c0 : zI 0 = 0 := by decide
theorem z_c1 : zI 1 = 1 := by decide
theorem z_cm : zI 4294967295 = -1 := by decide
theorem z_bt {b : Bool} (h : ¬ b = false) : b = true := by
  cases b with
  | true => rfl
  | false => exact absurd rfl h
theorem z_bf {b : Bool} (h : ¬ b = true) : b = false := by
  cases b with
  | true => exact absurd rfl h
  | false => rfl
theorem z_lcmp_g {a b : Nat} (h : zJ a > zJ b) : zI (z_lcmp a b) = 1 := by
  rw [z_lcmp_def, z_bt (fun q => z_llt_f q h), z_c3_t, z_c1]
theorem z_lcmp_e {a b : Nat} (h : ¬ zJ a > zJ b) (h2 : zJ a = zJ b) : zI (z_lcmp a b) = 0 := by
  rw [z_lcmp_def, z_bf (fun q => h (z_llt_t q)), z_bt (fun q => z_leq_f q h2), z_c3_f, z_c0]
theorem z_lcmp_l {a b : Nat} (h : ¬ zJ a > zJ b) (h2 : ¬ zJ a = zJ b) : zI (z_lcmp a b) = -1 := by
  rw [z_lcmp_def, z_bf (fun q => h (z_llt_t q)), z_bf (fun q => h2 (z_leq_t q)), z_c3_g, z_cm]
theorem s_lcmp (e : z_lcmp a b = v) : ev_s .lcmp lv (eJ (zJ b) :: eJ (zJ a) :: st) = some (lv, eI (zI v) :: st) := by
  subst e
  simp only [ev_s, ev_bJJ, Option.map_some, zJ_W]
  split
  · rename_i h
    rw [z_lcmp_g h]
  · rename_i h
    split
    · rename_i h2
      rw [z_lcmp_e h h2]
    · rename_i h2
      rw [z_lcmp_l h h2]
theorem z_neg_small {p : Nat} (h1 : p ≤ 2147483648) : zI (z_neg p) = -(p : Int) := by
  refine (zI_at ?_ (by omega)).symm
  show (-(p : Int) - (((4294967296 - p % 4294967296) % 4294967296 : Nat) : Int)) % 4294967296 = 0
  omega
theorem zI_neg {a : Nat} (h : ¬ a % 4294967296 ≤ 2147483647) : zI a = -((4294967296 - a % 4294967296 : Nat) : Int) := by
  unfold zI sg32
  split <;> omega
theorem zI_pos {a : Nat} (h : a % 4294967296 ≤ 2147483647) : zI a = ((a % 4294967296 : Nat) : Int) := by
  unfold zI sg32
  split <;> omega
theorem zI_lit {b : Nat} (h : b ≤ 2147483647) : zI b = (b : Int) := by
  rw [zI_pos (by omega), Nat.mod_eq_of_lt (by omega)]
theorem z_rem_ok {a b : Nat} (hb : 1 ≤ b ∧ b ≤ 2147483647) : Int.tmod (zI a) (zI b) = zI (z_rem a b) := by
  rw [zI_lit hb.2]
  unfold z_rem
  show _ = zI (@Bool.rec (fun _ => Nat) (z_neg ((4294967296 - a % 4294967296) % b)) (a % 4294967296 % b) (Nat.ble (a % 4294967296) 2147483647))
  cases hq : Nat.ble (a % 4294967296) 2147483647 with
  | true =>
    have hq := Nat.ble_eq.mp hq
    have hl : a % 4294967296 % b < b := Nat.mod_lt _ (by omega)
    rw [zI_pos hq]
    show _ = zI (a % 4294967296 % b)
    rw [zI_lit (by omega)]
    rfl
  | false =>
    have hq := ble_no hq
    have hl : (4294967296 - a % 4294967296) % b < b := Nat.mod_lt _ (by omega)
    rw [zI_neg hq, Int.neg_tmod]
    show _ = zI (z_neg ((4294967296 - a % 4294967296) % b))
    rw [z_neg_small (by omega)]
    rfl
theorem z_div_ok {a b : Nat} (hb : 1 ≤ b ∧ b ≤ 2147483647) : ev_w (Int.tdiv (zI a) (zI b)) = zI (z_div a b) := by
  rw [zI_lit hb.2]
  unfold z_div
  show _ = zI (@Bool.rec (fun _ => Nat) (z_neg ((4294967296 - a % 4294967296) / b)) (a % 4294967296 / b) (Nat.ble (a % 4294967296) 2147483647))
  cases hq : Nat.ble (a % 4294967296) 2147483647 with
  | true =>
    have hq := Nat.ble_eq.mp hq
    have hl : a % 4294967296 / b ≤ a % 4294967296 := Nat.div_le_self _ _
    rw [zI_pos hq]
    show ev_w (((a % 4294967296 / b : Nat) : Int)) = zI (a % 4294967296 / b)
    exact zI_of (by omega)
  | false =>
    have hq := ble_no hq
    have hl : (4294967296 - a % 4294967296) / b ≤ 4294967296 - a % 4294967296 := Nat.div_le_self _ _
    rw [zI_neg hq, Int.neg_tdiv]
    show ev_w (-(((4294967296 - a % 4294967296) / b : Nat) : Int)) = zI (z_neg ((4294967296 - a % 4294967296) / b))
    generalize (4294967296 - a % 4294967296) / b = q at hl ⊢
    rw [z_neg_small (by omega)]
    exact ev_w_in (by omega) (by omega)
theorem s_irem (hb : 1 ≤ b ∧ b ≤ 2147483647) (e : z_rem a b = v) : ev_s .irem lv (eI (zI b) :: eI (zI a) :: st) = some (lv, eI (zI v) :: st) := by
  subst e
  show ((if ev_w (zI b) = 0 then none else some (eI (Int.tmod (ev_w (zI a)) (ev_w (zI b))))).map fun w => (lv, w :: st)) = _
  rw [zI_w, zI_w, if_neg (by rw [zI_lit hb.2]; omega), z_rem_ok hb]
  rfl
theorem s_idiv (hb : 1 ≤ b ∧ b ≤ 2147483647) (e : z_div a b = v) : ev_s .idiv lv (eI (zI b) :: eI (zI a) :: st) = some (lv, eI (zI v) :: st) := by
  subst e
  show ((if ev_w (zI b) = 0 then none else some (eI (ev_w (Int.tdiv (ev_w (zI a)) (ev_w (zI b)))))).map fun w => (lv, w :: st)) = _
  rw [zI_w, zI_w, if_neg (by rw [zI_lit hb.2]; omega), z_div_ok hb]
  rfl
theorem s_iinc {k : Nat} {n : Int} (hl : lv[k]? = some (some (eI (zI a)))) (hn : zI b = n) (e : z_add a b = v) (hs : ev_st1 lv k (eI (zI v)) = lv') : ev_s (.iinc k n) lv st = some (lv', st) := by
  subst e
  subst hs
  subst hn
  show ev_inc lv k (zI b) st = _
  unfold ev_inc
  rw [hl]
  dsimp only
  have ha := zI_m a
  have hb := zI_m b
  rw [zI_of (p := z_add a b) (by show (zI a + zI b - (((a + b) % 4294967296 : Nat) : Int)) % 4294967296 = 0; omega)]
theorem s_ldR {k r : Nat} (hl : lv[k]? = some (some (eR r))) (hr : 0 < r) : ev_ldR lv k st = some (lv, eR r :: st) := by
  unfold ev_ldR
  rw [hl]
  dsimp only
  rw [if_pos hr]
theorem s_srR {k r : Nat} (hk : k < lv.length) (hr : 0 < r) (hs : ev_st1 lv k (eR r) = lv') : ev_srR lv k (eR r :: st) = some (lv', st) := by
  subst hs
  show (if k < lv.length ∧ 0 < r then some (ev_st1 lv k (eR r), st) else none) = _
  rw [if_pos ⟨hk, hr⟩]
end
