/-! BLOCKS: each row's own step, the run -/
theorem be_nI (m : Int) : be (0, n_I m) := be_0 (n_I_ok (ρ := fun _ => 0) m).2 (by show 8 * (m % 4294967296).toNat % 8 = 0; omega)
noncomputable def ng_dv (p q : Nat) : Nat := Nat.mul 8 (Nat.div p q)
noncomputable def ng_rm (p q : Nat) : Nat := Nat.mod p q
theorem d_8 {p q : Nat} (hp : p % 8 = 0) (hq : q % 8 = 0) (h1 : 1 ≤ q) : p / q = p / 8 / (q / 8) ∧ p % q = 8 * (p / 8 % (q / 8)) := by
  obtain ⟨a, rfl⟩ : ∃ a, p = 8 * a := ⟨p / 8, by omega⟩
  obtain ⟨b, rfl⟩ : ∃ b, q = 8 * b := ⟨q / 8, by omega⟩
  rw [Nat.mul_div_cancel_left _ (by decide : 0 < 8), Nat.mul_div_cancel_left _ (by decide : 0 < 8), Nat.mul_mod_mul_left]
  exact ⟨Nat.mul_div_mul_left _ _ (by decide), rfl⟩
theorem n_I_n {z : Int} {m : Nat} (h : z = (m : Int)) (hm : m < 4294967296) : n_I z = 8 * m := by
  rw [h]
  show 8 * ((m : Int) % 4294967296).toNat = 8 * m
  omega
theorem bg_dv : ∀ p q, p % 8 = 0 → q % 8 = 0 → 1 ≤ q → q < 17179869184 → p < 17179869184 → (fun a b => n_I (Int.tdiv (sg32 (Nat.div a 8)) (sg32 (Nat.div b 8)))) p q = ng_dv p q ∧ be (0, ng_dv p q) := by
  intro p q hp hq h1 h2 h3
  have e1 : sg32 (Nat.div p 8) = ((p / 8 : Nat) : Int) := by
    show sg32 (p / 8) = _
    unfold sg32
    rw [if_pos (by omega)]
  have e2 : sg32 (Nat.div q 8) = ((q / 8 : Nat) : Int) := by
    show sg32 (q / 8) = _
    unfold sg32
    rw [if_pos (by omega)]
  have hle : p / 8 / (q / 8) ≤ p / 8 := Nat.div_le_self _ _
  have key : ng_dv p q = 8 * (p / 8 / (q / 8)) := by
    show 8 * (p / q) = _
    rw [(d_8 hp hq h1).1]
  refine ⟨?_, ?_⟩
  · show n_I (Int.tdiv (sg32 (Nat.div p 8)) (sg32 (Nat.div q 8))) = _
    rw [e1, e2, key]
    exact n_I_n (Int.ofNat_tdiv _ _).symm (by omega)
  · rw [key]
    have := nW_35
    exact be_0 (by omega) (by omega)
theorem bg_rm : ∀ p q, p % 8 = 0 → q % 8 = 0 → 1 ≤ q → q < 17179869184 → p < 17179869184 → (fun a b => n_I (Int.tmod (sg32 (Nat.div a 8)) (sg32 (Nat.div b 8)))) p q = ng_rm p q ∧ be (0, ng_rm p q) := by
  intro p q hp hq h1 h2 h3
  have e1 : sg32 (Nat.div p 8) = ((p / 8 : Nat) : Int) := by
    show sg32 (p / 8) = _
    unfold sg32
    rw [if_pos (by omega)]
  have e2 : sg32 (Nat.div q 8) = ((q / 8 : Nat) : Int) := by
    show sg32 (q / 8) = _
    unfold sg32
    rw [if_pos (by omega)]
  have hle : p / 8 % (q / 8) ≤ p / 8 := Nat.mod_le _ _
  have key : ng_rm p q = 8 * (p / 8 % (q / 8)) := by
    show p % q = _
    rw [(d_8 hp hq h1).2]
  refine ⟨?_, ?_⟩
  · show n_I (Int.tmod (sg32 (Nat.div p 8)) (sg32 (Nat.div q 8))) = _
    rw [e1, e2, key]
    exact n_I_n (Int.ofNat_tmod _ _).symm (by omega)
  · rw [key]
    have := nW_35
    exact be_0 (by omega) (by omega)
theorem be_x32 (x : Int32) : be (0, Nat.mul 8 x.toBitVec.toNat) := be_0 (cr_x32 (ρ := fun _ => 0) x).2 (Nat.mul_mod_right 8 _)
theorem be_x64 (x : Int64) : be (1, Nat.succ (Nat.mul 8 x.toBitVec.toNat)) := be_1 (cr_x64 (ρ := fun _ => 0) x).2 (by show (8 * x.toBitVec.toNat + 1) % 8 = 1; omega)
theorem bg_m8 {a m : Nat} (hm : m % 8 = 0) (h : a % 8 = 0) : a % m % 8 = 0 := by
  rw [Nat.mod_mod_of_dvd a (Nat.dvd_of_mod_eq_zero hm)]
  exact h
theorem bg_s8 {p q : Nat} (h2 : p % 8 = 0) (h1 : q % 8 = 0) : (p + 34359738368 - q) % 8 = 0 := by omega
theorem bg_l8 {p q : Nat} (h2 : p % 8 = 1) (h1 : q % 8 = 1) : (p + 147573952589676412928 - q + 1) % 147573952589676412928 % 8 = 1 := by omega
theorem bg_iadd : ∀ p q, p < nW → q < nW → p % 8 = 0 → q % 8 = 0 → be (0, ng_iadd p q) := by
  intro p q hp hq h2 h1
  have w35 := nW_35
  have w67 := nW_67
  exact be_0 (by show (p + q) % 34359738368 < nW; omega) (by show (p + q) % 34359738368 % 8 = 0; omega)
theorem bg_isub : ∀ p q, p < nW → q < nW → p % 8 = 0 → q % 8 = 0 → be (0, ng_isub p q) := by
  intro p q hp hq h2 h1
  have w35 := nW_35
  have w67 := nW_67
  exact be_0 (by show (p + 34359738368 - q) % 34359738368 < nW; omega) (bg_m8 (by decide) (bg_s8 h2 h1))
theorem bg_imul : ∀ p q, p < nW → q < nW → p % 8 = 0 → q % 8 = 0 → be (0, ng_imul p q) := by
  intro p q hp hq h2 h1
  have w35 := nW_35
  have w67 := nW_67
  exact be_0 (by show 8 * (p / 8 * (q / 8) % 4294967296) < nW; omega) (by show 8 * (p / 8 * (q / 8) % 4294967296) % 8 = 0; omega)
theorem bg_ladd : ∀ p q, p < nW → q < nW → p % 8 = 1 → q % 8 = 1 → be (1, ng_ladd p q) := by
  intro p q hp hq h2 h1
  have w35 := nW_35
  have w67 := nW_67
  exact be_1 (by show (p + q - 1) % 147573952589676412928 < nW; omega) (by show (p + q - 1) % 147573952589676412928 % 8 = 1; omega)
theorem bg_lsub : ∀ p q, p < nW → q < nW → p % 8 = 1 → q % 8 = 1 → be (1, ng_lsub p q) := by
  intro p q hp hq h2 h1
  have w35 := nW_35
  have w67 := nW_67
  exact be_1 (by show (p + 147573952589676412928 - q + 1) % 147573952589676412928 < nW; omega) (bg_l8 h2 h1)
theorem bg_lmul : ∀ p q, p < nW → q < nW → p % 8 = 1 → q % 8 = 1 → be (1, ng_lmul p q) := by
  intro p q hp hq h2 h1
  have w35 := nW_35
  have w67 := nW_67
  exact be_1 (by show 8 * (p / 8 * (q / 8) % 18446744073709551616) + 1 < nW; omega) (by show (8 * (p / 8 * (q / 8) % 18446744073709551616) + 1) % 8 = 1; omega)
theorem bg_iand : ∀ p q, p < nW → q < nW → p % 8 = 0 → q % 8 = 0 → be (0, ng_iand p q) := by
  intro p q hp hq h2 h1
  have w35 := nW_35
  have w67 := nW_67
  have hW : nW = 2 ^ 69 * 8 := by decide
  have hl : Nat.land (p / 8) (q / 8) < 2 ^ 69 := Nat.lt_of_le_of_lt (Nat.and_le_left) (by omega)
  exact be_0 (by show 8 * Nat.land (p / 8) (q / 8) < nW; omega) (by show 8 * Nat.land (p / 8) (q / 8) % 8 = 0; omega)
theorem bg_ior : ∀ p q, p < nW → q < nW → p % 8 = 0 → q % 8 = 0 → be (0, ng_ior p q) := by
  intro p q hp hq h2 h1
  have w35 := nW_35
  have w67 := nW_67
  have hW : nW = 2 ^ 69 * 8 := by decide
  have hl : Nat.lor (p / 8) (q / 8) < 2 ^ 69 := Nat.or_lt_two_pow (by omega) (by omega)
  exact be_0 (by show 8 * Nat.lor (p / 8) (q / 8) < nW; omega) (by show 8 * Nat.lor (p / 8) (q / 8) % 8 = 0; omega)
theorem bg_ixor : ∀ p q, p < nW → q < nW → p % 8 = 0 → q % 8 = 0 → be (0, ng_ixor p q) := by
  intro p q hp hq h2 h1
  have w35 := nW_35
  have w67 := nW_67
  have hW : nW = 2 ^ 69 * 8 := by decide
  have hl : Nat.xor (p / 8) (q / 8) < 2 ^ 69 := Nat.xor_lt_two_pow (by omega) (by omega)
  exact be_0 (by show 8 * Nat.xor (p / 8) (q / 8) < nW; omega) (by show 8 * Nat.xor (p / 8) (q / 8) % 8 = 0; omega)
theorem bg_land : ∀ p q, p < nW → q < nW → p % 8 = 1 → q % 8 = 1 → be (1, ng_land p q) := by
  intro p q hp hq h2 h1
  have w35 := nW_35
  have w67 := nW_67
  have hW : nW = 2 ^ 69 * 8 := by decide
  have hl : Nat.land (p / 8) (q / 8) < 2 ^ 69 := Nat.lt_of_le_of_lt (Nat.and_le_left) (by omega)
  exact be_1 (by show 8 * Nat.land (p / 8) (q / 8) + 1 < nW; omega) (by show (8 * Nat.land (p / 8) (q / 8) + 1) % 8 = 1; omega)
theorem bg_lor : ∀ p q, p < nW → q < nW → p % 8 = 1 → q % 8 = 1 → be (1, ng_lor p q) := by
  intro p q hp hq h2 h1
  have w35 := nW_35
  have w67 := nW_67
  have hW : nW = 2 ^ 69 * 8 := by decide
  have hl : Nat.lor (p / 8) (q / 8) < 2 ^ 69 := Nat.or_lt_two_pow (by omega) (by omega)
  exact be_1 (by show 8 * Nat.lor (p / 8) (q / 8) + 1 < nW; omega) (by show (8 * Nat.lor (p / 8) (q / 8) + 1) % 8 = 1; omega)
theorem bg_lxor : ∀ p q, p < nW → q < nW → p % 8 = 1 → q % 8 = 1 → be (1, ng_lxor p q) := by
  intro p q hp hq h2 h1
  have w35 := nW_35
  have w67 := nW_67
  have hW : nW = 2 ^ 69 * 8 := by decide
  have hl : Nat.xor (p / 8) (q / 8) < 2 ^ 69 := Nat.xor_lt_two_pow (by omega) (by omega)
  exact be_1 (by show 8 * Nat.xor (p / 8) (q / 8) + 1 < nW; omega) (by show (8 * Nat.xor (p / 8) (q / 8) + 1) % 8 = 1; omega)
theorem bg_ishl : ∀ p q, p < nW → q < nW → p % 8 = 0 → q % 8 = 0 → be (0, ng_ishl p q) := by
  intro p q hp hq h2 h1
  have w35 := nW_35
  have w67 := nW_67
  exact be_x32 _
theorem bg_ishr : ∀ p q, p < nW → q < nW → p % 8 = 0 → q % 8 = 0 → be (0, ng_ishr p q) := by
  intro p q hp hq h2 h1
  have w35 := nW_35
  have w67 := nW_67
  exact be_x32 _
theorem bg_iushr : ∀ p q, p < nW → q < nW → p % 8 = 0 → q % 8 = 0 → be (0, ng_iushr p q) := by
  intro p q hp hq h2 h1
  have w35 := nW_35
  have w67 := nW_67
  exact be_x32 _
theorem bg_lshl : ∀ p q, p < nW → q < nW → p % 8 = 1 → q % 8 = 0 → be (1, ng_lshl p q) := by
  intro p q hp hq h2 h1
  have w35 := nW_35
  have w67 := nW_67
  exact be_x64 _
theorem bg_lshr : ∀ p q, p < nW → q < nW → p % 8 = 1 → q % 8 = 0 → be (1, ng_lshr p q) := by
  intro p q hp hq h2 h1
  have w35 := nW_35
  have w67 := nW_67
  exact be_x64 _
theorem bg_lushr : ∀ p q, p < nW → q < nW → p % 8 = 1 → q % 8 = 0 → be (1, ng_lushr p q) := by
  intro p q hp hq h2 h1
  have w35 := nW_35
  have w67 := nW_67
  exact be_x64 _
theorem bg_lcmp : ∀ p q, p < nW → q < nW → p % 8 = 1 → q % 8 = 1 → be (0, ng_lcmp p q) := by
  intro p q hp hq h2 h1
  have w35 := nW_35
  have w67 := nW_67
  unfold ng_lcmp
  cases Nat.beq p q with
  | true => exact be_0 (show 0 < nW by decide) (show 0 % 8 = 0 by decide)
  | false =>
    cases Nat.ble (Nat.mod (Nat.add p 73786976294838206464) 147573952589676412928) (Nat.mod (Nat.add q 73786976294838206464) 147573952589676412928) with
    | true => exact be_0 (by decide) (by decide)
    | false => exact be_0 (by decide) (by decide)
theorem bg_ineg : ∀ q, q < nW → q % 8 = 0 → be (0, ng_ineg q) := by
  intro q hq h1
  have w35 := nW_35
  have w67 := nW_67
  exact be_0 (by show (34359738368 - q) % 34359738368 < nW; omega) (by show (34359738368 - q) % 34359738368 % 8 = 0; omega)
theorem bg_l2i : ∀ q, q < nW → q % 8 = 1 → be (0, ng_l2i q) := by
  intro q hq h1
  have w35 := nW_35
  have w67 := nW_67
  exact be_0 (by show (q - 1) % 34359738368 < nW; omega) (by show (q - 1) % 34359738368 % 8 = 0; omega)
noncomputable def bs_1g (m1 m3 : Nat) (g : Nat → Nat) (y np : Nat) : bC := fun _ L ov S ss I M K z => b_pop S ss fun e1 S ss => b_T m1 z e1 fun q => f_if z (Nat.ble (Nat.succ q) 34359738368) (K y np L ov S ((m3, g q) :: ss) I M)
theorem bs_1g_ok {m1 m3 : Nat} {g : Nat → Nat} {y np : Nat} (h1 : m1 = 0 ∨ m1 = 1) (hg : ∀ q, q < 34359738368 → q % 8 = m1 → be (m3, g q)) : b_ok (bs_1g m1 m3 g y np) (np_1 m1 g y np) := by
  intro d L ov S ss I M F K Q W G R h
  obtain ⟨a, S1, s1, ha, hs1, e1, e2, h⟩ := pk_pop W.1 h
  obtain ⟨k1, -, h⟩ := b_T_ok h1 ha h
  obtain ⟨k2, h⟩ := f_if_ok h
  unfold np_1
  rw [e1, e2]
  exact fb_in (bq_t k1) (G _ _ _ _ _ _ _ _ (W.push (hg _ (Nat.ble_eq.mp k2) k1) hs1) h)
theorem bg_i2l : ∀ q, q < 34359738368 → q % 8 = 0 → be (1, ng_i2l q) := by
  intro q hq h1
  have w67 := nW_67
  unfold ng_i2l
  cases hb : Nat.ble (Nat.succ q) 17179869184 with
  | true => exact be_1 (by show q + 1 < nW; omega) (by show (q + 1) % 8 = 1; omega)
  | false => exact be_1 (by show q + 147573952555316674561 < nW; omega) (by show (q + 147573952555316674561) % 8 = 1; omega)
theorem bg_i2s : ∀ q, q < nW → q % 8 = 0 → be (0, ng_i2s q) := by
  intro q hq h1
  have w35 := nW_35
  have w67 := nW_67
  exact be_nI _
theorem bg_i2b : ∀ q, q < nW → q % 8 = 0 → be (0, ng_i2b q) := by
  intro q hq h1
  have w35 := nW_35
  have w67 := nW_67
  exact be_nI _
noncomputable def bs_di (ng : nG) (y pc n a b t : Nat) (x : Int) (i : Instr) : bC × Unit := match i with
  | .iload k => (if k < dt_mx y then bs_ld 0 k y (pc + 2) else bs_no, ())
  | .iload_n k => (if k.val < dt_mx y then bs_ld 0 k.val y (pc + 1) else bs_no, ())
  | .lload k => (if k < dt_mx y then bs_ld 1 k y (pc + 2) else bs_no, ())
  | .lload_n k => (if k.val < dt_mx y then bs_ld 1 k.val y (pc + 1) else bs_no, ())
  | .aload k => (if k < dt_mx y then bs_al k y (pc + 2) else bs_no, ())
  | .aload_n k => (if k.val < dt_mx y then bs_al k.val y (pc + 1) else bs_no, ())
  | .istore k => (if k < dt_mx y then bs_is k y (pc + 2) else bs_no, ())
  | .istore_n k => (if k.val < dt_mx y then bs_is k.val y (pc + 1) else bs_no, ())
  | .astore k => (if k < dt_mx y then bs_as k y (pc + 2) else bs_no, ())
  | .astore_n k => (if k.val < dt_mx y then bs_as k.val y (pc + 1) else bs_no, ())
  | .lstore k => (if k + 1 < dt_mx y then bs_ls k y (pc + 2) else bs_no, ())
  | .lstore_n k => (if k.val + 1 < dt_mx y then bs_ls k.val y (pc + 1) else bs_no, ())
  | .iinc k m => (if k < dt_mx y then bs_inc k (8 * (m % 4294967296).toNat) y (pc + 3) else bs_no, ())
  | .iconst m => (if ev_w m = m then bs_c 0 (n_I m) y (pc + 1) else bs_no, ())
  | .lconst m => (bs_c 1 (8 * m.val + 1) y (pc + 1), ())
  | .bipush m => (if -128 ≤ m ∧ m ≤ 127 then bs_c 0 (n_I m) y (pc + 2) else bs_no, ())
  | .sipush m => (if -32768 ≤ m ∧ m ≤ 32767 then bs_c 0 (n_I m) y (pc + 3) else bs_no, ())
  | .iadd => (bs_2 0 0 0 ng_iadd y (pc + 1), ())
  | .isub => (bs_2 0 0 0 ng_isub y (pc + 1), ())
  | .imul => (bs_2 0 0 0 ng_imul y (pc + 1), ())
  | .ladd => (bs_2 1 1 1 ng_ladd y (pc + 1), ())
  | .lsub => (bs_2 1 1 1 ng_lsub y (pc + 1), ())
  | .lmul => (bs_2 1 1 1 ng_lmul y (pc + 1), ())
  | .iand => (bs_2 0 0 0 ng_iand y (pc + 1), ())
  | .ior => (bs_2 0 0 0 ng_ior y (pc + 1), ())
  | .ixor => (bs_2 0 0 0 ng_ixor y (pc + 1), ())
  | .land => (bs_2 1 1 1 ng_land y (pc + 1), ())
  | .lor => (bs_2 1 1 1 ng_lor y (pc + 1), ())
  | .lxor => (bs_2 1 1 1 ng_lxor y (pc + 1), ())
  | .ishl => (bs_2 0 0 0 ng_ishl y (pc + 1), ())
  | .ishr => (bs_2 0 0 0 ng_ishr y (pc + 1), ())
  | .iushr => (bs_2 0 0 0 ng_iushr y (pc + 1), ())
  | .lshl => (bs_2 0 1 1 ng_lshl y (pc + 1), ())
  | .lshr => (bs_2 0 1 1 ng_lshr y (pc + 1), ())
  | .lushr => (bs_2 0 1 1 ng_lushr y (pc + 1), ())
  | .lcmp => (bs_2 1 1 0 ng_lcmp y (pc + 1), ())
  | .ineg => (bs_1 0 0 ng_ineg y (pc + 1), ())
  | .l2i => (bs_1 1 0 ng_l2i y (pc + 1), ())
  | .i2s => (bs_1 0 0 ng_i2s y (pc + 1), ())
  | .i2b => (bs_1 0 0 ng_i2b y (pc + 1), ())
  | .i2l => (bs_1g 0 1 ng_i2l y (pc + 1), ())
  | .idiv => (bs_div ng_dv y (pc + 1), ())
  | .irem => (bs_div ng_rm y (pc + 1), ())
  | .dup => (bs_dup y (pc + 1), ())
  | .pop => (bs_pop y (pc + 1), ())
  | .dup2 => (bs_dup2 y (pc + 1), ())
  | .ifCond c off => (if n = 3 ∧ 0 ≤ (pc : Int) + off then bs_if c (pc + 3) (((pc : Int) + off).toNat) y else bs_no, ())
  | .if_icmp c off => (if n = 3 ∧ 0 ≤ (pc : Int) + off then bs_ic c (pc + 3) (((pc : Int) + off).toNat) y else bs_no, ())
  | .goto off => (if n = 3 ∧ 0 ≤ (pc : Int) + off then bs_go (((pc : Int) + off).toNat) y else bs_no, ())
  | .ifnonnull off => (if n = 3 ∧ 0 ≤ (pc : Int) + off then bs_nu (pc + 3) (((pc : Int) + off).toNat) y else bs_no, ())
  | .ifnull off => (if n = 3 ∧ 0 ≤ (pc : Int) + off then bs_nu (((pc : Int) + off).toNat) (pc + 3) y else bs_no, ())
  | .getfield idx => (match t with
    | 0 => bs_gf 0 a b (b / 64) (b % 64) y (pc + n)
    | 1 => bs_gf 1 a b (b / 64) (b % 64) y (pc + n)
    | 2 => bs_gf 2 a b (b / 64) (b % 64) y (pc + n)
    | 3 => bs_gf 3 a b (b / 64) (b % 64) y (pc + n)
    | _ => bs_no, ())
  | .putfield idx => (match t with
    | 0 => bs_pf 0 a b (b / 64) (nW ^ (b % 64)) y (pc + n)
    | 1 => bs_pf 1 a b (b / 64) (nW ^ (b % 64)) y (pc + n)
    | 2 => bs_pf 2 a b (b / 64) (nW ^ (b % 64)) y (pc + n)
    | 3 => bs_pf 3 a b (b / 64) (nW ^ (b % 64)) y (pc + n)
    | _ => bs_no, ())
  | .iaload => (bs_ga 0 ng 100 y (pc + n), ())
  | .laload => (bs_ga 2 ng 101 y (pc + n), ())
  | .baload => (bs_bl y (pc + n), ())
  | .iastore => (bs_sa 0 100 y (pc + n), ())
  | .lastore => (bs_sa 2 101 y (pc + n), ())
  | .bastore => (bs_sa 1 103 y (pc + n), ())
  | .arraylength => (bs_ln ng y (pc + n), ())
  | .getstatic idx => (if a < 64 then (if 1 ≤ a then bs_c 5 (8 * a + 2) y (pc + n) else bs_no) else bs_no, ())
  | .ldc idx => (if a = 0 ∧ ev_w x = x then bs_c 0 (n_I x) y (pc + n) else bs_no, ())
  | .ldc_w idx => (if a = 0 ∧ ev_w x = x then bs_c 0 (n_I x) y (pc + n) else bs_no, ())
  | .ldc2_w idx => (if a = 1 ∧ ev_W x = x then bs_c 1 (8 * (x % 18446744073709551616).toNat + 1) y (pc + n) else bs_no, ())
  | .invokestatic idx => (if a = 2 ∧ x.toNat ≤ dt_mx b then bs_qs b t x.toNat (n_pad (dt_mx b - x.toNat)) y (pc + 3) else bs_no, ())
  | .invokevirtual idx => (if a = 0 ∧ x.toNat ≤ dt_mx b then bs_qv b t x.toNat (n_pad (dt_mx b - x.toNat)) (dt_pl b).2.2.2.2.2.2.2 y (pc + 3) else bs_no, ())
  | .invokespecial idx => (if a = 1 ∧ x.toNat ≤ dt_mx b then bs_qi b t x.toNat (n_pad (dt_mx b - x.toNat)) y (pc + 3) else bs_no, ())
  | .return_ => (if (dt_pl y).2.1 = 0 then bs_r0 else bs_no, ())
  | .ireturn => (if (dt_pl y).2.1 = 1 then bs_r1 1 0 else if (dt_pl y).2.1 = 2 then bs_r1 2 0 else bs_no, ())
  | .lreturn => (if (dt_pl y).2.1 = 3 then bs_r1 3 1 else bs_no, ())
  | .areturn => (if (dt_pl y).2.1 = 5 then bs_r1 5 3 else bs_no, ())
  | _ => (bs_no, ())
set_option maxHeartbeats 4000000 in
theorem bs_di_ok {ng : nG} {i : Instr} {n y pc a b t : Nat} {x : Int} : b_ok (bs_di ng y pc n a b t x i).1 (nv_di ng y pc n a b t x i).1 := by
  cases i
  case iload k =>
    simp only [nv_di, bs_di]
    split
    · rename_i h0
      exact bs_ld_ok (by decide) (fun c h => by rw [(n_8f h).1]; rfl)
    · exact bs_no_ok _
  case iload_n k =>
    simp only [nv_di, bs_di]
    split
    · rename_i h0
      exact bs_ld_ok (by decide) (fun c h => by rw [(n_8f h).1]; rfl)
    · exact bs_no_ok _
  case lload k =>
    simp only [nv_di, bs_di]
    split
    · rename_i h0
      exact bs_ld_ok (by decide) (fun c h => by rw [(n_8f h).2.1]; rfl)
    · exact bs_no_ok _
  case lload_n k =>
    simp only [nv_di, bs_di]
    split
    · rename_i h0
      exact bs_ld_ok (by decide) (fun c h => by rw [(n_8f h).2.1]; rfl)
    · exact bs_no_ok _
  case aload k =>
    simp only [nv_di, bs_di]
    split
    · rename_i h0
      exact bs_al_ok
    · exact bs_no_ok _
  case aload_n k =>
    simp only [nv_di, bs_di]
    split
    · rename_i h0
      exact bs_al_ok
    · exact bs_no_ok _
  case istore k =>
    simp only [nv_di, bs_di]
    split
    · rename_i h0
      exact bs_is_ok
    · exact bs_no_ok _
  case istore_n k =>
    simp only [nv_di, bs_di]
    split
    · rename_i h0
      exact bs_is_ok
    · exact bs_no_ok _
  case astore k =>
    simp only [nv_di, bs_di]
    split
    · rename_i h0
      exact bs_as_ok
    · exact bs_no_ok _
  case astore_n k =>
    simp only [nv_di, bs_di]
    split
    · rename_i h0
      exact bs_as_ok
    · exact bs_no_ok _
  case lstore k =>
    simp only [nv_di, bs_di]
    split
    · rename_i h0
      exact bs_ls_ok
    · exact bs_no_ok _
  case lstore_n k =>
    simp only [nv_di, bs_di]
    split
    · rename_i h0
      exact bs_ls_ok
    · exact bs_no_ok _
  case iinc k m =>
    simp only [nv_di, bs_di]
    split
    · rename_i h0
      exact bs_inc_ok (by omega)
    · exact bs_no_ok _
  case iconst m =>
    simp only [nv_di, bs_di]
    split
    · rename_i h0
      exact bs_c_ok (be_nI m)
    · exact bs_no_ok _
  case lconst m =>
    simp only [nv_di, bs_di]
    have hm : m.val < 2 := m.isLt
    exact bs_c_ok (be_1 (by have := nW_67; omega) (by omega))
  case bipush m =>
    simp only [nv_di, bs_di]
    split
    · rename_i h0
      exact bs_c_ok (be_nI m)
    · exact bs_no_ok _
  case sipush m =>
    simp only [nv_di, bs_di]
    split
    · rename_i h0
      exact bs_c_ok (be_nI m)
    · exact bs_no_ok _
  case iadd =>
    simp only [nv_di, bs_di]
    exact bs_2_ok (by decide) (by decide) bg_iadd
  case isub =>
    simp only [nv_di, bs_di]
    exact bs_2_ok (by decide) (by decide) bg_isub
  case imul =>
    simp only [nv_di, bs_di]
    exact bs_2_ok (by decide) (by decide) bg_imul
  case ladd =>
    simp only [nv_di, bs_di]
    exact bs_2_ok (by decide) (by decide) bg_ladd
  case lsub =>
    simp only [nv_di, bs_di]
    exact bs_2_ok (by decide) (by decide) bg_lsub
  case lmul =>
    simp only [nv_di, bs_di]
    exact bs_2_ok (by decide) (by decide) bg_lmul
  case iand =>
    simp only [nv_di, bs_di]
    exact bs_2_ok (by decide) (by decide) bg_iand
  case ior =>
    simp only [nv_di, bs_di]
    exact bs_2_ok (by decide) (by decide) bg_ior
  case ixor =>
    simp only [nv_di, bs_di]
    exact bs_2_ok (by decide) (by decide) bg_ixor
  case land =>
    simp only [nv_di, bs_di]
    exact bs_2_ok (by decide) (by decide) bg_land
  case lor =>
    simp only [nv_di, bs_di]
    exact bs_2_ok (by decide) (by decide) bg_lor
  case lxor =>
    simp only [nv_di, bs_di]
    exact bs_2_ok (by decide) (by decide) bg_lxor
  case ishl =>
    simp only [nv_di, bs_di]
    exact bs_2_ok (by decide) (by decide) bg_ishl
  case ishr =>
    simp only [nv_di, bs_di]
    exact bs_2_ok (by decide) (by decide) bg_ishr
  case iushr =>
    simp only [nv_di, bs_di]
    exact bs_2_ok (by decide) (by decide) bg_iushr
  case lshl =>
    simp only [nv_di, bs_di]
    exact bs_2_ok (by decide) (by decide) bg_lshl
  case lshr =>
    simp only [nv_di, bs_di]
    exact bs_2_ok (by decide) (by decide) bg_lshr
  case lushr =>
    simp only [nv_di, bs_di]
    exact bs_2_ok (by decide) (by decide) bg_lushr
  case lcmp =>
    simp only [nv_di, bs_di]
    exact bs_2_ok (by decide) (by decide) bg_lcmp
  case ineg =>
    simp only [nv_di, bs_di]
    exact bs_1_ok (by decide) bg_ineg
  case l2i =>
    simp only [nv_di, bs_di]
    exact bs_1_ok (by decide) bg_l2i
  case i2s =>
    simp only [nv_di, bs_di]
    exact bs_1_ok (by decide) bg_i2s
  case i2b =>
    simp only [nv_di, bs_di]
    exact bs_1_ok (by decide) bg_i2b
  case i2l =>
    simp only [nv_di, bs_di]
    exact bs_1g_ok (by decide) bg_i2l
  case idiv =>
    simp only [nv_di, bs_di]
    exact bs_div_ok bg_dv
  case irem =>
    simp only [nv_di, bs_di]
    exact bs_div_ok bg_rm
  case dup =>
    simp only [nv_di, bs_di]
    exact bs_dup_ok
  case pop =>
    simp only [nv_di, bs_di]
    exact bs_pop_ok
  case dup2 =>
    simp only [nv_di, bs_di]
    exact bs_dup2_ok
  case ifCond c off =>
    simp only [nv_di, bs_di]
    split
    · rename_i h0
      exact bs_if_ok
    · exact bs_no_ok _
  case if_icmp c off =>
    simp only [nv_di, bs_di]
    split
    · rename_i h0
      exact bs_ic_ok
    · exact bs_no_ok _
  case goto off =>
    simp only [nv_di, bs_di]
    split
    · rename_i h0
      exact bs_go_ok
    · exact bs_no_ok _
  case ifnonnull off =>
    simp only [nv_di, bs_di]
    split
    · rename_i h0
      exact bs_nu_ok
    · exact bs_no_ok _
  case ifnull off =>
    simp only [nv_di, bs_di]
    split
    · rename_i h0
      exact bs_nu_ok
    · exact bs_no_ok _
  case getfield idx =>
    simp only [nv_di, bs_di]
    split
    · exact bs_gf_ok bv_I0
    · exact bs_gf_ok bv_I1
    · exact bs_gf_ok bv_J
    · exact bs_gf_ok bv_R
    · exact bs_no_ok _
  case putfield idx =>
    simp only [nv_di, bs_di]
    split
    · exact bs_pf_ok bq_I
    · exact bs_pf_ok bq_Z
    · exact bs_pf_ok bq_J
    · exact bs_pf_ok bq_R
    · exact bs_no_ok _
  case iaload =>
    simp only [nv_di, bs_di]
    exact bs_ga_ok bv_I0
  case laload =>
    simp only [nv_di, bs_di]
    exact bs_ga_ok bv_J
  case baload =>
    simp only [nv_di, bs_di]
    exact bs_bl_ok
  case iastore =>
    simp only [nv_di, bs_di]
    exact bs_sa_ok bq_I
  case lastore =>
    simp only [nv_di, bs_di]
    exact bs_sa_ok bq_J
  case bastore =>
    simp only [nv_di, bs_di]
    exact bs_sa_ok bq_Z
  case arraylength =>
    simp only [nv_di, bs_di]
    exact bs_ln_ok
  case getstatic idx =>
    simp only [nv_di, bs_di]
    split
    · rename_i h0
      split
      · rename_i h1
        exact bs_c_ok (be_5 (by have := nW_35; omega) (by omega) (by omega) (by omega))
      · exact bs_no_ok _
    · exact bs_no_ok _
  case ldc idx =>
    simp only [nv_di, bs_di]
    split
    · rename_i h0
      exact bs_c_ok (be_nI x)
    · exact bs_no_ok _
  case ldc_w idx =>
    simp only [nv_di, bs_di]
    split
    · rename_i h0
      exact bs_c_ok (be_nI x)
    · exact bs_no_ok _
  case ldc2_w idx =>
    simp only [nv_di, bs_di]
    split
    · rename_i h0
      exact bs_c_ok (be_1 (by have := nW_67; omega) (by omega))
    · exact bs_no_ok _
  case invokestatic idx =>
    simp only [nv_di, bs_di]
    split
    · rename_i h0
      exact bs_qs_ok
    · exact bs_no_ok _
  case invokevirtual idx =>
    simp only [nv_di, bs_di]
    split
    · rename_i h0
      exact bs_qv_ok
    · exact bs_no_ok _
  case invokespecial idx =>
    simp only [nv_di, bs_di]
    split
    · rename_i h0
      exact bs_qi_ok
    · exact bs_no_ok _
  case return_ =>
    simp only [nv_di, bs_di]
    split
    · rename_i h0
      exact bs_r0_ok
    · exact bs_no_ok _
  case ireturn =>
    simp only [nv_di, bs_di]
    split
    · exact bs_r1_ok br_1
    · split
      · exact bs_r1_ok br_2
      · exact bs_no_ok _
  case lreturn =>
    simp only [nv_di, bs_di]
    split
    · rename_i h0
      exact bs_r1_ok br_3
    · exact bs_no_ok _
  case areturn =>
    simp only [nv_di, bs_di]
    split
    · rename_i h0
      exact bs_r1_ok br_5
    · exact bs_no_ok _
  all_goals exact bs_no_ok _
/-! the run of a block -/
noncomputable def b_row (ng : nG) (y pc : Nat) : bC × Unit := @Prod.rec Nat (Instr × Nat × (Nat × Nat × Nat × Nat) × Int) (fun _ => bC × Unit) (fun p q => @Bool.rec (fun _ => bC × Unit) (bs_no, ()) (bs_di ng y p q.2.1 q.2.2.1.1 q.2.2.1.2.1 q.2.2.1.2.2.1 q.2.2.2 q.1) (Nat.beq p pc)) ((dt_co y).get pc)
def b_fine (fg : eG) (rc rs : Nat) (ρ : Nat → Int) (N : nSt) : Prop := ∀ E : eSt, nst ρ N E → ex_fine fg rc rs E
noncomputable def b_cl (P : Prop) : Bool := @decide P (Classical.propDecidable P)
theorem b_cl_t {P : Prop} (h : P) : b_cl P = true := @decide_eq_true P (Classical.propDecidable P) h
theorem b_cl_of {P : Prop} (h : b_cl P = true) : P := @of_decide_eq_true P (Classical.propDecidable P) h
theorem b_row_ok {ng : nG} {fg : eG} {rc rs : Nat} {ρ : Nat → Int} {d y pc L S : Nat} {ov : bO} {ss : List bE} {I : List bF} {M : nM} {F : List nF} {K : bK} (hg : ng_r ρ ng fg) (W : bwf d L ov ss I) (hK : ∀ (y pc L : Nat) (ov : bO) (S : Nat) (ss : List bE) (I : List bF) (M : nM), bwf d L ov ss I → K y pc L ov S ss I M = true → b_fine fg rc rs ρ (d - I.length, (y, pc, pk_L L 0 ov, pk_S S ss), pk_F F I, M)) (h : (b_row ng y pc).1 d L ov S ss I M K false = true) : b_fine fg rc rs ρ (d - I.length, (y, pc, pk_L L 0 ov, pk_S S ss), pk_F F I, M) := by
  intro E hE
  have G : bG d F K (fun d y pc L S F M => b_cl (b_fine fg rc rs ρ (d, (y, pc, L, S), F, M))) := fun y pc L ov S ss I M W h => b_cl_t (hK y pc L ov S ss I M W h)
  have R : ∃ ρ st, nS ρ (pk_S S ss) st := ⟨ρ, _, hE.2.1.2.2.2.2⟩
  unfold b_row at h
  cases hq : (dt_co y).get pc with
  | mk p q =>
    rw [hq] at h
    obtain ⟨i, n, ⟨a, b, t, pl⟩, x⟩ := q
    dsimp only at h
    cases hb : Nat.beq p pc with
    | false => rw [hb] at h; cases h
    | true =>
      rw [hb] at h
      have hb := Nat.eq_of_beq_eq_true hb
      subst hb
      obtain ⟨E', d', y', pc', L', S', F', M', h1, h2, h3⟩ := nv_di_ok hg hq hE (bs_di_ok d L ov S ss I M F K _ W G R h)
      exact ex_fine_1 h1 (b_cl_of h3 E' h2)
/-- a place's own step over what is packed, as a block's last one -/
noncomputable def b_last (ng : nG) (d : Nat) (F : List nF) (Q : nK) (z : Bool) : bK := fun y pc L ov S ss I M => (nv_row (fun _ _ => none) ng y pc).1 (Nat.sub d I.length) (pk_L L 0 ov) (pk_S S ss) (pk_F F I) M Q z
/-- T: where a block goes on (0), ends (1), ends after that place's step (2), by how many frames it has entered -/
noncomputable def b_run (T : Nat → Nat → Nat → Nat) (ng : nG) (d : Nat) (F : List nF) (Q : nK) (z : Bool) (n : Nat) : bK := @Nat.rec (fun _ => bK) (b_Q Q d F) (fun _ ih y pc L ov S ss I M => @Nat.rec (fun _ => Bool) ((b_row ng y pc).1 d L ov S ss I M ih z) (fun k _ => @Nat.rec (fun _ => Bool) (b_Q Q d F y pc L ov S ss I M) (fun _ _ => b_last ng d F Q z y pc L ov S ss I M) k) (T I.length y pc)) n
noncomputable def b_blk (T : Nat → Nat → Nat → Nat) (ng : nG) (n y pc : Nat) : nC := fun d L S F M Q z => (b_row ng y pc).1 d L [] S [] [] M (b_run T ng d F Q z n) z
def blk_ok (fg : eG) (rc rs : Nat) (ρ : Nat → Int) (y pc : Nat) (f : nC) : Prop := ∀ (d L S : Nat) (F : List nF) (M : nM) (Q : nK), f d L S F M Q false = true → (∀ (d y pc L S : Nat) (F : List nF) (M : nM), Q d y pc L S F M = true → b_fine fg rc rs ρ (d, (y, pc, L, S), F, M)) → b_fine fg rc rs ρ (d, (y, pc, L, S), F, M)
theorem b_run_ok {T : Nat → Nat → Nat → Nat} {ng : nG} {fg : eG} {rc rs : Nat} {ρ : Nat → Int} {d : Nat} {F : List nF} {Q : nK} (hg : ng_r ρ ng fg) (hQ : ∀ (d y pc L S : Nat) (F : List nF) (M : nM), Q d y pc L S F M = true → b_fine fg rc rs ρ (d, (y, pc, L, S), F, M)) : ∀ (n y pc L : Nat) (ov : bO) (S : Nat) (ss : List bE) (I : List bF) (M : nM), bwf d L ov ss I → b_run T ng d F Q false n y pc L ov S ss I M = true → b_fine fg rc rs ρ (d - I.length, (y, pc, pk_L L 0 ov, pk_S S ss), pk_F F I, M) := by
  intro n
  induction n with
  | zero =>
    intro y pc L ov S ss I M W h
    exact hQ _ _ _ _ _ _ _ h
  | succ n ih =>
    intro y pc L ov S ss I M W h
    have h : @Nat.rec (fun _ => Bool) ((b_row ng y pc).1 d L ov S ss I M (b_run T ng d F Q false n) false) (fun k _ => @Nat.rec (fun _ => Bool) (b_Q Q d F y pc L ov S ss I M) (fun _ _ => b_last ng d F Q false y pc L ov S ss I M) k) (T I.length y pc) = true := h
    cases hT : T I.length y pc with
    | zero =>
      rw [hT] at h
      exact b_row_ok hg W ih h
    | succ k =>
      rw [hT] at h
      cases k with
      | zero => exact hQ _ _ _ _ _ _ _ h
      | succ k =>
        intro E hE
        have h : (nv_row (fun _ _ => none) ng y pc).1 (Nat.sub d I.length) (pk_L L 0 ov) (pk_S S ss) (pk_F F I) M Q false = true := h
        obtain ⟨E', d', y', pc', L', S', F', M', h1, h2, h3⟩ := nv_row_ok hg hE h
        exact ex_fine_1 h1 (hQ _ _ _ _ _ _ _ h3 E' h2)
theorem bwf_nil (d L : Nat) : bwf d L [] [] [] := ⟨fun e q => (nomatch q), bow_nil L, fun f q => (nomatch q), Nat.zero_le d⟩
theorem b_blk_ok {T : Nat → Nat → Nat → Nat} {ng : nG} {fg : eG} {rc rs : Nat} {ρ : Nat → Int} {n y pc : Nat} (hg : ng_r ρ ng fg) : blk_ok fg rc rs ρ y pc (b_blk T ng n y pc) := by
  intro d L S F M Q h hQ
  exact b_row_ok (I := []) (ov := []) (ss := []) hg (bwf_nil d L) (b_run_ok hg hQ n) h
noncomputable def b_mem (c : Nat) (l : List Nat) : Bool := @List.rec Nat (fun _ => Bool) false (fun x _ ih => @Bool.rec (fun _ => Bool) ih true (Nat.beq c x)) l
/-- ends: of the block's own frame, of frames within, and where its last step is made -/
noncomputable def b_tt (l0 l1 l2 : List Nat) (k y pc : Nat) : Nat := @Nat.rec (fun _ => Nat) (@Bool.rec (fun _ => Nat) (@Bool.rec (fun _ => Nat) 0 2 (b_mem (Nat.add (Nat.mul y 65536) pc) l2)) 1 (b_mem (Nat.add (Nat.mul y 65536) pc) l0)) (fun _ _ => @Bool.rec (fun _ => Nat) 0 1 (b_mem (Nat.add (Nat.mul y 65536) pc) l1)) k
/-! the coded evaluator with blocks -/
noncomputable def nb_row (Bk : Nat → Nat → Option nC) (R : Nat → Nat → Option nR) (ng : nG) (y pc : Nat) : nC × Unit := @Option.rec nC (fun _ => nC × Unit) (nv_row R ng y pc) (fun f => (fun d L S F M Q z => f d L S F M Q ((nv_row R ng y pc).1 d L S F M Q z), ())) (Bk y pc)
noncomputable def nb (Bk : Nat → Nat → Option nC) (R : Nat → Nat → Option nR) (G : nR) (ng : nG) (n : Nat) : sB → nK := @Nat.rec (fun _ => sB → nK) (fun _ _ _ _ _ _ _ _ => false) (fun _ ih B d y pc L S F M => (nb_row Bk R ng y pc).1 d L S F M (ih B) (nv_slow R G ih B d y pc L S F M)) n
theorem nb_ok2 {Bk : Nat → Nat → Option nC} {R : Nat → Nat → Option nR} {G : nR} {ρ : Nat → Int} {ng : nG} {fg : eG} {rc rs : Nat} (hg : ng_r ρ ng fg) (hB : ∀ y pc f, Bk y pc = some f → blk_ok fg rc rs ρ y pc f) (hR : ∀ y pc r, R y pc = some r → nrl fg rc rs ρ r) (hG : nrl fg rc rs ρ G) : ∀ (n : Nat) (B : sB) (N : nSt) (E : eSt), nv_ap (nb Bk R G ng n B) N = true → sb_in ρ B → nst ρ N E → ex_fine fg rc rs E := by
  intro n
  induction n with
  | zero =>
    intro B N E h
    cases h
  | succ n ih =>
    intro B N E h hB' hN
    obtain ⟨d, ⟨y, pc, L, S⟩, F, M⟩ := N
    have h : (nb_row Bk R ng y pc).1 d L S F M (nb Bk R G ng n B) (nv_slow R G (nb Bk R G ng n) B d y pc L S F M) = true := h
    have slow : nv_slow R G (nb Bk R G ng n) B d y pc L S F M = true → ex_fine fg rc rs E := by
      intro hs
      unfold nv_slow at hs
      have old : @Option.rec (List (sB × nSt)) (fun _ => Bool) false (fun l => nv_al (fun B' N' => nv_ap (nb Bk R G ng n B') N') l) (G B (d, (y, pc, L, S), F, M)) = true → ex_fine fg rc rs E := by
        intro ho
        cases hl : G B (d, (y, pc, L, S), F, M) with
        | none => rw [hl] at ho; cases ho
        | some l =>
          rw [hl] at ho
          exact hG B _ l E hl hB' hN (fun q hq E' h1 h2 => ih q.1 q.2 E' (nv_al_ok ho q hq) h1 h2)
      cases hr : R y pc with
      | none => rw [hr] at hs; exact old hs
      | some r =>
        rw [hr] at hs
        dsimp only at hs
        cases hl : r B (d, (y, pc, L, S), F, M) with
        | none => rw [hl] at hs; exact old hs
        | some l =>
          rw [hl] at hs
          exact hR y pc r hr B _ l E hl hB' hN (fun q hq E' h1 h2 => ih q.1 q.2 E' (nv_al_ok hs q hq) h1 h2)
    have plain : (nv_row R ng y pc).1 d L S F M (nb Bk R G ng n B) (nv_slow R G (nb Bk R G ng n) B d y pc L S F M) = true → ex_fine fg rc rs E := by
      intro h
      rcases nr_z h with hs | hf
      · exact slow hs
      · obtain ⟨E', d', y', pc', L', S', F', M', h1, h2, h3⟩ := nv_row_ok hg hN hf
        exact ex_fine_1 h1 (ih B (d', (y', pc', L', S'), F', M') E' h3 hB' h2)
    unfold nb_row at h
    cases hb : Bk y pc with
    | none =>
      rw [hb] at h
      exact plain h
    | some f =>
      rw [hb] at h
      dsimp only at h
      rcases nr_z h with hs | hf
      · exact plain hs
      · exact hB y pc f hb d L S F M _ hf (fun d' y' pc' L' S' F' M' hq E' hE' => ih B (d', (y', pc', L', S'), F', M') E' hq hB' hE') E hN
