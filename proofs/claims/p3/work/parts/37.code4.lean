/-! THE CODED EVALUATOR: bits, division, tests, branches -/
theorem ble_no {a b : Nat} (h : Nat.ble a b = false) : ¬ a ≤ b := fun q => by rw [Nat.ble_eq.mpr q] at h; cases h
theorem i32_nat {p : Nat} (h : p < 4294967296) : (Int32.ofInt (sg32 p)).toBitVec.toNat = p := by
  show (BitVec.ofInt 32 (sg32 p)).toNat = p
  rw [BitVec.toNat_ofInt]
  unfold sg32
  split <;> omega
theorem i64_nat {p : Nat} (h : p < 18446744073709551616) : (Int64.ofInt (sg64 p)).toBitVec.toNat = p := by
  show (BitVec.ofInt 64 (sg64 p)).toNat = p
  rw [BitVec.toNat_ofInt]
  unfold sg64
  split <;> omega
theorem i32_sg (x : Int32) : x.toInt = sg32 x.toBitVec.toNat ∧ x.toBitVec.toNat < 4294967296 := by
  have h := x.toBitVec.isLt
  refine ⟨?_, h⟩
  show x.toBitVec.toInt = _
  rw [BitVec.toInt_eq_toNat_cond]
  unfold sg32
  split <;> split <;> omega
theorem i64_sg (x : Int64) : x.toInt = sg64 x.toBitVec.toNat ∧ x.toBitVec.toNat < 18446744073709551616 := by
  have h := x.toBitVec.isLt
  refine ⟨?_, h⟩
  show x.toBitVec.toInt = _
  rw [BitVec.toInt_eq_toNat_cond]
  unfold sg64
  split <;> split <;> omega
theorem cr_x32 {ρ : Nat → Int} (x : Int32) : cr ρ (8 * x.toBitVec.toNat) (eI x.toInt) ∧ 8 * x.toBitVec.toNat < nW := by
  obtain ⟨h1, h2⟩ := i32_sg x
  refine ⟨by rw [h1]; exact cr_I h2, ?_⟩
  have := nW_35
  omega
theorem cr_x64 {ρ : Nat → Int} (x : Int64) : cr ρ (8 * x.toBitVec.toNat + 1) (eJ x.toInt) ∧ 8 * x.toBitVec.toNat + 1 < nW := by
  obtain ⟨h1, h2⟩ := i64_sg x
  refine ⟨by rw [h1]; exact cr_J h2, ?_⟩
  have := nW_67
  omega
noncomputable def ng_iand (a b : Nat) : Nat := Nat.mul 8 (Nat.land (Nat.div a 8) (Nat.div b 8))
theorem np_iand {y np : Nat} : np_ok .iand y np (np_2 0 0 ng_iand y np) := np_2_ok (by decide) (by decide) fun ρ b a e1 e2 lv st h1 h2 hb ha => by
  obtain ⟨hb1, rfl⟩ := cr_0 h1 hb
  obtain ⟨ha1, rfl⟩ := cr_0 h2 ha
  have hx := cr_x32 (ρ := ρ) (Int32.ofInt (sg32 (a / 8)) &&& Int32.ofInt (sg32 (b / 8)))
  have e1 : (Int32.ofInt (sg32 (a / 8)) &&& Int32.ofInt (sg32 (b / 8))).toBitVec.toNat = Nat.land (a / 8) (b / 8) := by
    rw [Int32.toBitVec_and, BitVec.toNat_and, i32_nat ha1, i32_nat hb1]
    rfl
  rw [e1] at hx
  exact ⟨_, rfl, hx.1, hx.2⟩
noncomputable def ng_ior (a b : Nat) : Nat := Nat.mul 8 (Nat.lor (Nat.div a 8) (Nat.div b 8))
theorem np_ior {y np : Nat} : np_ok .ior y np (np_2 0 0 ng_ior y np) := np_2_ok (by decide) (by decide) fun ρ b a e1 e2 lv st h1 h2 hb ha => by
  obtain ⟨hb1, rfl⟩ := cr_0 h1 hb
  obtain ⟨ha1, rfl⟩ := cr_0 h2 ha
  have hx := cr_x32 (ρ := ρ) (Int32.ofInt (sg32 (a / 8)) ||| Int32.ofInt (sg32 (b / 8)))
  have e1 : (Int32.ofInt (sg32 (a / 8)) ||| Int32.ofInt (sg32 (b / 8))).toBitVec.toNat = Nat.lor (a / 8) (b / 8) := by
    rw [Int32.toBitVec_or, BitVec.toNat_or, i32_nat ha1, i32_nat hb1]
    rfl
  rw [e1] at hx
  exact ⟨_, rfl, hx.1, hx.2⟩
noncomputable def ng_ixor (a b : Nat) : Nat := Nat.mul 8 (Nat.xor (Nat.div a 8) (Nat.div b 8))
theorem np_ixor {y np : Nat} : np_ok .ixor y np (np_2 0 0 ng_ixor y np) := np_2_ok (by decide) (by decide) fun ρ b a e1 e2 lv st h1 h2 hb ha => by
  obtain ⟨hb1, rfl⟩ := cr_0 h1 hb
  obtain ⟨ha1, rfl⟩ := cr_0 h2 ha
  have hx := cr_x32 (ρ := ρ) (Int32.ofInt (sg32 (a / 8)) ^^^ Int32.ofInt (sg32 (b / 8)))
  have e1 : (Int32.ofInt (sg32 (a / 8)) ^^^ Int32.ofInt (sg32 (b / 8))).toBitVec.toNat = Nat.xor (a / 8) (b / 8) := by
    rw [Int32.toBitVec_xor, BitVec.toNat_xor, i32_nat ha1, i32_nat hb1]
    rfl
  rw [e1] at hx
  exact ⟨_, rfl, hx.1, hx.2⟩
noncomputable def ng_land (a b : Nat) : Nat := Nat.succ (Nat.mul 8 (Nat.land (Nat.div a 8) (Nat.div b 8)))
theorem np_land {y np : Nat} : np_ok .land y np (np_2 1 1 ng_land y np) := np_2_ok (by decide) (by decide) fun ρ b a e1 e2 lv st h1 h2 hb ha => by
  obtain ⟨hb1, rfl⟩ := cr_1 h1 hb
  obtain ⟨ha1, rfl⟩ := cr_1 h2 ha
  have hx := cr_x64 (ρ := ρ) (Int64.ofInt (sg64 (a / 8)) &&& Int64.ofInt (sg64 (b / 8)))
  have e1 : (Int64.ofInt (sg64 (a / 8)) &&& Int64.ofInt (sg64 (b / 8))).toBitVec.toNat = Nat.land (a / 8) (b / 8) := by
    rw [Int64.toBitVec_and, BitVec.toNat_and, i64_nat ha1, i64_nat hb1]
    rfl
  rw [e1] at hx
  exact ⟨_, rfl, hx.1, hx.2⟩
noncomputable def ng_lor (a b : Nat) : Nat := Nat.succ (Nat.mul 8 (Nat.lor (Nat.div a 8) (Nat.div b 8)))
theorem np_lor {y np : Nat} : np_ok .lor y np (np_2 1 1 ng_lor y np) := np_2_ok (by decide) (by decide) fun ρ b a e1 e2 lv st h1 h2 hb ha => by
  obtain ⟨hb1, rfl⟩ := cr_1 h1 hb
  obtain ⟨ha1, rfl⟩ := cr_1 h2 ha
  have hx := cr_x64 (ρ := ρ) (Int64.ofInt (sg64 (a / 8)) ||| Int64.ofInt (sg64 (b / 8)))
  have e1 : (Int64.ofInt (sg64 (a / 8)) ||| Int64.ofInt (sg64 (b / 8))).toBitVec.toNat = Nat.lor (a / 8) (b / 8) := by
    rw [Int64.toBitVec_or, BitVec.toNat_or, i64_nat ha1, i64_nat hb1]
    rfl
  rw [e1] at hx
  exact ⟨_, rfl, hx.1, hx.2⟩
noncomputable def ng_lxor (a b : Nat) : Nat := Nat.succ (Nat.mul 8 (Nat.xor (Nat.div a 8) (Nat.div b 8)))
theorem np_lxor {y np : Nat} : np_ok .lxor y np (np_2 1 1 ng_lxor y np) := np_2_ok (by decide) (by decide) fun ρ b a e1 e2 lv st h1 h2 hb ha => by
  obtain ⟨hb1, rfl⟩ := cr_1 h1 hb
  obtain ⟨ha1, rfl⟩ := cr_1 h2 ha
  have hx := cr_x64 (ρ := ρ) (Int64.ofInt (sg64 (a / 8)) ^^^ Int64.ofInt (sg64 (b / 8)))
  have e1 : (Int64.ofInt (sg64 (a / 8)) ^^^ Int64.ofInt (sg64 (b / 8))).toBitVec.toNat = Nat.xor (a / 8) (b / 8) := by
    rw [Int64.toBitVec_xor, BitVec.toNat_xor, i64_nat ha1, i64_nat hb1]
    rfl
  rw [e1] at hx
  exact ⟨_, rfl, hx.1, hx.2⟩
noncomputable def ng_ishl (a b : Nat) : Nat := Nat.mul 8 (Int32.ofInt (sg32 (Nat.div a 8)) <<< (Int32.ofInt (sg32 (Nat.div b 8)) &&& 31)).toBitVec.toNat
theorem np_ishl {y np : Nat} : np_ok .ishl y np (np_2 0 0 ng_ishl y np) := np_2_ok (by decide) (by decide) fun ρ b a e1 e2 lv st h1 h2 hb ha => by
  obtain ⟨hb1, rfl⟩ := cr_0 h1 hb
  obtain ⟨ha1, rfl⟩ := cr_0 h2 ha
  have hx := cr_x32 (ρ := ρ) (Int32.ofInt (sg32 (a / 8)) <<< (Int32.ofInt (sg32 (b / 8)) &&& 31))
  exact ⟨_, rfl, hx.1, hx.2⟩
noncomputable def ng_ishr (a b : Nat) : Nat := Nat.mul 8 (Int32.ofInt (sg32 (Nat.div a 8)) >>> (Int32.ofInt (sg32 (Nat.div b 8)) &&& 31)).toBitVec.toNat
theorem np_ishr {y np : Nat} : np_ok .ishr y np (np_2 0 0 ng_ishr y np) := np_2_ok (by decide) (by decide) fun ρ b a e1 e2 lv st h1 h2 hb ha => by
  obtain ⟨hb1, rfl⟩ := cr_0 h1 hb
  obtain ⟨ha1, rfl⟩ := cr_0 h2 ha
  have hx := cr_x32 (ρ := ρ) (Int32.ofInt (sg32 (a / 8)) >>> (Int32.ofInt (sg32 (b / 8)) &&& 31))
  exact ⟨_, rfl, hx.1, hx.2⟩
noncomputable def ng_iushr (a b : Nat) : Nat := Nat.mul 8 (((Int32.ofInt (sg32 (Nat.div a 8))).toUInt32 >>> ((Int32.ofInt (sg32 (Nat.div b 8))).toUInt32 &&& Int32.toUInt32 31)).toInt32).toBitVec.toNat
theorem np_iushr {y np : Nat} : np_ok .iushr y np (np_2 0 0 ng_iushr y np) := np_2_ok (by decide) (by decide) fun ρ b a e1 e2 lv st h1 h2 hb ha => by
  obtain ⟨hb1, rfl⟩ := cr_0 h1 hb
  obtain ⟨ha1, rfl⟩ := cr_0 h2 ha
  have hx := cr_x32 (ρ := ρ) (((Int32.ofInt (sg32 (a / 8))).toUInt32 >>> ((Int32.ofInt (sg32 (b / 8))).toUInt32 &&& Int32.toUInt32 31)).toInt32)
  exact ⟨_, rfl, hx.1, hx.2⟩
noncomputable def ng_lshl (a b : Nat) : Nat := Nat.succ (Nat.mul 8 (Int64.ofInt (sg64 (Nat.div a 8)) <<< ((Int32.ofInt (sg32 (Nat.div b 8))).toInt64 &&& 63)).toBitVec.toNat)
theorem np_lshl {y np : Nat} : np_ok .lshl y np (np_2 0 1 ng_lshl y np) := np_2_ok (by decide) (by decide) fun ρ b a e1 e2 lv st h1 h2 hb ha => by
  obtain ⟨hb1, rfl⟩ := cr_0 h1 hb
  obtain ⟨ha1, rfl⟩ := cr_1 h2 ha
  have hx := cr_x64 (ρ := ρ) (Int64.ofInt (sg64 (a / 8)) <<< ((Int32.ofInt (sg32 (b / 8))).toInt64 &&& 63))
  exact ⟨_, rfl, hx.1, hx.2⟩
noncomputable def ng_lshr (a b : Nat) : Nat := Nat.succ (Nat.mul 8 (Int64.ofInt (sg64 (Nat.div a 8)) >>> ((Int32.ofInt (sg32 (Nat.div b 8))).toInt64 &&& 63)).toBitVec.toNat)
theorem np_lshr {y np : Nat} : np_ok .lshr y np (np_2 0 1 ng_lshr y np) := np_2_ok (by decide) (by decide) fun ρ b a e1 e2 lv st h1 h2 hb ha => by
  obtain ⟨hb1, rfl⟩ := cr_0 h1 hb
  obtain ⟨ha1, rfl⟩ := cr_1 h2 ha
  have hx := cr_x64 (ρ := ρ) (Int64.ofInt (sg64 (a / 8)) >>> ((Int32.ofInt (sg32 (b / 8))).toInt64 &&& 63))
  exact ⟨_, rfl, hx.1, hx.2⟩
noncomputable def ng_lushr (a b : Nat) : Nat := Nat.succ (Nat.mul 8 (((Int64.ofInt (sg64 (Nat.div a 8))).toUInt64 >>> ((Int32.ofInt (sg32 (Nat.div b 8))).toInt64.toUInt64 &&& Int64.toUInt64 63)).toInt64).toBitVec.toNat)
theorem np_lushr {y np : Nat} : np_ok .lushr y np (np_2 0 1 ng_lushr y np) := np_2_ok (by decide) (by decide) fun ρ b a e1 e2 lv st h1 h2 hb ha => by
  obtain ⟨hb1, rfl⟩ := cr_0 h1 hb
  obtain ⟨ha1, rfl⟩ := cr_1 h2 ha
  have hx := cr_x64 (ρ := ρ) (((Int64.ofInt (sg64 (a / 8))).toUInt64 >>> ((Int32.ofInt (sg32 (b / 8))).toInt64.toUInt64 &&& Int64.toUInt64 63)).toInt64)
  exact ⟨_, rfl, hx.1, hx.2⟩
/-- an int as its number -/
noncomputable def n_I (z : Int) : Nat := Nat.mul 8 (Int.toNat (z % 4294967296))
theorem n_I_ok {ρ : Nat → Int} (z : Int) : cr ρ (n_I z) (eI (ev_w z)) ∧ n_I z < nW := by
  have e : n_I z = 8 * (z % 4294967296).toNat := rfl
  rw [e]
  refine ⟨cr_w (by omega) (by omega), ?_⟩
  have := nW_35
  omega
noncomputable def np_idivc (y np : Nat) : nC := fun d L S F M Q z => f_if z (Nat.ble 1 (Nat.mod S nW)) (np_2 0 0 (fun a b => n_I (Int.tdiv (sg32 (Nat.div a 8)) (sg32 (Nat.div b 8)))) y np d L S F M Q z)
theorem np_idiv {y np : Nat} : np_ok .idiv y np (np_idivc y np) := by
  intro ρ d L S F M Q lv st hl hL hS h
  obtain ⟨h0, h⟩ := f_if_ok h
  obtain ⟨h1, h⟩ := f_if_ok h
  obtain ⟨h2, h3⟩ := f_if_ok h
  have h0 : 1 ≤ S % nW := Nat.ble_eq.mp h0
  have h1 : S % nW % 8 = 0 := Nat.eq_of_beq_eq_true h1
  have h2 : S / nW % nW % 8 = 0 := Nat.eq_of_beq_eq_true h2
  obtain ⟨e1, r1, rfl, h4, h5⟩ := hS.pop (by rw [h1]; decide)
  obtain ⟨e2, r, rfl, h6, h7⟩ := h5.pop (by rw [h2]; decide)
  obtain ⟨hb1, rfl⟩ := cr_0 h1 h4
  obtain ⟨ha1, rfl⟩ := cr_0 h2 h6
  have hb0 : sg32 (S % nW / 8) ≠ 0 := by
    unfold sg32
    split <;> omega
  have hn := n_I_ok (ρ := ρ) (Int.tdiv (sg32 (S / nW % nW / 8)) (sg32 (S % nW / 8)))
  refine ⟨L, _, lv, eI (ev_w (Int.tdiv (sg32 (S / nW % nW / 8)) (sg32 (S % nW / 8)))) :: r, ?_, rfl, hL, h7.push hn.2 hn.1, h3⟩
  show ((if ev_w (sg32 (S % nW / 8)) = 0 then none else some (eI (ev_w (Int.tdiv (ev_w (sg32 (S / nW % nW / 8))) (ev_w (sg32 (S % nW / 8))))))).map fun w => (lv, w :: r)) = _
  rw [sg32_w _ hb1, sg32_w _ ha1, if_neg hb0]
  rfl
theorem sg32_lt (p : Nat) (h : p < 4294967296) : -2147483648 ≤ sg32 p ∧ sg32 p < 2147483648 := by
  unfold sg32
  split <;> omega
theorem tmod_bounds2 (a b : Int) (h0 : b ≠ 0) (hb : -2147483648 ≤ b ∧ b < 2147483648) : -2147483648 ≤ Int.tmod a b ∧ Int.tmod a b < 2147483648 := by
  have h1 : (Int.tmod a b).natAbs < b.natAbs := by
    rw [Int.natAbs_tmod]
    exact Nat.mod_lt _ (by omega)
  omega
noncomputable def np_iremc (y np : Nat) : nC := fun d L S F M Q z => f_if z (Nat.ble 1 (Nat.mod S nW)) (np_2 0 0 (fun a b => n_I (Int.tmod (sg32 (Nat.div a 8)) (sg32 (Nat.div b 8)))) y np d L S F M Q z)
theorem np_irem {y np : Nat} : np_ok .irem y np (np_iremc y np) := by
  intro ρ d L S F M Q lv st hl hL hS h
  obtain ⟨h0, h⟩ := f_if_ok h
  obtain ⟨h1, h⟩ := f_if_ok h
  obtain ⟨h2, h3⟩ := f_if_ok h
  have h0 : 1 ≤ S % nW := Nat.ble_eq.mp h0
  have h1 : S % nW % 8 = 0 := Nat.eq_of_beq_eq_true h1
  have h2 : S / nW % nW % 8 = 0 := Nat.eq_of_beq_eq_true h2
  obtain ⟨e1, r1, rfl, h4, h5⟩ := hS.pop (by rw [h1]; decide)
  obtain ⟨e2, r, rfl, h6, h7⟩ := h5.pop (by rw [h2]; decide)
  obtain ⟨hb1, rfl⟩ := cr_0 h1 h4
  obtain ⟨ha1, rfl⟩ := cr_0 h2 h6
  have hb0 : sg32 (S % nW / 8) ≠ 0 := by
    unfold sg32
    split <;> omega
  have hn := n_I_ok (ρ := ρ) (Int.tmod (sg32 (S / nW % nW / 8)) (sg32 (S % nW / 8)))
  refine ⟨L, _, lv, eI (ev_w (Int.tmod (sg32 (S / nW % nW / 8)) (sg32 (S % nW / 8)))) :: r, ?_, rfl, hL, h7.push hn.2 hn.1, h3⟩
  show ((if ev_w (sg32 (S % nW / 8)) = 0 then none else some (eI (Int.tmod (ev_w (sg32 (S / nW % nW / 8))) (ev_w (sg32 (S % nW / 8)))))).map fun w => (lv, w :: r)) = _
  rw [sg32_w _ hb1, sg32_w _ ha1, if_neg hb0]
  have hb := tmod_bounds2 (sg32 (S / nW % nW / 8)) (sg32 (S % nW / 8)) hb0 (sg32_lt _ hb1)
  rw [ev_w_in hb.1 hb.2]
  rfl
noncomputable def ng_lcmp (a b : Nat) : Nat := @Bool.rec (fun _ => Nat) (@Bool.rec (fun _ => Nat) 8 34359738360 (Nat.ble (Nat.mod (Nat.add a 73786976294838206464) 147573952589676412928) (Nat.mod (Nat.add b 73786976294838206464) 147573952589676412928))) 0 (Nat.beq a b)
theorem np_lcmp {y np : Nat} : np_ok .lcmp y np (np_2 1 1 ng_lcmp y np) := np_2_ok (by decide) (by decide) fun ρ b a e1 e2 lv st h1 h2 hb ha => by
  obtain ⟨hb1, rfl⟩ := cr_1 h1 hb
  obtain ⟨ha1, rfl⟩ := cr_1 h2 ha
  have hW := nW_67
  have he : ev_s .lcmp lv (eJ (sg64 (b / 8)) :: eJ (sg64 (a / 8)) :: st) = some (lv, eI (if sg64 (a / 8) > sg64 (b / 8) then 1 else if sg64 (a / 8) = sg64 (b / 8) then 0 else -1) :: st) := by
    show some (lv, eI (if ev_W (sg64 (a / 8)) > ev_W (sg64 (b / 8)) then 1 else if ev_W (sg64 (a / 8)) = ev_W (sg64 (b / 8)) then 0 else -1) :: st) = _
    rw [sg64_W _ ha1, sg64_W _ hb1]
  refine ⟨_, he, ?_, ?_⟩
  · unfold ng_lcmp
    cases hq : Nat.beq a b with
    | true =>
      have hq := Nat.eq_of_beq_eq_true hq
      rw [hq, if_neg (by omega), if_pos rfl]
      exact cr_I (p := 0) (by decide)
    | false =>
      have hq := Nat.ne_of_beq_eq_false hq
      have hne : ¬ sg64 (a / 8) = sg64 (b / 8) := by
        unfold sg64
        split <;> split <;> omega
      cases hl : Nat.ble (Nat.mod (Nat.add a 73786976294838206464) 147573952589676412928) (Nat.mod (Nat.add b 73786976294838206464) 147573952589676412928) with
      | true =>
        have hl : (a + 73786976294838206464) % 147573952589676412928 ≤ (b + 73786976294838206464) % 147573952589676412928 := Nat.ble_eq.mp hl
        have hlt : ¬ sg64 (a / 8) > sg64 (b / 8) := by
          unfold sg64
          split <;> split <;> omega
        rw [if_neg hlt, if_neg hne]
        exact cr_I (p := 4294967295) (by decide)
      | false =>
        have hl : ¬ (a + 73786976294838206464) % 147573952589676412928 ≤ (b + 73786976294838206464) % 147573952589676412928 := ble_no hl
        have hgt : sg64 (a / 8) > sg64 (b / 8) := by
          unfold sg64
          split <;> split <;> omega
        rw [if_pos hgt]
        exact cr_I (p := 1) (by decide)
  · unfold ng_lcmp
    cases Nat.beq a b with
    | true => show 0 < nW; omega
    | false =>
      cases Nat.ble (Nat.mod (Nat.add a 73786976294838206464) 147573952589676412928) (Nat.mod (Nat.add b 73786976294838206464) 147573952589676412928) with
      | true => show 34359738360 < nW; omega
      | false => show 8 < nW; omega
noncomputable def ng_i2s (a : Nat) : Nat := n_I ((sg32 (Nat.div a 8) + 32768) % 65536 - 32768)
theorem np_i2s {y np : Nat} : np_ok .i2s y np (np_1 0 ng_i2s y np) := np_1_ok (by decide) fun ρ a e1 lv st h1 ha => by
  obtain ⟨ha1, rfl⟩ := cr_0 h1 ha
  have hn := n_I_ok (ρ := ρ) ((sg32 (a / 8) + 32768) % 65536 - 32768)
  rw [ev_w_in (by omega) (by omega)] at hn
  exact ⟨_, rfl, hn.1, hn.2⟩
noncomputable def ng_i2b (a : Nat) : Nat := n_I ((sg32 (Nat.div a 8) + 128) % 256 - 128)
theorem np_i2b {y np : Nat} : np_ok .i2b y np (np_1 0 ng_i2b y np) := np_1_ok (by decide) fun ρ a e1 lv st h1 ha => by
  obtain ⟨ha1, rfl⟩ := cr_0 h1 ha
  have hn := n_I_ok (ρ := ρ) ((sg32 (a / 8) + 128) % 256 - 128)
  rw [ev_w_in (by omega) (by omega)] at hn
  exact ⟨_, rfl, hn.1, hn.2⟩
/-! the stack alone -/
noncomputable def n_c1 (c : Nat) : Bool := Nat.beq (Nat.mod (Nat.shiftRight 173 (Nat.mod c 8)) 2) 1
theorem n_c1_ok {ρ : Nat → Int} {c : Nat} {e : eV} (h : n_c1 c = true) (hc : cr ρ c e) : ev_cat e = 1 := by
  have h : Nat.beq ((173 >>> (c % 8)) % 2) 1 = true := h
  refine cr_cat ?_ hc
  show Nat.beq ((66 >>> (c % 8)) % 2) 1 = false
  rcases n_8 c with q | q | q | q | q | q | q | q <;> rw [q] at h ⊢ <;> first | rfl | (exfalso; revert h; decide)
theorem n_c1_4 {c : Nat} (h : n_c1 c = true) : c % 8 ≠ 4 := by
  intro q
  have h : Nat.beq ((173 >>> (c % 8)) % 2) 1 = true := h
  rw [q] at h
  revert h
  decide
noncomputable def np_dupc (y np : Nat) : nC := fun d L S F M Q z => f_if z (n_c1 (Nat.mod S nW)) (Q d y np L (Nat.add (Nat.mul S nW) (Nat.mod S nW)) F M)
theorem np_dup {y np : Nat} : np_ok .dup y np (np_dupc y np) := by
  intro ρ d L S F M Q lv st hl hL hS h
  obtain ⟨h1, h3⟩ := f_if_ok h
  obtain ⟨e, r, rfl, h4, h5⟩ := hS.pop (n_c1_4 h1)
  refine ⟨L, _, lv, e :: e :: r, ?_, rfl, hL, hS.push (n_lt _) h4, h3⟩
  show (if ev_cat e = 1 then some (lv, e :: e :: r) else none) = _
  rw [if_pos (n_c1_ok h1 h4)]
noncomputable def np_popc (y np : Nat) : nC := fun d L S F M Q z => f_if z (n_c1 (Nat.mod S nW)) (Q d y np L (Nat.div S nW) F M)
theorem np_pop {y np : Nat} : np_ok .pop y np (np_popc y np) := by
  intro ρ d L S F M Q lv st hl hL hS h
  obtain ⟨h1, h3⟩ := f_if_ok h
  obtain ⟨e, r, rfl, h4, h5⟩ := hS.pop (n_c1_4 h1)
  refine ⟨L, _, lv, r, ?_, rfl, hL, h5, h3⟩
  show (if ev_cat e = 1 then some (lv, r) else none) = _
  rw [if_pos (n_c1_ok h1 h4)]
noncomputable def np_dup2c (y np : Nat) : nC := fun d L S F M Q z => f_if z (n_c1 (Nat.mod S nW)) (f_if z (n_c1 (Nat.mod (Nat.div S nW) nW)) (Q d y np L (Nat.add (Nat.mul (Nat.add (Nat.mul S nW) (Nat.mod (Nat.div S nW) nW)) nW) (Nat.mod S nW)) F M))
theorem np_dup2 {y np : Nat} : np_ok .dup2 y np (np_dup2c y np) := by
  intro ρ d L S F M Q lv st hl hL hS h
  obtain ⟨h1, h⟩ := f_if_ok h
  obtain ⟨h2, h3⟩ := f_if_ok h
  obtain ⟨e, r1, rfl, h4, h5⟩ := hS.pop (n_c1_4 h1)
  obtain ⟨e2, r, rfl, h6, h7⟩ := h5.pop (n_c1_4 h2)
  refine ⟨L, _, lv, e :: e2 :: e :: e2 :: r, ?_, rfl, hL, (hS.push (n_lt _) h6).push (n_lt _) h4, h3⟩
  show (if ev_cat e = 1 ∧ ev_cat e2 = 1 then some (lv, e :: e2 :: e :: e2 :: r) else none) = _
  rw [if_pos ⟨n_c1_ok h1 h4, n_c1_ok h2 h6⟩]
/-! branches -/
def nj_ok (i : Instr) (n pc y : Nat) (f : nC) : Prop := ∀ (ρ : Nat → Int) (d L S : Nat) (F : List nF) (M : nM) (Q : nK) (st : List eV), nS ρ S st → f d L S F M Q false = true → ∃ np S' st', ev_j i n pc st = some (np, st') ∧ nS ρ S' st' ∧ Q d y np L S' F M = true
noncomputable def nj_if (t1 t2 t3 y : Nat) : nC := fun d L S F M Q z => f_if z (Nat.beq (Nat.mod (Nat.mod S nW) 8) 0) (@Bool.rec (fun _ => Bool) (Q d y t1 L (Nat.div S nW) F M) (@Bool.rec (fun _ => Bool) (Q d y t3 L (Nat.div S nW) F M) (Q d y t2 L (Nat.div S nW) F M) (Nat.beq (Nat.mod S nW) 0)) (Nat.ble (Nat.succ (Nat.mod S nW)) 17179869184))
theorem nj_if_ok {c : Jvm.ClassFile.Cond} {off : Int} {n pc y : Nat} (hn : n = 3) (h0 : 0 ≤ (pc : Int) + off) : nj_ok (.ifCond c off) n pc y (nj_if (sv_tg pc off (sv_fl c).1) (sv_tg pc off (sv_fl c).2.1) (sv_tg pc off (sv_fl c).2.2) y) := by
  intro ρ d L S F M Q st hS h
  obtain ⟨h1, h⟩ := f_if_ok h
  have h1 : S % nW % 8 = 0 := Nat.eq_of_beq_eq_true h1
  obtain ⟨e, r, rfl, h4, h5⟩ := hS.pop (by rw [h1]; decide)
  obtain ⟨hb1, rfl⟩ := cr_0 h1 h4
  have hj : ev_j (.ifCond c off) n pc (eI (sg32 (S % nW / 8)) :: r) = some (sv_tg pc off (sv_f (sv_fl c) (sg32 (S % nW / 8)) 0), r) := by
    show (if n = 3 then ev_if c pc off (sg32 (S % nW / 8)) r else none) = _
    rw [if_pos hn, ev_if_f h0, sg32_w _ hb1]
  rw [hj]
  unfold sv_f
  cases hl : Nat.ble (Nat.succ (Nat.mod S nW)) 17179869184 with
  | false =>
    rw [hl] at h
    have hl : ¬ S % nW + 1 ≤ 17179869184 := ble_no hl
    have hlt : sg32 (S % nW / 8) < 0 := by unfold sg32; split <;> omega
    rw [if_pos hlt]
    exact ⟨_, _, r, rfl, h5, h⟩
  | true =>
    rw [hl] at h
    have hl : S % nW + 1 ≤ 17179869184 := Nat.ble_eq.mp hl
    have hge : ¬ sg32 (S % nW / 8) < 0 := by unfold sg32; split <;> omega
    rw [if_neg hge]
    have h : @Bool.rec (fun _ => Bool) (Q d y (sv_tg pc off (sv_fl c).2.2) L (S / nW) F M) (Q d y (sv_tg pc off (sv_fl c).2.1) L (S / nW) F M) (Nat.beq (Nat.mod S nW) 0) = true := h
    cases hz : Nat.beq (Nat.mod S nW) 0 with
    | true =>
      rw [hz] at h
      have hz : S % nW = 0 := Nat.eq_of_beq_eq_true hz
      have he : sg32 (S % nW / 8) = 0 := by rw [hz]; rfl
      rw [if_pos he]
      exact ⟨_, _, r, rfl, h5, h⟩
    | false =>
      rw [hz] at h
      have hz : S % nW ≠ 0 := Nat.ne_of_beq_eq_false hz
      have he : ¬ sg32 (S % nW / 8) = 0 := by unfold sg32; split <;> omega
      rw [if_neg he]
      exact ⟨_, _, r, rfl, h5, h⟩
noncomputable def nj_ic (t1 t2 t3 y : Nat) : nC := fun d L S F M Q z => f_if z (Nat.beq (Nat.mod (Nat.mod S nW) 8) 0) (f_if z (Nat.beq (Nat.mod (Nat.mod (Nat.div S nW) nW) 8) 0) (@Bool.rec (fun _ => Bool) (@Bool.rec (fun _ => Bool) (Q d y t3 L (Nat.div (Nat.div S nW) nW) F M) (Q d y t1 L (Nat.div (Nat.div S nW) nW) F M) (Nat.ble (Nat.mod (Nat.add (Nat.mod (Nat.div S nW) nW) 17179869184) 34359738368) (Nat.mod (Nat.add (Nat.mod S nW) 17179869184) 34359738368))) (Q d y t2 L (Nat.div (Nat.div S nW) nW) F M) (Nat.beq (Nat.mod (Nat.div S nW) nW) (Nat.mod S nW))))
theorem nj_ic_ok {c : Jvm.ClassFile.Cond} {off : Int} {n pc y : Nat} (hn : n = 3) (h0 : 0 ≤ (pc : Int) + off) : nj_ok (.if_icmp c off) n pc y (nj_ic (sv_tg pc off (sv_fl c).1) (sv_tg pc off (sv_fl c).2.1) (sv_tg pc off (sv_fl c).2.2) y) := by
  intro ρ d L S F M Q st hS h
  obtain ⟨h1, h⟩ := f_if_ok h
  obtain ⟨h2, h⟩ := f_if_ok h
  have h1 : S % nW % 8 = 0 := Nat.eq_of_beq_eq_true h1
  have h2 : S / nW % nW % 8 = 0 := Nat.eq_of_beq_eq_true h2
  obtain ⟨e1, r1, rfl, h4, h5⟩ := hS.pop (by rw [h1]; decide)
  obtain ⟨e2, r, rfl, h6, h7⟩ := h5.pop (by rw [h2]; decide)
  obtain ⟨hb1, rfl⟩ := cr_0 h1 h4
  obtain ⟨ha1, rfl⟩ := cr_0 h2 h6
  have hj : ev_j (.if_icmp c off) n pc (eI (sg32 (S % nW / 8)) :: eI (sg32 (S / nW % nW / 8)) :: r) = some (sv_tg pc off (sv_f (sv_fl c) (sg32 (S / nW % nW / 8)) (sg32 (S % nW / 8))), r) := by
    show (if n = 3 then ev_ic c pc off (sg32 (S / nW % nW / 8)) (sg32 (S % nW / 8)) r else none) = _
    rw [if_pos hn, ev_ic_f h0, sg32_w _ hb1, sg32_w _ ha1]
  rw [hj]
  unfold sv_f
  cases hz : Nat.beq (Nat.mod (Nat.div S nW) nW) (Nat.mod S nW) with
  | true =>
    rw [hz] at h
    have hz : S / nW % nW = S % nW := Nat.eq_of_beq_eq_true hz
    rw [hz, if_neg (by omega), if_pos rfl]
    exact ⟨_, _, r, rfl, h7, h⟩
  | false =>
    rw [hz] at h
    have hz : S / nW % nW ≠ S % nW := Nat.ne_of_beq_eq_false hz
    have hne : ¬ sg32 (S / nW % nW / 8) = sg32 (S % nW / 8) := by unfold sg32; split <;> split <;> omega
    cases hl : Nat.ble (Nat.mod (Nat.add (Nat.mod (Nat.div S nW) nW) 17179869184) 34359738368) (Nat.mod (Nat.add (Nat.mod S nW) 17179869184) 34359738368) with
    | true =>
      rw [hl] at h
      have hl : (S / nW % nW + 17179869184) % 34359738368 ≤ (S % nW + 17179869184) % 34359738368 := Nat.ble_eq.mp hl
      have hlt : sg32 (S / nW % nW / 8) < sg32 (S % nW / 8) := by unfold sg32; split <;> split <;> omega
      rw [if_pos hlt]
      exact ⟨_, _, r, rfl, h7, h⟩
    | false =>
      rw [hl] at h
      have hl : ¬ (S / nW % nW + 17179869184) % 34359738368 ≤ (S % nW + 17179869184) % 34359738368 := ble_no hl
      have hlt : ¬ sg32 (S / nW % nW / 8) < sg32 (S % nW / 8) := by unfold sg32; split <;> split <;> omega
      rw [if_neg hlt, if_neg hne]
      exact ⟨_, _, r, rfl, h7, h⟩
noncomputable def nj_go (t y : Nat) : nC := fun d L S F M Q z => Q d y t L S F M
theorem nj_go_ok {off : Int} {n pc y : Nat} (hn : n = 3) (h0 : 0 ≤ (pc : Int) + off) : nj_ok (.goto off) n pc y (nj_go (((pc : Int) + off).toNat) y) := by
  intro ρ d L S F M Q st hS h
  refine ⟨_, S, st, ?_, hS, h⟩
  show (if n = 3 then ev_b pc off True st else none) = _
  rw [if_pos hn]
  unfold ev_b
  rw [if_pos h0, if_pos True.intro]
noncomputable def nj_nu (t1 t2 y : Nat) : nC := fun d L S F M Q z => f_if z (Nat.beq (Nat.mod (Nat.mod S nW) 8) 2) (@Bool.rec (fun _ => Bool) (Q d y t2 L (Nat.div S nW) F M) (Q d y t1 L (Nat.div S nW) F M) (Nat.beq (Nat.mod S nW) 2))
theorem nj_nu_ok {i : Instr} {t1 t2 n pc y : Nat} (hi : ∀ (r : Nat) (st : List eV), ev_j i n pc (eR r :: st) = some (if r = 0 then t1 else t2, st)) : nj_ok i n pc y (nj_nu t1 t2 y) := by
  intro ρ d L S F M Q st hS h
  obtain ⟨h1, h⟩ := f_if_ok h
  have h1 : S % nW % 8 = 2 := Nat.eq_of_beq_eq_true h1
  obtain ⟨e, r, rfl, h4, h5⟩ := hS.pop (by rw [h1]; decide)
  have e1 := cr_2 h1 h4
  subst e1
  rw [hi]
  cases hz : Nat.beq (Nat.mod S nW) 2 with
  | true =>
    rw [hz] at h
    have hz : S % nW = 2 := Nat.eq_of_beq_eq_true hz
    rw [if_pos (by omega)]
    exact ⟨_, _, r, rfl, h5, h⟩
  | false =>
    rw [hz] at h
    have hz : S % nW ≠ 2 := Nat.ne_of_beq_eq_false hz
    rw [if_neg (by omega)]
    exact ⟨_, _, r, rfl, h5, h⟩
