/-! ROWS of ints that aren't known: what they leave -/
theorem hw_bd (x : Int) : -2147483648 ≤ ev_w x ∧ ev_w x ≤ 2147483647 := by
  unfold ev_w
  omega
theorem hW_bd (x : Int) : -9223372036854775808 ≤ ev_W x ∧ ev_W x ≤ 9223372036854775807 := by
  unfold ev_W
  omega
theorem pos_g {g : Nat → Nat} {μ : eM} {a ρ : Nat} (h : SI g μ) (hg : g a = ρ) (h0 : ρ ≠ 0) : 0 < a := by
  rcases Nat.eq_zero_or_pos a with q | q
  · subst q
    exact absurd (hg.symm.trans h.1) h0
  · exact q
theorem beq_g {g : Nat → Nat} {μ : eM} {a ρ : Nat} (h : SI g μ) (hg : g a = ρ) (h0 : ρ ≠ 0) : Nat.beq a 0 = false := by
  have h1 := pos_g h hg h0
  cases a with
  | zero => omega
  | succ a => rfl
theorem z01 {w : Int} (h : w = 0 ∨ w = 1) : ev_w w = 0 ∨ ev_w w = 1 := by
  rcases h with q | q
  · rw [q]
    exact Or.inl rfl
  · rw [q]
    exact Or.inr rfl
theorem qv_z {w : Int} (h : w = 0 ∨ w = 1) : ev_qv 1 (eI w) = some w := by
  show (if ev_w w = 0 ∨ ev_w w = 1 then some w else none) = some w
  rw [if_pos (z01 h)]
theorem hor2 {a b : Nat} {x : Nat} (h : (Nat.beq x a || Nat.beq x b) = true) : x = a ∨ x = b := by
  rw [Bool.or_eq_true] at h
  exact h.imp Nat.eq_of_beq_eq_true Nat.eq_of_beq_eq_true
theorem hor3 {a b c : Nat} {x : Nat} (h : (Nat.beq x a || Nat.beq x b || Nat.beq x c) = true) : x = a ∨ x = b ∨ x = c := by
  rw [Bool.or_eq_true] at h
  rcases h with h | h
  · rcases hor2 h with q | q
    · exact Or.inl q
    · exact Or.inr (Or.inl q)
  · exact Or.inr (Or.inr (Nat.eq_of_beq_eq_true h))
theorem h_iand {a b : Int} (h0 : 0 ≤ b) (h1 : b < 2147483648) : ∃ v : Int, (∀ (lv : List (Option eV)) (st : List eV), ev_s .iand lv (eI b :: eI a :: st) = some (lv, eI v :: st)) ∧ (0 ≤ v ∧ v ≤ b) := ⟨_, fun _ _ => rfl, ev_and_b h0 (by omega)⟩
theorem h_ior (a b : Int) : ∃ v : Int, (∀ (lv : List (Option eV)) (st : List eV), ev_s .ior lv (eI b :: eI a :: st) = some (lv, eI v :: st)) ∧ (-2147483648 ≤ v ∧ v ≤ 2147483647) := ⟨_, fun _ _ => rfl, ev_i32 _⟩
theorem h_ixor (a b : Int) : ∃ v : Int, (∀ (lv : List (Option eV)) (st : List eV), ev_s .ixor lv (eI b :: eI a :: st) = some (lv, eI v :: st)) ∧ (-2147483648 ≤ v ∧ v ≤ 2147483647) := ⟨_, fun _ _ => rfl, ev_i32 _⟩
theorem h_neg (z : Int32) : z.toInt < 0 ↔ z.toBitVec.msb = true := by
  rw [BitVec.msb_eq_toInt]
  show z.toInt < 0 ↔ decide (z.toBitVec.toInt < 0) = true
  rw [decide_eq_true_iff]
  exact Iff.rfl
theorem h_ixor2 {a b : Int} (ha : -2147483648 ≤ a ∧ a ≤ 2147483647) (h0 : 0 ≤ b) (h1 : b < 2147483648) : ∃ v : Int, (∀ (lv : List (Option eV)) (st : List eV), ev_s .ixor lv (eI b :: eI a :: st) = some (lv, eI v :: st)) ∧ ((-2147483648 ≤ v ∧ v ≤ 2147483647) ∧ (v < 0 ↔ a < 0)) := by
  refine ⟨_, fun _ _ => rfl, ev_i32 _, ?_⟩
  have e1 : (Int32.ofInt a).toInt = a := by rw [ev_w_ok, ev_w_in ha.1 (by omega)]
  have e2 : (Int32.ofInt b).toInt = b := by rw [ev_w_ok, ev_w_in (by omega) h1]
  have hb : (Int32.ofInt b).toBitVec.msb = false := by
    rw [Bool.eq_false_iff]
    intro q
    have := (h_neg (Int32.ofInt b)).mpr q
    omega
  rw [h_neg, Int32.toBitVec_xor, BitVec.msb_xor, hb, Bool.xor_false, ← h_neg, e1]
theorem h_ishl (a b : Int) : ∃ v : Int, (∀ (lv : List (Option eV)) (st : List eV), ev_s .ishl lv (eI b :: eI a :: st) = some (lv, eI v :: st)) ∧ (-2147483648 ≤ v ∧ v ≤ 2147483647) := ⟨_, fun _ _ => rfl, ev_i32 _⟩
theorem h_ishr (a b : Int) : ∃ v : Int, (∀ (lv : List (Option eV)) (st : List eV), ev_s .ishr lv (eI b :: eI a :: st) = some (lv, eI v :: st)) ∧ (-2147483648 ≤ v ∧ v ≤ 2147483647) := ⟨_, fun _ _ => rfl, ev_i32 _⟩
theorem h_iushr (a b : Int) : ∃ v : Int, (∀ (lv : List (Option eV)) (st : List eV), ev_s .iushr lv (eI b :: eI a :: st) = some (lv, eI v :: st)) ∧ (-2147483648 ≤ v ∧ v ≤ 2147483647) := ⟨_, fun _ _ => rfl, ev_i32 _⟩
theorem ev_i64 (z : Int64) : -9223372036854775808 ≤ z.toInt ∧ z.toInt ≤ 9223372036854775807 := by
  have h1 := z.le_toInt
  have h2 := z.toInt_lt
  omega
theorem h_land (a b : Int) : ∃ v : Int, (∀ (lv : List (Option eV)) (st : List eV), ev_s .land lv (eJ b :: eJ a :: st) = some (lv, eJ v :: st)) ∧ (-9223372036854775808 ≤ v ∧ v ≤ 9223372036854775807) := ⟨_, fun _ _ => rfl, ev_i64 _⟩
theorem h_lor (a b : Int) : ∃ v : Int, (∀ (lv : List (Option eV)) (st : List eV), ev_s .lor lv (eJ b :: eJ a :: st) = some (lv, eJ v :: st)) ∧ (-9223372036854775808 ≤ v ∧ v ≤ 9223372036854775807) := ⟨_, fun _ _ => rfl, ev_i64 _⟩
theorem h_lxor (a b : Int) : ∃ v : Int, (∀ (lv : List (Option eV)) (st : List eV), ev_s .lxor lv (eJ b :: eJ a :: st) = some (lv, eJ v :: st)) ∧ (-9223372036854775808 ≤ v ∧ v ≤ 9223372036854775807) := ⟨_, fun _ _ => rfl, ev_i64 _⟩
theorem h_lshl (a b : Int) : ∃ v : Int, (∀ (lv : List (Option eV)) (st : List eV), ev_s .lshl lv (eI b :: eJ a :: st) = some (lv, eJ v :: st)) ∧ (-9223372036854775808 ≤ v ∧ v ≤ 9223372036854775807) := ⟨_, fun _ _ => rfl, ev_i64 _⟩
theorem h_lshr (a b : Int) : ∃ v : Int, (∀ (lv : List (Option eV)) (st : List eV), ev_s .lshr lv (eI b :: eJ a :: st) = some (lv, eJ v :: st)) ∧ (-9223372036854775808 ≤ v ∧ v ≤ 9223372036854775807) := ⟨_, fun _ _ => rfl, ev_i64 _⟩
theorem h_lushr (a b : Int) : ∃ v : Int, (∀ (lv : List (Option eV)) (st : List eV), ev_s .lushr lv (eI b :: eJ a :: st) = some (lv, eJ v :: st)) ∧ (-9223372036854775808 ≤ v ∧ v ≤ 9223372036854775807) := ⟨_, fun _ _ => rfl, ev_i64 _⟩
theorem h_l2i (a : Int) : ∃ v : Int, (∀ (lv : List (Option eV)) (st : List eV), ev_s .l2i lv (eJ a :: st) = some (lv, eI v :: st)) ∧ (-2147483648 ≤ v ∧ v ≤ 2147483647) := ⟨_, fun _ _ => rfl, hw_bd _⟩
theorem h_lcmp (a b : Int) : ∃ v : Int, (∀ (lv : List (Option eV)) (st : List eV), ev_s .lcmp lv (eJ b :: eJ a :: st) = some (lv, eI v :: st)) ∧ (-1 ≤ v ∧ v ≤ 1) := ⟨_, fun _ _ => rfl, by
  split
  · omega
  · split <;> omega⟩
theorem h_eml {a k : Int} (h : 0 ≤ a) (hk : 0 < k) : a % k ≤ a := by
  rcases Int.lt_or_le a k with q | q
  · rw [Int.emod_eq_of_lt h q]
    exact Int.le_refl _
  · have := Int.emod_lt_of_pos a hk
    omega
theorem h_irem {a k : Int} (hk : 0 < k) (hk2 : k < 2147483648) (ha : -2147483648 ≤ a ∧ a ≤ 2147483647) : ∃ v : Int, (∀ (lv : List (Option eV)) (st : List eV), ev_s .irem lv (eI k :: eI a :: st) = some (lv, eI v :: st)) ∧ ((0 ≤ a → v = a % k) ∧ -k < v ∧ v < k ∧ (0 ≤ a → 0 ≤ v ∧ v ≤ a) ∧ (a ≤ 0 → a ≤ v ∧ v ≤ 0)) := by
  refine ⟨Int.tmod a k, fun lv st => ?_, fun h => Int.tmod_eq_emod_of_nonneg h, ?_⟩
  · have e1 : ev_w k = k := ev_w_in (by omega) (by omega)
    have e2 : ev_w a = a := ev_w_in (by omega) (by omega)
    have e3 : k ≠ 0 := by omega
    simp [ev_s, ev_bII, eI, e1, e2, e3]
  · have h1 := Int.tmod_lt_of_pos a hk
    have h2 : -k < Int.tmod a k := by
      have := Int.lt_tmod_of_pos a hk
      omega
    refine ⟨h2, h1, fun h => ?_, fun h => ?_⟩
    · rw [Int.tmod_eq_emod_of_nonneg h]
      have h3 := Int.emod_nonneg a (show k ≠ 0 by omega)
      have h4 := h_eml h hk
      omega
    · obtain ⟨b, rfl⟩ : ∃ b, a = -b := ⟨-a, by omega⟩
      rw [Int.neg_tmod, Int.tmod_eq_emod_of_nonneg (show 0 ≤ b by omega)]
      have h3 := Int.emod_nonneg b (show k ≠ 0 by omega)
      have h4 := h_eml (show 0 ≤ b by omega) hk
      omega
theorem h_idiv {a k : Int} (hk : 0 < k) (hk2 : k < 2147483648) (ha : -2147483648 ≤ a ∧ a ≤ 2147483647) : ∃ v : Int, (∀ (lv : List (Option eV)) (st : List eV), ev_s .idiv lv (eI k :: eI a :: st) = some (lv, eI v :: st)) ∧ (0 ≤ a → v = a / k) ∧ (a ≤ 0 → v = -((-a) / k)) := by
  refine ⟨Int.tdiv a k, fun lv st => ?_, fun h => Int.tdiv_eq_ediv_of_nonneg h, fun h => ?_⟩
  · have e1 : ev_w k = k := ev_w_in (by omega) (by omega)
    have e2 : ev_w a = a := ev_w_in (by omega) (by omega)
    have e3 : k ≠ 0 := by omega
    have hb : -2147483648 ≤ Int.tdiv a k ∧ Int.tdiv a k ≤ 2147483647 := by
      rcases Int.le_total 0 a with h | h
      · rw [Int.tdiv_eq_ediv_of_nonneg h]
        have h3 := Int.ediv_nonneg h (show 0 ≤ k by omega)
        have h4 := Int.ediv_le_self k h
        omega
      · obtain ⟨b, rfl⟩ : ∃ b, a = -b := ⟨-a, by omega⟩
        rw [Int.neg_tdiv, Int.tdiv_eq_ediv_of_nonneg (show 0 ≤ b by omega)]
        have h3 := Int.ediv_nonneg (show 0 ≤ b by omega) (show 0 ≤ k by omega)
        have h4 := Int.ediv_le_self k (show 0 ≤ b by omega)
        omega
    have e4 : ev_w (Int.tdiv a k) = Int.tdiv a k := ev_w_in hb.1 (by omega)
    simp [ev_s, ev_bII, eI, e1, e2, e3, e4]
  · obtain ⟨b, rfl⟩ : ∃ b, a = -b := ⟨-a, by omega⟩
    rw [Int.neg_tdiv, Int.tdiv_eq_ediv_of_nonneg (show 0 ≤ b by omega), Int.neg_neg]
theorem j_si {fg : eG} {L : Nat} {ρ : Nat → Int} {rc : eQ} {d y pc np r b t pl c0 n : Nat} {x i lo hi : Int} {lv : List (Option eV)} {st : List eV} {F : List eFr} {μ : eM} (hfg : fg = dt_fg L ρ) (hr : (dt_co y).get pc = (pc, .iaload, 1, (c0, b, t, pl), x)) (hp : pc + 1 = np) (h1 : r ≠ 1) (h2 : r < 64) (h3 : 0 < r) (h4 : dt_sk r = 100) (h5 : (dt_sv r).length = n) (h6 : n < 1000 ∧ (dt_sv r).all (fun z => decide (lo ≤ z) && decide (z ≤ hi)) = true) (h7 : 0 ≤ i) (h8 : i < (n : Int)) (K : ∀ v : Int, lo ≤ v ∧ v ≤ hi → ex_q fg rc (d, (y, np, lv, eI v :: st), F, μ)) : ex_q fg rc (d, (y, pc, lv, eI i :: eR r :: st), F, μ) := by
  subst hfg
  have h9 : i.toNat < (dt_sv r).length := by omega
  refine w_al (v := (dt_sv r).getD i.toNat 0) hr hp (s_al (j := i.toNat) h1 h2 h3 h4 (by omega) h9 (by omega) rfl) (K _ ?_)
  have h10 := List.all_eq_true.mp h6.2 _ (List.getElem_mem h9)
  rw [Bool.and_eq_true] at h10
  rw [List.getD_eq_getElem?_getD, List.getElem?_eq_getElem h9]
  exact ⟨of_decide_eq_true h10.1, of_decide_eq_true h10.2⟩
