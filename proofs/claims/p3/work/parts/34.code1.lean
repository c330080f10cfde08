/-! THE CODED EVALUATOR: values as numbers; a row of values as one number, 72 bits each -/
abbrev nW : Nat := 4722366482869645213696
/-- the int, the long of which a number holds the bits -/
def sg32 (p : Nat) : Int := if p < 2147483648 then (p : Int) else (p : Int) - 4294967296
def sg64 (p : Nat) : Int := if p < 9223372036854775808 then (p : Int) else (p : Int) - 18446744073709551616
/-- what a number stands for: 8 times what it holds, and a mark: 0 an int, 1 a long, 2 a cell, 3 a number of the script, 5 any int, 6 any long, 7 an int within bounds -/
def cr (ρ : Nat → Int) (c : Nat) (e : eV) : Prop := match c % 8 with
  | 0 => c / 8 < 4294967296 ∧ e = eI (sg32 (c / 8))
  | 1 => c / 8 < 18446744073709551616 ∧ e = eJ (sg64 (c / 8))
  | 2 => e = eR (c / 8)
  | 3 => e = eI (ρ (c / 8))
  | 5 => ∃ z : Int, e = eI z
  | 6 => ∃ z : Int, e = eJ z
  | 7 => ∃ z : Int, e = eI z ∧ ((c / 8 % 4294967296 : Nat) : Int) - 2147483648 ≤ z ∧ z ≤ ((c / 8 / 4294967296 : Nat) : Int) - 2147483648
  | _ => False
theorem sg32_w (p : Nat) (h : p < 4294967296) : ev_w (sg32 p) = sg32 p := by
  unfold sg32
  split
  · exact ev_w_in (by omega) (by omega)
  · exact ev_w_in (by omega) (by omega)
theorem sg64_W (p : Nat) (h : p < 18446744073709551616) : ev_W (sg64 p) = sg64 p := by
  unfold sg64
  split
  · exact ev_W_in (by omega) (by omega)
  · exact ev_W_in (by omega) (by omega)
/-- the bits of a whole number as an int, as a long -/
theorem sg32_of (z : Int) (p : Nat) (h : p < 4294967296) (he : (z - (p : Int)) % 4294967296 = 0) : ev_w z = sg32 p := by
  unfold sg32 ev_w
  split <;> omega
theorem sg64_of (z : Int) (p : Nat) (h : p < 18446744073709551616) (he : (z - (p : Int)) % 18446744073709551616 = 0) : ev_W z = sg64 p := by
  unfold sg64 ev_W
  split <;> omega
theorem sg32_m (p : Nat) : (sg32 p - (p : Int)) % 4294967296 = 0 := by
  unfold sg32
  split <;> omega
theorem sg64_m (p : Nat) : (sg64 p - (p : Int)) % 18446744073709551616 = 0 := by
  unfold sg64
  split <;> omega
/-! marks -/
noncomputable def n_t0 (c : Nat) : Bool := Nat.beq (Nat.mod (Nat.shiftRight 169 (Nat.mod c 8)) 2) 1
noncomputable def n_t1 (c : Nat) : Bool := Nat.beq (Nat.mod (Nat.shiftRight 66 (Nat.mod c 8)) 2) 1
noncomputable def n_t4 (c : Nat) : Bool := @Bool.rec (fun _ => Bool) false (Nat.ble 10 c) (Nat.beq (Nat.mod c 8) 2)
theorem n_8 (c : Nat) : c % 8 = 0 ∨ c % 8 = 1 ∨ c % 8 = 2 ∨ c % 8 = 3 ∨ c % 8 = 4 ∨ c % 8 = 5 ∨ c % 8 = 6 ∨ c % 8 = 7 := by omega
theorem n_t0_ok {ρ : Nat → Int} {c : Nat} {e : eV} (h : n_t0 c = true) (hc : cr ρ c e) : ∃ z, e = eI z := by
  have h : Nat.beq ((169 >>> (c % 8)) % 2) 1 = true := h
  unfold cr at hc
  rcases n_8 c with q | q | q | q | q | q | q | q <;> rw [q] at h hc
  · have hc : _ ∧ e = eI (sg32 (c / 8)) := hc
    exact ⟨_, hc.2⟩
  · exfalso; revert h; decide
  · exfalso; revert h; decide
  · exact ⟨_, hc⟩
  · exfalso; revert h; decide
  · exact hc
  · exfalso; revert h; decide
  · obtain ⟨z, hz, -⟩ := hc
    exact ⟨z, hz⟩
theorem n_t1_ok {ρ : Nat → Int} {c : Nat} {e : eV} (h : n_t1 c = true) (hc : cr ρ c e) : ∃ z, e = eJ z := by
  have h : Nat.beq ((66 >>> (c % 8)) % 2) 1 = true := h
  unfold cr at hc
  rcases n_8 c with q | q | q | q | q | q | q | q <;> rw [q] at h hc
  · exfalso; revert h; decide
  · have hc : _ ∧ e = eJ (sg64 (c / 8)) := hc
    exact ⟨_, hc.2⟩
  · exfalso; revert h; decide
  · exfalso; revert h; decide
  · exfalso; revert h; decide
  · exfalso; revert h; decide
  · exact hc
  · exfalso; revert h; decide
theorem cr_0 {ρ : Nat → Int} {c : Nat} {e : eV} (h : c % 8 = 0) (hc : cr ρ c e) : c / 8 < 4294967296 ∧ e = eI (sg32 (c / 8)) := by
  unfold cr at hc
  rw [h] at hc
  exact hc
theorem cr_1 {ρ : Nat → Int} {c : Nat} {e : eV} (h : c % 8 = 1) (hc : cr ρ c e) : c / 8 < 18446744073709551616 ∧ e = eJ (sg64 (c / 8)) := by
  unfold cr at hc
  rw [h] at hc
  exact hc
theorem cr_2 {ρ : Nat → Int} {c : Nat} {e : eV} (h : c % 8 = 2) (hc : cr ρ c e) : e = eR (c / 8) := by
  unfold cr at hc
  rw [h] at hc
  exact hc
theorem cr_4 {ρ : Nat → Int} {c : Nat} {e : eV} (h : c % 8 = 4) (hc : cr ρ c e) : False := by
  unfold cr at hc
  rw [h] at hc
  exact hc
theorem cr_I {ρ : Nat → Int} {p : Nat} (h : p < 4294967296) : cr ρ (8 * p) (eI (sg32 p)) := by
  unfold cr
  rw [show 8 * p % 8 = 0 by omega, show 8 * p / 8 = p by omega]
  exact ⟨h, rfl⟩
theorem cr_J {ρ : Nat → Int} {p : Nat} (h : p < 18446744073709551616) : cr ρ (8 * p + 1) (eJ (sg64 p)) := by
  unfold cr
  rw [show (8 * p + 1) % 8 = 1 by omega, show (8 * p + 1) / 8 = p by omega]
  exact ⟨h, rfl⟩
theorem cr_R {ρ : Nat → Int} (p : Nat) : cr ρ (8 * p + 2) (eR p) := by
  unfold cr
  rw [show (8 * p + 2) % 8 = 2 by omega, show (8 * p + 2) / 8 = p by omega]
  rfl
theorem n_t4_ok {ρ : Nat → Int} {c : Nat} {e : eV} (h : n_t4 c = true) (hc : cr ρ c e) : ∃ r, e = eR r ∧ 0 < r ∧ r = c / 8 := by
  have h : @Bool.rec (fun _ => Bool) false (Nat.ble 10 c) (Nat.beq (Nat.mod c 8) 2) = true := h
  cases hq : Nat.beq (Nat.mod c 8) 2 with
  | false => rw [hq] at h; cases h
  | true =>
    rw [hq] at h
    have h1 : c % 8 = 2 := Nat.eq_of_beq_eq_true hq
    have h2 : 10 ≤ c := Nat.ble_eq.mp h
    exact ⟨c / 8, cr_2 h1 hc, by omega, rfl⟩
/-! one place of a row, by a power P of nW -/
theorem cd_set {L P c : Nat} (hP : 0 < P) (hc : c < nW) : (L - L / P % nW * P + c * P) / P % nW = c ∧ (L - L / P % nW * P + c * P) / (P * nW) = L / (P * nW) ∧ (L - L / P % nW * P + c * P) % P = L % P := by
  have hle : L / P % nW * P ≤ L := Nat.le_trans (Nat.mul_le_mul_right P (Nat.mod_le _ _)) (Nat.div_mul_le_self L P)
  have hW : 0 < nW := by decide
  have e0 : L = P * (L / P) + L % P := (Nat.div_add_mod L P).symm
  have e1 : L / P = nW * (L / P / nW) + L / P % nW := (Nat.div_add_mod (L / P) nW).symm
  have e2 : L - L / P % nW * P + c * P = P * (nW * (L / P / nW) + c) + L % P := by
    have e3 : P * (L / P) = P * (nW * (L / P / nW)) + L / P % nW * P := by
      conv => lhs; rw [e1]
      rw [Nat.mul_add, Nat.mul_comm P (L / P % nW)]
    rw [Nat.mul_add, Nat.mul_comm P c]
    omega
  have hm : L % P < P := Nat.mod_lt _ hP
  have e4 : (P * (nW * (L / P / nW) + c) + L % P) / P = nW * (L / P / nW) + c := by
    rw [Nat.mul_add_div hP, Nat.div_eq_of_lt hm, Nat.add_zero]
  rw [e2]
  refine ⟨?_, ?_, ?_⟩
  · rw [e4, Nat.mul_add_mod, Nat.mod_eq_of_lt hc]
  · rw [← Nat.div_div_eq_div_mul, e4, Nat.mul_add_div hW, Nat.div_eq_of_lt hc, Nat.add_zero, Nat.div_div_eq_div_mul]
  · rw [Nat.mul_add_mod, Nat.mod_eq_of_lt hm]
/-- the k-th value of a row -/
def cd (L k : Nat) : Nat := L / nW ^ k % nW
noncomputable def n_set (L P c : Nat) : Nat := Nat.add (Nat.sub L (Nat.mul (Nat.mod (Nat.div L P) nW) P)) (Nat.mul c P)
theorem cd_n_set {L k c : Nat} (hc : c < nW) (j : Nat) : cd (n_set L (nW ^ k) c) j = if j = k then c else cd L j := by
  have hW : 0 < nW := by decide
  have hP : 0 < nW ^ k := Nat.pow_pos hW
  obtain ⟨h1, h2, h3⟩ := cd_set (L := L) hP hc
  have hs : n_set L (nW ^ k) c = L - L / nW ^ k % nW * nW ^ k + c * nW ^ k := rfl
  rw [hs]
  unfold cd
  by_cases hjk : j = k
  · subst hjk
    rw [if_pos rfl]
    exact h1
  · rw [if_neg hjk]
    by_cases hlt : j < k
    · obtain ⟨m, rfl⟩ : ∃ m, k = j + 1 + m := ⟨k - j - 1, by omega⟩
      have hp : nW ^ (j + 1 + m) = nW ^ j * (nW * nW ^ m) := by rw [Nat.pow_add, Nat.pow_succ, Nat.mul_assoc]
      have key : ∀ n : Nat, n / nW ^ j % nW = n % nW ^ (j + 1 + m) / nW ^ j % nW := by
        intro n
        rw [hp, Nat.mod_mul_right_div_self, Nat.mod_mul_right_mod]
      rw [key, h3, ← key]
    · obtain ⟨m, rfl⟩ : ∃ m, j = k + 1 + m := ⟨j - k - 1, by omega⟩
      have hp : nW ^ (k + 1 + m) = nW ^ k * nW * nW ^ m := by rw [Nat.pow_add, Nat.pow_succ]
      have key : ∀ n : Nat, n / nW ^ (k + 1 + m) = n / (nW ^ k * nW) / nW ^ m := by
        intro n
        rw [hp, Nat.div_div_eq_div_mul]
      rw [key, h2, ← key]
/-! locals; what isn't known has mark 4 -/
def nL (ρ : Nat → Int) (L : Nat) (lv : List (Option eV)) : Prop := ∀ k, k < lv.length → cd L k % 8 = 4 ∨ ∃ e, lv[k]? = some (some e) ∧ cr ρ (cd L k) e
theorem nL.get {ρ : Nat → Int} {L : Nat} {lv : List (Option eV)} (h : nL ρ L lv) {k : Nat} (hk : k < lv.length) (h4 : cd L k % 8 ≠ 4) : ∃ e, lv[k]? = some (some e) ∧ cr ρ (cd L k) e := by
  rcases h k hk with q | q
  · exact absurd q h4
  · exact q
theorem nL.set {ρ : Nat → Int} {L : Nat} {lv : List (Option eV)} (h : nL ρ L lv) {k c : Nat} (hc : c < nW) {o : Option eV} (hx : c % 8 = 4 ∨ ∃ e, o = some e ∧ cr ρ c e) : nL ρ (n_set L (nW ^ k) c) (lv.set k o) := by
  intro j hj
  rw [List.length_set] at hj
  rw [cd_n_set hc]
  by_cases hjk : j = k
  · subst hjk
    rw [if_pos rfl]
    rcases hx with q | ⟨e, rfl, q⟩
    · exact Or.inl q
    · exact Or.inr ⟨e, by rw [List.getElem?_set_self hj], q⟩
  · rw [if_neg hjk]
    rcases h j hj with q | ⟨e, q1, q2⟩
    · exact Or.inl q
    · exact Or.inr ⟨e, by rw [List.getElem?_set_ne (fun z => hjk z.symm)]; exact q1, q2⟩
/-! the stack; below it stands a 4 -/
def nS (ρ : Nat → Int) (S : Nat) : List eV → Prop
  | [] => S = 4
  | e :: l => cr ρ (S % nW) e ∧ nS ρ (S / nW) l
theorem nS.push {ρ : Nat → Int} {S c : Nat} {l : List eV} {e : eV} (h : nS ρ S l) (hc : c < nW) (he : cr ρ c e) : nS ρ (Nat.add (Nat.mul S nW) c) (e :: l) := by
  have hW : 0 < nW := by decide
  have e1 : (S * nW + c) % nW = c := by rw [Nat.mul_comm, Nat.mul_add_mod, Nat.mod_eq_of_lt hc]
  have e2 : (S * nW + c) / nW = S := by rw [Nat.mul_comm, Nat.mul_add_div hW, Nat.div_eq_of_lt hc, Nat.add_zero]
  exact ⟨by show cr ρ ((S * nW + c) % nW) e; rw [e1]; exact he, by show nS ρ ((S * nW + c) / nW) l; rw [e2]; exact h⟩
theorem nS.pop {ρ : Nat → Int} {S : Nat} {st : List eV} (h : nS ρ S st) (h4 : S % nW % 8 ≠ 4) : ∃ e l, st = e :: l ∧ cr ρ (S % nW) e ∧ nS ρ (S / nW) l := by
  cases st with
  | nil =>
    have h : S = 4 := h
    subst h
    exact absurd rfl h4
  | cons e l => exact ⟨e, l, rfl, h.1, h.2⟩
theorem n_lt (n : Nat) : n % nW < nW := Nat.mod_lt _ (by decide)
theorem n_t0_4 {c : Nat} (h : n_t0 c = true) : c % 8 ≠ 4 := by
  intro q
  have h : Nat.beq ((169 >>> (c % 8)) % 2) 1 = true := h
  rw [q] at h
  revert h
  decide
theorem n_t1_4 {c : Nat} (h : n_t1 c = true) : c % 8 ≠ 4 := by
  intro q
  have h : Nat.beq ((66 >>> (c % 8)) % 2) 1 = true := h
  rw [q] at h
  revert h
  decide
theorem n_t4_4 {c : Nat} (h : n_t4 c = true) : c % 8 ≠ 4 := by
  intro q
  have h : @Bool.rec (fun _ => Bool) false (Nat.ble 10 c) (Nat.beq (Nat.mod c 8) 2) = true := h
  have e : Nat.beq (Nat.mod c 8) 2 = false := by
    show Nat.beq (c % 8) 2 = false
    rw [q]
    rfl
  rw [e] at h
  cases h
