/-! the last 13 bits -/
theorem and_8191 {a : Int} (h : 0 ≤ a ∧ a ≤ 8192) : (Int32.ofInt a &&& Int32.ofInt 8191).toInt = a % 8192 := by
  have key : ∀ y : Int, 0 ≤ y → y ≤ 2147483647 → (Int32.ofInt y).toBitVec.toNat = y.toNat := by
    intro y h0 h1
    have hy : (Int32.ofInt y).toInt = y := by rw [ev_w_ok, ev_w_in (by omega) (by omega)]
    have h2 : ((Int32.ofInt y).toBitVec).toInt = y := hy
    rw [BitVec.toInt_eq_toNat_cond] at h2
    have h3 := (Int32.ofInt y).toBitVec.isLt
    split at h2 <;> omega
  have e1 : (Int32.ofInt a &&& Int32.ofInt 8191).toBitVec.toNat = a.toNat % 8192 := by
    show ((Int32.ofInt a).toBitVec &&& (Int32.ofInt 8191).toBitVec).toNat = _
    rw [BitVec.toNat_and, key a h.1 (by omega), key 8191 (by omega) (by omega)]
    exact Nat.and_two_pow_sub_one_eq_mod a.toNat 13
  have he : (Int32.ofInt a &&& Int32.ofInt 8191).toInt = ((Int32.ofInt a &&& Int32.ofInt 8191).toBitVec).toInt := rfl
  rw [he, BitVec.toInt_eq_toNat_cond, e1]
  split <;> omega
theorem FS.h {μ : eM} {sl q : Nat} {h v : Int} (e : μ.1 sl h.toNat = v) (hq : μ.1 sl q = -1) (h0 : 0 ≤ h) (hv : ¬ v < 0) : ¬ h = (q : Int) := fun e9 => by
  rw [show h.toNat = q by omega, hq] at e
  omega
