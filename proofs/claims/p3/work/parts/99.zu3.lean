/-! the last 13 bits -/
noncomputable def a_ck (n : Nat) : Bool := @Nat.rec (fun _ => Bool) true (fun k ih => @Bool.rec (fun _ => Bool) false ih (decide ((Int32.ofInt ((k : Nat) : Int) &&& Int32.ofInt 8191).toInt = ((k % 8192 : Nat) : Int)))) n
theorem a_ck_ok : ∀ n, a_ck n = true → ∀ k, k < n → (Int32.ofInt ((k : Nat) : Int) &&& Int32.ofInt 8191).toInt = ((k % 8192 : Nat) : Int) := by
  intro n
  induction n with
  | zero =>
    intro _ k hk
    omega
  | succ n ih =>
    intro h k hk
    have h : @Bool.rec (fun _ => Bool) false (a_ck n) (decide ((Int32.ofInt ((n : Nat) : Int) &&& Int32.ofInt 8191).toInt = ((n % 8192 : Nat) : Int))) = true := h
    cases hq : decide ((Int32.ofInt ((n : Nat) : Int) &&& Int32.ofInt 8191).toInt = ((n % 8192 : Nat) : Int)) with
    | false =>
      rw [hq] at h
      cases h
    | true =>
      rw [hq] at h
      by_cases hkn : k = n
      · rw [hkn]
        exact of_decide_eq_true hq
      · exact ih h k (by omega)
theorem a_ck_8192 : a_ck 8193 = true := by decide +kernel
theorem and_8191 {a : Int} (h : 0 ≤ a ∧ a ≤ 8192) : (Int32.ofInt a &&& Int32.ofInt 8191).toInt = a % 8192 := by
  obtain ⟨n, rfl⟩ : ∃ n : Nat, a = (n : Int) := ⟨a.toNat, by omega⟩
  rw [a_ck_ok 8193 a_ck_8192 n (by omega)]
  omega
theorem FS.h {μ : eM} {sl q : Nat} {h v : Int} (e : μ.1 sl h.toNat = v) (hq : μ.1 sl q = -1) (h0 : 0 ≤ h) (hv : ¬ v < 0) : ¬ h = (q : Int) := fun e9 => by
  rw [show h.toNat = q by omega, hq] at e
  omega
