/-! locate: both at their tops; the law's call 7 -/
theorem k_lor {a b i : Nat} (h : b < 2 ^ i) : a * 2 ^ i ||| b = a * 2 ^ i + b := by rw [← Nat.shiftLeft_eq, Nat.shiftLeft_add_eq_or_of_lt h]
theorem k_and16 (X : Nat) : z_land X 65535 = X % 18446744073709551616 % 65536 := by
  have h : ∀ n : Nat, n &&& (2 ^ 16 - 1) = n % 2 ^ 16 := fun n => Nat.and_two_pow_sub_one_eq_mod n 16
  exact h (X % 18446744073709551616)
theorem k_i2l (a : Nat) : z_land (z_i2l a) 65535 = a % 65536 := by
  rw [k_and16]
  show (@Bool.rec (fun _ => Nat) (a % 4294967296 + 18446744069414584320) (a % 4294967296) (Nat.ble (a % 4294967296) 2147483647)) % 18446744073709551616 % 65536 = _
  rcases Bool.eq_false_or_eq_true (Nat.ble (a % 4294967296) 2147483647) with hq | hq
  · rw [hq]
    show a % 4294967296 % 18446744073709551616 % 65536 = _
    omega
  · rw [hq]
    show (a % 4294967296 + 18446744069414584320) % 18446744073709551616 % 65536 = _
    omega
theorem k_code {a : Nat} {p : Int} (h : zI a = p) (hb : -9999 ≤ p ∧ p ≤ 9999) : k_sv (a % 65536) = p := by
  have h1 := zI_m a
  rw [h] at h1
  unfold k_sv
  split <;> omega
theorem k_key (a0 a1 a2 a3 : Nat) : KR (z_lor (z_lor (z_lor (z_lshl (z_land (z_i2l a0) 65535) 48) (z_lshl (z_land (z_i2l a1) 65535) 32)) (z_lshl (z_land (z_i2l a2) 65535) 16)) (z_land (z_i2l a3) 65535)) (a0 % 65536) (a1 % 65536) (a2 % 65536) (a3 % 65536) := by
  have h0 := Nat.mod_lt a0 (show 0 < 65536 by decide)
  have h1 := Nat.mod_lt a1 (show 0 < 65536 by decide)
  have h2 := Nat.mod_lt a2 (show 0 < 65536 by decide)
  have h3 := Nat.mod_lt a3 (show 0 < 65536 by decide)
  rw [k_i2l a0, k_i2l a1, k_i2l a2, k_i2l a3]
  generalize a0 % 65536 = b0 at h0 ⊢
  generalize a1 % 65536 = b1 at h1 ⊢
  generalize a2 % 65536 = b2 at h2 ⊢
  generalize a3 % 65536 = b3 at h3 ⊢
  have e0 : z_lshl b0 48 = b0 * 281474976710656 := by
    show ((b0 % 18446744073709551616) <<< 48) % 18446744073709551616 = _
    rw [Nat.mod_eq_of_lt (show b0 < 18446744073709551616 by omega), Nat.shiftLeft_eq]
    exact Nat.mod_eq_of_lt (show b0 * 281474976710656 < 18446744073709551616 by omega)
  have e1 : z_lshl b1 32 = b1 * 4294967296 := by
    show ((b1 % 18446744073709551616) <<< 32) % 18446744073709551616 = _
    rw [Nat.mod_eq_of_lt (show b1 < 18446744073709551616 by omega), Nat.shiftLeft_eq]
    exact Nat.mod_eq_of_lt (show b1 * 4294967296 < 18446744073709551616 by omega)
  have e2 : z_lshl b2 16 = b2 * 65536 := by
    show ((b2 % 18446744073709551616) <<< 16) % 18446744073709551616 = _
    rw [Nat.mod_eq_of_lt (show b2 < 18446744073709551616 by omega), Nat.shiftLeft_eq]
    exact Nat.mod_eq_of_lt (show b2 * 65536 < 18446744073709551616 by omega)
  have ho : ∀ x y : Nat, x < 18446744073709551616 → y < 18446744073709551616 → z_lor x y = x ||| y := by
    intro x y hx hy
    show (x % 18446744073709551616) ||| (y % 18446744073709551616) = _
    rw [Nat.mod_eq_of_lt hx, Nat.mod_eq_of_lt hy]
  have o1 : b0 * 281474976710656 ||| b1 * 4294967296 = b0 * 281474976710656 + b1 * 4294967296 := k_lor (i := 48) (show b1 * 4294967296 < 281474976710656 by omega)
  have o2 : (b0 * 65536 + b1) * 4294967296 ||| b2 * 65536 = (b0 * 65536 + b1) * 4294967296 + b2 * 65536 := k_lor (i := 32) (show b2 * 65536 < 4294967296 by omega)
  have o3 : ((b0 * 65536 + b1) * 65536 + b2) * 65536 ||| b3 = ((b0 * 65536 + b1) * 65536 + b2) * 65536 + b3 := k_lor (i := 16) (show b3 < 65536 by omega)
  rw [e0, e1, e2, ho (b0 * 281474976710656) (b1 * 4294967296) (by omega) (by omega), o1, show b0 * 281474976710656 + b1 * 4294967296 = (b0 * 65536 + b1) * 4294967296 by omega, ho ((b0 * 65536 + b1) * 4294967296) (b2 * 65536) (by omega) (by omega), o2, show (b0 * 65536 + b1) * 4294967296 + b2 * 65536 = ((b0 * 65536 + b1) * 65536 + b2) * 65536 by omega, ho (((b0 * 65536 + b1) * 65536 + b2) * 65536) b3 (by omega) (by omega), o3]
  exact ⟨rfl, h0, h1, h2, h3⟩
theorem tQ_u {μ : eM} {c k : Nat} {w : Int} (h : tQ μ) (h1 : c ≠ 100) (h2 : c = 98 → k ≠ 10 ∧ k ≠ 8) : tQ (ev_up μ.1 c k w, μ.2) := by
  obtain ⟨a1, a2, a3, a4, a5, a6⟩ := h
  refine ⟨a1, ?_, ?_, a4, a5, fun j hj => ?_⟩
  · show ev_up μ.1 c k w 98 10 = 100
    rw [u_eq, if_neg (by omega)]
    exact a2
  · show ev_up μ.1 c k w 98 8 = 10
    rw [u_eq, if_neg (by omega)]
    exact a3
  · show ev_up μ.1 c k w 100 j = _
    rw [u_eq, if_neg (by omega)]
    exact a6 j hj
theorem t72 {fg : eG} {rc rs d : Nat} {f : eFr} {F : List eFr} {μ : eM} {p q r s : Int} (hp : -2147483648 ≤ p ∧ p ≤ 2147483647) (hq : -2147483648 ≤ q ∧ q ≤ 2147483647) (hr : -2147483648 ≤ r ∧ r ≤ 2147483647) (hs : -2147483648 ≤ s ∧ s ≤ 2147483647) (K1 : ((-9999 ≤ p ∧ p ≤ 9999) ∧ (-9999 ≤ q ∧ q ≤ 9999) ∧ (-9999 ≤ r ∧ r ≤ 9999) ∧ (-9999 ≤ s ∧ s ≤ 9999)) → ex_fine fg rc rs (d + 1, (f.1, f.2.1, f.2.2.1, eI 1 :: f.2.2.2), F, μ)) (K0 : ¬ ((-9999 ≤ p ∧ p ≤ 9999) ∧ (-9999 ≤ q ∧ q ≤ 9999) ∧ (-9999 ≤ r ∧ r ≤ 9999) ∧ (-9999 ≤ s ∧ s ≤ 9999)) → ex_fine fg rc rs (d + 1, (f.1, f.2.1, f.2.2.1, eI 0 :: f.2.2.2), F, μ)) : ex_fine fg rc rs (d, (72, 0, [some (eI (p)), some (eI (q)), some (eI (r)), some (eI (s)), some (eI (9999))], []), f :: F, μ) := by
  refine w_t (np := 1) (l2 := [some (eI (p)), some (eI (q)), some (eI (r)), some (eI (s)), some (eI (9999))]) (s2 := [eI (p)]) rfl rfl rfl ?_
  refine w_t (np := 3) (l2 := [some (eI (p)), some (eI (q)), some (eI (r)), some (eI (s)), some (eI (9999))]) (s2 := [eI (9999), eI (p)]) rfl rfl rfl ?_
  refine w_t (np := 4) (l2 := [some (eI (p)), some (eI (q)), some (eI (r)), some (eI (s)), some (eI (9999))]) (s2 := [eI (-9999), eI (p)]) rfl (b_ineg rfl) rfl ?_
  refine b_clt (t1 := 56) (t2 := 7) rfl rfl rfl (ev_w_in (by omega) (by omega)) rfl (fun g1 => ?_) (fun g1 => ?_)
  · refine w_t (np := 57) (l2 := [some (eI (p)), some (eI (q)), some (eI (r)), some (eI (s)), some (eI (9999))]) (s2 := [eI (0)]) rfl rfl rfl ?_
    refine b_rz rfl rfl (Or.inl rfl) ?_
    exact K0 (by omega)
  · refine w_t (np := 8) (l2 := [some (eI (p)), some (eI (q)), some (eI (r)), some (eI (s)), some (eI (9999))]) (s2 := [eI (p)]) rfl rfl rfl ?_
    refine w_t (np := 10) (l2 := [some (eI (p)), some (eI (q)), some (eI (r)), some (eI (s)), some (eI (9999))]) (s2 := [eI (9999), eI (p)]) rfl rfl rfl ?_
    refine b_cgt (t1 := 56) (t2 := 13) rfl rfl rfl (ev_w_in (by omega) (by omega)) rfl (fun g2 => ?_) (fun g2 => ?_)
    · refine w_t (np := 57) (l2 := [some (eI (p)), some (eI (q)), some (eI (r)), some (eI (s)), some (eI (9999))]) (s2 := [eI (0)]) rfl rfl rfl ?_
      refine b_rz rfl rfl (Or.inl rfl) ?_
      exact K0 (by omega)
    · refine w_t (np := 14) (l2 := [some (eI (p)), some (eI (q)), some (eI (r)), some (eI (s)), some (eI (9999))]) (s2 := [eI (q)]) rfl rfl rfl ?_
      refine w_t (np := 16) (l2 := [some (eI (p)), some (eI (q)), some (eI (r)), some (eI (s)), some (eI (9999))]) (s2 := [eI (9999), eI (q)]) rfl rfl rfl ?_
      refine w_t (np := 17) (l2 := [some (eI (p)), some (eI (q)), some (eI (r)), some (eI (s)), some (eI (9999))]) (s2 := [eI (-9999), eI (q)]) rfl (b_ineg rfl) rfl ?_
      refine b_clt (t1 := 56) (t2 := 20) rfl rfl rfl (ev_w_in (by omega) (by omega)) rfl (fun g3 => ?_) (fun g3 => ?_)
      · refine w_t (np := 57) (l2 := [some (eI (p)), some (eI (q)), some (eI (r)), some (eI (s)), some (eI (9999))]) (s2 := [eI (0)]) rfl rfl rfl ?_
        refine b_rz rfl rfl (Or.inl rfl) ?_
        exact K0 (by omega)
      · refine w_t (np := 21) (l2 := [some (eI (p)), some (eI (q)), some (eI (r)), some (eI (s)), some (eI (9999))]) (s2 := [eI (q)]) rfl rfl rfl ?_
        refine w_t (np := 23) (l2 := [some (eI (p)), some (eI (q)), some (eI (r)), some (eI (s)), some (eI (9999))]) (s2 := [eI (9999), eI (q)]) rfl rfl rfl ?_
        refine b_cgt (t1 := 56) (t2 := 26) rfl rfl rfl (ev_w_in (by omega) (by omega)) rfl (fun g4 => ?_) (fun g4 => ?_)
        · refine w_t (np := 57) (l2 := [some (eI (p)), some (eI (q)), some (eI (r)), some (eI (s)), some (eI (9999))]) (s2 := [eI (0)]) rfl rfl rfl ?_
          refine b_rz rfl rfl (Or.inl rfl) ?_
          exact K0 (by omega)
        · refine w_t (np := 27) (l2 := [some (eI (p)), some (eI (q)), some (eI (r)), some (eI (s)), some (eI (9999))]) (s2 := [eI (r)]) rfl rfl rfl ?_
          refine w_t (np := 29) (l2 := [some (eI (p)), some (eI (q)), some (eI (r)), some (eI (s)), some (eI (9999))]) (s2 := [eI (9999), eI (r)]) rfl rfl rfl ?_
          refine w_t (np := 30) (l2 := [some (eI (p)), some (eI (q)), some (eI (r)), some (eI (s)), some (eI (9999))]) (s2 := [eI (-9999), eI (r)]) rfl (b_ineg rfl) rfl ?_
          refine b_clt (t1 := 56) (t2 := 33) rfl rfl rfl (ev_w_in (by omega) (by omega)) rfl (fun g5 => ?_) (fun g5 => ?_)
          · refine w_t (np := 57) (l2 := [some (eI (p)), some (eI (q)), some (eI (r)), some (eI (s)), some (eI (9999))]) (s2 := [eI (0)]) rfl rfl rfl ?_
            refine b_rz rfl rfl (Or.inl rfl) ?_
            exact K0 (by omega)
          · refine w_t (np := 34) (l2 := [some (eI (p)), some (eI (q)), some (eI (r)), some (eI (s)), some (eI (9999))]) (s2 := [eI (r)]) rfl rfl rfl ?_
            refine w_t (np := 36) (l2 := [some (eI (p)), some (eI (q)), some (eI (r)), some (eI (s)), some (eI (9999))]) (s2 := [eI (9999), eI (r)]) rfl rfl rfl ?_
            refine b_cgt (t1 := 56) (t2 := 39) rfl rfl rfl (ev_w_in (by omega) (by omega)) rfl (fun g6 => ?_) (fun g6 => ?_)
            · refine w_t (np := 57) (l2 := [some (eI (p)), some (eI (q)), some (eI (r)), some (eI (s)), some (eI (9999))]) (s2 := [eI (0)]) rfl rfl rfl ?_
              refine b_rz rfl rfl (Or.inl rfl) ?_
              exact K0 (by omega)
            · refine w_t (np := 40) (l2 := [some (eI (p)), some (eI (q)), some (eI (r)), some (eI (s)), some (eI (9999))]) (s2 := [eI (s)]) rfl rfl rfl ?_
              refine w_t (np := 42) (l2 := [some (eI (p)), some (eI (q)), some (eI (r)), some (eI (s)), some (eI (9999))]) (s2 := [eI (9999), eI (s)]) rfl rfl rfl ?_
              refine w_t (np := 43) (l2 := [some (eI (p)), some (eI (q)), some (eI (r)), some (eI (s)), some (eI (9999))]) (s2 := [eI (-9999), eI (s)]) rfl (b_ineg rfl) rfl ?_
              refine b_clt (t1 := 56) (t2 := 46) rfl rfl rfl (ev_w_in (by omega) (by omega)) rfl (fun g7 => ?_) (fun g7 => ?_)
              · refine w_t (np := 57) (l2 := [some (eI (p)), some (eI (q)), some (eI (r)), some (eI (s)), some (eI (9999))]) (s2 := [eI (0)]) rfl rfl rfl ?_
                refine b_rz rfl rfl (Or.inl rfl) ?_
                exact K0 (by omega)
              · refine w_t (np := 47) (l2 := [some (eI (p)), some (eI (q)), some (eI (r)), some (eI (s)), some (eI (9999))]) (s2 := [eI (s)]) rfl rfl rfl ?_
                refine w_t (np := 49) (l2 := [some (eI (p)), some (eI (q)), some (eI (r)), some (eI (s)), some (eI (9999))]) (s2 := [eI (9999), eI (s)]) rfl rfl rfl ?_
                refine b_cgt (t1 := 56) (t2 := 52) rfl rfl rfl (ev_w_in (by omega) (by omega)) rfl (fun g8 => ?_) (fun g8 => ?_)
                · refine w_t (np := 57) (l2 := [some (eI (p)), some (eI (q)), some (eI (r)), some (eI (s)), some (eI (9999))]) (s2 := [eI (0)]) rfl rfl rfl ?_
                  refine b_rz rfl rfl (Or.inl rfl) ?_
                  exact K0 (by omega)
                · refine w_t (np := 53) (l2 := [some (eI (p)), some (eI (q)), some (eI (r)), some (eI (s)), some (eI (9999))]) (s2 := [eI (1)]) rfl rfl rfl ?_
                  refine w_go (t1 := 57) rfl rfl ?_
                  refine b_rz rfl rfl (Or.inr rfl) ?_
                  exact K1 (by omega)
theorem t216 {fg : eG} {rc rs d : Nat} {f : eFr} {F : List eFr} {μ : eM} {p : Int} (hp : -2147483648 ≤ p ∧ p ≤ 2147483647) (K1 : -9999 ≤ p ∧ p ≤ 9999 → ex_fine fg rc rs (d + 1, (f.1, f.2.1, f.2.2.1, eI 1 :: f.2.2.2), F, μ)) (K0 : ¬ (-9999 ≤ p ∧ p ≤ 9999) → ex_fine fg rc rs (d + 1, (f.1, f.2.1, f.2.2.1, eI 0 :: f.2.2.2), F, μ)) : ex_fine fg rc rs (d, (216, 0, [some (eI (p)), some (eI (-9999)), some (eI (9999))], []), f :: F, μ) := by
  refine w_t (np := 1) (l2 := [some (eI (p)), some (eI (-9999)), some (eI (9999))]) (s2 := [eI (p)]) rfl rfl rfl ?_
  refine w_t (np := 2) (l2 := [some (eI (p)), some (eI (-9999)), some (eI (9999))]) (s2 := [eI (-9999), eI (p)]) rfl rfl rfl ?_
  refine b_clt (t1 := 14) (t2 := 5) rfl rfl rfl (ev_w_in (by omega) (by omega)) rfl (fun g1 => ?_) (fun g1 => ?_)
  · refine w_t (np := 15) (l2 := [some (eI (p)), some (eI (-9999)), some (eI (9999))]) (s2 := [eI (0)]) rfl rfl rfl ?_
    refine b_rz rfl rfl (Or.inl rfl) ?_
    exact K0 (by omega)
  · refine w_t (np := 6) (l2 := [some (eI (p)), some (eI (-9999)), some (eI (9999))]) (s2 := [eI (p)]) rfl rfl rfl ?_
    refine w_t (np := 7) (l2 := [some (eI (p)), some (eI (-9999)), some (eI (9999))]) (s2 := [eI (9999), eI (p)]) rfl rfl rfl ?_
    refine b_cgt (t1 := 14) (t2 := 10) rfl rfl rfl (ev_w_in (by omega) (by omega)) rfl (fun g2 => ?_) (fun g2 => ?_)
    · refine w_t (np := 15) (l2 := [some (eI (p)), some (eI (-9999)), some (eI (9999))]) (s2 := [eI (0)]) rfl rfl rfl ?_
      refine b_rz rfl rfl (Or.inl rfl) ?_
      exact K0 (by omega)
    · refine w_t (np := 11) (l2 := [some (eI (p)), some (eI (-9999)), some (eI (9999))]) (s2 := [eI (1)]) rfl rfl rfl ?_
      refine w_go (t1 := 15) rfl rfl ?_
      refine b_rz rfl rfl (Or.inr rfl) ?_
      exact K1 (by omega)
theorem t267 {fg : eG} {rc rs d : Nat} {f : eFr} {F : List eFr} {μ : eM} {p q r s : Int} (hp : -2147483648 ≤ p ∧ p ≤ 2147483647) (hq : -2147483648 ≤ q ∧ q ≤ 2147483647) (hr : -2147483648 ≤ r ∧ r ≤ 2147483647) (hs : -2147483648 ≤ s ∧ s ≤ 2147483647) (K1 : ((-9999 ≤ p ∧ p ≤ 9999) ∧ (-9999 ≤ q ∧ q ≤ 9999) ∧ (-9999 ≤ r ∧ r ≤ 9999) ∧ (-9999 ≤ s ∧ s ≤ 9999)) → ex_fine fg rc rs (d + 2, (f.1, f.2.1, f.2.2.1, eI 1 :: f.2.2.2), F, μ)) (K0 : ¬ ((-9999 ≤ p ∧ p ≤ 9999) ∧ (-9999 ≤ q ∧ q ≤ 9999) ∧ (-9999 ≤ r ∧ r ≤ 9999) ∧ (-9999 ≤ s ∧ s ≤ 9999)) → ex_fine fg rc rs (d + 2, (f.1, f.2.1, f.2.2.1, eI 0 :: f.2.2.2), F, μ)) : ex_fine fg rc rs (d + 1, (267, 0, [some (eI (p)), some (eI (q)), some (eI (r)), some (eI (s)), some (eI (9999))], []), f :: F, μ) := by
  refine w_t (np := 1) (l2 := [some (eI (p)), some (eI (q)), some (eI (r)), some (eI (s)), some (eI (9999))]) (s2 := [eI (p)]) rfl rfl rfl ?_
  refine w_t (np := 3) (l2 := [some (eI (p)), some (eI (q)), some (eI (r)), some (eI (s)), some (eI (9999))]) (s2 := [eI (9999), eI (p)]) rfl rfl rfl ?_
  refine w_t (np := 4) (l2 := [some (eI (p)), some (eI (q)), some (eI (r)), some (eI (s)), some (eI (9999))]) (s2 := [eI (-9999), eI (p)]) rfl (b_ineg rfl) rfl ?_
  refine w_t (np := 6) (l2 := [some (eI (p)), some (eI (q)), some (eI (r)), some (eI (s)), some (eI (9999))]) (s2 := [eI (9999), eI (-9999), eI (p)]) rfl rfl rfl ?_
  refine w_cu (np := 9) (as := [eI (p), eI (-9999), eI (9999)]) (l2 := [some (eI (p)), some (eI (-9999)), some (eI (9999))]) (rest := []) rfl rfl rfl (Nat.ble_eq.mp rfl) rfl rfl rfl rfl ?_
  refine t216 hp (fun g1 => ?_) (fun g1 => ?_)
  · show ex_fine fg rc rs (d + 1, (267, 9, [some (eI (p)), some (eI (q)), some (eI (r)), some (eI (s)), some (eI (9999))], [eI (1)]), f :: F, μ)
    refine b_ieq (t1 := 52) (t2 := 12) rfl rfl rfl rfl (fun g2 => absurd g2 (by decide)) (fun g2 => ?_)
    refine w_t (np := 13) (l2 := [some (eI (p)), some (eI (q)), some (eI (r)), some (eI (s)), some (eI (9999))]) (s2 := [eI (q)]) rfl rfl rfl ?_
    refine w_t (np := 15) (l2 := [some (eI (p)), some (eI (q)), some (eI (r)), some (eI (s)), some (eI (9999))]) (s2 := [eI (9999), eI (q)]) rfl rfl rfl ?_
    refine w_t (np := 16) (l2 := [some (eI (p)), some (eI (q)), some (eI (r)), some (eI (s)), some (eI (9999))]) (s2 := [eI (-9999), eI (q)]) rfl (b_ineg rfl) rfl ?_
    refine w_t (np := 18) (l2 := [some (eI (p)), some (eI (q)), some (eI (r)), some (eI (s)), some (eI (9999))]) (s2 := [eI (9999), eI (-9999), eI (q)]) rfl rfl rfl ?_
    refine w_cu (np := 21) (as := [eI (q), eI (-9999), eI (9999)]) (l2 := [some (eI (q)), some (eI (-9999)), some (eI (9999))]) (rest := []) rfl rfl rfl (Nat.ble_eq.mp rfl) rfl rfl rfl rfl ?_
    refine t216 hq (fun g3 => ?_) (fun g3 => ?_)
    · show ex_fine fg rc rs (d + 1, (267, 21, [some (eI (p)), some (eI (q)), some (eI (r)), some (eI (s)), some (eI (9999))], [eI (1)]), f :: F, μ)
      refine b_ieq (t1 := 52) (t2 := 24) rfl rfl rfl rfl (fun g4 => absurd g4 (by decide)) (fun g4 => ?_)
      refine w_t (np := 25) (l2 := [some (eI (p)), some (eI (q)), some (eI (r)), some (eI (s)), some (eI (9999))]) (s2 := [eI (r)]) rfl rfl rfl ?_
      refine w_t (np := 27) (l2 := [some (eI (p)), some (eI (q)), some (eI (r)), some (eI (s)), some (eI (9999))]) (s2 := [eI (9999), eI (r)]) rfl rfl rfl ?_
      refine w_t (np := 28) (l2 := [some (eI (p)), some (eI (q)), some (eI (r)), some (eI (s)), some (eI (9999))]) (s2 := [eI (-9999), eI (r)]) rfl (b_ineg rfl) rfl ?_
      refine w_t (np := 30) (l2 := [some (eI (p)), some (eI (q)), some (eI (r)), some (eI (s)), some (eI (9999))]) (s2 := [eI (9999), eI (-9999), eI (r)]) rfl rfl rfl ?_
      refine w_cu (np := 33) (as := [eI (r), eI (-9999), eI (9999)]) (l2 := [some (eI (r)), some (eI (-9999)), some (eI (9999))]) (rest := []) rfl rfl rfl (Nat.ble_eq.mp rfl) rfl rfl rfl rfl ?_
      refine t216 hr (fun g5 => ?_) (fun g5 => ?_)
      · show ex_fine fg rc rs (d + 1, (267, 33, [some (eI (p)), some (eI (q)), some (eI (r)), some (eI (s)), some (eI (9999))], [eI (1)]), f :: F, μ)
        refine b_ieq (t1 := 52) (t2 := 36) rfl rfl rfl rfl (fun g6 => absurd g6 (by decide)) (fun g6 => ?_)
        refine w_t (np := 37) (l2 := [some (eI (p)), some (eI (q)), some (eI (r)), some (eI (s)), some (eI (9999))]) (s2 := [eI (s)]) rfl rfl rfl ?_
        refine w_t (np := 39) (l2 := [some (eI (p)), some (eI (q)), some (eI (r)), some (eI (s)), some (eI (9999))]) (s2 := [eI (9999), eI (s)]) rfl rfl rfl ?_
        refine w_t (np := 40) (l2 := [some (eI (p)), some (eI (q)), some (eI (r)), some (eI (s)), some (eI (9999))]) (s2 := [eI (-9999), eI (s)]) rfl (b_ineg rfl) rfl ?_
        refine w_t (np := 42) (l2 := [some (eI (p)), some (eI (q)), some (eI (r)), some (eI (s)), some (eI (9999))]) (s2 := [eI (9999), eI (-9999), eI (s)]) rfl rfl rfl ?_
        refine w_cu (np := 45) (as := [eI (s), eI (-9999), eI (9999)]) (l2 := [some (eI (s)), some (eI (-9999)), some (eI (9999))]) (rest := []) rfl rfl rfl (Nat.ble_eq.mp rfl) rfl rfl rfl rfl ?_
        refine t216 hs (fun g7 => ?_) (fun g7 => ?_)
        · show ex_fine fg rc rs (d + 1, (267, 45, [some (eI (p)), some (eI (q)), some (eI (r)), some (eI (s)), some (eI (9999))], [eI (1)]), f :: F, μ)
          refine b_ieq (t1 := 52) (t2 := 48) rfl rfl rfl rfl (fun g8 => absurd g8 (by decide)) (fun g8 => ?_)
          refine w_t (np := 49) (l2 := [some (eI (p)), some (eI (q)), some (eI (r)), some (eI (s)), some (eI (9999))]) (s2 := [eI (1)]) rfl rfl rfl ?_
          refine w_go (t1 := 53) rfl rfl ?_
          refine b_rz rfl rfl (Or.inr rfl) ?_
          exact K1 (by omega)
        · show ex_fine fg rc rs (d + 1, (267, 45, [some (eI (p)), some (eI (q)), some (eI (r)), some (eI (s)), some (eI (9999))], [eI (0)]), f :: F, μ)
          refine b_ieq (t1 := 52) (t2 := 48) rfl rfl rfl rfl (fun g8 => ?_) (fun g8 => absurd g8 (by decide))
          refine w_t (np := 53) (l2 := [some (eI (p)), some (eI (q)), some (eI (r)), some (eI (s)), some (eI (9999))]) (s2 := [eI (0)]) rfl rfl rfl ?_
          refine b_rz rfl rfl (Or.inl rfl) ?_
          exact K0 (by omega)
      · show ex_fine fg rc rs (d + 1, (267, 33, [some (eI (p)), some (eI (q)), some (eI (r)), some (eI (s)), some (eI (9999))], [eI (0)]), f :: F, μ)
        refine b_ieq (t1 := 52) (t2 := 36) rfl rfl rfl rfl (fun g6 => ?_) (fun g6 => absurd g6 (by decide))
        refine w_t (np := 53) (l2 := [some (eI (p)), some (eI (q)), some (eI (r)), some (eI (s)), some (eI (9999))]) (s2 := [eI (0)]) rfl rfl rfl ?_
        refine b_rz rfl rfl (Or.inl rfl) ?_
        exact K0 (by omega)
    · show ex_fine fg rc rs (d + 1, (267, 21, [some (eI (p)), some (eI (q)), some (eI (r)), some (eI (s)), some (eI (9999))], [eI (0)]), f :: F, μ)
      refine b_ieq (t1 := 52) (t2 := 24) rfl rfl rfl rfl (fun g4 => ?_) (fun g4 => absurd g4 (by decide))
      refine w_t (np := 53) (l2 := [some (eI (p)), some (eI (q)), some (eI (r)), some (eI (s)), some (eI (9999))]) (s2 := [eI (0)]) rfl rfl rfl ?_
      refine b_rz rfl rfl (Or.inl rfl) ?_
      exact K0 (by omega)
  · show ex_fine fg rc rs (d + 1, (267, 9, [some (eI (p)), some (eI (q)), some (eI (r)), some (eI (s)), some (eI (9999))], [eI (0)]), f :: F, μ)
    refine b_ieq (t1 := 52) (t2 := 12) rfl rfl rfl rfl (fun g2 => ?_) (fun g2 => absurd g2 (by decide))
    refine w_t (np := 53) (l2 := [some (eI (p)), some (eI (q)), some (eI (r)), some (eI (s)), some (eI (9999))]) (s2 := [eI (0)]) rfl rfl rfl ?_
    refine b_rz rfl rfl (Or.inl rfl) ?_
    exact K0 (by omega)
theorem t71 {fg : eG} {rc rs d : Nat} {f : eFr} {F : List eFr} {μ : eM} {a0 a1 a2 a3 : Nat} (K : ∀ x : Nat, KR x (a0 % 65536) (a1 % 65536) (a2 % 65536) (a3 % 65536) → ex_fine fg rc rs (d + 1, (f.1, f.2.1, f.2.2.1, eJ (zJ x) :: f.2.2.2), F, μ)) : ex_fine fg rc rs (d, (71, 0, [some (eI (zI a0)), some (eI (zI a1)), some (eI (zI a2)), some (eI (zI a3))], []), f :: F, μ) := by
  refine w_t (np := 1) (l2 := [some (eI (zI a0)), some (eI (zI a1)), some (eI (zI a2)), some (eI (zI a3))]) (s2 := [eI (zI a0)]) rfl rfl rfl ?_
  refine w_t (np := 2) (l2 := [some (eI (zI a0)), some (eI (zI a1)), some (eI (zI a2)), some (eI (zI a3))]) (s2 := [eJ (zJ (z_i2l a0))]) rfl (s_i2l rfl) rfl ?_
  refine v_l2 (np := 5) (c := 65535) rfl rfl (by decide) ?_
  refine w_t (np := 6) (l2 := [some (eI (zI a0)), some (eI (zI a1)), some (eI (zI a2)), some (eI (zI a3))]) (s2 := [eJ (zJ (z_land (z_i2l a0) 65535))]) rfl (s_land rfl) rfl ?_
  refine w_t (np := 8) (l2 := [some (eI (zI a0)), some (eI (zI a1)), some (eI (zI a2)), some (eI (zI a3))]) (s2 := [eI (zI 48), eJ (zJ (z_land (z_i2l a0) 65535))]) rfl rfl rfl ?_
  refine w_t (np := 9) (l2 := [some (eI (zI a0)), some (eI (zI a1)), some (eI (zI a2)), some (eI (zI a3))]) (s2 := [eJ (zJ (z_lshl (z_land (z_i2l a0) 65535) 48))]) rfl (s_lshl (by decide) rfl) rfl ?_
  refine w_t (np := 10) (l2 := [some (eI (zI a0)), some (eI (zI a1)), some (eI (zI a2)), some (eI (zI a3))]) (s2 := [eI (zI a1), eJ (zJ (z_lshl (z_land (z_i2l a0) 65535) 48))]) rfl rfl rfl ?_
  refine w_t (np := 11) (l2 := [some (eI (zI a0)), some (eI (zI a1)), some (eI (zI a2)), some (eI (zI a3))]) (s2 := [eJ (zJ (z_i2l a1)), eJ (zJ (z_lshl (z_land (z_i2l a0) 65535) 48))]) rfl (s_i2l rfl) rfl ?_
  refine v_l2 (np := 14) (c := 65535) rfl rfl (by decide) ?_
  refine w_t (np := 15) (l2 := [some (eI (zI a0)), some (eI (zI a1)), some (eI (zI a2)), some (eI (zI a3))]) (s2 := [eJ (zJ (z_land (z_i2l a1) 65535)), eJ (zJ (z_lshl (z_land (z_i2l a0) 65535) 48))]) rfl (s_land rfl) rfl ?_
  refine w_t (np := 17) (l2 := [some (eI (zI a0)), some (eI (zI a1)), some (eI (zI a2)), some (eI (zI a3))]) (s2 := [eI (zI 32), eJ (zJ (z_land (z_i2l a1) 65535)), eJ (zJ (z_lshl (z_land (z_i2l a0) 65535) 48))]) rfl rfl rfl ?_
  refine w_t (np := 18) (l2 := [some (eI (zI a0)), some (eI (zI a1)), some (eI (zI a2)), some (eI (zI a3))]) (s2 := [eJ (zJ (z_lshl (z_land (z_i2l a1) 65535) 32)), eJ (zJ (z_lshl (z_land (z_i2l a0) 65535) 48))]) rfl (s_lshl (by decide) rfl) rfl ?_
  refine w_t (np := 19) (l2 := [some (eI (zI a0)), some (eI (zI a1)), some (eI (zI a2)), some (eI (zI a3))]) (s2 := [eJ (zJ (z_lor (z_lshl (z_land (z_i2l a0) 65535) 48) (z_lshl (z_land (z_i2l a1) 65535) 32)))]) rfl (s_lor rfl) rfl ?_
  refine w_t (np := 20) (l2 := [some (eI (zI a0)), some (eI (zI a1)), some (eI (zI a2)), some (eI (zI a3))]) (s2 := [eI (zI a2), eJ (zJ (z_lor (z_lshl (z_land (z_i2l a0) 65535) 48) (z_lshl (z_land (z_i2l a1) 65535) 32)))]) rfl rfl rfl ?_
  refine w_t (np := 21) (l2 := [some (eI (zI a0)), some (eI (zI a1)), some (eI (zI a2)), some (eI (zI a3))]) (s2 := [eJ (zJ (z_i2l a2)), eJ (zJ (z_lor (z_lshl (z_land (z_i2l a0) 65535) 48) (z_lshl (z_land (z_i2l a1) 65535) 32)))]) rfl (s_i2l rfl) rfl ?_
  refine v_l2 (np := 24) (c := 65535) rfl rfl (by decide) ?_
  refine w_t (np := 25) (l2 := [some (eI (zI a0)), some (eI (zI a1)), some (eI (zI a2)), some (eI (zI a3))]) (s2 := [eJ (zJ (z_land (z_i2l a2) 65535)), eJ (zJ (z_lor (z_lshl (z_land (z_i2l a0) 65535) 48) (z_lshl (z_land (z_i2l a1) 65535) 32)))]) rfl (s_land rfl) rfl ?_
  refine w_t (np := 27) (l2 := [some (eI (zI a0)), some (eI (zI a1)), some (eI (zI a2)), some (eI (zI a3))]) (s2 := [eI (zI 16), eJ (zJ (z_land (z_i2l a2) 65535)), eJ (zJ (z_lor (z_lshl (z_land (z_i2l a0) 65535) 48) (z_lshl (z_land (z_i2l a1) 65535) 32)))]) rfl rfl rfl ?_
  refine w_t (np := 28) (l2 := [some (eI (zI a0)), some (eI (zI a1)), some (eI (zI a2)), some (eI (zI a3))]) (s2 := [eJ (zJ (z_lshl (z_land (z_i2l a2) 65535) 16)), eJ (zJ (z_lor (z_lshl (z_land (z_i2l a0) 65535) 48) (z_lshl (z_land (z_i2l a1) 65535) 32)))]) rfl (s_lshl (by decide) rfl) rfl ?_
  refine w_t (np := 29) (l2 := [some (eI (zI a0)), some (eI (zI a1)), some (eI (zI a2)), some (eI (zI a3))]) (s2 := [eJ (zJ (z_lor (z_lor (z_lshl (z_land (z_i2l a0) 65535) 48) (z_lshl (z_land (z_i2l a1) 65535) 32)) (z_lshl (z_land (z_i2l a2) 65535) 16)))]) rfl (s_lor rfl) rfl ?_
  refine w_t (np := 30) (l2 := [some (eI (zI a0)), some (eI (zI a1)), some (eI (zI a2)), some (eI (zI a3))]) (s2 := [eI (zI a3), eJ (zJ (z_lor (z_lor (z_lshl (z_land (z_i2l a0) 65535) 48) (z_lshl (z_land (z_i2l a1) 65535) 32)) (z_lshl (z_land (z_i2l a2) 65535) 16)))]) rfl rfl rfl ?_
  refine w_t (np := 31) (l2 := [some (eI (zI a0)), some (eI (zI a1)), some (eI (zI a2)), some (eI (zI a3))]) (s2 := [eJ (zJ (z_i2l a3)), eJ (zJ (z_lor (z_lor (z_lshl (z_land (z_i2l a0) 65535) 48) (z_lshl (z_land (z_i2l a1) 65535) 32)) (z_lshl (z_land (z_i2l a2) 65535) 16)))]) rfl (s_i2l rfl) rfl ?_
  refine v_l2 (np := 34) (c := 65535) rfl rfl (by decide) ?_
  refine w_t (np := 35) (l2 := [some (eI (zI a0)), some (eI (zI a1)), some (eI (zI a2)), some (eI (zI a3))]) (s2 := [eJ (zJ (z_land (z_i2l a3) 65535)), eJ (zJ (z_lor (z_lor (z_lshl (z_land (z_i2l a0) 65535) 48) (z_lshl (z_land (z_i2l a1) 65535) 32)) (z_lshl (z_land (z_i2l a2) 65535) 16)))]) rfl (s_land rfl) rfl ?_
  refine w_t (np := 36) (l2 := [some (eI (zI a0)), some (eI (zI a1)), some (eI (zI a2)), some (eI (zI a3))]) (s2 := [eJ (zJ (z_lor (z_lor (z_lor (z_lshl (z_land (z_i2l a0) 65535) 48) (z_lshl (z_land (z_i2l a1) 65535) 32)) (z_lshl (z_land (z_i2l a2) 65535) 16)) (z_land (z_i2l a3) 65535)))]) rfl (s_lor rfl) rfl ?_
  exact v_rl rfl rfl (K _ (k_key a0 a1 a2 a3))
theorem t40 {L : Nat} {ρ : Nat → Int} {rc rs d : Nat} {f : eFr} {F : List eFr} {μ : eM} {x n0 n1 n2 n3 : Nat} {p q r s : Int} (hR : yR gl_c μ) (hk : KR x n0 n1 n2 n3) (hn0 : k_sv n0 = p) (hn1 : k_sv n1 = q) (hn2 : k_sv n2 = r) (hn3 : k_sv n3 = s) (hp : -9999 ≤ p ∧ p ≤ 9999) (hq : -9999 ≤ q ∧ q ≤ 9999) (hr : -9999 ≤ r ∧ r ≤ 9999) (hs : -9999 ≤ s ∧ s ≤ 9999) (K : ∀ (μ2 : eM) (v : Int), yR gl_c μ2 → v = hA p q r s → -1 ≤ v ∧ v ≤ 9 → ex_fine (dt_fg L ρ) rc rs (d + 6, (f.1, f.2.1, f.2.2.1, eI v :: f.2.2.2), F, μ2)) : ex_fine (dt_fg L ρ) rc rs (d + 5, (40, 0, [some (eR 65), some (eJ (zJ x)), none, none], []), f :: F, μ) := by
  obtain ⟨kd, fd⟩ := gl_x gl_f2 hR (by decide) rfl
  refine w_t (np := 1) (l2 := [some (eR 65), some (eJ (zJ x)), none, none]) (s2 := [eI (0)]) rfl rfl rfl ?_
  refine w_t (np := 2) (l2 := [some (eR 65), some (eJ (zJ x)), none, some (eI (0))]) (s2 := []) rfl rfl rfl ?_
  refine w_t (np := 3) (l2 := [some (eR 65), some (eJ (zJ x)), none, some (eI (0))]) (s2 := [eI (0)]) rfl rfl rfl ?_
  refine w_t (np := 4) (l2 := [some (eR 65), some (eJ (zJ x)), none, some (eI (0))]) (s2 := [eR 65, eI (0)]) rfl (s_an rfl (by decide)) rfl ?_
  refine w_gf (np := 7) (v := eI (10)) rfl rfl kd (by rw [fd]; rfl) ?_
  refine b_cge (t1 := 27) (t2 := 10) rfl rfl rfl rfl rfl (fun g1 => absurd g1 (by decide)) (fun g1 => ?_)
  clear g1
  refine w_t (np := 11) (l2 := [some (eR 65), some (eJ (zJ x)), none, some (eI (0))]) (s2 := [eR 65]) rfl (s_an rfl (by decide)) rfl ?_
  refine w_t (np := 12) (l2 := [some (eR 65), some (eJ (zJ x)), none, some (eI (0))]) (s2 := [eI (0), eR 65]) rfl rfl rfl ?_
  refine w_t (np := 13) (l2 := [some (eR 65), some (eJ (zJ x)), none, some (eI (0))]) (s2 := [eJ (zJ x), eI (0), eR 65]) rfl rfl rfl ?_
  refine w_cw (np := 16) (as := [eI (0), eJ (zJ x)]) (l2 := [some (eR 65), some (eI (0)), some (eJ (zJ x)), none, none, none, none, none, none, none, none, none, none]) (rest := []) rfl rfl rfl (Nat.ble_eq.mp rfl) rfl rfl rfl kd rfl ?_
  refine t41_0 hR hk hn0 hn1 hn2 hn3 hp hq hr hs (fun m2 R3 c4 => ?_) (fun m2 R3 c4 => ?_)
  · show ex_fine (dt_fg L ρ) rc rs (d + 5, (40, 16, [some (eR 65), some (eJ (zJ x)), none, some (eI (0))], [eI (1)]), f :: F, m2)
    refine b_ieq (t1 := 21) (t2 := 19) rfl rfl rfl rfl (fun h => absurd h (by decide)) (fun _ => ?_)
    refine w_t (np := 20) (l2 := [some (eR 65), some (eJ (zJ x)), none, some (eI (0))]) (s2 := [eI (0)]) rfl rfl rfl ?_
    refine b_ri rfl rfl (K m2 0 R3 ?_ (by decide))
    unfold hA
    rw [c4]
    all_goals rfl
  show ex_fine (dt_fg L ρ) rc rs (d + 5, (40, 16, [some (eR 65), some (eJ (zJ x)), none, some (eI (0))], [eI (0)]), f :: F, m2)
  refine b_ieq (t1 := 21) (t2 := 19) rfl rfl rfl rfl (fun _ => ?_) (fun h => absurd rfl h)
  obtain ⟨kd5, fd6⟩ := gl_x gl_f2 R3 (by decide) rfl
  refine w_t (np := 24) (l2 := [some (eR 65), some (eJ (zJ x)), none, some (eI (1))]) (s2 := []) rfl (b_iinc rfl rfl rfl) rfl ?_
  refine w_go (t1 := 2) rfl rfl ?_
  refine w_t (np := 3) (l2 := [some (eR 65), some (eJ (zJ x)), none, some (eI (1))]) (s2 := [eI (1)]) rfl rfl rfl ?_
  refine w_t (np := 4) (l2 := [some (eR 65), some (eJ (zJ x)), none, some (eI (1))]) (s2 := [eR 65, eI (1)]) rfl (s_an rfl (by decide)) rfl ?_
  refine w_gf (np := 7) (v := eI (10)) rfl rfl kd5 (by rw [fd6]; rfl) ?_
  refine b_cge (t1 := 27) (t2 := 10) rfl rfl rfl rfl rfl (fun g7 => absurd g7 (by decide)) (fun g7 => ?_)
  clear g7
  refine w_t (np := 11) (l2 := [some (eR 65), some (eJ (zJ x)), none, some (eI (1))]) (s2 := [eR 65]) rfl (s_an rfl (by decide)) rfl ?_
  refine w_t (np := 12) (l2 := [some (eR 65), some (eJ (zJ x)), none, some (eI (1))]) (s2 := [eI (1), eR 65]) rfl rfl rfl ?_
  refine w_t (np := 13) (l2 := [some (eR 65), some (eJ (zJ x)), none, some (eI (1))]) (s2 := [eJ (zJ x), eI (1), eR 65]) rfl rfl rfl ?_
  refine w_cw (np := 16) (as := [eI (1), eJ (zJ x)]) (l2 := [some (eR 65), some (eI (1)), some (eJ (zJ x)), none, none, none, none, none, none, none, none, none, none]) (rest := []) rfl rfl rfl (Nat.ble_eq.mp rfl) rfl rfl rfl kd5 rfl ?_
  refine t41_1 R3 hk hn0 hn1 hn2 hn3 hp hq hr hs (fun m8 R9 c10 => ?_) (fun m8 R9 c10 => ?_)
  · show ex_fine (dt_fg L ρ) rc rs (d + 5, (40, 16, [some (eR 65), some (eJ (zJ x)), none, some (eI (1))], [eI (1)]), f :: F, m8)
    refine b_ieq (t1 := 21) (t2 := 19) rfl rfl rfl rfl (fun h => absurd h (by decide)) (fun _ => ?_)
    refine w_t (np := 20) (l2 := [some (eR 65), some (eJ (zJ x)), none, some (eI (1))]) (s2 := [eI (1)]) rfl rfl rfl ?_
    refine b_ri rfl rfl (K m8 1 R9 ?_ (by decide))
    unfold hA
    rw [c4, c10]
    all_goals rfl
  show ex_fine (dt_fg L ρ) rc rs (d + 5, (40, 16, [some (eR 65), some (eJ (zJ x)), none, some (eI (1))], [eI (0)]), f :: F, m8)
  refine b_ieq (t1 := 21) (t2 := 19) rfl rfl rfl rfl (fun _ => ?_) (fun h => absurd rfl h)
  obtain ⟨kd11, fd12⟩ := gl_x gl_f2 R9 (by decide) rfl
  refine w_t (np := 24) (l2 := [some (eR 65), some (eJ (zJ x)), none, some (eI (2))]) (s2 := []) rfl (b_iinc rfl rfl rfl) rfl ?_
  refine w_go (t1 := 2) rfl rfl ?_
  refine w_t (np := 3) (l2 := [some (eR 65), some (eJ (zJ x)), none, some (eI (2))]) (s2 := [eI (2)]) rfl rfl rfl ?_
  refine w_t (np := 4) (l2 := [some (eR 65), some (eJ (zJ x)), none, some (eI (2))]) (s2 := [eR 65, eI (2)]) rfl (s_an rfl (by decide)) rfl ?_
  refine w_gf (np := 7) (v := eI (10)) rfl rfl kd11 (by rw [fd12]; rfl) ?_
  refine b_cge (t1 := 27) (t2 := 10) rfl rfl rfl rfl rfl (fun g13 => absurd g13 (by decide)) (fun g13 => ?_)
  clear g13
  refine w_t (np := 11) (l2 := [some (eR 65), some (eJ (zJ x)), none, some (eI (2))]) (s2 := [eR 65]) rfl (s_an rfl (by decide)) rfl ?_
  refine w_t (np := 12) (l2 := [some (eR 65), some (eJ (zJ x)), none, some (eI (2))]) (s2 := [eI (2), eR 65]) rfl rfl rfl ?_
  refine w_t (np := 13) (l2 := [some (eR 65), some (eJ (zJ x)), none, some (eI (2))]) (s2 := [eJ (zJ x), eI (2), eR 65]) rfl rfl rfl ?_
  refine w_cw (np := 16) (as := [eI (2), eJ (zJ x)]) (l2 := [some (eR 65), some (eI (2)), some (eJ (zJ x)), none, none, none, none, none, none, none, none, none, none]) (rest := []) rfl rfl rfl (Nat.ble_eq.mp rfl) rfl rfl rfl kd11 rfl ?_
  refine t41_2 R9 hk hn0 hn1 hn2 hn3 hp hq hr hs (fun m14 R15 c16 => ?_) (fun m14 R15 c16 => ?_)
  · show ex_fine (dt_fg L ρ) rc rs (d + 5, (40, 16, [some (eR 65), some (eJ (zJ x)), none, some (eI (2))], [eI (1)]), f :: F, m14)
    refine b_ieq (t1 := 21) (t2 := 19) rfl rfl rfl rfl (fun h => absurd h (by decide)) (fun _ => ?_)
    refine w_t (np := 20) (l2 := [some (eR 65), some (eJ (zJ x)), none, some (eI (2))]) (s2 := [eI (2)]) rfl rfl rfl ?_
    refine b_ri rfl rfl (K m14 2 R15 ?_ (by decide))
    unfold hA
    rw [c4, c10, c16]
    all_goals rfl
  show ex_fine (dt_fg L ρ) rc rs (d + 5, (40, 16, [some (eR 65), some (eJ (zJ x)), none, some (eI (2))], [eI (0)]), f :: F, m14)
  refine b_ieq (t1 := 21) (t2 := 19) rfl rfl rfl rfl (fun _ => ?_) (fun h => absurd rfl h)
  obtain ⟨kd17, fd18⟩ := gl_x gl_f2 R15 (by decide) rfl
  refine w_t (np := 24) (l2 := [some (eR 65), some (eJ (zJ x)), none, some (eI (3))]) (s2 := []) rfl (b_iinc rfl rfl rfl) rfl ?_
  refine w_go (t1 := 2) rfl rfl ?_
  refine w_t (np := 3) (l2 := [some (eR 65), some (eJ (zJ x)), none, some (eI (3))]) (s2 := [eI (3)]) rfl rfl rfl ?_
  refine w_t (np := 4) (l2 := [some (eR 65), some (eJ (zJ x)), none, some (eI (3))]) (s2 := [eR 65, eI (3)]) rfl (s_an rfl (by decide)) rfl ?_
  refine w_gf (np := 7) (v := eI (10)) rfl rfl kd17 (by rw [fd18]; rfl) ?_
  refine b_cge (t1 := 27) (t2 := 10) rfl rfl rfl rfl rfl (fun g19 => absurd g19 (by decide)) (fun g19 => ?_)
  clear g19
  refine w_t (np := 11) (l2 := [some (eR 65), some (eJ (zJ x)), none, some (eI (3))]) (s2 := [eR 65]) rfl (s_an rfl (by decide)) rfl ?_
  refine w_t (np := 12) (l2 := [some (eR 65), some (eJ (zJ x)), none, some (eI (3))]) (s2 := [eI (3), eR 65]) rfl rfl rfl ?_
  refine w_t (np := 13) (l2 := [some (eR 65), some (eJ (zJ x)), none, some (eI (3))]) (s2 := [eJ (zJ x), eI (3), eR 65]) rfl rfl rfl ?_
  refine w_cw (np := 16) (as := [eI (3), eJ (zJ x)]) (l2 := [some (eR 65), some (eI (3)), some (eJ (zJ x)), none, none, none, none, none, none, none, none, none, none]) (rest := []) rfl rfl rfl (Nat.ble_eq.mp rfl) rfl rfl rfl kd17 rfl ?_
  refine t41_3 R15 hk hn0 hn1 hn2 hn3 hp hq hr hs (fun m20 R21 c22 => ?_) (fun m20 R21 c22 => ?_)
  · show ex_fine (dt_fg L ρ) rc rs (d + 5, (40, 16, [some (eR 65), some (eJ (zJ x)), none, some (eI (3))], [eI (1)]), f :: F, m20)
    refine b_ieq (t1 := 21) (t2 := 19) rfl rfl rfl rfl (fun h => absurd h (by decide)) (fun _ => ?_)
    refine w_t (np := 20) (l2 := [some (eR 65), some (eJ (zJ x)), none, some (eI (3))]) (s2 := [eI (3)]) rfl rfl rfl ?_
    refine b_ri rfl rfl (K m20 3 R21 ?_ (by decide))
    unfold hA
    rw [c4, c10, c16, c22]
    all_goals rfl
  show ex_fine (dt_fg L ρ) rc rs (d + 5, (40, 16, [some (eR 65), some (eJ (zJ x)), none, some (eI (3))], [eI (0)]), f :: F, m20)
  refine b_ieq (t1 := 21) (t2 := 19) rfl rfl rfl rfl (fun _ => ?_) (fun h => absurd rfl h)
  obtain ⟨kd23, fd24⟩ := gl_x gl_f2 R21 (by decide) rfl
  refine w_t (np := 24) (l2 := [some (eR 65), some (eJ (zJ x)), none, some (eI (4))]) (s2 := []) rfl (b_iinc rfl rfl rfl) rfl ?_
  refine w_go (t1 := 2) rfl rfl ?_
  refine w_t (np := 3) (l2 := [some (eR 65), some (eJ (zJ x)), none, some (eI (4))]) (s2 := [eI (4)]) rfl rfl rfl ?_
  refine w_t (np := 4) (l2 := [some (eR 65), some (eJ (zJ x)), none, some (eI (4))]) (s2 := [eR 65, eI (4)]) rfl (s_an rfl (by decide)) rfl ?_
  refine w_gf (np := 7) (v := eI (10)) rfl rfl kd23 (by rw [fd24]; rfl) ?_
  refine b_cge (t1 := 27) (t2 := 10) rfl rfl rfl rfl rfl (fun g25 => absurd g25 (by decide)) (fun g25 => ?_)
  clear g25
  refine w_t (np := 11) (l2 := [some (eR 65), some (eJ (zJ x)), none, some (eI (4))]) (s2 := [eR 65]) rfl (s_an rfl (by decide)) rfl ?_
  refine w_t (np := 12) (l2 := [some (eR 65), some (eJ (zJ x)), none, some (eI (4))]) (s2 := [eI (4), eR 65]) rfl rfl rfl ?_
  refine w_t (np := 13) (l2 := [some (eR 65), some (eJ (zJ x)), none, some (eI (4))]) (s2 := [eJ (zJ x), eI (4), eR 65]) rfl rfl rfl ?_
  refine w_cw (np := 16) (as := [eI (4), eJ (zJ x)]) (l2 := [some (eR 65), some (eI (4)), some (eJ (zJ x)), none, none, none, none, none, none, none, none, none, none]) (rest := []) rfl rfl rfl (Nat.ble_eq.mp rfl) rfl rfl rfl kd23 rfl ?_
  refine t41_4 R21 hk hn0 hn1 hn2 hn3 hp hq hr hs (fun m26 R27 c28 => ?_) (fun m26 R27 c28 => ?_)
  · show ex_fine (dt_fg L ρ) rc rs (d + 5, (40, 16, [some (eR 65), some (eJ (zJ x)), none, some (eI (4))], [eI (1)]), f :: F, m26)
    refine b_ieq (t1 := 21) (t2 := 19) rfl rfl rfl rfl (fun h => absurd h (by decide)) (fun _ => ?_)
    refine w_t (np := 20) (l2 := [some (eR 65), some (eJ (zJ x)), none, some (eI (4))]) (s2 := [eI (4)]) rfl rfl rfl ?_
    refine b_ri rfl rfl (K m26 4 R27 ?_ (by decide))
    unfold hA
    rw [c4, c10, c16, c22, c28]
    all_goals rfl
  show ex_fine (dt_fg L ρ) rc rs (d + 5, (40, 16, [some (eR 65), some (eJ (zJ x)), none, some (eI (4))], [eI (0)]), f :: F, m26)
  refine b_ieq (t1 := 21) (t2 := 19) rfl rfl rfl rfl (fun _ => ?_) (fun h => absurd rfl h)
  obtain ⟨kd29, fd30⟩ := gl_x gl_f2 R27 (by decide) rfl
  refine w_t (np := 24) (l2 := [some (eR 65), some (eJ (zJ x)), none, some (eI (5))]) (s2 := []) rfl (b_iinc rfl rfl rfl) rfl ?_
  refine w_go (t1 := 2) rfl rfl ?_
  refine w_t (np := 3) (l2 := [some (eR 65), some (eJ (zJ x)), none, some (eI (5))]) (s2 := [eI (5)]) rfl rfl rfl ?_
  refine w_t (np := 4) (l2 := [some (eR 65), some (eJ (zJ x)), none, some (eI (5))]) (s2 := [eR 65, eI (5)]) rfl (s_an rfl (by decide)) rfl ?_
  refine w_gf (np := 7) (v := eI (10)) rfl rfl kd29 (by rw [fd30]; rfl) ?_
  refine b_cge (t1 := 27) (t2 := 10) rfl rfl rfl rfl rfl (fun g31 => absurd g31 (by decide)) (fun g31 => ?_)
  clear g31
  refine w_t (np := 11) (l2 := [some (eR 65), some (eJ (zJ x)), none, some (eI (5))]) (s2 := [eR 65]) rfl (s_an rfl (by decide)) rfl ?_
  refine w_t (np := 12) (l2 := [some (eR 65), some (eJ (zJ x)), none, some (eI (5))]) (s2 := [eI (5), eR 65]) rfl rfl rfl ?_
  refine w_t (np := 13) (l2 := [some (eR 65), some (eJ (zJ x)), none, some (eI (5))]) (s2 := [eJ (zJ x), eI (5), eR 65]) rfl rfl rfl ?_
  refine w_cw (np := 16) (as := [eI (5), eJ (zJ x)]) (l2 := [some (eR 65), some (eI (5)), some (eJ (zJ x)), none, none, none, none, none, none, none, none, none, none]) (rest := []) rfl rfl rfl (Nat.ble_eq.mp rfl) rfl rfl rfl kd29 rfl ?_
  refine t41_5 R27 hk hn0 hn1 hn2 hn3 hp hq hr hs (fun m32 R33 c34 => ?_) (fun m32 R33 c34 => ?_)
  · show ex_fine (dt_fg L ρ) rc rs (d + 5, (40, 16, [some (eR 65), some (eJ (zJ x)), none, some (eI (5))], [eI (1)]), f :: F, m32)
    refine b_ieq (t1 := 21) (t2 := 19) rfl rfl rfl rfl (fun h => absurd h (by decide)) (fun _ => ?_)
    refine w_t (np := 20) (l2 := [some (eR 65), some (eJ (zJ x)), none, some (eI (5))]) (s2 := [eI (5)]) rfl rfl rfl ?_
    refine b_ri rfl rfl (K m32 5 R33 ?_ (by decide))
    unfold hA
    rw [c4, c10, c16, c22, c28, c34]
    all_goals rfl
  show ex_fine (dt_fg L ρ) rc rs (d + 5, (40, 16, [some (eR 65), some (eJ (zJ x)), none, some (eI (5))], [eI (0)]), f :: F, m32)
  refine b_ieq (t1 := 21) (t2 := 19) rfl rfl rfl rfl (fun _ => ?_) (fun h => absurd rfl h)
  obtain ⟨kd35, fd36⟩ := gl_x gl_f2 R33 (by decide) rfl
  refine w_t (np := 24) (l2 := [some (eR 65), some (eJ (zJ x)), none, some (eI (6))]) (s2 := []) rfl (b_iinc rfl rfl rfl) rfl ?_
  refine w_go (t1 := 2) rfl rfl ?_
  refine w_t (np := 3) (l2 := [some (eR 65), some (eJ (zJ x)), none, some (eI (6))]) (s2 := [eI (6)]) rfl rfl rfl ?_
  refine w_t (np := 4) (l2 := [some (eR 65), some (eJ (zJ x)), none, some (eI (6))]) (s2 := [eR 65, eI (6)]) rfl (s_an rfl (by decide)) rfl ?_
  refine w_gf (np := 7) (v := eI (10)) rfl rfl kd35 (by rw [fd36]; rfl) ?_
  refine b_cge (t1 := 27) (t2 := 10) rfl rfl rfl rfl rfl (fun g37 => absurd g37 (by decide)) (fun g37 => ?_)
  clear g37
  refine w_t (np := 11) (l2 := [some (eR 65), some (eJ (zJ x)), none, some (eI (6))]) (s2 := [eR 65]) rfl (s_an rfl (by decide)) rfl ?_
  refine w_t (np := 12) (l2 := [some (eR 65), some (eJ (zJ x)), none, some (eI (6))]) (s2 := [eI (6), eR 65]) rfl rfl rfl ?_
  refine w_t (np := 13) (l2 := [some (eR 65), some (eJ (zJ x)), none, some (eI (6))]) (s2 := [eJ (zJ x), eI (6), eR 65]) rfl rfl rfl ?_
  refine w_cw (np := 16) (as := [eI (6), eJ (zJ x)]) (l2 := [some (eR 65), some (eI (6)), some (eJ (zJ x)), none, none, none, none, none, none, none, none, none, none]) (rest := []) rfl rfl rfl (Nat.ble_eq.mp rfl) rfl rfl rfl kd35 rfl ?_
  refine t41_6 R33 hk hn0 hn1 hn2 hn3 hp hq hr hs (fun m38 R39 c40 => ?_) (fun m38 R39 c40 => ?_)
  · show ex_fine (dt_fg L ρ) rc rs (d + 5, (40, 16, [some (eR 65), some (eJ (zJ x)), none, some (eI (6))], [eI (1)]), f :: F, m38)
    refine b_ieq (t1 := 21) (t2 := 19) rfl rfl rfl rfl (fun h => absurd h (by decide)) (fun _ => ?_)
    refine w_t (np := 20) (l2 := [some (eR 65), some (eJ (zJ x)), none, some (eI (6))]) (s2 := [eI (6)]) rfl rfl rfl ?_
    refine b_ri rfl rfl (K m38 6 R39 ?_ (by decide))
    unfold hA
    rw [c4, c10, c16, c22, c28, c34, c40]
    all_goals rfl
  show ex_fine (dt_fg L ρ) rc rs (d + 5, (40, 16, [some (eR 65), some (eJ (zJ x)), none, some (eI (6))], [eI (0)]), f :: F, m38)
  refine b_ieq (t1 := 21) (t2 := 19) rfl rfl rfl rfl (fun _ => ?_) (fun h => absurd rfl h)
  obtain ⟨kd41, fd42⟩ := gl_x gl_f2 R39 (by decide) rfl
  refine w_t (np := 24) (l2 := [some (eR 65), some (eJ (zJ x)), none, some (eI (7))]) (s2 := []) rfl (b_iinc rfl rfl rfl) rfl ?_
  refine w_go (t1 := 2) rfl rfl ?_
  refine w_t (np := 3) (l2 := [some (eR 65), some (eJ (zJ x)), none, some (eI (7))]) (s2 := [eI (7)]) rfl rfl rfl ?_
  refine w_t (np := 4) (l2 := [some (eR 65), some (eJ (zJ x)), none, some (eI (7))]) (s2 := [eR 65, eI (7)]) rfl (s_an rfl (by decide)) rfl ?_
  refine w_gf (np := 7) (v := eI (10)) rfl rfl kd41 (by rw [fd42]; rfl) ?_
  refine b_cge (t1 := 27) (t2 := 10) rfl rfl rfl rfl rfl (fun g43 => absurd g43 (by decide)) (fun g43 => ?_)
  clear g43
  refine w_t (np := 11) (l2 := [some (eR 65), some (eJ (zJ x)), none, some (eI (7))]) (s2 := [eR 65]) rfl (s_an rfl (by decide)) rfl ?_
  refine w_t (np := 12) (l2 := [some (eR 65), some (eJ (zJ x)), none, some (eI (7))]) (s2 := [eI (7), eR 65]) rfl rfl rfl ?_
  refine w_t (np := 13) (l2 := [some (eR 65), some (eJ (zJ x)), none, some (eI (7))]) (s2 := [eJ (zJ x), eI (7), eR 65]) rfl rfl rfl ?_
  refine w_cw (np := 16) (as := [eI (7), eJ (zJ x)]) (l2 := [some (eR 65), some (eI (7)), some (eJ (zJ x)), none, none, none, none, none, none, none, none, none, none]) (rest := []) rfl rfl rfl (Nat.ble_eq.mp rfl) rfl rfl rfl kd41 rfl ?_
  refine t41_7 R39 hk hn0 hn1 hn2 hn3 hp hq hr hs (fun m44 R45 c46 => ?_) (fun m44 R45 c46 => ?_)
  · show ex_fine (dt_fg L ρ) rc rs (d + 5, (40, 16, [some (eR 65), some (eJ (zJ x)), none, some (eI (7))], [eI (1)]), f :: F, m44)
    refine b_ieq (t1 := 21) (t2 := 19) rfl rfl rfl rfl (fun h => absurd h (by decide)) (fun _ => ?_)
    refine w_t (np := 20) (l2 := [some (eR 65), some (eJ (zJ x)), none, some (eI (7))]) (s2 := [eI (7)]) rfl rfl rfl ?_
    refine b_ri rfl rfl (K m44 7 R45 ?_ (by decide))
    unfold hA
    rw [c4, c10, c16, c22, c28, c34, c40, c46]
    all_goals rfl
  show ex_fine (dt_fg L ρ) rc rs (d + 5, (40, 16, [some (eR 65), some (eJ (zJ x)), none, some (eI (7))], [eI (0)]), f :: F, m44)
  refine b_ieq (t1 := 21) (t2 := 19) rfl rfl rfl rfl (fun _ => ?_) (fun h => absurd rfl h)
  obtain ⟨kd47, fd48⟩ := gl_x gl_f2 R45 (by decide) rfl
  refine w_t (np := 24) (l2 := [some (eR 65), some (eJ (zJ x)), none, some (eI (8))]) (s2 := []) rfl (b_iinc rfl rfl rfl) rfl ?_
  refine w_go (t1 := 2) rfl rfl ?_
  refine w_t (np := 3) (l2 := [some (eR 65), some (eJ (zJ x)), none, some (eI (8))]) (s2 := [eI (8)]) rfl rfl rfl ?_
  refine w_t (np := 4) (l2 := [some (eR 65), some (eJ (zJ x)), none, some (eI (8))]) (s2 := [eR 65, eI (8)]) rfl (s_an rfl (by decide)) rfl ?_
  refine w_gf (np := 7) (v := eI (10)) rfl rfl kd47 (by rw [fd48]; rfl) ?_
  refine b_cge (t1 := 27) (t2 := 10) rfl rfl rfl rfl rfl (fun g49 => absurd g49 (by decide)) (fun g49 => ?_)
  clear g49
  refine w_t (np := 11) (l2 := [some (eR 65), some (eJ (zJ x)), none, some (eI (8))]) (s2 := [eR 65]) rfl (s_an rfl (by decide)) rfl ?_
  refine w_t (np := 12) (l2 := [some (eR 65), some (eJ (zJ x)), none, some (eI (8))]) (s2 := [eI (8), eR 65]) rfl rfl rfl ?_
  refine w_t (np := 13) (l2 := [some (eR 65), some (eJ (zJ x)), none, some (eI (8))]) (s2 := [eJ (zJ x), eI (8), eR 65]) rfl rfl rfl ?_
  refine w_cw (np := 16) (as := [eI (8), eJ (zJ x)]) (l2 := [some (eR 65), some (eI (8)), some (eJ (zJ x)), none, none, none, none, none, none, none, none, none, none]) (rest := []) rfl rfl rfl (Nat.ble_eq.mp rfl) rfl rfl rfl kd47 rfl ?_
  refine t41_8 R45 hk hn0 hn1 hn2 hn3 hp hq hr hs (fun m50 R51 c52 => ?_) (fun m50 R51 c52 => ?_)
  · show ex_fine (dt_fg L ρ) rc rs (d + 5, (40, 16, [some (eR 65), some (eJ (zJ x)), none, some (eI (8))], [eI (1)]), f :: F, m50)
    refine b_ieq (t1 := 21) (t2 := 19) rfl rfl rfl rfl (fun h => absurd h (by decide)) (fun _ => ?_)
    refine w_t (np := 20) (l2 := [some (eR 65), some (eJ (zJ x)), none, some (eI (8))]) (s2 := [eI (8)]) rfl rfl rfl ?_
    refine b_ri rfl rfl (K m50 8 R51 ?_ (by decide))
    unfold hA
    rw [c4, c10, c16, c22, c28, c34, c40, c46, c52]
    all_goals rfl
  show ex_fine (dt_fg L ρ) rc rs (d + 5, (40, 16, [some (eR 65), some (eJ (zJ x)), none, some (eI (8))], [eI (0)]), f :: F, m50)
  refine b_ieq (t1 := 21) (t2 := 19) rfl rfl rfl rfl (fun _ => ?_) (fun h => absurd rfl h)
  obtain ⟨kd53, fd54⟩ := gl_x gl_f2 R51 (by decide) rfl
  refine w_t (np := 24) (l2 := [some (eR 65), some (eJ (zJ x)), none, some (eI (9))]) (s2 := []) rfl (b_iinc rfl rfl rfl) rfl ?_
  refine w_go (t1 := 2) rfl rfl ?_
  refine w_t (np := 3) (l2 := [some (eR 65), some (eJ (zJ x)), none, some (eI (9))]) (s2 := [eI (9)]) rfl rfl rfl ?_
  refine w_t (np := 4) (l2 := [some (eR 65), some (eJ (zJ x)), none, some (eI (9))]) (s2 := [eR 65, eI (9)]) rfl (s_an rfl (by decide)) rfl ?_
  refine w_gf (np := 7) (v := eI (10)) rfl rfl kd53 (by rw [fd54]; rfl) ?_
  refine b_cge (t1 := 27) (t2 := 10) rfl rfl rfl rfl rfl (fun g55 => absurd g55 (by decide)) (fun g55 => ?_)
  clear g55
  refine w_t (np := 11) (l2 := [some (eR 65), some (eJ (zJ x)), none, some (eI (9))]) (s2 := [eR 65]) rfl (s_an rfl (by decide)) rfl ?_
  refine w_t (np := 12) (l2 := [some (eR 65), some (eJ (zJ x)), none, some (eI (9))]) (s2 := [eI (9), eR 65]) rfl rfl rfl ?_
  refine w_t (np := 13) (l2 := [some (eR 65), some (eJ (zJ x)), none, some (eI (9))]) (s2 := [eJ (zJ x), eI (9), eR 65]) rfl rfl rfl ?_
  refine w_cw (np := 16) (as := [eI (9), eJ (zJ x)]) (l2 := [some (eR 65), some (eI (9)), some (eJ (zJ x)), none, none, none, none, none, none, none, none, none, none]) (rest := []) rfl rfl rfl (Nat.ble_eq.mp rfl) rfl rfl rfl kd53 rfl ?_
  refine t41_9 R51 hk hn0 hn1 hn2 hn3 hp hq hr hs (fun m56 R57 c58 => ?_) (fun m56 R57 c58 => ?_)
  · show ex_fine (dt_fg L ρ) rc rs (d + 5, (40, 16, [some (eR 65), some (eJ (zJ x)), none, some (eI (9))], [eI (1)]), f :: F, m56)
    refine b_ieq (t1 := 21) (t2 := 19) rfl rfl rfl rfl (fun h => absurd h (by decide)) (fun _ => ?_)
    refine w_t (np := 20) (l2 := [some (eR 65), some (eJ (zJ x)), none, some (eI (9))]) (s2 := [eI (9)]) rfl rfl rfl ?_
    refine b_ri rfl rfl (K m56 9 R57 ?_ (by decide))
    unfold hA
    rw [c4, c10, c16, c22, c28, c34, c40, c46, c52, c58]
    all_goals rfl
  show ex_fine (dt_fg L ρ) rc rs (d + 5, (40, 16, [some (eR 65), some (eJ (zJ x)), none, some (eI (9))], [eI (0)]), f :: F, m56)
  refine b_ieq (t1 := 21) (t2 := 19) rfl rfl rfl rfl (fun _ => ?_) (fun h => absurd rfl h)
  obtain ⟨kd59, fd60⟩ := gl_x gl_f2 R57 (by decide) rfl
  refine w_t (np := 24) (l2 := [some (eR 65), some (eJ (zJ x)), none, some (eI (10))]) (s2 := []) rfl (b_iinc rfl rfl rfl) rfl ?_
  refine w_go (t1 := 2) rfl rfl ?_
  refine w_t (np := 3) (l2 := [some (eR 65), some (eJ (zJ x)), none, some (eI (10))]) (s2 := [eI (10)]) rfl rfl rfl ?_
  refine w_t (np := 4) (l2 := [some (eR 65), some (eJ (zJ x)), none, some (eI (10))]) (s2 := [eR 65, eI (10)]) rfl (s_an rfl (by decide)) rfl ?_
  refine w_gf (np := 7) (v := eI (10)) rfl rfl kd59 (by rw [fd60]; rfl) ?_
  refine b_cge (t1 := 27) (t2 := 10) rfl rfl rfl rfl rfl (fun g61 => ?_) (fun g61 => absurd g61 (by decide))
  clear g61
  refine w_t (np := 28) (l2 := [some (eR 65), some (eJ (zJ x)), none, some (eI (10))]) (s2 := [eI (-1)]) rfl rfl rfl ?_
  refine b_ri rfl rfl (K m56 (-1) R57 ?_ (by decide))
  unfold hA
  rw [c4, c10, c16, c22, c28, c34, c40, c46, c52, c58]
  all_goals rfl
theorem t205 {fg : eG} {rc rs d : Nat} {f : eFr} {F : List eFr} {μ : eM} {w : Int} (hq : tQ μ) (hk : ev_kd μ 64 = some 10) (hw : -2147483648 ≤ w ∧ w ≤ 2147483647) (K : ∀ μ2 : eM, tQ μ2 → ex_fine fg rc rs (d + 1, (f.1, f.2.1, f.2.2.1, eI (-1) :: f.2.2.2), F, μ2)) : ex_fine fg rc rs (d, (205, 0, [some (eR 64), some (eI (w))], []), f :: F, μ) := by
  refine w_t (np := 1) (l2 := [some (eR 64), some (eI (w))]) (s2 := [eR 64]) rfl (s_an rfl (by decide)) rfl ?_
  refine w_t (np := 2) (l2 := [some (eR 64), some (eI (w))]) (s2 := [eI (w), eR 64]) rfl rfl rfl ?_
  refine b_pf (np := 5) (w := w) rfl rfl hk rfl ?_
  have q2 := tQ_u (c := 64) (k := 13) (w := w) hq (by decide) (by decide)
  generalize (ev_up μ.1 64 13 (w), μ.2) = m1 at q2 ⊢
  refine w_t (np := 6) (l2 := [some (eR 64), some (eI (w))]) (s2 := [eI (-1)]) rfl rfl rfl ?_
  exact b_ri rfl rfl (K m1 q2)
theorem t206 {fg : eG} {rc rs d : Nat} {f : eFr} {F : List eFr} {μ : eM} {w : Int} (hq : tQ μ) (hk : ev_kd μ 64 = some 10) (hw : -2147483648 ≤ w ∧ w ≤ 2147483647) (K : ∀ μ2 : eM, tQ μ2 → ex_fine fg rc rs (d + 1, (f.1, f.2.1, f.2.2.1, eI (w) :: f.2.2.2), F, μ2)) : ex_fine fg rc rs (d, (206, 0, [some (eR 64), some (eI (w))], []), f :: F, μ) := by
  refine w_t (np := 1) (l2 := [some (eR 64), some (eI (w))]) (s2 := [eR 64]) rfl (s_an rfl (by decide)) rfl ?_
  refine w_t (np := 2) (l2 := [some (eR 64), some (eI (w))]) (s2 := [eI (0), eR 64]) rfl rfl rfl ?_
  refine b_pf (np := 5) (w := 0) rfl rfl hk rfl ?_
  have q2 := tQ_u (c := 64) (k := 13) (w := 0) hq (by decide) (by decide)
  generalize (ev_up μ.1 64 13 (0), μ.2) = m1 at q2 ⊢
  refine w_t (np := 6) (l2 := [some (eR 64), some (eI (w))]) (s2 := [eI (w)]) rfl rfl rfl ?_
  exact b_ri rfl rfl (K m1 q2)
theorem t207 {fg : eG} {rc rs d : Nat} {f : eFr} {F : List eFr} {μ : eM} {w : Int} (hq : tQ μ) (hk : ev_kd μ 64 = some 10) (hw : -1 ≤ w ∧ w ≤ 9) (K : ∀ μ2 : eM, tQ μ2 → ex_fine fg rc rs (d + 2, (f.1, f.2.1, f.2.2.1, eI w :: f.2.2.2), F, μ2)) : ex_fine fg rc rs (d + 1, (207, 0, [some (eR 64), some (eI (w))], []), f :: F, μ) := by
  refine w_t (np := 1) (l2 := [some (eR 64), some (eI (w))]) (s2 := [eI (w)]) rfl rfl rfl ?_
  refine b_ige (t1 := 12) (t2 := 4) rfl rfl rfl (ev_w_in (by omega) (by omega)) (fun g1 => ?_) (fun g1 => ?_)
  · refine w_t (np := 13) (l2 := [some (eR 64), some (eI (w))]) (s2 := [eR 64]) rfl (s_an rfl (by decide)) rfl ?_
    refine w_t (np := 14) (l2 := [some (eR 64), some (eI (w))]) (s2 := [eI (w), eR 64]) rfl rfl rfl ?_
    refine w_cw (np := 17) (as := [eI (w)]) (l2 := [some (eR 64), some (eI (w))]) (rest := []) rfl rfl rfl (Nat.ble_eq.mp rfl) rfl rfl rfl hk rfl ?_
    refine t206 hq hk (by omega) ?_
    intro m2 q3
    show ex_fine fg rc rs (d + 1, (207, 17, [some (eR 64), some (eI (w))], [eI (w)]), f :: F, m2)
    exact b_ri rfl rfl (K m2 q3)
  · refine w_t (np := 5) (l2 := [some (eR 64), some (eI (w))]) (s2 := [eR 64]) rfl (s_an rfl (by decide)) rfl ?_
    refine w_t (np := 6) (l2 := [some (eR 64), some (eI (w))]) (s2 := [eI (5), eR 64]) rfl rfl rfl ?_
    refine w_cw (np := 9) (as := [eI (5)]) (l2 := [some (eR 64), some (eI (5))]) (rest := []) rfl rfl rfl (Nat.ble_eq.mp rfl) rfl rfl rfl hk rfl ?_
    refine t205 hq hk (by omega) ?_
    intro m2 q3
    show ex_fine fg rc rs (d + 1, (207, 9, [some (eR 64), some (eI (w))], [eI (-1)]), f :: F, m2)
    refine w_go (t1 := 17) rfl rfl ?_
    have e : w = -1 := by omega
    rw [e] at K
    exact b_ri rfl rfl (K m2 q3)
theorem z_b (a : Nat) : -2147483648 ≤ zI a ∧ zI a ≤ 2147483647 := by
  have h := zI_b a
  omega
theorem t162 {L : Nat} {ρ : Nat → Int} {rc rs d : Nat} {f : eFr} {F : List eFr} {μ : eM} {a0 a1 a2 a3 : Nat} (hR : yR gl_c μ) (K : ∀ (μ2 : eM) (v : Int), tQ μ2 → ((((-9999 ≤ (zI a0) ∧ (zI a0) ≤ 9999) ∧ (-9999 ≤ (zI a1) ∧ (zI a1) ≤ 9999) ∧ (-9999 ≤ (zI a2) ∧ (zI a2) ≤ 9999) ∧ (-9999 ≤ (zI a3) ∧ (zI a3) ≤ 9999)) ∧ v = hA (zI a0) (zI a1) (zI a2) (zI a3)) ∨ (¬ ((-9999 ≤ (zI a0) ∧ (zI a0) ≤ 9999) ∧ (-9999 ≤ (zI a1) ∧ (zI a1) ≤ 9999) ∧ (-9999 ≤ (zI a2) ∧ (zI a2) ≤ 9999) ∧ (-9999 ≤ (zI a3) ∧ (zI a3) ≤ 9999)) ∧ v = -1)) → -1 ≤ v ∧ v ≤ 9 → ex_fine (dt_fg L ρ) rc rs (d + 7, (f.1, f.2.1, f.2.2.1, eI v :: f.2.2.2), F, μ2)) : ex_fine (dt_fg L ρ) rc rs (d + 6, (162, 0, [some (eR 64), some (eI (zI a0)), some (eI (zI a1)), some (eI (zI a2)), some (eI (zI a3))], []), f :: F, μ) := by
  have hQ := gl_Q (y_T_ok L ρ) hR
  have b0 := z_b a0
  have b1 := z_b a1
  have b2 := z_b a2
  have b3 := z_b a3
  obtain ⟨kd, fd⟩ := gl_x gl_f3 hR (by decide) rfl
  refine w_t (np := 1) (l2 := [some (eR 64), some (eI (zI a0)), some (eI (zI a1)), some (eI (zI a2)), some (eI (zI a3))]) (s2 := [eI (zI a0)]) rfl rfl rfl ?_
  refine w_t (np := 2) (l2 := [some (eR 64), some (eI (zI a0)), some (eI (zI a1)), some (eI (zI a2)), some (eI (zI a3))]) (s2 := [eI (zI a1), eI (zI a0)]) rfl rfl rfl ?_
  refine w_t (np := 3) (l2 := [some (eR 64), some (eI (zI a0)), some (eI (zI a1)), some (eI (zI a2)), some (eI (zI a3))]) (s2 := [eI (zI a2), eI (zI a1), eI (zI a0)]) rfl rfl rfl ?_
  refine w_t (np := 5) (l2 := [some (eR 64), some (eI (zI a0)), some (eI (zI a1)), some (eI (zI a2)), some (eI (zI a3))]) (s2 := [eI (zI a3), eI (zI a2), eI (zI a1), eI (zI a0)]) rfl rfl rfl ?_
  refine w_t (np := 8) (l2 := [some (eR 64), some (eI (zI a0)), some (eI (zI a1)), some (eI (zI a2)), some (eI (zI a3))]) (s2 := [eI (9999), eI (zI a3), eI (zI a2), eI (zI a1), eI (zI a0)]) rfl rfl rfl ?_
  refine w_cu (np := 11) (as := [eI (zI a0), eI (zI a1), eI (zI a2), eI (zI a3), eI (9999)]) (l2 := [some (eI (zI a0)), some (eI (zI a1)), some (eI (zI a2)), some (eI (zI a3)), some (eI (9999))]) (rest := []) rfl rfl rfl (Nat.ble_eq.mp rfl) rfl rfl rfl rfl ?_
  refine t72 b0 b1 b2 b3 (fun g1 => ?_) (fun g1 => ?_)
  · show ex_fine (dt_fg L ρ) rc rs (d + 6, (162, 11, [some (eR 64), some (eI (zI a0)), some (eI (zI a1)), some (eI (zI a2)), some (eI (zI a3))], [eI (1)]), f :: F, μ)
    refine b_ine (t1 := 20) (t2 := 14) rfl rfl rfl rfl (fun g2 => ?_) (fun g2 => absurd g2 (by decide))
    refine w_t (np := 21) (l2 := [some (eR 64), some (eI (zI a0)), some (eI (zI a1)), some (eI (zI a2)), some (eI (zI a3))]) (s2 := [eR 64]) rfl (s_an rfl (by decide)) rfl ?_
    refine w_t (np := 22) (l2 := [some (eR 64), some (eI (zI a0)), some (eI (zI a1)), some (eI (zI a2)), some (eI (zI a3))]) (s2 := [eR 64, eR 64]) rfl (s_an rfl (by decide)) rfl ?_
    refine w_gf (np := 25) (v := eR 65) rfl rfl kd (by rw [fd]; rfl) ?_
    refine w_t (np := 26) (l2 := [some (eR 64), some (eI (zI a0)), some (eI (zI a1)), some (eI (zI a2)), some (eI (zI a3))]) (s2 := [eI (zI a0), eR 65, eR 64]) rfl rfl rfl ?_
    refine w_t (np := 27) (l2 := [some (eR 64), some (eI (zI a0)), some (eI (zI a1)), some (eI (zI a2)), some (eI (zI a3))]) (s2 := [eI (zI a1), eI (zI a0), eR 65, eR 64]) rfl rfl rfl ?_
    refine w_t (np := 28) (l2 := [some (eR 64), some (eI (zI a0)), some (eI (zI a1)), some (eI (zI a2)), some (eI (zI a3))]) (s2 := [eI (zI a2), eI (zI a1), eI (zI a0), eR 65, eR 64]) rfl rfl rfl ?_
    refine w_t (np := 30) (l2 := [some (eR 64), some (eI (zI a0)), some (eI (zI a1)), some (eI (zI a2)), some (eI (zI a3))]) (s2 := [eI (zI a3), eI (zI a2), eI (zI a1), eI (zI a0), eR 65, eR 64]) rfl rfl rfl ?_
    refine w_cu (np := 33) (as := [eI (zI a0), eI (zI a1), eI (zI a2), eI (zI a3)]) (l2 := [some (eI (zI a0)), some (eI (zI a1)), some (eI (zI a2)), some (eI (zI a3))]) (rest := [eR 65, eR 64]) rfl rfl rfl (Nat.ble_eq.mp rfl) rfl rfl rfl rfl ?_
    refine t71 ?_
    intro x3 j4
    show ex_fine (dt_fg L ρ) rc rs (d + 6, (162, 33, [some (eR 64), some (eI (zI a0)), some (eI (zI a1)), some (eI (zI a2)), some (eI (zI a3))], [eJ (zJ x3), eR 65, eR 64]), f :: F, μ)
    refine w_cw (np := 36) (as := [eJ (zJ x3)]) (l2 := [some (eR 65), some (eJ (zJ x3)), none, none]) (rest := [eR 64]) rfl rfl rfl (Nat.ble_eq.mp rfl) rfl rfl rfl (y_is_ok gl_x65 hR).1 rfl ?_
    refine t40 hR j4 (k_code rfl g1.1) (k_code rfl g1.2.1) (k_code rfl g1.2.2.1) (k_code rfl g1.2.2.2) g1.1 g1.2.1 g1.2.2.1 g1.2.2.2 ?_
    intro m5 v6 R7 e8 b9
    show ex_fine (dt_fg L ρ) rc rs (d + 6, (162, 36, [some (eR 64), some (eI (zI a0)), some (eI (zI a1)), some (eI (zI a2)), some (eI (zI a3))], [eI (v6), eR 64]), f :: F, m5)
    obtain ⟨kd10, fd11⟩ := gl_x gl_f3 R7 (by decide) rfl
    refine w_cw (np := 39) (as := [eI (v6)]) (l2 := [some (eR 64), some (eI (v6))]) (rest := []) rfl rfl rfl (Nat.ble_eq.mp rfl) rfl rfl rfl kd10 rfl ?_
    refine t207 (gl_Q (y_T_ok L ρ) R7) kd10 b9 ?_
    intro m12 q13
    show ex_fine (dt_fg L ρ) rc rs (d + 6, (162, 39, [some (eR 64), some (eI (zI a0)), some (eI (zI a1)), some (eI (zI a2)), some (eI (zI a3))], [eI (v6)]), f :: F, m12)
    exact b_ri rfl rfl (K m12 (v6) q13 (Or.inl ⟨g1, e8⟩) b9)
  · show ex_fine (dt_fg L ρ) rc rs (d + 6, (162, 11, [some (eR 64), some (eI (zI a0)), some (eI (zI a1)), some (eI (zI a2)), some (eI (zI a3))], [eI (0)]), f :: F, μ)
    refine b_ine (t1 := 20) (t2 := 14) rfl rfl rfl rfl (fun g2 => absurd g2 (by decide)) (fun g2 => ?_)
    refine w_t (np := 15) (l2 := [some (eR 64), some (eI (zI a0)), some (eI (zI a1)), some (eI (zI a2)), some (eI (zI a3))]) (s2 := [eR 64]) rfl (s_an rfl (by decide)) rfl ?_
    refine w_t (np := 16) (l2 := [some (eR 64), some (eI (zI a0)), some (eI (zI a1)), some (eI (zI a2)), some (eI (zI a3))]) (s2 := [eI (1), eR 64]) rfl rfl rfl ?_
    refine w_cw (np := 19) (as := [eI (1)]) (l2 := [some (eR 64), some (eI (1))]) (rest := []) rfl rfl rfl (Nat.ble_eq.mp rfl) rfl rfl rfl kd rfl ?_
    refine t205 hQ kd (by decide) ?_
    intro m3 q4
    show ex_fine (dt_fg L ρ) rc rs (d + 6, (162, 19, [some (eR 64), some (eI (zI a0)), some (eI (zI a1)), some (eI (zI a2)), some (eI (zI a3))], [eI (-1)]), f :: F, m3)
    exact b_ri rfl rfl (K m3 (-1) q4 (Or.inr ⟨g1, rfl⟩) (by decide))
theorem t215_0 {fg : eG} {rc rs d : Nat} {f : eFr} {F : List eFr} {μ : eM} (hq : tQ μ) (K : ∀ μ2 : eM, tQ μ2 → ex_fine fg rc rs (d + 1, (f.1, f.2.1, f.2.2.1, eI 1 :: f.2.2.2), F, μ2)) : ex_fine fg rc rs (d, (215, 0, [some (eR 98), some (eI (0))], []), f :: F, μ) := by
  refine w_t (np := 1) (l2 := [some (eR 98), some (eI (0))]) (s2 := [eR 98]) rfl (s_an rfl (by decide)) rfl ?_
  refine w_t (np := 2) (l2 := [some (eR 98), some (eI (0))]) (s2 := [eI (0), eR 98]) rfl rfl rfl ?_
  refine b_pf (np := 5) (w := 0) rfl rfl hq.1 rfl ?_
  have q2 := tQ_u (c := 98) (k := 1) (w := 0) hq (by decide) (by decide)
  generalize (ev_up μ.1 98 1 (0), μ.2) = m1 at q2 ⊢
  refine w_t (np := 6) (l2 := [some (eR 98), some (eI (0))]) (s2 := [eR 98]) rfl (s_an rfl (by decide)) rfl ?_
  refine w_t (np := 7) (l2 := [some (eR 98), some (eI (0))]) (s2 := [eI (0), eR 98]) rfl rfl rfl ?_
  refine b_pf (np := 10) (w := 0) rfl rfl q2.1 rfl ?_
  have q4 := tQ_u (c := 98) (k := 0) (w := 0) q2 (by decide) (by decide)
  generalize (ev_up m1.1 98 0 (0), m1.2) = m3 at q4 ⊢
  refine w_t (np := 11) (l2 := [some (eR 98), some (eI (0))]) (s2 := [eI (0)]) rfl rfl rfl ?_
  refine b_ine (t1 := 18) (t2 := 14) rfl rfl rfl rfl (fun g5 => absurd g5 (by decide)) (fun g5 => ?_)
  refine w_t (np := 15) (l2 := [some (eR 98), some (eI (0))]) (s2 := [eI (1)]) rfl rfl rfl ?_
  refine w_go (t1 := 19) rfl rfl ?_
  refine b_rz rfl rfl (Or.inr rfl) ?_
  exact K m3 q4
theorem t215_1 {fg : eG} {rc rs d : Nat} {f : eFr} {F : List eFr} {μ : eM} (hq : tQ μ) (K : ∀ μ2 : eM, tQ μ2 → ex_fine fg rc rs (d + 1, (f.1, f.2.1, f.2.2.1, eI 0 :: f.2.2.2), F, μ2)) : ex_fine fg rc rs (d, (215, 0, [some (eR 98), some (eI (1))], []), f :: F, μ) := by
  refine w_t (np := 1) (l2 := [some (eR 98), some (eI (1))]) (s2 := [eR 98]) rfl (s_an rfl (by decide)) rfl ?_
  refine w_t (np := 2) (l2 := [some (eR 98), some (eI (1))]) (s2 := [eI (0), eR 98]) rfl rfl rfl ?_
  refine b_pf (np := 5) (w := 0) rfl rfl hq.1 rfl ?_
  have q2 := tQ_u (c := 98) (k := 1) (w := 0) hq (by decide) (by decide)
  generalize (ev_up μ.1 98 1 (0), μ.2) = m1 at q2 ⊢
  refine w_t (np := 6) (l2 := [some (eR 98), some (eI (1))]) (s2 := [eR 98]) rfl (s_an rfl (by decide)) rfl ?_
  refine w_t (np := 7) (l2 := [some (eR 98), some (eI (1))]) (s2 := [eI (1), eR 98]) rfl rfl rfl ?_
  refine b_pf (np := 10) (w := 1) rfl rfl q2.1 rfl ?_
  have q4 := tQ_u (c := 98) (k := 0) (w := 1) q2 (by decide) (by decide)
  generalize (ev_up m1.1 98 0 (1), m1.2) = m3 at q4 ⊢
  refine w_t (np := 11) (l2 := [some (eR 98), some (eI (1))]) (s2 := [eI (1)]) rfl rfl rfl ?_
  refine b_ine (t1 := 18) (t2 := 14) rfl rfl rfl rfl (fun g5 => ?_) (fun g5 => absurd g5 (by decide))
  refine w_t (np := 19) (l2 := [some (eR 98), some (eI (1))]) (s2 := [eI (0)]) rfl rfl rfl ?_
  refine b_rz rfl rfl (Or.inl rfl) ?_
  exact K m3 q4
theorem t214 {fg : eG} {rc rs d : Nat} {f : eFr} {F : List eFr} {μ : eM} (hq : tQ μ) (K : ∀ μ2 : eM, tQ μ2 → ex_fine fg rc rs (d + 1, (f.1, f.2.1, f.2.2.1, eI (-1) :: f.2.2.2), F, μ2)) : ex_fine fg rc rs (d, (214, 0, [some (eR 98), some (eI (5))], []), f :: F, μ) := by
  refine w_t (np := 1) (l2 := [some (eR 98), some (eI (5))]) (s2 := [eR 98]) rfl (s_an rfl (by decide)) rfl ?_
  refine w_t (np := 2) (l2 := [some (eR 98), some (eI (5))]) (s2 := [eI (5), eR 98]) rfl rfl rfl ?_
  refine b_pf (np := 5) (w := 5) rfl rfl hq.1 rfl ?_
  have q2 := tQ_u (c := 98) (k := 0) (w := 5) hq (by decide) (by decide)
  generalize (ev_up μ.1 98 0 (5), μ.2) = m1 at q2 ⊢
  refine w_t (np := 6) (l2 := [some (eR 98), some (eI (5))]) (s2 := [eI (-1)]) rfl rfl rfl ?_
  exact b_ri rfl rfl (K m1 q2)
theorem t268 {fg : eG} {rc rs d : Nat} {f : eFr} {F : List eFr} {μ : eM} {p q r s : Int} (hq0 : tQ μ) (hp0 : -2147483648 ≤ p ∧ p ≤ 2147483647) (hq00 : -2147483648 ≤ q ∧ q ≤ 2147483647) (hr0 : -2147483648 ≤ r ∧ r ≤ 2147483647) (hs0 : -2147483648 ≤ s ∧ s ≤ 2147483647) (K : ∀ (μ2 : eM) (v : Int), tQ μ2 → ((((-9999 ≤ p ∧ p ≤ 9999) ∧ (-9999 ≤ q ∧ q ≤ 9999) ∧ (-9999 ≤ r ∧ r ≤ 9999) ∧ (-9999 ≤ s ∧ s ≤ 9999)) ∧ v = hA p q r s) ∨ (¬ ((-9999 ≤ p ∧ p ≤ 9999) ∧ (-9999 ≤ q ∧ q ≤ 9999) ∧ (-9999 ≤ r ∧ r ≤ 9999) ∧ (-9999 ≤ s ∧ s ≤ 9999)) ∧ v = -1)) → ex_fine fg rc rs (d + 7, (f.1, f.2.1, f.2.2.1, eI v :: f.2.2.2), F, μ2)) : ex_fine fg rc rs (d + 6, (268, 0, [some (eR 98), some (eI (p)), some (eI (q)), some (eI (r)), some (eI (s)), none], []), f :: F, μ) := by
  refine w_t (np := 1) (l2 := [some (eR 98), some (eI (p)), some (eI (q)), some (eI (r)), some (eI (s)), none]) (s2 := [eR 98]) rfl (s_an rfl (by decide)) rfl ?_
  refine w_t (np := 2) (l2 := [some (eR 98), some (eI (p)), some (eI (q)), some (eI (r)), some (eI (s)), none]) (s2 := [eI (p), eR 98]) rfl rfl rfl ?_
  refine w_t (np := 3) (l2 := [some (eR 98), some (eI (p)), some (eI (q)), some (eI (r)), some (eI (s)), none]) (s2 := [eI (q), eI (p), eR 98]) rfl rfl rfl ?_
  refine w_t (np := 4) (l2 := [some (eR 98), some (eI (p)), some (eI (q)), some (eI (r)), some (eI (s)), none]) (s2 := [eI (r), eI (q), eI (p), eR 98]) rfl rfl rfl ?_
  refine w_t (np := 6) (l2 := [some (eR 98), some (eI (p)), some (eI (q)), some (eI (r)), some (eI (s)), none]) (s2 := [eI (s), eI (r), eI (q), eI (p), eR 98]) rfl rfl rfl ?_
  refine w_t (np := 9) (l2 := [some (eR 98), some (eI (p)), some (eI (q)), some (eI (r)), some (eI (s)), none]) (s2 := [eI (9999), eI (s), eI (r), eI (q), eI (p), eR 98]) rfl rfl rfl ?_
  refine w_cu (np := 12) (as := [eI (p), eI (q), eI (r), eI (s), eI (9999)]) (l2 := [some (eI (p)), some (eI (q)), some (eI (r)), some (eI (s)), some (eI (9999))]) (rest := [eR 98]) rfl rfl rfl (Nat.ble_eq.mp rfl) rfl rfl rfl rfl ?_
  refine t267 hp0 hq00 hr0 hs0 (fun g1 => ?_) (fun g1 => ?_)
  · show ex_fine fg rc rs (d + 6, (268, 12, [some (eR 98), some (eI (p)), some (eI (q)), some (eI (r)), some (eI (s)), none], [eI (1), eR 98]), f :: F, μ)
    refine b_ieq (t1 := 19) (t2 := 15) rfl rfl rfl rfl (fun g2 => absurd g2 (by decide)) (fun g2 => ?_)
    refine w_t (np := 16) (l2 := [some (eR 98), some (eI (p)), some (eI (q)), some (eI (r)), some (eI (s)), none]) (s2 := [eI (0), eR 98]) rfl rfl rfl ?_
    refine w_go (t1 := 20) rfl rfl ?_
    refine w_cw (np := 23) (as := [eI (0)]) (l2 := [some (eR 98), some (eI (0))]) (rest := []) rfl rfl rfl (Nat.ble_eq.mp rfl) rfl rfl rfl hq0.1 rfl ?_
    refine t215_0 hq0 ?_
    intro m3 q4
    show ex_fine fg rc rs (d + 6, (268, 23, [some (eR 98), some (eI (p)), some (eI (q)), some (eI (r)), some (eI (s)), none], [eI (1)]), f :: F, m3)
    obtain ⟨hp, hq, hr, hs⟩ := g1
    refine b_ine (t1 := 28) (t2 := 26) rfl rfl rfl rfl (fun g5 => ?_) (fun g5 => absurd g5 (by decide))
    refine w_t (np := 29) (l2 := [some (eR 98), some (eI (p)), some (eI (q)), some (eI (r)), some (eI (s)), none]) (s2 := [eI (0)]) rfl rfl rfl ?_
    refine w_t (np := 31) (l2 := [some (eR 98), some (eI (p)), some (eI (q)), some (eI (r)), some (eI (s)), some (eI (0))]) (s2 := []) rfl rfl rfl ?_
    refine w_t (np := 33) (l2 := [some (eR 98), some (eI (p)), some (eI (q)), some (eI (r)), some (eI (s)), some (eI (0))]) (s2 := [eI (0)]) rfl rfl rfl ?_
    refine w_t (np := 34) (l2 := [some (eR 98), some (eI (p)), some (eI (q)), some (eI (r)), some (eI (s)), some (eI (0))]) (s2 := [eR 98, eI (0)]) rfl (s_an rfl (by decide)) rfl ?_
    refine w_gf (np := 37) (v := eI (10)) rfl rfl q4.1 (by rw [q4.2.2.1]; rfl) ?_
    refine b_cge (t1 := 63) (t2 := 40) rfl rfl rfl rfl rfl (fun g6 => absurd g6 (by decide)) (fun g6 => ?_)
    refine w_t (np := 41) (l2 := [some (eR 98), some (eI (p)), some (eI (q)), some (eI (r)), some (eI (s)), some (eI (0))]) (s2 := [eR 98]) rfl (s_an rfl (by decide)) rfl ?_
    refine w_t (np := 43) (l2 := [some (eR 98), some (eI (p)), some (eI (q)), some (eI (r)), some (eI (s)), some (eI (0))]) (s2 := [eI (0), eR 98]) rfl rfl rfl ?_
    refine w_t (np := 44) (l2 := [some (eR 98), some (eI (p)), some (eI (q)), some (eI (r)), some (eI (s)), some (eI (0))]) (s2 := [eI (p), eI (0), eR 98]) rfl rfl rfl ?_
    refine w_t (np := 45) (l2 := [some (eR 98), some (eI (p)), some (eI (q)), some (eI (r)), some (eI (s)), some (eI (0))]) (s2 := [eI (q), eI (p), eI (0), eR 98]) rfl rfl rfl ?_
    refine w_t (np := 46) (l2 := [some (eR 98), some (eI (p)), some (eI (q)), some (eI (r)), some (eI (s)), some (eI (0))]) (s2 := [eI (r), eI (q), eI (p), eI (0), eR 98]) rfl rfl rfl ?_
    refine w_t (np := 48) (l2 := [some (eR 98), some (eI (p)), some (eI (q)), some (eI (r)), some (eI (s)), some (eI (0))]) (s2 := [eI (s), eI (r), eI (q), eI (p), eI (0), eR 98]) rfl rfl rfl ?_
    refine w_cw (np := 51) (as := [eI (0), eI (p), eI (q), eI (r), eI (s)]) (l2 := [some (eR 98), some (eI (0)), some (eI (p)), some (eI (q)), some (eI (r)), some (eI (s)), none, none, none]) (rest := []) rfl rfl rfl (Nat.ble_eq.mp rfl) rfl rfl rfl q4.1 rfl ?_
    refine t266_0 q4 hp hq hr hs (fun m7 t8 c9 => ?_) (fun m7 t8 c9 => ?_)
    · show ex_fine fg rc rs (d + 6, (268, 51, [some (eR 98), some (eI (p)), some (eI (q)), some (eI (r)), some (eI (s)), some (eI (0))], [eI (1)]), f :: F, m7)
      have q10 := tQ_s q4 t8
      have e11 : cB_0 p q r s = true := cB_0_eq.mpr c9
      refine b_ieq (t1 := 57) (t2 := 54) rfl rfl rfl rfl (fun g12 => absurd g12 (by decide)) (fun g12 => ?_)
      refine w_t (np := 56) (l2 := [some (eR 98), some (eI (p)), some (eI (q)), some (eI (r)), some (eI (s)), some (eI (0))]) (s2 := [eI (0)]) rfl rfl rfl ?_
      refine b_ri rfl rfl (K m7 (0) q10 (Or.inl ⟨⟨hp, hq, hr, hs⟩, ?_⟩))
      unfold hA
      rw [e11]
      all_goals rfl
    show ex_fine fg rc rs (d + 6, (268, 51, [some (eR 98), some (eI (p)), some (eI (q)), some (eI (r)), some (eI (s)), some (eI (0))], [eI (0)]), f :: F, m7)
    have q10 := tQ_s q4 t8
    have e11 : cB_0 p q r s = false := Bool.eq_false_iff.mpr (fun h => c9 (cB_0_eq.mp h))
    refine b_ieq (t1 := 57) (t2 := 54) rfl rfl rfl rfl (fun g12 => ?_) (fun g12 => absurd g12 (by decide))
    refine w_t (np := 60) (l2 := [some (eR 98), some (eI (p)), some (eI (q)), some (eI (r)), some (eI (s)), some (eI (1))]) (s2 := []) rfl (b_iinc rfl rfl rfl) rfl ?_
    refine w_go (t1 := 31) rfl rfl ?_
    refine w_t (np := 33) (l2 := [some (eR 98), some (eI (p)), some (eI (q)), some (eI (r)), some (eI (s)), some (eI (1))]) (s2 := [eI (1)]) rfl rfl rfl ?_
    refine w_t (np := 34) (l2 := [some (eR 98), some (eI (p)), some (eI (q)), some (eI (r)), some (eI (s)), some (eI (1))]) (s2 := [eR 98, eI (1)]) rfl (s_an rfl (by decide)) rfl ?_
    refine w_gf (np := 37) (v := eI (10)) rfl rfl q10.1 (by rw [q10.2.2.1]; rfl) ?_
    refine b_cge (t1 := 63) (t2 := 40) rfl rfl rfl rfl rfl (fun g13 => absurd g13 (by decide)) (fun g13 => ?_)
    refine w_t (np := 41) (l2 := [some (eR 98), some (eI (p)), some (eI (q)), some (eI (r)), some (eI (s)), some (eI (1))]) (s2 := [eR 98]) rfl (s_an rfl (by decide)) rfl ?_
    refine w_t (np := 43) (l2 := [some (eR 98), some (eI (p)), some (eI (q)), some (eI (r)), some (eI (s)), some (eI (1))]) (s2 := [eI (1), eR 98]) rfl rfl rfl ?_
    refine w_t (np := 44) (l2 := [some (eR 98), some (eI (p)), some (eI (q)), some (eI (r)), some (eI (s)), some (eI (1))]) (s2 := [eI (p), eI (1), eR 98]) rfl rfl rfl ?_
    refine w_t (np := 45) (l2 := [some (eR 98), some (eI (p)), some (eI (q)), some (eI (r)), some (eI (s)), some (eI (1))]) (s2 := [eI (q), eI (p), eI (1), eR 98]) rfl rfl rfl ?_
    refine w_t (np := 46) (l2 := [some (eR 98), some (eI (p)), some (eI (q)), some (eI (r)), some (eI (s)), some (eI (1))]) (s2 := [eI (r), eI (q), eI (p), eI (1), eR 98]) rfl rfl rfl ?_
    refine w_t (np := 48) (l2 := [some (eR 98), some (eI (p)), some (eI (q)), some (eI (r)), some (eI (s)), some (eI (1))]) (s2 := [eI (s), eI (r), eI (q), eI (p), eI (1), eR 98]) rfl rfl rfl ?_
    refine w_cw (np := 51) (as := [eI (1), eI (p), eI (q), eI (r), eI (s)]) (l2 := [some (eR 98), some (eI (1)), some (eI (p)), some (eI (q)), some (eI (r)), some (eI (s)), none, none, none]) (rest := []) rfl rfl rfl (Nat.ble_eq.mp rfl) rfl rfl rfl q10.1 rfl ?_
    refine t266_1 q10 hp hq hr hs (fun m14 t15 c16 => ?_) (fun m14 t15 c16 => ?_)
    · show ex_fine fg rc rs (d + 6, (268, 51, [some (eR 98), some (eI (p)), some (eI (q)), some (eI (r)), some (eI (s)), some (eI (1))], [eI (1)]), f :: F, m14)
      have q17 := tQ_s q10 t15
      have e18 : cB_1 p q r s = true := cB_1_eq.mpr c16
      refine b_ieq (t1 := 57) (t2 := 54) rfl rfl rfl rfl (fun g19 => absurd g19 (by decide)) (fun g19 => ?_)
      refine w_t (np := 56) (l2 := [some (eR 98), some (eI (p)), some (eI (q)), some (eI (r)), some (eI (s)), some (eI (1))]) (s2 := [eI (1)]) rfl rfl rfl ?_
      refine b_ri rfl rfl (K m14 (1) q17 (Or.inl ⟨⟨hp, hq, hr, hs⟩, ?_⟩))
      unfold hA
      rw [e11, e18]
      all_goals rfl
    show ex_fine fg rc rs (d + 6, (268, 51, [some (eR 98), some (eI (p)), some (eI (q)), some (eI (r)), some (eI (s)), some (eI (1))], [eI (0)]), f :: F, m14)
    have q17 := tQ_s q10 t15
    have e18 : cB_1 p q r s = false := Bool.eq_false_iff.mpr (fun h => c16 (cB_1_eq.mp h))
    refine b_ieq (t1 := 57) (t2 := 54) rfl rfl rfl rfl (fun g19 => ?_) (fun g19 => absurd g19 (by decide))
    refine w_t (np := 60) (l2 := [some (eR 98), some (eI (p)), some (eI (q)), some (eI (r)), some (eI (s)), some (eI (2))]) (s2 := []) rfl (b_iinc rfl rfl rfl) rfl ?_
    refine w_go (t1 := 31) rfl rfl ?_
    refine w_t (np := 33) (l2 := [some (eR 98), some (eI (p)), some (eI (q)), some (eI (r)), some (eI (s)), some (eI (2))]) (s2 := [eI (2)]) rfl rfl rfl ?_
    refine w_t (np := 34) (l2 := [some (eR 98), some (eI (p)), some (eI (q)), some (eI (r)), some (eI (s)), some (eI (2))]) (s2 := [eR 98, eI (2)]) rfl (s_an rfl (by decide)) rfl ?_
    refine w_gf (np := 37) (v := eI (10)) rfl rfl q17.1 (by rw [q17.2.2.1]; rfl) ?_
    refine b_cge (t1 := 63) (t2 := 40) rfl rfl rfl rfl rfl (fun g20 => absurd g20 (by decide)) (fun g20 => ?_)
    refine w_t (np := 41) (l2 := [some (eR 98), some (eI (p)), some (eI (q)), some (eI (r)), some (eI (s)), some (eI (2))]) (s2 := [eR 98]) rfl (s_an rfl (by decide)) rfl ?_
    refine w_t (np := 43) (l2 := [some (eR 98), some (eI (p)), some (eI (q)), some (eI (r)), some (eI (s)), some (eI (2))]) (s2 := [eI (2), eR 98]) rfl rfl rfl ?_
    refine w_t (np := 44) (l2 := [some (eR 98), some (eI (p)), some (eI (q)), some (eI (r)), some (eI (s)), some (eI (2))]) (s2 := [eI (p), eI (2), eR 98]) rfl rfl rfl ?_
    refine w_t (np := 45) (l2 := [some (eR 98), some (eI (p)), some (eI (q)), some (eI (r)), some (eI (s)), some (eI (2))]) (s2 := [eI (q), eI (p), eI (2), eR 98]) rfl rfl rfl ?_
    refine w_t (np := 46) (l2 := [some (eR 98), some (eI (p)), some (eI (q)), some (eI (r)), some (eI (s)), some (eI (2))]) (s2 := [eI (r), eI (q), eI (p), eI (2), eR 98]) rfl rfl rfl ?_
    refine w_t (np := 48) (l2 := [some (eR 98), some (eI (p)), some (eI (q)), some (eI (r)), some (eI (s)), some (eI (2))]) (s2 := [eI (s), eI (r), eI (q), eI (p), eI (2), eR 98]) rfl rfl rfl ?_
    refine w_cw (np := 51) (as := [eI (2), eI (p), eI (q), eI (r), eI (s)]) (l2 := [some (eR 98), some (eI (2)), some (eI (p)), some (eI (q)), some (eI (r)), some (eI (s)), none, none, none]) (rest := []) rfl rfl rfl (Nat.ble_eq.mp rfl) rfl rfl rfl q17.1 rfl ?_
    refine t266_2 q17 hp hq hr hs (fun m21 t22 c23 => ?_) (fun m21 t22 c23 => ?_)
    · show ex_fine fg rc rs (d + 6, (268, 51, [some (eR 98), some (eI (p)), some (eI (q)), some (eI (r)), some (eI (s)), some (eI (2))], [eI (1)]), f :: F, m21)
      have q24 := tQ_s q17 t22
      have e25 : cB_2 p q r s = true := cB_2_eq.mpr c23
      refine b_ieq (t1 := 57) (t2 := 54) rfl rfl rfl rfl (fun g26 => absurd g26 (by decide)) (fun g26 => ?_)
      refine w_t (np := 56) (l2 := [some (eR 98), some (eI (p)), some (eI (q)), some (eI (r)), some (eI (s)), some (eI (2))]) (s2 := [eI (2)]) rfl rfl rfl ?_
      refine b_ri rfl rfl (K m21 (2) q24 (Or.inl ⟨⟨hp, hq, hr, hs⟩, ?_⟩))
      unfold hA
      rw [e11, e18, e25]
      all_goals rfl
    show ex_fine fg rc rs (d + 6, (268, 51, [some (eR 98), some (eI (p)), some (eI (q)), some (eI (r)), some (eI (s)), some (eI (2))], [eI (0)]), f :: F, m21)
    have q24 := tQ_s q17 t22
    have e25 : cB_2 p q r s = false := Bool.eq_false_iff.mpr (fun h => c23 (cB_2_eq.mp h))
    refine b_ieq (t1 := 57) (t2 := 54) rfl rfl rfl rfl (fun g26 => ?_) (fun g26 => absurd g26 (by decide))
    refine w_t (np := 60) (l2 := [some (eR 98), some (eI (p)), some (eI (q)), some (eI (r)), some (eI (s)), some (eI (3))]) (s2 := []) rfl (b_iinc rfl rfl rfl) rfl ?_
    refine w_go (t1 := 31) rfl rfl ?_
    refine w_t (np := 33) (l2 := [some (eR 98), some (eI (p)), some (eI (q)), some (eI (r)), some (eI (s)), some (eI (3))]) (s2 := [eI (3)]) rfl rfl rfl ?_
    refine w_t (np := 34) (l2 := [some (eR 98), some (eI (p)), some (eI (q)), some (eI (r)), some (eI (s)), some (eI (3))]) (s2 := [eR 98, eI (3)]) rfl (s_an rfl (by decide)) rfl ?_
    refine w_gf (np := 37) (v := eI (10)) rfl rfl q24.1 (by rw [q24.2.2.1]; rfl) ?_
    refine b_cge (t1 := 63) (t2 := 40) rfl rfl rfl rfl rfl (fun g27 => absurd g27 (by decide)) (fun g27 => ?_)
    refine w_t (np := 41) (l2 := [some (eR 98), some (eI (p)), some (eI (q)), some (eI (r)), some (eI (s)), some (eI (3))]) (s2 := [eR 98]) rfl (s_an rfl (by decide)) rfl ?_
    refine w_t (np := 43) (l2 := [some (eR 98), some (eI (p)), some (eI (q)), some (eI (r)), some (eI (s)), some (eI (3))]) (s2 := [eI (3), eR 98]) rfl rfl rfl ?_
    refine w_t (np := 44) (l2 := [some (eR 98), some (eI (p)), some (eI (q)), some (eI (r)), some (eI (s)), some (eI (3))]) (s2 := [eI (p), eI (3), eR 98]) rfl rfl rfl ?_
    refine w_t (np := 45) (l2 := [some (eR 98), some (eI (p)), some (eI (q)), some (eI (r)), some (eI (s)), some (eI (3))]) (s2 := [eI (q), eI (p), eI (3), eR 98]) rfl rfl rfl ?_
    refine w_t (np := 46) (l2 := [some (eR 98), some (eI (p)), some (eI (q)), some (eI (r)), some (eI (s)), some (eI (3))]) (s2 := [eI (r), eI (q), eI (p), eI (3), eR 98]) rfl rfl rfl ?_
    refine w_t (np := 48) (l2 := [some (eR 98), some (eI (p)), some (eI (q)), some (eI (r)), some (eI (s)), some (eI (3))]) (s2 := [eI (s), eI (r), eI (q), eI (p), eI (3), eR 98]) rfl rfl rfl ?_
    refine w_cw (np := 51) (as := [eI (3), eI (p), eI (q), eI (r), eI (s)]) (l2 := [some (eR 98), some (eI (3)), some (eI (p)), some (eI (q)), some (eI (r)), some (eI (s)), none, none, none]) (rest := []) rfl rfl rfl (Nat.ble_eq.mp rfl) rfl rfl rfl q24.1 rfl ?_
    refine t266_3 q24 hp hq hr hs (fun m28 t29 c30 => ?_) (fun m28 t29 c30 => ?_)
    · show ex_fine fg rc rs (d + 6, (268, 51, [some (eR 98), some (eI (p)), some (eI (q)), some (eI (r)), some (eI (s)), some (eI (3))], [eI (1)]), f :: F, m28)
      have q31 := tQ_s q24 t29
      have e32 : cB_3 p q r s = true := cB_3_eq.mpr c30
      refine b_ieq (t1 := 57) (t2 := 54) rfl rfl rfl rfl (fun g33 => absurd g33 (by decide)) (fun g33 => ?_)
      refine w_t (np := 56) (l2 := [some (eR 98), some (eI (p)), some (eI (q)), some (eI (r)), some (eI (s)), some (eI (3))]) (s2 := [eI (3)]) rfl rfl rfl ?_
      refine b_ri rfl rfl (K m28 (3) q31 (Or.inl ⟨⟨hp, hq, hr, hs⟩, ?_⟩))
      unfold hA
      rw [e11, e18, e25, e32]
      all_goals rfl
    show ex_fine fg rc rs (d + 6, (268, 51, [some (eR 98), some (eI (p)), some (eI (q)), some (eI (r)), some (eI (s)), some (eI (3))], [eI (0)]), f :: F, m28)
    have q31 := tQ_s q24 t29
    have e32 : cB_3 p q r s = false := Bool.eq_false_iff.mpr (fun h => c30 (cB_3_eq.mp h))
    refine b_ieq (t1 := 57) (t2 := 54) rfl rfl rfl rfl (fun g33 => ?_) (fun g33 => absurd g33 (by decide))
    refine w_t (np := 60) (l2 := [some (eR 98), some (eI (p)), some (eI (q)), some (eI (r)), some (eI (s)), some (eI (4))]) (s2 := []) rfl (b_iinc rfl rfl rfl) rfl ?_
    refine w_go (t1 := 31) rfl rfl ?_
    refine w_t (np := 33) (l2 := [some (eR 98), some (eI (p)), some (eI (q)), some (eI (r)), some (eI (s)), some (eI (4))]) (s2 := [eI (4)]) rfl rfl rfl ?_
    refine w_t (np := 34) (l2 := [some (eR 98), some (eI (p)), some (eI (q)), some (eI (r)), some (eI (s)), some (eI (4))]) (s2 := [eR 98, eI (4)]) rfl (s_an rfl (by decide)) rfl ?_
    refine w_gf (np := 37) (v := eI (10)) rfl rfl q31.1 (by rw [q31.2.2.1]; rfl) ?_
    refine b_cge (t1 := 63) (t2 := 40) rfl rfl rfl rfl rfl (fun g34 => absurd g34 (by decide)) (fun g34 => ?_)
    refine w_t (np := 41) (l2 := [some (eR 98), some (eI (p)), some (eI (q)), some (eI (r)), some (eI (s)), some (eI (4))]) (s2 := [eR 98]) rfl (s_an rfl (by decide)) rfl ?_
    refine w_t (np := 43) (l2 := [some (eR 98), some (eI (p)), some (eI (q)), some (eI (r)), some (eI (s)), some (eI (4))]) (s2 := [eI (4), eR 98]) rfl rfl rfl ?_
    refine w_t (np := 44) (l2 := [some (eR 98), some (eI (p)), some (eI (q)), some (eI (r)), some (eI (s)), some (eI (4))]) (s2 := [eI (p), eI (4), eR 98]) rfl rfl rfl ?_
    refine w_t (np := 45) (l2 := [some (eR 98), some (eI (p)), some (eI (q)), some (eI (r)), some (eI (s)), some (eI (4))]) (s2 := [eI (q), eI (p), eI (4), eR 98]) rfl rfl rfl ?_
    refine w_t (np := 46) (l2 := [some (eR 98), some (eI (p)), some (eI (q)), some (eI (r)), some (eI (s)), some (eI (4))]) (s2 := [eI (r), eI (q), eI (p), eI (4), eR 98]) rfl rfl rfl ?_
    refine w_t (np := 48) (l2 := [some (eR 98), some (eI (p)), some (eI (q)), some (eI (r)), some (eI (s)), some (eI (4))]) (s2 := [eI (s), eI (r), eI (q), eI (p), eI (4), eR 98]) rfl rfl rfl ?_
    refine w_cw (np := 51) (as := [eI (4), eI (p), eI (q), eI (r), eI (s)]) (l2 := [some (eR 98), some (eI (4)), some (eI (p)), some (eI (q)), some (eI (r)), some (eI (s)), none, none, none]) (rest := []) rfl rfl rfl (Nat.ble_eq.mp rfl) rfl rfl rfl q31.1 rfl ?_
    refine t266_4 q31 hp hq hr hs (fun m35 t36 c37 => ?_) (fun m35 t36 c37 => ?_)
    · show ex_fine fg rc rs (d + 6, (268, 51, [some (eR 98), some (eI (p)), some (eI (q)), some (eI (r)), some (eI (s)), some (eI (4))], [eI (1)]), f :: F, m35)
      have q38 := tQ_s q31 t36
      have e39 : cB_4 p q r s = true := cB_4_eq.mpr c37
      refine b_ieq (t1 := 57) (t2 := 54) rfl rfl rfl rfl (fun g40 => absurd g40 (by decide)) (fun g40 => ?_)
      refine w_t (np := 56) (l2 := [some (eR 98), some (eI (p)), some (eI (q)), some (eI (r)), some (eI (s)), some (eI (4))]) (s2 := [eI (4)]) rfl rfl rfl ?_
      refine b_ri rfl rfl (K m35 (4) q38 (Or.inl ⟨⟨hp, hq, hr, hs⟩, ?_⟩))
      unfold hA
      rw [e11, e18, e25, e32, e39]
      all_goals rfl
    show ex_fine fg rc rs (d + 6, (268, 51, [some (eR 98), some (eI (p)), some (eI (q)), some (eI (r)), some (eI (s)), some (eI (4))], [eI (0)]), f :: F, m35)
    have q38 := tQ_s q31 t36
    have e39 : cB_4 p q r s = false := Bool.eq_false_iff.mpr (fun h => c37 (cB_4_eq.mp h))
    refine b_ieq (t1 := 57) (t2 := 54) rfl rfl rfl rfl (fun g40 => ?_) (fun g40 => absurd g40 (by decide))
    refine w_t (np := 60) (l2 := [some (eR 98), some (eI (p)), some (eI (q)), some (eI (r)), some (eI (s)), some (eI (5))]) (s2 := []) rfl (b_iinc rfl rfl rfl) rfl ?_
    refine w_go (t1 := 31) rfl rfl ?_
    refine w_t (np := 33) (l2 := [some (eR 98), some (eI (p)), some (eI (q)), some (eI (r)), some (eI (s)), some (eI (5))]) (s2 := [eI (5)]) rfl rfl rfl ?_
    refine w_t (np := 34) (l2 := [some (eR 98), some (eI (p)), some (eI (q)), some (eI (r)), some (eI (s)), some (eI (5))]) (s2 := [eR 98, eI (5)]) rfl (s_an rfl (by decide)) rfl ?_
    refine w_gf (np := 37) (v := eI (10)) rfl rfl q38.1 (by rw [q38.2.2.1]; rfl) ?_
    refine b_cge (t1 := 63) (t2 := 40) rfl rfl rfl rfl rfl (fun g41 => absurd g41 (by decide)) (fun g41 => ?_)
    refine w_t (np := 41) (l2 := [some (eR 98), some (eI (p)), some (eI (q)), some (eI (r)), some (eI (s)), some (eI (5))]) (s2 := [eR 98]) rfl (s_an rfl (by decide)) rfl ?_
    refine w_t (np := 43) (l2 := [some (eR 98), some (eI (p)), some (eI (q)), some (eI (r)), some (eI (s)), some (eI (5))]) (s2 := [eI (5), eR 98]) rfl rfl rfl ?_
    refine w_t (np := 44) (l2 := [some (eR 98), some (eI (p)), some (eI (q)), some (eI (r)), some (eI (s)), some (eI (5))]) (s2 := [eI (p), eI (5), eR 98]) rfl rfl rfl ?_
    refine w_t (np := 45) (l2 := [some (eR 98), some (eI (p)), some (eI (q)), some (eI (r)), some (eI (s)), some (eI (5))]) (s2 := [eI (q), eI (p), eI (5), eR 98]) rfl rfl rfl ?_
    refine w_t (np := 46) (l2 := [some (eR 98), some (eI (p)), some (eI (q)), some (eI (r)), some (eI (s)), some (eI (5))]) (s2 := [eI (r), eI (q), eI (p), eI (5), eR 98]) rfl rfl rfl ?_
    refine w_t (np := 48) (l2 := [some (eR 98), some (eI (p)), some (eI (q)), some (eI (r)), some (eI (s)), some (eI (5))]) (s2 := [eI (s), eI (r), eI (q), eI (p), eI (5), eR 98]) rfl rfl rfl ?_
    refine w_cw (np := 51) (as := [eI (5), eI (p), eI (q), eI (r), eI (s)]) (l2 := [some (eR 98), some (eI (5)), some (eI (p)), some (eI (q)), some (eI (r)), some (eI (s)), none, none, none]) (rest := []) rfl rfl rfl (Nat.ble_eq.mp rfl) rfl rfl rfl q38.1 rfl ?_
    refine t266_5 q38 hp hq hr hs (fun m42 t43 c44 => ?_) (fun m42 t43 c44 => ?_)
    · show ex_fine fg rc rs (d + 6, (268, 51, [some (eR 98), some (eI (p)), some (eI (q)), some (eI (r)), some (eI (s)), some (eI (5))], [eI (1)]), f :: F, m42)
      have q45 := tQ_s q38 t43
      have e46 : cB_5 p q r s = true := cB_5_eq.mpr c44
      refine b_ieq (t1 := 57) (t2 := 54) rfl rfl rfl rfl (fun g47 => absurd g47 (by decide)) (fun g47 => ?_)
      refine w_t (np := 56) (l2 := [some (eR 98), some (eI (p)), some (eI (q)), some (eI (r)), some (eI (s)), some (eI (5))]) (s2 := [eI (5)]) rfl rfl rfl ?_
      refine b_ri rfl rfl (K m42 (5) q45 (Or.inl ⟨⟨hp, hq, hr, hs⟩, ?_⟩))
      unfold hA
      rw [e11, e18, e25, e32, e39, e46]
      all_goals rfl
    show ex_fine fg rc rs (d + 6, (268, 51, [some (eR 98), some (eI (p)), some (eI (q)), some (eI (r)), some (eI (s)), some (eI (5))], [eI (0)]), f :: F, m42)
    have q45 := tQ_s q38 t43
    have e46 : cB_5 p q r s = false := Bool.eq_false_iff.mpr (fun h => c44 (cB_5_eq.mp h))
    refine b_ieq (t1 := 57) (t2 := 54) rfl rfl rfl rfl (fun g47 => ?_) (fun g47 => absurd g47 (by decide))
    refine w_t (np := 60) (l2 := [some (eR 98), some (eI (p)), some (eI (q)), some (eI (r)), some (eI (s)), some (eI (6))]) (s2 := []) rfl (b_iinc rfl rfl rfl) rfl ?_
    refine w_go (t1 := 31) rfl rfl ?_
    refine w_t (np := 33) (l2 := [some (eR 98), some (eI (p)), some (eI (q)), some (eI (r)), some (eI (s)), some (eI (6))]) (s2 := [eI (6)]) rfl rfl rfl ?_
    refine w_t (np := 34) (l2 := [some (eR 98), some (eI (p)), some (eI (q)), some (eI (r)), some (eI (s)), some (eI (6))]) (s2 := [eR 98, eI (6)]) rfl (s_an rfl (by decide)) rfl ?_
    refine w_gf (np := 37) (v := eI (10)) rfl rfl q45.1 (by rw [q45.2.2.1]; rfl) ?_
    refine b_cge (t1 := 63) (t2 := 40) rfl rfl rfl rfl rfl (fun g48 => absurd g48 (by decide)) (fun g48 => ?_)
    refine w_t (np := 41) (l2 := [some (eR 98), some (eI (p)), some (eI (q)), some (eI (r)), some (eI (s)), some (eI (6))]) (s2 := [eR 98]) rfl (s_an rfl (by decide)) rfl ?_
    refine w_t (np := 43) (l2 := [some (eR 98), some (eI (p)), some (eI (q)), some (eI (r)), some (eI (s)), some (eI (6))]) (s2 := [eI (6), eR 98]) rfl rfl rfl ?_
    refine w_t (np := 44) (l2 := [some (eR 98), some (eI (p)), some (eI (q)), some (eI (r)), some (eI (s)), some (eI (6))]) (s2 := [eI (p), eI (6), eR 98]) rfl rfl rfl ?_
    refine w_t (np := 45) (l2 := [some (eR 98), some (eI (p)), some (eI (q)), some (eI (r)), some (eI (s)), some (eI (6))]) (s2 := [eI (q), eI (p), eI (6), eR 98]) rfl rfl rfl ?_
    refine w_t (np := 46) (l2 := [some (eR 98), some (eI (p)), some (eI (q)), some (eI (r)), some (eI (s)), some (eI (6))]) (s2 := [eI (r), eI (q), eI (p), eI (6), eR 98]) rfl rfl rfl ?_
    refine w_t (np := 48) (l2 := [some (eR 98), some (eI (p)), some (eI (q)), some (eI (r)), some (eI (s)), some (eI (6))]) (s2 := [eI (s), eI (r), eI (q), eI (p), eI (6), eR 98]) rfl rfl rfl ?_
    refine w_cw (np := 51) (as := [eI (6), eI (p), eI (q), eI (r), eI (s)]) (l2 := [some (eR 98), some (eI (6)), some (eI (p)), some (eI (q)), some (eI (r)), some (eI (s)), none, none, none]) (rest := []) rfl rfl rfl (Nat.ble_eq.mp rfl) rfl rfl rfl q45.1 rfl ?_
    refine t266_6 q45 hp hq hr hs (fun m49 t50 c51 => ?_) (fun m49 t50 c51 => ?_)
    · show ex_fine fg rc rs (d + 6, (268, 51, [some (eR 98), some (eI (p)), some (eI (q)), some (eI (r)), some (eI (s)), some (eI (6))], [eI (1)]), f :: F, m49)
      have q52 := tQ_s q45 t50
      have e53 : cB_6 p q r s = true := cB_6_eq.mpr c51
      refine b_ieq (t1 := 57) (t2 := 54) rfl rfl rfl rfl (fun g54 => absurd g54 (by decide)) (fun g54 => ?_)
      refine w_t (np := 56) (l2 := [some (eR 98), some (eI (p)), some (eI (q)), some (eI (r)), some (eI (s)), some (eI (6))]) (s2 := [eI (6)]) rfl rfl rfl ?_
      refine b_ri rfl rfl (K m49 (6) q52 (Or.inl ⟨⟨hp, hq, hr, hs⟩, ?_⟩))
      unfold hA
      rw [e11, e18, e25, e32, e39, e46, e53]
      all_goals rfl
    show ex_fine fg rc rs (d + 6, (268, 51, [some (eR 98), some (eI (p)), some (eI (q)), some (eI (r)), some (eI (s)), some (eI (6))], [eI (0)]), f :: F, m49)
    have q52 := tQ_s q45 t50
    have e53 : cB_6 p q r s = false := Bool.eq_false_iff.mpr (fun h => c51 (cB_6_eq.mp h))
    refine b_ieq (t1 := 57) (t2 := 54) rfl rfl rfl rfl (fun g54 => ?_) (fun g54 => absurd g54 (by decide))
    refine w_t (np := 60) (l2 := [some (eR 98), some (eI (p)), some (eI (q)), some (eI (r)), some (eI (s)), some (eI (7))]) (s2 := []) rfl (b_iinc rfl rfl rfl) rfl ?_
    refine w_go (t1 := 31) rfl rfl ?_
    refine w_t (np := 33) (l2 := [some (eR 98), some (eI (p)), some (eI (q)), some (eI (r)), some (eI (s)), some (eI (7))]) (s2 := [eI (7)]) rfl rfl rfl ?_
    refine w_t (np := 34) (l2 := [some (eR 98), some (eI (p)), some (eI (q)), some (eI (r)), some (eI (s)), some (eI (7))]) (s2 := [eR 98, eI (7)]) rfl (s_an rfl (by decide)) rfl ?_
    refine w_gf (np := 37) (v := eI (10)) rfl rfl q52.1 (by rw [q52.2.2.1]; rfl) ?_
    refine b_cge (t1 := 63) (t2 := 40) rfl rfl rfl rfl rfl (fun g55 => absurd g55 (by decide)) (fun g55 => ?_)
    refine w_t (np := 41) (l2 := [some (eR 98), some (eI (p)), some (eI (q)), some (eI (r)), some (eI (s)), some (eI (7))]) (s2 := [eR 98]) rfl (s_an rfl (by decide)) rfl ?_
    refine w_t (np := 43) (l2 := [some (eR 98), some (eI (p)), some (eI (q)), some (eI (r)), some (eI (s)), some (eI (7))]) (s2 := [eI (7), eR 98]) rfl rfl rfl ?_
    refine w_t (np := 44) (l2 := [some (eR 98), some (eI (p)), some (eI (q)), some (eI (r)), some (eI (s)), some (eI (7))]) (s2 := [eI (p), eI (7), eR 98]) rfl rfl rfl ?_
    refine w_t (np := 45) (l2 := [some (eR 98), some (eI (p)), some (eI (q)), some (eI (r)), some (eI (s)), some (eI (7))]) (s2 := [eI (q), eI (p), eI (7), eR 98]) rfl rfl rfl ?_
    refine w_t (np := 46) (l2 := [some (eR 98), some (eI (p)), some (eI (q)), some (eI (r)), some (eI (s)), some (eI (7))]) (s2 := [eI (r), eI (q), eI (p), eI (7), eR 98]) rfl rfl rfl ?_
    refine w_t (np := 48) (l2 := [some (eR 98), some (eI (p)), some (eI (q)), some (eI (r)), some (eI (s)), some (eI (7))]) (s2 := [eI (s), eI (r), eI (q), eI (p), eI (7), eR 98]) rfl rfl rfl ?_
    refine w_cw (np := 51) (as := [eI (7), eI (p), eI (q), eI (r), eI (s)]) (l2 := [some (eR 98), some (eI (7)), some (eI (p)), some (eI (q)), some (eI (r)), some (eI (s)), none, none, none]) (rest := []) rfl rfl rfl (Nat.ble_eq.mp rfl) rfl rfl rfl q52.1 rfl ?_
    refine t266_7 q52 hp hq hr hs (fun m56 t57 c58 => ?_) (fun m56 t57 c58 => ?_)
    · show ex_fine fg rc rs (d + 6, (268, 51, [some (eR 98), some (eI (p)), some (eI (q)), some (eI (r)), some (eI (s)), some (eI (7))], [eI (1)]), f :: F, m56)
      have q59 := tQ_s q52 t57
      have e60 : cB_7 p q r s = true := cB_7_eq.mpr c58
      refine b_ieq (t1 := 57) (t2 := 54) rfl rfl rfl rfl (fun g61 => absurd g61 (by decide)) (fun g61 => ?_)
      refine w_t (np := 56) (l2 := [some (eR 98), some (eI (p)), some (eI (q)), some (eI (r)), some (eI (s)), some (eI (7))]) (s2 := [eI (7)]) rfl rfl rfl ?_
      refine b_ri rfl rfl (K m56 (7) q59 (Or.inl ⟨⟨hp, hq, hr, hs⟩, ?_⟩))
      unfold hA
      rw [e11, e18, e25, e32, e39, e46, e53, e60]
      all_goals rfl
    show ex_fine fg rc rs (d + 6, (268, 51, [some (eR 98), some (eI (p)), some (eI (q)), some (eI (r)), some (eI (s)), some (eI (7))], [eI (0)]), f :: F, m56)
    have q59 := tQ_s q52 t57
    have e60 : cB_7 p q r s = false := Bool.eq_false_iff.mpr (fun h => c58 (cB_7_eq.mp h))
    refine b_ieq (t1 := 57) (t2 := 54) rfl rfl rfl rfl (fun g61 => ?_) (fun g61 => absurd g61 (by decide))
    refine w_t (np := 60) (l2 := [some (eR 98), some (eI (p)), some (eI (q)), some (eI (r)), some (eI (s)), some (eI (8))]) (s2 := []) rfl (b_iinc rfl rfl rfl) rfl ?_
    refine w_go (t1 := 31) rfl rfl ?_
    refine w_t (np := 33) (l2 := [some (eR 98), some (eI (p)), some (eI (q)), some (eI (r)), some (eI (s)), some (eI (8))]) (s2 := [eI (8)]) rfl rfl rfl ?_
    refine w_t (np := 34) (l2 := [some (eR 98), some (eI (p)), some (eI (q)), some (eI (r)), some (eI (s)), some (eI (8))]) (s2 := [eR 98, eI (8)]) rfl (s_an rfl (by decide)) rfl ?_
    refine w_gf (np := 37) (v := eI (10)) rfl rfl q59.1 (by rw [q59.2.2.1]; rfl) ?_
    refine b_cge (t1 := 63) (t2 := 40) rfl rfl rfl rfl rfl (fun g62 => absurd g62 (by decide)) (fun g62 => ?_)
    refine w_t (np := 41) (l2 := [some (eR 98), some (eI (p)), some (eI (q)), some (eI (r)), some (eI (s)), some (eI (8))]) (s2 := [eR 98]) rfl (s_an rfl (by decide)) rfl ?_
    refine w_t (np := 43) (l2 := [some (eR 98), some (eI (p)), some (eI (q)), some (eI (r)), some (eI (s)), some (eI (8))]) (s2 := [eI (8), eR 98]) rfl rfl rfl ?_
    refine w_t (np := 44) (l2 := [some (eR 98), some (eI (p)), some (eI (q)), some (eI (r)), some (eI (s)), some (eI (8))]) (s2 := [eI (p), eI (8), eR 98]) rfl rfl rfl ?_
    refine w_t (np := 45) (l2 := [some (eR 98), some (eI (p)), some (eI (q)), some (eI (r)), some (eI (s)), some (eI (8))]) (s2 := [eI (q), eI (p), eI (8), eR 98]) rfl rfl rfl ?_
    refine w_t (np := 46) (l2 := [some (eR 98), some (eI (p)), some (eI (q)), some (eI (r)), some (eI (s)), some (eI (8))]) (s2 := [eI (r), eI (q), eI (p), eI (8), eR 98]) rfl rfl rfl ?_
    refine w_t (np := 48) (l2 := [some (eR 98), some (eI (p)), some (eI (q)), some (eI (r)), some (eI (s)), some (eI (8))]) (s2 := [eI (s), eI (r), eI (q), eI (p), eI (8), eR 98]) rfl rfl rfl ?_
    refine w_cw (np := 51) (as := [eI (8), eI (p), eI (q), eI (r), eI (s)]) (l2 := [some (eR 98), some (eI (8)), some (eI (p)), some (eI (q)), some (eI (r)), some (eI (s)), none, none, none]) (rest := []) rfl rfl rfl (Nat.ble_eq.mp rfl) rfl rfl rfl q59.1 rfl ?_
    refine t266_8 q59 hp hq hr hs (fun m63 t64 c65 => ?_) (fun m63 t64 c65 => ?_)
    · show ex_fine fg rc rs (d + 6, (268, 51, [some (eR 98), some (eI (p)), some (eI (q)), some (eI (r)), some (eI (s)), some (eI (8))], [eI (1)]), f :: F, m63)
      have q66 := tQ_s q59 t64
      have e67 : cB_8 p q r s = true := cB_8_eq.mpr c65
      refine b_ieq (t1 := 57) (t2 := 54) rfl rfl rfl rfl (fun g68 => absurd g68 (by decide)) (fun g68 => ?_)
      refine w_t (np := 56) (l2 := [some (eR 98), some (eI (p)), some (eI (q)), some (eI (r)), some (eI (s)), some (eI (8))]) (s2 := [eI (8)]) rfl rfl rfl ?_
      refine b_ri rfl rfl (K m63 (8) q66 (Or.inl ⟨⟨hp, hq, hr, hs⟩, ?_⟩))
      unfold hA
      rw [e11, e18, e25, e32, e39, e46, e53, e60, e67]
      all_goals rfl
    show ex_fine fg rc rs (d + 6, (268, 51, [some (eR 98), some (eI (p)), some (eI (q)), some (eI (r)), some (eI (s)), some (eI (8))], [eI (0)]), f :: F, m63)
    have q66 := tQ_s q59 t64
    have e67 : cB_8 p q r s = false := Bool.eq_false_iff.mpr (fun h => c65 (cB_8_eq.mp h))
    refine b_ieq (t1 := 57) (t2 := 54) rfl rfl rfl rfl (fun g68 => ?_) (fun g68 => absurd g68 (by decide))
    refine w_t (np := 60) (l2 := [some (eR 98), some (eI (p)), some (eI (q)), some (eI (r)), some (eI (s)), some (eI (9))]) (s2 := []) rfl (b_iinc rfl rfl rfl) rfl ?_
    refine w_go (t1 := 31) rfl rfl ?_
    refine w_t (np := 33) (l2 := [some (eR 98), some (eI (p)), some (eI (q)), some (eI (r)), some (eI (s)), some (eI (9))]) (s2 := [eI (9)]) rfl rfl rfl ?_
    refine w_t (np := 34) (l2 := [some (eR 98), some (eI (p)), some (eI (q)), some (eI (r)), some (eI (s)), some (eI (9))]) (s2 := [eR 98, eI (9)]) rfl (s_an rfl (by decide)) rfl ?_
    refine w_gf (np := 37) (v := eI (10)) rfl rfl q66.1 (by rw [q66.2.2.1]; rfl) ?_
    refine b_cge (t1 := 63) (t2 := 40) rfl rfl rfl rfl rfl (fun g69 => absurd g69 (by decide)) (fun g69 => ?_)
    refine w_t (np := 41) (l2 := [some (eR 98), some (eI (p)), some (eI (q)), some (eI (r)), some (eI (s)), some (eI (9))]) (s2 := [eR 98]) rfl (s_an rfl (by decide)) rfl ?_
    refine w_t (np := 43) (l2 := [some (eR 98), some (eI (p)), some (eI (q)), some (eI (r)), some (eI (s)), some (eI (9))]) (s2 := [eI (9), eR 98]) rfl rfl rfl ?_
    refine w_t (np := 44) (l2 := [some (eR 98), some (eI (p)), some (eI (q)), some (eI (r)), some (eI (s)), some (eI (9))]) (s2 := [eI (p), eI (9), eR 98]) rfl rfl rfl ?_
    refine w_t (np := 45) (l2 := [some (eR 98), some (eI (p)), some (eI (q)), some (eI (r)), some (eI (s)), some (eI (9))]) (s2 := [eI (q), eI (p), eI (9), eR 98]) rfl rfl rfl ?_
    refine w_t (np := 46) (l2 := [some (eR 98), some (eI (p)), some (eI (q)), some (eI (r)), some (eI (s)), some (eI (9))]) (s2 := [eI (r), eI (q), eI (p), eI (9), eR 98]) rfl rfl rfl ?_
    refine w_t (np := 48) (l2 := [some (eR 98), some (eI (p)), some (eI (q)), some (eI (r)), some (eI (s)), some (eI (9))]) (s2 := [eI (s), eI (r), eI (q), eI (p), eI (9), eR 98]) rfl rfl rfl ?_
    refine w_cw (np := 51) (as := [eI (9), eI (p), eI (q), eI (r), eI (s)]) (l2 := [some (eR 98), some (eI (9)), some (eI (p)), some (eI (q)), some (eI (r)), some (eI (s)), none, none, none]) (rest := []) rfl rfl rfl (Nat.ble_eq.mp rfl) rfl rfl rfl q66.1 rfl ?_
    refine t266_9 q66 hp hq hr hs (fun m70 t71 c72 => ?_) (fun m70 t71 c72 => ?_)
    · show ex_fine fg rc rs (d + 6, (268, 51, [some (eR 98), some (eI (p)), some (eI (q)), some (eI (r)), some (eI (s)), some (eI (9))], [eI (1)]), f :: F, m70)
      have q73 := tQ_s q66 t71
      have e74 : cB_9 p q r s = true := cB_9_eq.mpr c72
      refine b_ieq (t1 := 57) (t2 := 54) rfl rfl rfl rfl (fun g75 => absurd g75 (by decide)) (fun g75 => ?_)
      refine w_t (np := 56) (l2 := [some (eR 98), some (eI (p)), some (eI (q)), some (eI (r)), some (eI (s)), some (eI (9))]) (s2 := [eI (9)]) rfl rfl rfl ?_
      refine b_ri rfl rfl (K m70 (9) q73 (Or.inl ⟨⟨hp, hq, hr, hs⟩, ?_⟩))
      unfold hA
      rw [e11, e18, e25, e32, e39, e46, e53, e60, e67, e74]
      all_goals rfl
    show ex_fine fg rc rs (d + 6, (268, 51, [some (eR 98), some (eI (p)), some (eI (q)), some (eI (r)), some (eI (s)), some (eI (9))], [eI (0)]), f :: F, m70)
    have q73 := tQ_s q66 t71
    have e74 : cB_9 p q r s = false := Bool.eq_false_iff.mpr (fun h => c72 (cB_9_eq.mp h))
    refine b_ieq (t1 := 57) (t2 := 54) rfl rfl rfl rfl (fun g75 => ?_) (fun g75 => absurd g75 (by decide))
    refine w_t (np := 60) (l2 := [some (eR 98), some (eI (p)), some (eI (q)), some (eI (r)), some (eI (s)), some (eI (10))]) (s2 := []) rfl (b_iinc rfl rfl rfl) rfl ?_
    refine w_go (t1 := 31) rfl rfl ?_
    refine w_t (np := 33) (l2 := [some (eR 98), some (eI (p)), some (eI (q)), some (eI (r)), some (eI (s)), some (eI (10))]) (s2 := [eI (10)]) rfl rfl rfl ?_
    refine w_t (np := 34) (l2 := [some (eR 98), some (eI (p)), some (eI (q)), some (eI (r)), some (eI (s)), some (eI (10))]) (s2 := [eR 98, eI (10)]) rfl (s_an rfl (by decide)) rfl ?_
    refine w_gf (np := 37) (v := eI (10)) rfl rfl q73.1 (by rw [q73.2.2.1]; rfl) ?_
    refine b_cge (t1 := 63) (t2 := 40) rfl rfl rfl rfl rfl (fun g76 => ?_) (fun g76 => absurd g76 (by decide))
    refine w_t (np := 64) (l2 := [some (eR 98), some (eI (p)), some (eI (q)), some (eI (r)), some (eI (s)), some (eI (10))]) (s2 := [eR 98]) rfl (s_an rfl (by decide)) rfl ?_
    refine w_t (np := 65) (l2 := [some (eR 98), some (eI (p)), some (eI (q)), some (eI (r)), some (eI (s)), some (eI (10))]) (s2 := [eI (5), eR 98]) rfl rfl rfl ?_
    refine w_cw (np := 68) (as := [eI (5)]) (l2 := [some (eR 98), some (eI (5))]) (rest := []) rfl rfl rfl (Nat.ble_eq.mp rfl) rfl rfl rfl q73.1 rfl ?_
    refine t214 q73 ?_
    intro m77 q78
    show ex_fine fg rc rs (d + 6, (268, 68, [some (eR 98), some (eI (p)), some (eI (q)), some (eI (r)), some (eI (s)), some (eI (10))], [eI (-1)]), f :: F, m77)
    refine b_ri rfl rfl (K m77 (-1) q78 (Or.inl ⟨⟨hp, hq, hr, hs⟩, ?_⟩))
    unfold hA
    rw [e11, e18, e25, e32, e39, e46, e53, e60, e67, e74]
    all_goals rfl
  · show ex_fine fg rc rs (d + 6, (268, 12, [some (eR 98), some (eI (p)), some (eI (q)), some (eI (r)), some (eI (s)), none], [eI (0), eR 98]), f :: F, μ)
    refine b_ieq (t1 := 19) (t2 := 15) rfl rfl rfl rfl (fun g2 => ?_) (fun g2 => absurd g2 (by decide))
    refine w_t (np := 20) (l2 := [some (eR 98), some (eI (p)), some (eI (q)), some (eI (r)), some (eI (s)), none]) (s2 := [eI (1), eR 98]) rfl rfl rfl ?_
    refine w_cw (np := 23) (as := [eI (1)]) (l2 := [some (eR 98), some (eI (1))]) (rest := []) rfl rfl rfl (Nat.ble_eq.mp rfl) rfl rfl rfl hq0.1 rfl ?_
    refine t215_1 hq0 ?_
    intro m3 q4
    show ex_fine fg rc rs (d + 6, (268, 23, [some (eR 98), some (eI (p)), some (eI (q)), some (eI (r)), some (eI (s)), none], [eI (0)]), f :: F, m3)
    refine b_ine (t1 := 28) (t2 := 26) rfl rfl rfl rfl (fun g5 => absurd g5 (by decide)) (fun g5 => ?_)
    refine w_t (np := 27) (l2 := [some (eR 98), some (eI (p)), some (eI (q)), some (eI (r)), some (eI (s)), none]) (s2 := [eI (-1)]) rfl rfl rfl ?_
    exact b_ri rfl rfl (K m3 (-1) q4 (Or.inr ⟨g1, rfl⟩))
theorem lw_end2 {ρ : Nat → Int} {d : Nat} {μ : eM} (h1 : μ.2.1.length ≤ 4096) (h2 : μ.2.2 ≤ 1000000) : ex_fine (dt_fg 8 ρ) 4096 1000000 (d, (0, 1789, lw_L, []), [], μ) := by
  unfold lw_L
  refine w_t (np := 1792) (l2 := [some (eR 1), some (eR 64), some (eR 98), some (eI (zI 8))]) (s2 := []) rfl (s_iinc (b := 8) rfl rfl (show z_add 0 8 = 8 from rfl) rfl) rfl ?_
  refine w_go (t1 := 18) rfl rfl ?_
  refine w_t (np := 19) (l2 := [some (eR 1), some (eR 64), some (eR 98), some (eI (zI 8))]) (s2 := [eI (zI 8)]) rfl rfl rfl ?_
  refine w_t (np := 20) (l2 := [some (eR 1), some (eR 64), some (eR 98), some (eI (zI 8))]) (s2 := [eR 1, eI (zI 8)]) rfl (s_an rfl (by decide)) rfl ?_
  refine v_ln (np := 21) (v := 8) (n := 8) rfl rfl ⟨rfl, zI_lit (by decide)⟩ ?_
  refine w_t (np := 23) (l2 := [some (eR 1), some (eR 64), some (eR 98), some (eI (zI 8))]) (s2 := [eI (zI 8), eI (zI 8), eI (zI 8)]) rfl rfl rfl ?_
  refine w_t (np := 24) (l2 := [some (eR 1), some (eR 64), some (eR 98), some (eI (zI 8))]) (s2 := [eI (zI 0), eI (zI 8)]) rfl (s_isub (show z_sub 8 8 = 0 from rfl)) rfl ?_
  refine v_gt_t (t1 := 1795) rfl rfl (show z_lt 0 8 = true from rfl) ?_
  refine w_t (np := 1796) (l2 := [some (eR 1), some (eR 64), some (eR 98), some (eI (zI 8))]) (s2 := [eI 1]) rfl rfl rfl ?_
  exact w_end h1 h2
theorem lw7_a {ρ : Nat → Int} {a0 a1 a2 a3 : Nat} {μ : eM} (e1 : ρ 1 = zI a0) (e2 : ρ 2 = zI a1) (e3 : ρ 3 = zI a2) (e4 : ρ 4 = zI a3) (hk : ev_kd μ 64 = some 10) (K : ex_fine (dt_fg 8 ρ) 4096 1000000 (39, (162, 0, [some (eR 64), some (eI (zI a0)), some (eI (zI a1)), some (eI (zI a2)), some (eI (zI a3))], []), [(0, 453, lw_L, [])], μ)) : ex_fine (dt_fg 8 ρ) 4096 1000000 (40, (0, 429, lw_L, []), [], μ) := by
  unfold lw_L at K ⊢
  refine w_t (np := 430) (l2 := [some (eR 1), some (eR 64), some (eR 98), some (eI (zI 0))]) (s2 := [eR 64]) rfl (s_an rfl (by decide)) rfl ?_
  refine w_t (np := 431) (l2 := [some (eR 1), some (eR 64), some (eR 98), some (eI (zI 0))]) (s2 := [eR 1, eR 64]) rfl (s_an rfl (by decide)) rfl ?_
  refine w_t (np := 432) (l2 := [some (eR 1), some (eR 64), some (eR 98), some (eI (zI 0))]) (s2 := [eI (zI 0), eR 1, eR 64]) rfl rfl rfl ?_
  refine w_t (np := 433) (l2 := [some (eR 1), some (eR 64), some (eR 98), some (eI (zI 0))]) (s2 := [eI (zI 1), eI (zI 0), eR 1, eR 64]) rfl rfl rfl ?_
  refine w_t (np := 434) (l2 := [some (eR 1), some (eR 64), some (eR 98), some (eI (zI 0))]) (s2 := [eI (zI 1), eR 1, eR 64]) rfl (s_iadd (show z_add 0 1 = 1 from rfl)) rfl ?_
  refine w_al (np := 435) (v := zI a0) rfl rfl (lw_al (by decide) (by decide) e1) ?_
  refine w_t (np := 436) (l2 := [some (eR 1), some (eR 64), some (eR 98), some (eI (zI 0))]) (s2 := [eR 1, eI (zI a0), eR 64]) rfl (s_an rfl (by decide)) rfl ?_
  refine w_t (np := 437) (l2 := [some (eR 1), some (eR 64), some (eR 98), some (eI (zI 0))]) (s2 := [eI (zI 0), eR 1, eI (zI a0), eR 64]) rfl rfl rfl ?_
  refine w_t (np := 438) (l2 := [some (eR 1), some (eR 64), some (eR 98), some (eI (zI 0))]) (s2 := [eI (zI 2), eI (zI 0), eR 1, eI (zI a0), eR 64]) rfl rfl rfl ?_
  refine w_t (np := 439) (l2 := [some (eR 1), some (eR 64), some (eR 98), some (eI (zI 0))]) (s2 := [eI (zI 2), eR 1, eI (zI a0), eR 64]) rfl (s_iadd (show z_add 0 2 = 2 from rfl)) rfl ?_
  refine w_al (np := 440) (v := zI a1) rfl rfl (lw_al (by decide) (by decide) e2) ?_
  refine w_t (np := 441) (l2 := [some (eR 1), some (eR 64), some (eR 98), some (eI (zI 0))]) (s2 := [eR 1, eI (zI a1), eI (zI a0), eR 64]) rfl (s_an rfl (by decide)) rfl ?_
  refine w_t (np := 442) (l2 := [some (eR 1), some (eR 64), some (eR 98), some (eI (zI 0))]) (s2 := [eI (zI 0), eR 1, eI (zI a1), eI (zI a0), eR 64]) rfl rfl rfl ?_
  refine w_t (np := 443) (l2 := [some (eR 1), some (eR 64), some (eR 98), some (eI (zI 0))]) (s2 := [eI (zI 3), eI (zI 0), eR 1, eI (zI a1), eI (zI a0), eR 64]) rfl rfl rfl ?_
  refine w_t (np := 444) (l2 := [some (eR 1), some (eR 64), some (eR 98), some (eI (zI 0))]) (s2 := [eI (zI 3), eR 1, eI (zI a1), eI (zI a0), eR 64]) rfl (s_iadd (show z_add 0 3 = 3 from rfl)) rfl ?_
  refine w_al (np := 445) (v := zI a2) rfl rfl (lw_al (by decide) (by decide) e3) ?_
  refine w_t (np := 446) (l2 := [some (eR 1), some (eR 64), some (eR 98), some (eI (zI 0))]) (s2 := [eR 1, eI (zI a2), eI (zI a1), eI (zI a0), eR 64]) rfl (s_an rfl (by decide)) rfl ?_
  refine w_t (np := 447) (l2 := [some (eR 1), some (eR 64), some (eR 98), some (eI (zI 0))]) (s2 := [eI (zI 0), eR 1, eI (zI a2), eI (zI a1), eI (zI a0), eR 64]) rfl rfl rfl ?_
  refine w_t (np := 448) (l2 := [some (eR 1), some (eR 64), some (eR 98), some (eI (zI 0))]) (s2 := [eI (zI 4), eI (zI 0), eR 1, eI (zI a2), eI (zI a1), eI (zI a0), eR 64]) rfl rfl rfl ?_
  refine w_t (np := 449) (l2 := [some (eR 1), some (eR 64), some (eR 98), some (eI (zI 0))]) (s2 := [eI (zI 4), eR 1, eI (zI a2), eI (zI a1), eI (zI a0), eR 64]) rfl (s_iadd (show z_add 0 4 = 4 from rfl)) rfl ?_
  refine w_al (np := 450) (v := zI a3) rfl rfl (lw_al (by decide) (by decide) e4) ?_
  exact w_cw (np := 453) (as := [eI (zI a0), eI (zI a1), eI (zI a2), eI (zI a3)]) (l2 := [some (eR 64), some (eI (zI a0)), some (eI (zI a1)), some (eI (zI a2)), some (eI (zI a3))]) (rest := []) rfl rfl rfl (Nat.ble_eq.mp rfl) rfl rfl rfl hk rfl K
theorem lw7_b {ρ : Nat → Int} {a0 a1 a2 a3 : Nat} {v : Int} {μ : eM} (e1 : ρ 1 = zI a0) (e2 : ρ 2 = zI a1) (e3 : ρ 3 = zI a2) (e4 : ρ 4 = zI a3) (hk : ev_kd μ 98 = some 11) (K : ex_fine (dt_fg 8 ρ) 4096 1000000 (39, (268, 0, [some (eR 98), some (eI (zI a0)), some (eI (zI a1)), some (eI (zI a2)), some (eI (zI a3)), none], []), [(0, 477, lw_L, [eI v])], μ)) : ex_fine (dt_fg 8 ρ) 4096 1000000 (40, (0, 453, lw_L, [eI v]), [], μ) := by
  unfold lw_L at K ⊢
  refine w_t (np := 454) (l2 := [some (eR 1), some (eR 64), some (eR 98), some (eI (zI 0))]) (s2 := [eR 98, eI v]) rfl (s_an rfl (by decide)) rfl ?_
  refine w_t (np := 455) (l2 := [some (eR 1), some (eR 64), some (eR 98), some (eI (zI 0))]) (s2 := [eR 1, eR 98, eI v]) rfl (s_an rfl (by decide)) rfl ?_
  refine w_t (np := 456) (l2 := [some (eR 1), some (eR 64), some (eR 98), some (eI (zI 0))]) (s2 := [eI (zI 0), eR 1, eR 98, eI v]) rfl rfl rfl ?_
  refine w_t (np := 457) (l2 := [some (eR 1), some (eR 64), some (eR 98), some (eI (zI 0))]) (s2 := [eI (zI 1), eI (zI 0), eR 1, eR 98, eI v]) rfl rfl rfl ?_
  refine w_t (np := 458) (l2 := [some (eR 1), some (eR 64), some (eR 98), some (eI (zI 0))]) (s2 := [eI (zI 1), eR 1, eR 98, eI v]) rfl (s_iadd (show z_add 0 1 = 1 from rfl)) rfl ?_
  refine w_al (np := 459) (v := zI a0) rfl rfl (lw_al (by decide) (by decide) e1) ?_
  refine w_t (np := 460) (l2 := [some (eR 1), some (eR 64), some (eR 98), some (eI (zI 0))]) (s2 := [eR 1, eI (zI a0), eR 98, eI v]) rfl (s_an rfl (by decide)) rfl ?_
  refine w_t (np := 461) (l2 := [some (eR 1), some (eR 64), some (eR 98), some (eI (zI 0))]) (s2 := [eI (zI 0), eR 1, eI (zI a0), eR 98, eI v]) rfl rfl rfl ?_
  refine w_t (np := 462) (l2 := [some (eR 1), some (eR 64), some (eR 98), some (eI (zI 0))]) (s2 := [eI (zI 2), eI (zI 0), eR 1, eI (zI a0), eR 98, eI v]) rfl rfl rfl ?_
  refine w_t (np := 463) (l2 := [some (eR 1), some (eR 64), some (eR 98), some (eI (zI 0))]) (s2 := [eI (zI 2), eR 1, eI (zI a0), eR 98, eI v]) rfl (s_iadd (show z_add 0 2 = 2 from rfl)) rfl ?_
  refine w_al (np := 464) (v := zI a1) rfl rfl (lw_al (by decide) (by decide) e2) ?_
  refine w_t (np := 465) (l2 := [some (eR 1), some (eR 64), some (eR 98), some (eI (zI 0))]) (s2 := [eR 1, eI (zI a1), eI (zI a0), eR 98, eI v]) rfl (s_an rfl (by decide)) rfl ?_
  refine w_t (np := 466) (l2 := [some (eR 1), some (eR 64), some (eR 98), some (eI (zI 0))]) (s2 := [eI (zI 0), eR 1, eI (zI a1), eI (zI a0), eR 98, eI v]) rfl rfl rfl ?_
  refine w_t (np := 467) (l2 := [some (eR 1), some (eR 64), some (eR 98), some (eI (zI 0))]) (s2 := [eI (zI 3), eI (zI 0), eR 1, eI (zI a1), eI (zI a0), eR 98, eI v]) rfl rfl rfl ?_
  refine w_t (np := 468) (l2 := [some (eR 1), some (eR 64), some (eR 98), some (eI (zI 0))]) (s2 := [eI (zI 3), eR 1, eI (zI a1), eI (zI a0), eR 98, eI v]) rfl (s_iadd (show z_add 0 3 = 3 from rfl)) rfl ?_
  refine w_al (np := 469) (v := zI a2) rfl rfl (lw_al (by decide) (by decide) e3) ?_
  refine w_t (np := 470) (l2 := [some (eR 1), some (eR 64), some (eR 98), some (eI (zI 0))]) (s2 := [eR 1, eI (zI a2), eI (zI a1), eI (zI a0), eR 98, eI v]) rfl (s_an rfl (by decide)) rfl ?_
  refine w_t (np := 471) (l2 := [some (eR 1), some (eR 64), some (eR 98), some (eI (zI 0))]) (s2 := [eI (zI 0), eR 1, eI (zI a2), eI (zI a1), eI (zI a0), eR 98, eI v]) rfl rfl rfl ?_
  refine w_t (np := 472) (l2 := [some (eR 1), some (eR 64), some (eR 98), some (eI (zI 0))]) (s2 := [eI (zI 4), eI (zI 0), eR 1, eI (zI a2), eI (zI a1), eI (zI a0), eR 98, eI v]) rfl rfl rfl ?_
  refine w_t (np := 473) (l2 := [some (eR 1), some (eR 64), some (eR 98), some (eI (zI 0))]) (s2 := [eI (zI 4), eR 1, eI (zI a2), eI (zI a1), eI (zI a0), eR 98, eI v]) rfl (s_iadd (show z_add 0 4 = 4 from rfl)) rfl ?_
  refine w_al (np := 474) (v := zI a3) rfl rfl (lw_al (by decide) (by decide) e4) ?_
  exact w_cw (np := 477) (as := [eI (zI a0), eI (zI a1), eI (zI a2), eI (zI a3)]) (l2 := [some (eR 98), some (eI (zI a0)), some (eI (zI a1)), some (eI (zI a2)), some (eI (zI a3)), none]) (rest := [eI v]) rfl rfl rfl (Nat.ble_eq.mp rfl) rfl rfl rfl hk rfl K
theorem lw7 {ρ : Nat → Int} {μ : eM} (b1 : -2147483648 ≤ ρ 1 ∧ ρ 1 ≤ 2147483647) (b2 : -2147483648 ≤ ρ 2 ∧ ρ 2 ≤ 2147483647) (b3 : -2147483648 ≤ ρ 3 ∧ ρ 3 ≤ 2147483647) (b4 : -2147483648 ≤ ρ 4 ∧ ρ 4 ≤ 2147483647) (hR : yR gl_c μ) : ex_fine (dt_fg 8 ρ) 4096 1000000 (40, (0, 429, lw_L, []), [], μ) := by
  obtain ⟨a0, ha0, e1⟩ := z_code b1.1 b1.2
  obtain ⟨a1, ha1, e2⟩ := z_code b2.1 b2.2
  obtain ⟨a2, ha2, e3⟩ := z_code b3.1 b3.2
  obtain ⟨a3, ha3, e4⟩ := z_code b4.1 b4.2
  refine lw7_a e1 e2 e3 e4 (gl_x gl_f3 hR (by decide) rfl).1 ?_
  refine t162 (d := 33) (f := (0, 453, lw_L, [])) hR ?_
  intro μ1 v q1 r1 bv
  show ex_fine (dt_fg 8 ρ) 4096 1000000 (40, (0, 453, lw_L, [eI v]), [], μ1)
  refine lw7_b e1 e2 e3 e4 q1.1 ?_
  refine t268 (d := 33) (f := (0, 477, lw_L, [eI v])) q1 (z_b a0) (z_b a1) (z_b a2) (z_b a3) ?_
  intro μ2 w q2 r2
  show ex_fine (dt_fg 8 ρ) 4096 1000000 (40, (0, 477, lw_L, [eI w, eI v]), [], μ2)
  have e : w = v := by
    rcases r1 with ⟨h1, h2⟩ | ⟨h1, h2⟩ <;> rcases r2 with ⟨h3, h4⟩ | ⟨h3, h4⟩
    · exact h4.trans h2.symm
    · exact absurd h1 h3
    · exact absurd h3 h1
    · exact h4.trans h2.symm
  rw [e]
  refine b_ceq (t1 := 1789) (t2 := 480) rfl rfl rfl (ev_w_in (by omega) (by omega)) (ev_w_in (by omega) (by omega)) (fun _ => ?_) (fun h => absurd rfl h)
  exact lw_end2 q2.2.2.2.2.1.1 q2.2.2.2.2.1.2
