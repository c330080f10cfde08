/-! locate: the reference, its halves -/
theorem in3 {u0 u1 u2 : Int} {A0 A1 A2 B0 B1 B2 : Prop} (e0 : (0 ≤ u0 ↔ A0) ∧ (u0 ≤ 0 ↔ B0)) (e1 : (0 ≤ u1 ↔ A1) ∧ (u1 ≤ 0 ↔ B1)) (e2 : (0 ≤ u2 ↔ A2) ∧ (u2 ≤ 0 ↔ B2)) : ((A0 ∧ A1 ∧ A2) ∨ (B0 ∧ B1 ∧ B2)) ↔ ((0 ≤ u0 ∧ 0 ≤ u1 ∧ 0 ≤ u2) ∨ (u0 ≤ 0 ∧ u1 ≤ 0 ∧ u2 ≤ 0)) := by
  rw [e0.1, e0.2, e1.1, e1.2, e2.1, e2.2]
theorem t266_0 {fg : eG} {rc rs d : Nat} {f : eFr} {F : List eFr} {μ : eM} {p q r s : Int} (hq : tQ μ) (hp : -9999 ≤ p ∧ p ≤ 9999) (hq0 : -9999 ≤ q ∧ q ≤ 9999) (hr : -9999 ≤ r ∧ r ≤ 9999) (hs : -9999 ≤ s ∧ s ≤ 9999) (K1 : ∀ μ2 : eM, tS μ μ2 → (((0 ≤ (-832040) * p + 832040 * r + 1346269 * s) ∧ (0 ≤ 832040 * p + 832040 * q + 514229 * r + (-832040)) ∧ (0 ≤ (-832040) * q + (-1346269) * r + (-1346269) * s)) ∨ (((-832040) * p + 832040 * r + 1346269 * s ≤ 0) ∧ (832040 * p + 832040 * q + 514229 * r + (-832040) ≤ 0) ∧ ((-832040) * q + (-1346269) * r + (-1346269) * s ≤ 0))) → ex_fine fg rc rs (d + 6, (f.1, f.2.1, f.2.2.1, eI 1 :: f.2.2.2), F, μ2)) (K0 : ∀ μ2 : eM, tS μ μ2 → ¬ (((0 ≤ (-832040) * p + 832040 * r + 1346269 * s) ∧ (0 ≤ 832040 * p + 832040 * q + 514229 * r + (-832040)) ∧ (0 ≤ (-832040) * q + (-1346269) * r + (-1346269) * s)) ∨ (((-832040) * p + 832040 * r + 1346269 * s ≤ 0) ∧ (832040 * p + 832040 * q + 514229 * r + (-832040) ≤ 0) ∧ ((-832040) * q + (-1346269) * r + (-1346269) * s ≤ 0))) → ex_fine fg rc rs (d + 6, (f.1, f.2.1, f.2.2.1, eI 0 :: f.2.2.2), F, μ2)) : ex_fine fg rc rs (d + 5, (266, 0, [some (eR 98), some (eI (0)), some (eI (p)), some (eI (q)), some (eI (r)), some (eI (s)), none, none, none], []), f :: F, μ) := by
  refine w_t (np := 1) (l2 := [some (eR 98), some (eI (0)), some (eI (p)), some (eI (q)), some (eI (r)), some (eI (s)), none, none, none]) (s2 := [eR 98]) rfl (s_an rfl (by decide)) rfl ?_
  refine w_t (np := 2) (l2 := [some (eR 98), some (eI (0)), some (eI (p)), some (eI (q)), some (eI (r)), some (eI (s)), none, none, none]) (s2 := [eI (0), eR 98]) rfl rfl rfl ?_
  refine w_t (np := 3) (l2 := [some (eR 98), some (eI (0)), some (eI (p)), some (eI (q)), some (eI (r)), some (eI (s)), none, none, none]) (s2 := [eI (0), eI (0), eR 98]) rfl rfl rfl ?_
  refine w_t (np := 4) (l2 := [some (eR 98), some (eI (0)), some (eI (p)), some (eI (q)), some (eI (r)), some (eI (s)), none, none, none]) (s2 := [eI (1), eI (0), eI (0), eR 98]) rfl rfl rfl ?_
  refine w_t (np := 5) (l2 := [some (eR 98), some (eI (0)), some (eI (p)), some (eI (q)), some (eI (r)), some (eI (s)), none, none, none]) (s2 := [eI (p), eI (1), eI (0), eI (0), eR 98]) rfl rfl rfl ?_
  refine w_t (np := 6) (l2 := [some (eR 98), some (eI (0)), some (eI (p)), some (eI (q)), some (eI (r)), some (eI (s)), none, none, none]) (s2 := [eI (q), eI (p), eI (1), eI (0), eI (0), eR 98]) rfl rfl rfl ?_
  refine w_t (np := 8) (l2 := [some (eR 98), some (eI (0)), some (eI (p)), some (eI (q)), some (eI (r)), some (eI (s)), none, none, none]) (s2 := [eI (r), eI (q), eI (p), eI (1), eI (0), eI (0), eR 98]) rfl rfl rfl ?_
  refine w_t (np := 10) (l2 := [some (eR 98), some (eI (0)), some (eI (p)), some (eI (q)), some (eI (r)), some (eI (s)), none, none, none]) (s2 := [eI (s), eI (r), eI (q), eI (p), eI (1), eI (0), eI (0), eR 98]) rfl rfl rfl ?_
  refine w_cw (np := 13) (as := [eI (0), eI (0), eI (1), eI (p), eI (q), eI (r), eI (s)]) (l2 := [some (eR 98), some (eI (0)), some (eI (0)), some (eI (1)), some (eI (p)), some (eI (q)), some (eI (r)), some (eI (s)), none, none]) (rest := []) rfl rfl rfl (Nat.ble_eq.mp rfl) rfl rfl rfl hq.1 rfl ?_
  refine t265_0_0 hq hp hq0 hr hs ?_
  intro m0 u0 s0 e0 w0
  have q0 := tQ_s hq s0
  have b0 : -1 ≤ u0 ∧ u0 ≤ 1 := by omega
  show ex_fine fg rc rs (d + 5, (266, 13, [some (eR 98), some (eI (0)), some (eI (p)), some (eI (q)), some (eI (r)), some (eI (s)), none, none, none], [eI (u0)]), f :: F, m0)
  refine w_t (np := 15) (l2 := [some (eR 98), some (eI (0)), some (eI (p)), some (eI (q)), some (eI (r)), some (eI (s)), some (eI (u0)), none, none]) (s2 := []) rfl rfl rfl ?_
  refine w_t (np := 16) (l2 := [some (eR 98), some (eI (0)), some (eI (p)), some (eI (q)), some (eI (r)), some (eI (s)), some (eI (u0)), none, none]) (s2 := [eR 98]) rfl (s_an rfl (by decide)) rfl ?_
  refine w_t (np := 17) (l2 := [some (eR 98), some (eI (0)), some (eI (p)), some (eI (q)), some (eI (r)), some (eI (s)), some (eI (u0)), none, none]) (s2 := [eI (0), eR 98]) rfl rfl rfl ?_
  refine w_t (np := 18) (l2 := [some (eR 98), some (eI (0)), some (eI (p)), some (eI (q)), some (eI (r)), some (eI (s)), some (eI (u0)), none, none]) (s2 := [eI (1), eI (0), eR 98]) rfl rfl rfl ?_
  refine w_t (np := 19) (l2 := [some (eR 98), some (eI (0)), some (eI (p)), some (eI (q)), some (eI (r)), some (eI (s)), some (eI (u0)), none, none]) (s2 := [eI (2), eI (1), eI (0), eR 98]) rfl rfl rfl ?_
  refine w_t (np := 20) (l2 := [some (eR 98), some (eI (0)), some (eI (p)), some (eI (q)), some (eI (r)), some (eI (s)), some (eI (u0)), none, none]) (s2 := [eI (p), eI (2), eI (1), eI (0), eR 98]) rfl rfl rfl ?_
  refine w_t (np := 21) (l2 := [some (eR 98), some (eI (0)), some (eI (p)), some (eI (q)), some (eI (r)), some (eI (s)), some (eI (u0)), none, none]) (s2 := [eI (q), eI (p), eI (2), eI (1), eI (0), eR 98]) rfl rfl rfl ?_
  refine w_t (np := 23) (l2 := [some (eR 98), some (eI (0)), some (eI (p)), some (eI (q)), some (eI (r)), some (eI (s)), some (eI (u0)), none, none]) (s2 := [eI (r), eI (q), eI (p), eI (2), eI (1), eI (0), eR 98]) rfl rfl rfl ?_
  refine w_t (np := 25) (l2 := [some (eR 98), some (eI (0)), some (eI (p)), some (eI (q)), some (eI (r)), some (eI (s)), some (eI (u0)), none, none]) (s2 := [eI (s), eI (r), eI (q), eI (p), eI (2), eI (1), eI (0), eR 98]) rfl rfl rfl ?_
  refine w_cw (np := 28) (as := [eI (0), eI (1), eI (2), eI (p), eI (q), eI (r), eI (s)]) (l2 := [some (eR 98), some (eI (0)), some (eI (1)), some (eI (2)), some (eI (p)), some (eI (q)), some (eI (r)), some (eI (s)), none, none]) (rest := []) rfl rfl rfl (Nat.ble_eq.mp rfl) rfl rfl rfl q0.1 rfl ?_
  refine t265_0_1 q0 hp hq0 hr hs ?_
  intro m1 u1 s1 e1 w1
  have q1 := tQ_s q0 s1
  have b1 : -1 ≤ u1 ∧ u1 ≤ 1 := by omega
  show ex_fine fg rc rs (d + 5, (266, 28, [some (eR 98), some (eI (0)), some (eI (p)), some (eI (q)), some (eI (r)), some (eI (s)), some (eI (u0)), none, none], [eI (u1)]), f :: F, m1)
  refine w_t (np := 30) (l2 := [some (eR 98), some (eI (0)), some (eI (p)), some (eI (q)), some (eI (r)), some (eI (s)), some (eI (u0)), some (eI (u1)), none]) (s2 := []) rfl rfl rfl ?_
  refine w_t (np := 31) (l2 := [some (eR 98), some (eI (0)), some (eI (p)), some (eI (q)), some (eI (r)), some (eI (s)), some (eI (u0)), some (eI (u1)), none]) (s2 := [eR 98]) rfl (s_an rfl (by decide)) rfl ?_
  refine w_t (np := 32) (l2 := [some (eR 98), some (eI (0)), some (eI (p)), some (eI (q)), some (eI (r)), some (eI (s)), some (eI (u0)), some (eI (u1)), none]) (s2 := [eI (0), eR 98]) rfl rfl rfl ?_
  refine w_t (np := 33) (l2 := [some (eR 98), some (eI (0)), some (eI (p)), some (eI (q)), some (eI (r)), some (eI (s)), some (eI (u0)), some (eI (u1)), none]) (s2 := [eI (2), eI (0), eR 98]) rfl rfl rfl ?_
  refine w_t (np := 34) (l2 := [some (eR 98), some (eI (0)), some (eI (p)), some (eI (q)), some (eI (r)), some (eI (s)), some (eI (u0)), some (eI (u1)), none]) (s2 := [eI (0), eI (2), eI (0), eR 98]) rfl rfl rfl ?_
  refine w_t (np := 35) (l2 := [some (eR 98), some (eI (0)), some (eI (p)), some (eI (q)), some (eI (r)), some (eI (s)), some (eI (u0)), some (eI (u1)), none]) (s2 := [eI (p), eI (0), eI (2), eI (0), eR 98]) rfl rfl rfl ?_
  refine w_t (np := 36) (l2 := [some (eR 98), some (eI (0)), some (eI (p)), some (eI (q)), some (eI (r)), some (eI (s)), some (eI (u0)), some (eI (u1)), none]) (s2 := [eI (q), eI (p), eI (0), eI (2), eI (0), eR 98]) rfl rfl rfl ?_
  refine w_t (np := 38) (l2 := [some (eR 98), some (eI (0)), some (eI (p)), some (eI (q)), some (eI (r)), some (eI (s)), some (eI (u0)), some (eI (u1)), none]) (s2 := [eI (r), eI (q), eI (p), eI (0), eI (2), eI (0), eR 98]) rfl rfl rfl ?_
  refine w_t (np := 40) (l2 := [some (eR 98), some (eI (0)), some (eI (p)), some (eI (q)), some (eI (r)), some (eI (s)), some (eI (u0)), some (eI (u1)), none]) (s2 := [eI (s), eI (r), eI (q), eI (p), eI (0), eI (2), eI (0), eR 98]) rfl rfl rfl ?_
  refine w_cw (np := 43) (as := [eI (0), eI (2), eI (0), eI (p), eI (q), eI (r), eI (s)]) (l2 := [some (eR 98), some (eI (0)), some (eI (2)), some (eI (0)), some (eI (p)), some (eI (q)), some (eI (r)), some (eI (s)), none, none]) (rest := []) rfl rfl rfl (Nat.ble_eq.mp rfl) rfl rfl rfl q1.1 rfl ?_
  refine t265_0_2 q1 hp hq0 hr hs ?_
  intro m2 u2 s2 e2 w2
  have q2 := tQ_s q1 s2
  have b2 : -1 ≤ u2 ∧ u2 ≤ 1 := by omega
  show ex_fine fg rc rs (d + 5, (266, 43, [some (eR 98), some (eI (0)), some (eI (p)), some (eI (q)), some (eI (r)), some (eI (s)), some (eI (u0)), some (eI (u1)), none], [eI (u2)]), f :: F, m2)
  have kc := in3 e0 e1 e2
  have k1 := fun (z : ((0 ≤ u0 ∧ 0 ≤ u1 ∧ 0 ≤ u2) ∨ (u0 ≤ 0 ∧ u1 ≤ 0 ∧ u2 ≤ 0))) => K1 m2 (tS_tr (tS_tr s0 s1) s2) (kc.mpr z)
  have k0 := fun (z : ¬ ((0 ≤ u0 ∧ 0 ≤ u1 ∧ 0 ≤ u2) ∨ (u0 ≤ 0 ∧ u1 ≤ 0 ∧ u2 ≤ 0))) => K0 m2 (tS_tr (tS_tr s0 s1) s2) (fun y => z (kc.mp y))
  clear K1 K0 kc e0 e1 e2 w0 w1 w2
  refine w_t (np := 45) (l2 := [some (eR 98), some (eI (0)), some (eI (p)), some (eI (q)), some (eI (r)), some (eI (s)), some (eI (u0)), some (eI (u1)), some (eI (u2))]) (s2 := []) rfl rfl rfl ?_
  refine w_t (np := 47) (l2 := [some (eR 98), some (eI (0)), some (eI (p)), some (eI (q)), some (eI (r)), some (eI (s)), some (eI (u0)), some (eI (u1)), some (eI (u2))]) (s2 := [eI (u0)]) rfl rfl rfl ?_
  refine b_ilt (t1 := 60) (t2 := 50) rfl rfl rfl (ev_w_in (by omega) (by omega)) (fun g1 => ?_) (fun g1 => ?_)
  · refine w_t (np := 62) (l2 := [some (eR 98), some (eI (0)), some (eI (p)), some (eI (q)), some (eI (r)), some (eI (s)), some (eI (u0)), some (eI (u1)), some (eI (u2))]) (s2 := [eI (u0)]) rfl rfl rfl ?_
    refine b_igt (t1 := 79) (t2 := 65) rfl rfl rfl (ev_w_in (by omega) (by omega)) (fun g2 => ?_) (fun g2 => ?_)
    · refine w_t (np := 80) (l2 := [some (eR 98), some (eI (0)), some (eI (p)), some (eI (q)), some (eI (r)), some (eI (s)), some (eI (u0)), some (eI (u1)), some (eI (u2))]) (s2 := [eI (0)]) rfl rfl rfl ?_
      refine b_rz rfl rfl (Or.inl rfl) ?_
      exact k0 (by omega)
    · refine w_t (np := 67) (l2 := [some (eR 98), some (eI (0)), some (eI (p)), some (eI (q)), some (eI (r)), some (eI (s)), some (eI (u0)), some (eI (u1)), some (eI (u2))]) (s2 := [eI (u1)]) rfl rfl rfl ?_
      refine b_igt (t1 := 79) (t2 := 70) rfl rfl rfl (ev_w_in (by omega) (by omega)) (fun g3 => ?_) (fun g3 => ?_)
      · refine w_t (np := 80) (l2 := [some (eR 98), some (eI (0)), some (eI (p)), some (eI (q)), some (eI (r)), some (eI (s)), some (eI (u0)), some (eI (u1)), some (eI (u2))]) (s2 := [eI (0)]) rfl rfl rfl ?_
        refine b_rz rfl rfl (Or.inl rfl) ?_
        exact k0 (by omega)
      · refine w_t (np := 72) (l2 := [some (eR 98), some (eI (0)), some (eI (p)), some (eI (q)), some (eI (r)), some (eI (s)), some (eI (u0)), some (eI (u1)), some (eI (u2))]) (s2 := [eI (u2)]) rfl rfl rfl ?_
        refine b_igt (t1 := 79) (t2 := 75) rfl rfl rfl (ev_w_in (by omega) (by omega)) (fun g4 => ?_) (fun g4 => ?_)
        · refine w_t (np := 80) (l2 := [some (eR 98), some (eI (0)), some (eI (p)), some (eI (q)), some (eI (r)), some (eI (s)), some (eI (u0)), some (eI (u1)), some (eI (u2))]) (s2 := [eI (0)]) rfl rfl rfl ?_
          refine b_rz rfl rfl (Or.inl rfl) ?_
          exact k0 (by omega)
        · refine w_t (np := 76) (l2 := [some (eR 98), some (eI (0)), some (eI (p)), some (eI (q)), some (eI (r)), some (eI (s)), some (eI (u0)), some (eI (u1)), some (eI (u2))]) (s2 := [eI (1)]) rfl rfl rfl ?_
          refine w_go (t1 := 80) rfl rfl ?_
          refine b_rz rfl rfl (Or.inr rfl) ?_
          exact k1 (by omega)
  · refine w_t (np := 52) (l2 := [some (eR 98), some (eI (0)), some (eI (p)), some (eI (q)), some (eI (r)), some (eI (s)), some (eI (u0)), some (eI (u1)), some (eI (u2))]) (s2 := [eI (u1)]) rfl rfl rfl ?_
    refine b_ilt (t1 := 60) (t2 := 55) rfl rfl rfl (ev_w_in (by omega) (by omega)) (fun g2 => ?_) (fun g2 => ?_)
    · refine w_t (np := 62) (l2 := [some (eR 98), some (eI (0)), some (eI (p)), some (eI (q)), some (eI (r)), some (eI (s)), some (eI (u0)), some (eI (u1)), some (eI (u2))]) (s2 := [eI (u0)]) rfl rfl rfl ?_
      refine b_igt (t1 := 79) (t2 := 65) rfl rfl rfl (ev_w_in (by omega) (by omega)) (fun g3 => ?_) (fun g3 => ?_)
      · refine w_t (np := 80) (l2 := [some (eR 98), some (eI (0)), some (eI (p)), some (eI (q)), some (eI (r)), some (eI (s)), some (eI (u0)), some (eI (u1)), some (eI (u2))]) (s2 := [eI (0)]) rfl rfl rfl ?_
        refine b_rz rfl rfl (Or.inl rfl) ?_
        exact k0 (by omega)
      · refine w_t (np := 67) (l2 := [some (eR 98), some (eI (0)), some (eI (p)), some (eI (q)), some (eI (r)), some (eI (s)), some (eI (u0)), some (eI (u1)), some (eI (u2))]) (s2 := [eI (u1)]) rfl rfl rfl ?_
        refine b_igt (t1 := 79) (t2 := 70) rfl rfl rfl (ev_w_in (by omega) (by omega)) (fun g4 => ?_) (fun g4 => ?_)
        · refine w_t (np := 80) (l2 := [some (eR 98), some (eI (0)), some (eI (p)), some (eI (q)), some (eI (r)), some (eI (s)), some (eI (u0)), some (eI (u1)), some (eI (u2))]) (s2 := [eI (0)]) rfl rfl rfl ?_
          refine b_rz rfl rfl (Or.inl rfl) ?_
          exact k0 (by omega)
        · refine w_t (np := 72) (l2 := [some (eR 98), some (eI (0)), some (eI (p)), some (eI (q)), some (eI (r)), some (eI (s)), some (eI (u0)), some (eI (u1)), some (eI (u2))]) (s2 := [eI (u2)]) rfl rfl rfl ?_
          refine b_igt (t1 := 79) (t2 := 75) rfl rfl rfl (ev_w_in (by omega) (by omega)) (fun g5 => ?_) (fun g5 => ?_)
          · refine w_t (np := 80) (l2 := [some (eR 98), some (eI (0)), some (eI (p)), some (eI (q)), some (eI (r)), some (eI (s)), some (eI (u0)), some (eI (u1)), some (eI (u2))]) (s2 := [eI (0)]) rfl rfl rfl ?_
            refine b_rz rfl rfl (Or.inl rfl) ?_
            exact k0 (by omega)
          · refine w_t (np := 76) (l2 := [some (eR 98), some (eI (0)), some (eI (p)), some (eI (q)), some (eI (r)), some (eI (s)), some (eI (u0)), some (eI (u1)), some (eI (u2))]) (s2 := [eI (1)]) rfl rfl rfl ?_
            refine w_go (t1 := 80) rfl rfl ?_
            refine b_rz rfl rfl (Or.inr rfl) ?_
            exact k1 (by omega)
    · refine w_t (np := 57) (l2 := [some (eR 98), some (eI (0)), some (eI (p)), some (eI (q)), some (eI (r)), some (eI (s)), some (eI (u0)), some (eI (u1)), some (eI (u2))]) (s2 := [eI (u2)]) rfl rfl rfl ?_
      refine b_ige (t1 := 75) (t2 := 60) rfl rfl rfl (ev_w_in (by omega) (by omega)) (fun g3 => ?_) (fun g3 => ?_)
      · refine w_t (np := 76) (l2 := [some (eR 98), some (eI (0)), some (eI (p)), some (eI (q)), some (eI (r)), some (eI (s)), some (eI (u0)), some (eI (u1)), some (eI (u2))]) (s2 := [eI (1)]) rfl rfl rfl ?_
        refine w_go (t1 := 80) rfl rfl ?_
        refine b_rz rfl rfl (Or.inr rfl) ?_
        exact k1 (by omega)
      · refine w_t (np := 62) (l2 := [some (eR 98), some (eI (0)), some (eI (p)), some (eI (q)), some (eI (r)), some (eI (s)), some (eI (u0)), some (eI (u1)), some (eI (u2))]) (s2 := [eI (u0)]) rfl rfl rfl ?_
        refine b_igt (t1 := 79) (t2 := 65) rfl rfl rfl (ev_w_in (by omega) (by omega)) (fun g4 => ?_) (fun g4 => ?_)
        · refine w_t (np := 80) (l2 := [some (eR 98), some (eI (0)), some (eI (p)), some (eI (q)), some (eI (r)), some (eI (s)), some (eI (u0)), some (eI (u1)), some (eI (u2))]) (s2 := [eI (0)]) rfl rfl rfl ?_
          refine b_rz rfl rfl (Or.inl rfl) ?_
          exact k0 (by omega)
        · refine w_t (np := 67) (l2 := [some (eR 98), some (eI (0)), some (eI (p)), some (eI (q)), some (eI (r)), some (eI (s)), some (eI (u0)), some (eI (u1)), some (eI (u2))]) (s2 := [eI (u1)]) rfl rfl rfl ?_
          refine b_igt (t1 := 79) (t2 := 70) rfl rfl rfl (ev_w_in (by omega) (by omega)) (fun g5 => ?_) (fun g5 => ?_)
          · refine w_t (np := 80) (l2 := [some (eR 98), some (eI (0)), some (eI (p)), some (eI (q)), some (eI (r)), some (eI (s)), some (eI (u0)), some (eI (u1)), some (eI (u2))]) (s2 := [eI (0)]) rfl rfl rfl ?_
            refine b_rz rfl rfl (Or.inl rfl) ?_
            exact k0 (by omega)
          · refine w_t (np := 72) (l2 := [some (eR 98), some (eI (0)), some (eI (p)), some (eI (q)), some (eI (r)), some (eI (s)), some (eI (u0)), some (eI (u1)), some (eI (u2))]) (s2 := [eI (u2)]) rfl rfl rfl ?_
            refine b_igt (t1 := 79) (t2 := 75) rfl rfl rfl (ev_w_in (by omega) (by omega)) (fun g6 => ?_) (fun g6 => ?_)
            · refine w_t (np := 80) (l2 := [some (eR 98), some (eI (0)), some (eI (p)), some (eI (q)), some (eI (r)), some (eI (s)), some (eI (u0)), some (eI (u1)), some (eI (u2))]) (s2 := [eI (0)]) rfl rfl rfl ?_
              refine b_rz rfl rfl (Or.inl rfl) ?_
              exact k0 (by omega)
            · refine w_t (np := 76) (l2 := [some (eR 98), some (eI (0)), some (eI (p)), some (eI (q)), some (eI (r)), some (eI (s)), some (eI (u0)), some (eI (u1)), some (eI (u2))]) (s2 := [eI (1)]) rfl rfl rfl ?_
              refine w_go (t1 := 80) rfl rfl ?_
              refine b_rz rfl rfl (Or.inr rfl) ?_
              exact k1 (by omega)
theorem t266_1 {fg : eG} {rc rs d : Nat} {f : eFr} {F : List eFr} {μ : eM} {p q r s : Int} (hq : tQ μ) (hp : -9999 ≤ p ∧ p ≤ 9999) (hq0 : -9999 ≤ q ∧ q ≤ 9999) (hr : -9999 ≤ r ∧ r ≤ 9999) (hs : -9999 ≤ s ∧ s ≤ 9999) (K1 : ∀ μ2 : eM, tS μ μ2 → (((0 ≤ (-832040) * p + 832040 * r + 1346269 * s) ∧ (0 ≤ (-514229) * p + (-832040) * q + (-832040) * r + (-514229) * s + (832040)) ∧ (0 ≤ 1346269 * p + 832040 * q + (-832040) * s)) ∨ (((-832040) * p + 832040 * r + 1346269 * s ≤ 0) ∧ ((-514229) * p + (-832040) * q + (-832040) * r + (-514229) * s + (832040) ≤ 0) ∧ (1346269 * p + 832040 * q + (-832040) * s ≤ 0))) → ex_fine fg rc rs (d + 6, (f.1, f.2.1, f.2.2.1, eI 1 :: f.2.2.2), F, μ2)) (K0 : ∀ μ2 : eM, tS μ μ2 → ¬ (((0 ≤ (-832040) * p + 832040 * r + 1346269 * s) ∧ (0 ≤ (-514229) * p + (-832040) * q + (-832040) * r + (-514229) * s + (832040)) ∧ (0 ≤ 1346269 * p + 832040 * q + (-832040) * s)) ∨ (((-832040) * p + 832040 * r + 1346269 * s ≤ 0) ∧ ((-514229) * p + (-832040) * q + (-832040) * r + (-514229) * s + (832040) ≤ 0) ∧ (1346269 * p + 832040 * q + (-832040) * s ≤ 0))) → ex_fine fg rc rs (d + 6, (f.1, f.2.1, f.2.2.1, eI 0 :: f.2.2.2), F, μ2)) : ex_fine fg rc rs (d + 5, (266, 0, [some (eR 98), some (eI (1)), some (eI (p)), some (eI (q)), some (eI (r)), some (eI (s)), none, none, none], []), f :: F, μ) := by
  refine w_t (np := 1) (l2 := [some (eR 98), some (eI (1)), some (eI (p)), some (eI (q)), some (eI (r)), some (eI (s)), none, none, none]) (s2 := [eR 98]) rfl (s_an rfl (by decide)) rfl ?_
  refine w_t (np := 2) (l2 := [some (eR 98), some (eI (1)), some (eI (p)), some (eI (q)), some (eI (r)), some (eI (s)), none, none, none]) (s2 := [eI (1), eR 98]) rfl rfl rfl ?_
  refine w_t (np := 3) (l2 := [some (eR 98), some (eI (1)), some (eI (p)), some (eI (q)), some (eI (r)), some (eI (s)), none, none, none]) (s2 := [eI (0), eI (1), eR 98]) rfl rfl rfl ?_
  refine w_t (np := 4) (l2 := [some (eR 98), some (eI (1)), some (eI (p)), some (eI (q)), some (eI (r)), some (eI (s)), none, none, none]) (s2 := [eI (1), eI (0), eI (1), eR 98]) rfl rfl rfl ?_
  refine w_t (np := 5) (l2 := [some (eR 98), some (eI (1)), some (eI (p)), some (eI (q)), some (eI (r)), some (eI (s)), none, none, none]) (s2 := [eI (p), eI (1), eI (0), eI (1), eR 98]) rfl rfl rfl ?_
  refine w_t (np := 6) (l2 := [some (eR 98), some (eI (1)), some (eI (p)), some (eI (q)), some (eI (r)), some (eI (s)), none, none, none]) (s2 := [eI (q), eI (p), eI (1), eI (0), eI (1), eR 98]) rfl rfl rfl ?_
  refine w_t (np := 8) (l2 := [some (eR 98), some (eI (1)), some (eI (p)), some (eI (q)), some (eI (r)), some (eI (s)), none, none, none]) (s2 := [eI (r), eI (q), eI (p), eI (1), eI (0), eI (1), eR 98]) rfl rfl rfl ?_
  refine w_t (np := 10) (l2 := [some (eR 98), some (eI (1)), some (eI (p)), some (eI (q)), some (eI (r)), some (eI (s)), none, none, none]) (s2 := [eI (s), eI (r), eI (q), eI (p), eI (1), eI (0), eI (1), eR 98]) rfl rfl rfl ?_
  refine w_cw (np := 13) (as := [eI (1), eI (0), eI (1), eI (p), eI (q), eI (r), eI (s)]) (l2 := [some (eR 98), some (eI (1)), some (eI (0)), some (eI (1)), some (eI (p)), some (eI (q)), some (eI (r)), some (eI (s)), none, none]) (rest := []) rfl rfl rfl (Nat.ble_eq.mp rfl) rfl rfl rfl hq.1 rfl ?_
  refine t265_1_0 hq hp hq0 hr hs ?_
  intro m0 u0 s0 e0 w0
  have q0 := tQ_s hq s0
  have b0 : -1 ≤ u0 ∧ u0 ≤ 1 := by omega
  show ex_fine fg rc rs (d + 5, (266, 13, [some (eR 98), some (eI (1)), some (eI (p)), some (eI (q)), some (eI (r)), some (eI (s)), none, none, none], [eI (u0)]), f :: F, m0)
  refine w_t (np := 15) (l2 := [some (eR 98), some (eI (1)), some (eI (p)), some (eI (q)), some (eI (r)), some (eI (s)), some (eI (u0)), none, none]) (s2 := []) rfl rfl rfl ?_
  refine w_t (np := 16) (l2 := [some (eR 98), some (eI (1)), some (eI (p)), some (eI (q)), some (eI (r)), some (eI (s)), some (eI (u0)), none, none]) (s2 := [eR 98]) rfl (s_an rfl (by decide)) rfl ?_
  refine w_t (np := 17) (l2 := [some (eR 98), some (eI (1)), some (eI (p)), some (eI (q)), some (eI (r)), some (eI (s)), some (eI (u0)), none, none]) (s2 := [eI (1), eR 98]) rfl rfl rfl ?_
  refine w_t (np := 18) (l2 := [some (eR 98), some (eI (1)), some (eI (p)), some (eI (q)), some (eI (r)), some (eI (s)), some (eI (u0)), none, none]) (s2 := [eI (1), eI (1), eR 98]) rfl rfl rfl ?_
  refine w_t (np := 19) (l2 := [some (eR 98), some (eI (1)), some (eI (p)), some (eI (q)), some (eI (r)), some (eI (s)), some (eI (u0)), none, none]) (s2 := [eI (2), eI (1), eI (1), eR 98]) rfl rfl rfl ?_
  refine w_t (np := 20) (l2 := [some (eR 98), some (eI (1)), some (eI (p)), some (eI (q)), some (eI (r)), some (eI (s)), some (eI (u0)), none, none]) (s2 := [eI (p), eI (2), eI (1), eI (1), eR 98]) rfl rfl rfl ?_
  refine w_t (np := 21) (l2 := [some (eR 98), some (eI (1)), some (eI (p)), some (eI (q)), some (eI (r)), some (eI (s)), some (eI (u0)), none, none]) (s2 := [eI (q), eI (p), eI (2), eI (1), eI (1), eR 98]) rfl rfl rfl ?_
  refine w_t (np := 23) (l2 := [some (eR 98), some (eI (1)), some (eI (p)), some (eI (q)), some (eI (r)), some (eI (s)), some (eI (u0)), none, none]) (s2 := [eI (r), eI (q), eI (p), eI (2), eI (1), eI (1), eR 98]) rfl rfl rfl ?_
  refine w_t (np := 25) (l2 := [some (eR 98), some (eI (1)), some (eI (p)), some (eI (q)), some (eI (r)), some (eI (s)), some (eI (u0)), none, none]) (s2 := [eI (s), eI (r), eI (q), eI (p), eI (2), eI (1), eI (1), eR 98]) rfl rfl rfl ?_
  refine w_cw (np := 28) (as := [eI (1), eI (1), eI (2), eI (p), eI (q), eI (r), eI (s)]) (l2 := [some (eR 98), some (eI (1)), some (eI (1)), some (eI (2)), some (eI (p)), some (eI (q)), some (eI (r)), some (eI (s)), none, none]) (rest := []) rfl rfl rfl (Nat.ble_eq.mp rfl) rfl rfl rfl q0.1 rfl ?_
  refine t265_1_1 q0 hp hq0 hr hs ?_
  intro m1 u1 s1 e1 w1
  have q1 := tQ_s q0 s1
  have b1 : -1 ≤ u1 ∧ u1 ≤ 1 := by omega
  show ex_fine fg rc rs (d + 5, (266, 28, [some (eR 98), some (eI (1)), some (eI (p)), some (eI (q)), some (eI (r)), some (eI (s)), some (eI (u0)), none, none], [eI (u1)]), f :: F, m1)
  refine w_t (np := 30) (l2 := [some (eR 98), some (eI (1)), some (eI (p)), some (eI (q)), some (eI (r)), some (eI (s)), some (eI (u0)), some (eI (u1)), none]) (s2 := []) rfl rfl rfl ?_
  refine w_t (np := 31) (l2 := [some (eR 98), some (eI (1)), some (eI (p)), some (eI (q)), some (eI (r)), some (eI (s)), some (eI (u0)), some (eI (u1)), none]) (s2 := [eR 98]) rfl (s_an rfl (by decide)) rfl ?_
  refine w_t (np := 32) (l2 := [some (eR 98), some (eI (1)), some (eI (p)), some (eI (q)), some (eI (r)), some (eI (s)), some (eI (u0)), some (eI (u1)), none]) (s2 := [eI (1), eR 98]) rfl rfl rfl ?_
  refine w_t (np := 33) (l2 := [some (eR 98), some (eI (1)), some (eI (p)), some (eI (q)), some (eI (r)), some (eI (s)), some (eI (u0)), some (eI (u1)), none]) (s2 := [eI (2), eI (1), eR 98]) rfl rfl rfl ?_
  refine w_t (np := 34) (l2 := [some (eR 98), some (eI (1)), some (eI (p)), some (eI (q)), some (eI (r)), some (eI (s)), some (eI (u0)), some (eI (u1)), none]) (s2 := [eI (0), eI (2), eI (1), eR 98]) rfl rfl rfl ?_
  refine w_t (np := 35) (l2 := [some (eR 98), some (eI (1)), some (eI (p)), some (eI (q)), some (eI (r)), some (eI (s)), some (eI (u0)), some (eI (u1)), none]) (s2 := [eI (p), eI (0), eI (2), eI (1), eR 98]) rfl rfl rfl ?_
  refine w_t (np := 36) (l2 := [some (eR 98), some (eI (1)), some (eI (p)), some (eI (q)), some (eI (r)), some (eI (s)), some (eI (u0)), some (eI (u1)), none]) (s2 := [eI (q), eI (p), eI (0), eI (2), eI (1), eR 98]) rfl rfl rfl ?_
  refine w_t (np := 38) (l2 := [some (eR 98), some (eI (1)), some (eI (p)), some (eI (q)), some (eI (r)), some (eI (s)), some (eI (u0)), some (eI (u1)), none]) (s2 := [eI (r), eI (q), eI (p), eI (0), eI (2), eI (1), eR 98]) rfl rfl rfl ?_
  refine w_t (np := 40) (l2 := [some (eR 98), some (eI (1)), some (eI (p)), some (eI (q)), some (eI (r)), some (eI (s)), some (eI (u0)), some (eI (u1)), none]) (s2 := [eI (s), eI (r), eI (q), eI (p), eI (0), eI (2), eI (1), eR 98]) rfl rfl rfl ?_
  refine w_cw (np := 43) (as := [eI (1), eI (2), eI (0), eI (p), eI (q), eI (r), eI (s)]) (l2 := [some (eR 98), some (eI (1)), some (eI (2)), some (eI (0)), some (eI (p)), some (eI (q)), some (eI (r)), some (eI (s)), none, none]) (rest := []) rfl rfl rfl (Nat.ble_eq.mp rfl) rfl rfl rfl q1.1 rfl ?_
  refine t265_1_2 q1 hp hq0 hr hs ?_
  intro m2 u2 s2 e2 w2
  have q2 := tQ_s q1 s2
  have b2 : -1 ≤ u2 ∧ u2 ≤ 1 := by omega
  show ex_fine fg rc rs (d + 5, (266, 43, [some (eR 98), some (eI (1)), some (eI (p)), some (eI (q)), some (eI (r)), some (eI (s)), some (eI (u0)), some (eI (u1)), none], [eI (u2)]), f :: F, m2)
  have kc := in3 e0 e1 e2
  have k1 := fun (z : ((0 ≤ u0 ∧ 0 ≤ u1 ∧ 0 ≤ u2) ∨ (u0 ≤ 0 ∧ u1 ≤ 0 ∧ u2 ≤ 0))) => K1 m2 (tS_tr (tS_tr s0 s1) s2) (kc.mpr z)
  have k0 := fun (z : ¬ ((0 ≤ u0 ∧ 0 ≤ u1 ∧ 0 ≤ u2) ∨ (u0 ≤ 0 ∧ u1 ≤ 0 ∧ u2 ≤ 0))) => K0 m2 (tS_tr (tS_tr s0 s1) s2) (fun y => z (kc.mp y))
  clear K1 K0 kc e0 e1 e2 w0 w1 w2
  refine w_t (np := 45) (l2 := [some (eR 98), some (eI (1)), some (eI (p)), some (eI (q)), some (eI (r)), some (eI (s)), some (eI (u0)), some (eI (u1)), some (eI (u2))]) (s2 := []) rfl rfl rfl ?_
  refine w_t (np := 47) (l2 := [some (eR 98), some (eI (1)), some (eI (p)), some (eI (q)), some (eI (r)), some (eI (s)), some (eI (u0)), some (eI (u1)), some (eI (u2))]) (s2 := [eI (u0)]) rfl rfl rfl ?_
  refine b_ilt (t1 := 60) (t2 := 50) rfl rfl rfl (ev_w_in (by omega) (by omega)) (fun g1 => ?_) (fun g1 => ?_)
  · refine w_t (np := 62) (l2 := [some (eR 98), some (eI (1)), some (eI (p)), some (eI (q)), some (eI (r)), some (eI (s)), some (eI (u0)), some (eI (u1)), some (eI (u2))]) (s2 := [eI (u0)]) rfl rfl rfl ?_
    refine b_igt (t1 := 79) (t2 := 65) rfl rfl rfl (ev_w_in (by omega) (by omega)) (fun g2 => ?_) (fun g2 => ?_)
    · refine w_t (np := 80) (l2 := [some (eR 98), some (eI (1)), some (eI (p)), some (eI (q)), some (eI (r)), some (eI (s)), some (eI (u0)), some (eI (u1)), some (eI (u2))]) (s2 := [eI (0)]) rfl rfl rfl ?_
      refine b_rz rfl rfl (Or.inl rfl) ?_
      exact k0 (by omega)
    · refine w_t (np := 67) (l2 := [some (eR 98), some (eI (1)), some (eI (p)), some (eI (q)), some (eI (r)), some (eI (s)), some (eI (u0)), some (eI (u1)), some (eI (u2))]) (s2 := [eI (u1)]) rfl rfl rfl ?_
      refine b_igt (t1 := 79) (t2 := 70) rfl rfl rfl (ev_w_in (by omega) (by omega)) (fun g3 => ?_) (fun g3 => ?_)
      · refine w_t (np := 80) (l2 := [some (eR 98), some (eI (1)), some (eI (p)), some (eI (q)), some (eI (r)), some (eI (s)), some (eI (u0)), some (eI (u1)), some (eI (u2))]) (s2 := [eI (0)]) rfl rfl rfl ?_
        refine b_rz rfl rfl (Or.inl rfl) ?_
        exact k0 (by omega)
      · refine w_t (np := 72) (l2 := [some (eR 98), some (eI (1)), some (eI (p)), some (eI (q)), some (eI (r)), some (eI (s)), some (eI (u0)), some (eI (u1)), some (eI (u2))]) (s2 := [eI (u2)]) rfl rfl rfl ?_
        refine b_igt (t1 := 79) (t2 := 75) rfl rfl rfl (ev_w_in (by omega) (by omega)) (fun g4 => ?_) (fun g4 => ?_)
        · refine w_t (np := 80) (l2 := [some (eR 98), some (eI (1)), some (eI (p)), some (eI (q)), some (eI (r)), some (eI (s)), some (eI (u0)), some (eI (u1)), some (eI (u2))]) (s2 := [eI (0)]) rfl rfl rfl ?_
          refine b_rz rfl rfl (Or.inl rfl) ?_
          exact k0 (by omega)
        · refine w_t (np := 76) (l2 := [some (eR 98), some (eI (1)), some (eI (p)), some (eI (q)), some (eI (r)), some (eI (s)), some (eI (u0)), some (eI (u1)), some (eI (u2))]) (s2 := [eI (1)]) rfl rfl rfl ?_
          refine w_go (t1 := 80) rfl rfl ?_
          refine b_rz rfl rfl (Or.inr rfl) ?_
          exact k1 (by omega)
  · refine w_t (np := 52) (l2 := [some (eR 98), some (eI (1)), some (eI (p)), some (eI (q)), some (eI (r)), some (eI (s)), some (eI (u0)), some (eI (u1)), some (eI (u2))]) (s2 := [eI (u1)]) rfl rfl rfl ?_
    refine b_ilt (t1 := 60) (t2 := 55) rfl rfl rfl (ev_w_in (by omega) (by omega)) (fun g2 => ?_) (fun g2 => ?_)
    · refine w_t (np := 62) (l2 := [some (eR 98), some (eI (1)), some (eI (p)), some (eI (q)), some (eI (r)), some (eI (s)), some (eI (u0)), some (eI (u1)), some (eI (u2))]) (s2 := [eI (u0)]) rfl rfl rfl ?_
      refine b_igt (t1 := 79) (t2 := 65) rfl rfl rfl (ev_w_in (by omega) (by omega)) (fun g3 => ?_) (fun g3 => ?_)
      · refine w_t (np := 80) (l2 := [some (eR 98), some (eI (1)), some (eI (p)), some (eI (q)), some (eI (r)), some (eI (s)), some (eI (u0)), some (eI (u1)), some (eI (u2))]) (s2 := [eI (0)]) rfl rfl rfl ?_
        refine b_rz rfl rfl (Or.inl rfl) ?_
        exact k0 (by omega)
      · refine w_t (np := 67) (l2 := [some (eR 98), some (eI (1)), some (eI (p)), some (eI (q)), some (eI (r)), some (eI (s)), some (eI (u0)), some (eI (u1)), some (eI (u2))]) (s2 := [eI (u1)]) rfl rfl rfl ?_
        refine b_igt (t1 := 79) (t2 := 70) rfl rfl rfl (ev_w_in (by omega) (by omega)) (fun g4 => ?_) (fun g4 => ?_)
        · refine w_t (np := 80) (l2 := [some (eR 98), some (eI (1)), some (eI (p)), some (eI (q)), some (eI (r)), some (eI (s)), some (eI (u0)), some (eI (u1)), some (eI (u2))]) (s2 := [eI (0)]) rfl rfl rfl ?_
          refine b_rz rfl rfl (Or.inl rfl) ?_
          exact k0 (by omega)
        · refine w_t (np := 72) (l2 := [some (eR 98), some (eI (1)), some (eI (p)), some (eI (q)), some (eI (r)), some (eI (s)), some (eI (u0)), some (eI (u1)), some (eI (u2))]) (s2 := [eI (u2)]) rfl rfl rfl ?_
          refine b_igt (t1 := 79) (t2 := 75) rfl rfl rfl (ev_w_in (by omega) (by omega)) (fun g5 => ?_) (fun g5 => ?_)
          · refine w_t (np := 80) (l2 := [some (eR 98), some (eI (1)), some (eI (p)), some (eI (q)), some (eI (r)), some (eI (s)), some (eI (u0)), some (eI (u1)), some (eI (u2))]) (s2 := [eI (0)]) rfl rfl rfl ?_
            refine b_rz rfl rfl (Or.inl rfl) ?_
            exact k0 (by omega)
          · refine w_t (np := 76) (l2 := [some (eR 98), some (eI (1)), some (eI (p)), some (eI (q)), some (eI (r)), some (eI (s)), some (eI (u0)), some (eI (u1)), some (eI (u2))]) (s2 := [eI (1)]) rfl rfl rfl ?_
            refine w_go (t1 := 80) rfl rfl ?_
            refine b_rz rfl rfl (Or.inr rfl) ?_
            exact k1 (by omega)
    · refine w_t (np := 57) (l2 := [some (eR 98), some (eI (1)), some (eI (p)), some (eI (q)), some (eI (r)), some (eI (s)), some (eI (u0)), some (eI (u1)), some (eI (u2))]) (s2 := [eI (u2)]) rfl rfl rfl ?_
      refine b_ige (t1 := 75) (t2 := 60) rfl rfl rfl (ev_w_in (by omega) (by omega)) (fun g3 => ?_) (fun g3 => ?_)
      · refine w_t (np := 76) (l2 := [some (eR 98), some (eI (1)), some (eI (p)), some (eI (q)), some (eI (r)), some (eI (s)), some (eI (u0)), some (eI (u1)), some (eI (u2))]) (s2 := [eI (1)]) rfl rfl rfl ?_
        refine w_go (t1 := 80) rfl rfl ?_
        refine b_rz rfl rfl (Or.inr rfl) ?_
        exact k1 (by omega)
      · refine w_t (np := 62) (l2 := [some (eR 98), some (eI (1)), some (eI (p)), some (eI (q)), some (eI (r)), some (eI (s)), some (eI (u0)), some (eI (u1)), some (eI (u2))]) (s2 := [eI (u0)]) rfl rfl rfl ?_
        refine b_igt (t1 := 79) (t2 := 65) rfl rfl rfl (ev_w_in (by omega) (by omega)) (fun g4 => ?_) (fun g4 => ?_)
        · refine w_t (np := 80) (l2 := [some (eR 98), some (eI (1)), some (eI (p)), some (eI (q)), some (eI (r)), some (eI (s)), some (eI (u0)), some (eI (u1)), some (eI (u2))]) (s2 := [eI (0)]) rfl rfl rfl ?_
          refine b_rz rfl rfl (Or.inl rfl) ?_
          exact k0 (by omega)
        · refine w_t (np := 67) (l2 := [some (eR 98), some (eI (1)), some (eI (p)), some (eI (q)), some (eI (r)), some (eI (s)), some (eI (u0)), some (eI (u1)), some (eI (u2))]) (s2 := [eI (u1)]) rfl rfl rfl ?_
          refine b_igt (t1 := 79) (t2 := 70) rfl rfl rfl (ev_w_in (by omega) (by omega)) (fun g5 => ?_) (fun g5 => ?_)
          · refine w_t (np := 80) (l2 := [some (eR 98), some (eI (1)), some (eI (p)), some (eI (q)), some (eI (r)), some (eI (s)), some (eI (u0)), some (eI (u1)), some (eI (u2))]) (s2 := [eI (0)]) rfl rfl rfl ?_
            refine b_rz rfl rfl (Or.inl rfl) ?_
            exact k0 (by omega)
          · refine w_t (np := 72) (l2 := [some (eR 98), some (eI (1)), some (eI (p)), some (eI (q)), some (eI (r)), some (eI (s)), some (eI (u0)), some (eI (u1)), some (eI (u2))]) (s2 := [eI (u2)]) rfl rfl rfl ?_
            refine b_igt (t1 := 79) (t2 := 75) rfl rfl rfl (ev_w_in (by omega) (by omega)) (fun g6 => ?_) (fun g6 => ?_)
            · refine w_t (np := 80) (l2 := [some (eR 98), some (eI (1)), some (eI (p)), some (eI (q)), some (eI (r)), some (eI (s)), some (eI (u0)), some (eI (u1)), some (eI (u2))]) (s2 := [eI (0)]) rfl rfl rfl ?_
              refine b_rz rfl rfl (Or.inl rfl) ?_
              exact k0 (by omega)
            · refine w_t (np := 76) (l2 := [some (eR 98), some (eI (1)), some (eI (p)), some (eI (q)), some (eI (r)), some (eI (s)), some (eI (u0)), some (eI (u1)), some (eI (u2))]) (s2 := [eI (1)]) rfl rfl rfl ?_
              refine w_go (t1 := 80) rfl rfl ?_
              refine b_rz rfl rfl (Or.inr rfl) ?_
              exact k1 (by omega)
theorem t266_2 {fg : eG} {rc rs d : Nat} {f : eFr} {F : List eFr} {μ : eM} {p q r s : Int} (hq : tQ μ) (hp : -9999 ≤ p ∧ p ≤ 9999) (hq0 : -9999 ≤ q ∧ q ≤ 9999) (hr : -9999 ≤ r ∧ r ≤ 9999) (hs : -9999 ≤ s ∧ s ≤ 9999) (K1 : ∀ μ2 : eM, tS μ μ2 → (((0 ≤ (-1346269) * p + (-1346269) * q + (-832040) * r) ∧ (0 ≤ 514229 * q + 832040 * r + 832040 * s + (-832040)) ∧ (0 ≤ 1346269 * p + 832040 * q + (-832040) * s)) ∨ (((-1346269) * p + (-1346269) * q + (-832040) * r ≤ 0) ∧ (514229 * q + 832040 * r + 832040 * s + (-832040) ≤ 0) ∧ (1346269 * p + 832040 * q + (-832040) * s ≤ 0))) → ex_fine fg rc rs (d + 6, (f.1, f.2.1, f.2.2.1, eI 1 :: f.2.2.2), F, μ2)) (K0 : ∀ μ2 : eM, tS μ μ2 → ¬ (((0 ≤ (-1346269) * p + (-1346269) * q + (-832040) * r) ∧ (0 ≤ 514229 * q + 832040 * r + 832040 * s + (-832040)) ∧ (0 ≤ 1346269 * p + 832040 * q + (-832040) * s)) ∨ (((-1346269) * p + (-1346269) * q + (-832040) * r ≤ 0) ∧ (514229 * q + 832040 * r + 832040 * s + (-832040) ≤ 0) ∧ (1346269 * p + 832040 * q + (-832040) * s ≤ 0))) → ex_fine fg rc rs (d + 6, (f.1, f.2.1, f.2.2.1, eI 0 :: f.2.2.2), F, μ2)) : ex_fine fg rc rs (d + 5, (266, 0, [some (eR 98), some (eI (2)), some (eI (p)), some (eI (q)), some (eI (r)), some (eI (s)), none, none, none], []), f :: F, μ) := by
  refine w_t (np := 1) (l2 := [some (eR 98), some (eI (2)), some (eI (p)), some (eI (q)), some (eI (r)), some (eI (s)), none, none, none]) (s2 := [eR 98]) rfl (s_an rfl (by decide)) rfl ?_
  refine w_t (np := 2) (l2 := [some (eR 98), some (eI (2)), some (eI (p)), some (eI (q)), some (eI (r)), some (eI (s)), none, none, none]) (s2 := [eI (2), eR 98]) rfl rfl rfl ?_
  refine w_t (np := 3) (l2 := [some (eR 98), some (eI (2)), some (eI (p)), some (eI (q)), some (eI (r)), some (eI (s)), none, none, none]) (s2 := [eI (0), eI (2), eR 98]) rfl rfl rfl ?_
  refine w_t (np := 4) (l2 := [some (eR 98), some (eI (2)), some (eI (p)), some (eI (q)), some (eI (r)), some (eI (s)), none, none, none]) (s2 := [eI (1), eI (0), eI (2), eR 98]) rfl rfl rfl ?_
  refine w_t (np := 5) (l2 := [some (eR 98), some (eI (2)), some (eI (p)), some (eI (q)), some (eI (r)), some (eI (s)), none, none, none]) (s2 := [eI (p), eI (1), eI (0), eI (2), eR 98]) rfl rfl rfl ?_
  refine w_t (np := 6) (l2 := [some (eR 98), some (eI (2)), some (eI (p)), some (eI (q)), some (eI (r)), some (eI (s)), none, none, none]) (s2 := [eI (q), eI (p), eI (1), eI (0), eI (2), eR 98]) rfl rfl rfl ?_
  refine w_t (np := 8) (l2 := [some (eR 98), some (eI (2)), some (eI (p)), some (eI (q)), some (eI (r)), some (eI (s)), none, none, none]) (s2 := [eI (r), eI (q), eI (p), eI (1), eI (0), eI (2), eR 98]) rfl rfl rfl ?_
  refine w_t (np := 10) (l2 := [some (eR 98), some (eI (2)), some (eI (p)), some (eI (q)), some (eI (r)), some (eI (s)), none, none, none]) (s2 := [eI (s), eI (r), eI (q), eI (p), eI (1), eI (0), eI (2), eR 98]) rfl rfl rfl ?_
  refine w_cw (np := 13) (as := [eI (2), eI (0), eI (1), eI (p), eI (q), eI (r), eI (s)]) (l2 := [some (eR 98), some (eI (2)), some (eI (0)), some (eI (1)), some (eI (p)), some (eI (q)), some (eI (r)), some (eI (s)), none, none]) (rest := []) rfl rfl rfl (Nat.ble_eq.mp rfl) rfl rfl rfl hq.1 rfl ?_
  refine t265_2_0 hq hp hq0 hr hs ?_
  intro m0 u0 s0 e0 w0
  have q0 := tQ_s hq s0
  have b0 : -1 ≤ u0 ∧ u0 ≤ 1 := by omega
  show ex_fine fg rc rs (d + 5, (266, 13, [some (eR 98), some (eI (2)), some (eI (p)), some (eI (q)), some (eI (r)), some (eI (s)), none, none, none], [eI (u0)]), f :: F, m0)
  refine w_t (np := 15) (l2 := [some (eR 98), some (eI (2)), some (eI (p)), some (eI (q)), some (eI (r)), some (eI (s)), some (eI (u0)), none, none]) (s2 := []) rfl rfl rfl ?_
  refine w_t (np := 16) (l2 := [some (eR 98), some (eI (2)), some (eI (p)), some (eI (q)), some (eI (r)), some (eI (s)), some (eI (u0)), none, none]) (s2 := [eR 98]) rfl (s_an rfl (by decide)) rfl ?_
  refine w_t (np := 17) (l2 := [some (eR 98), some (eI (2)), some (eI (p)), some (eI (q)), some (eI (r)), some (eI (s)), some (eI (u0)), none, none]) (s2 := [eI (2), eR 98]) rfl rfl rfl ?_
  refine w_t (np := 18) (l2 := [some (eR 98), some (eI (2)), some (eI (p)), some (eI (q)), some (eI (r)), some (eI (s)), some (eI (u0)), none, none]) (s2 := [eI (1), eI (2), eR 98]) rfl rfl rfl ?_
  refine w_t (np := 19) (l2 := [some (eR 98), some (eI (2)), some (eI (p)), some (eI (q)), some (eI (r)), some (eI (s)), some (eI (u0)), none, none]) (s2 := [eI (2), eI (1), eI (2), eR 98]) rfl rfl rfl ?_
  refine w_t (np := 20) (l2 := [some (eR 98), some (eI (2)), some (eI (p)), some (eI (q)), some (eI (r)), some (eI (s)), some (eI (u0)), none, none]) (s2 := [eI (p), eI (2), eI (1), eI (2), eR 98]) rfl rfl rfl ?_
  refine w_t (np := 21) (l2 := [some (eR 98), some (eI (2)), some (eI (p)), some (eI (q)), some (eI (r)), some (eI (s)), some (eI (u0)), none, none]) (s2 := [eI (q), eI (p), eI (2), eI (1), eI (2), eR 98]) rfl rfl rfl ?_
  refine w_t (np := 23) (l2 := [some (eR 98), some (eI (2)), some (eI (p)), some (eI (q)), some (eI (r)), some (eI (s)), some (eI (u0)), none, none]) (s2 := [eI (r), eI (q), eI (p), eI (2), eI (1), eI (2), eR 98]) rfl rfl rfl ?_
  refine w_t (np := 25) (l2 := [some (eR 98), some (eI (2)), some (eI (p)), some (eI (q)), some (eI (r)), some (eI (s)), some (eI (u0)), none, none]) (s2 := [eI (s), eI (r), eI (q), eI (p), eI (2), eI (1), eI (2), eR 98]) rfl rfl rfl ?_
  refine w_cw (np := 28) (as := [eI (2), eI (1), eI (2), eI (p), eI (q), eI (r), eI (s)]) (l2 := [some (eR 98), some (eI (2)), some (eI (1)), some (eI (2)), some (eI (p)), some (eI (q)), some (eI (r)), some (eI (s)), none, none]) (rest := []) rfl rfl rfl (Nat.ble_eq.mp rfl) rfl rfl rfl q0.1 rfl ?_
  refine t265_2_1 q0 hp hq0 hr hs ?_
  intro m1 u1 s1 e1 w1
  have q1 := tQ_s q0 s1
  have b1 : -1 ≤ u1 ∧ u1 ≤ 1 := by omega
  show ex_fine fg rc rs (d + 5, (266, 28, [some (eR 98), some (eI (2)), some (eI (p)), some (eI (q)), some (eI (r)), some (eI (s)), some (eI (u0)), none, none], [eI (u1)]), f :: F, m1)
  refine w_t (np := 30) (l2 := [some (eR 98), some (eI (2)), some (eI (p)), some (eI (q)), some (eI (r)), some (eI (s)), some (eI (u0)), some (eI (u1)), none]) (s2 := []) rfl rfl rfl ?_
  refine w_t (np := 31) (l2 := [some (eR 98), some (eI (2)), some (eI (p)), some (eI (q)), some (eI (r)), some (eI (s)), some (eI (u0)), some (eI (u1)), none]) (s2 := [eR 98]) rfl (s_an rfl (by decide)) rfl ?_
  refine w_t (np := 32) (l2 := [some (eR 98), some (eI (2)), some (eI (p)), some (eI (q)), some (eI (r)), some (eI (s)), some (eI (u0)), some (eI (u1)), none]) (s2 := [eI (2), eR 98]) rfl rfl rfl ?_
  refine w_t (np := 33) (l2 := [some (eR 98), some (eI (2)), some (eI (p)), some (eI (q)), some (eI (r)), some (eI (s)), some (eI (u0)), some (eI (u1)), none]) (s2 := [eI (2), eI (2), eR 98]) rfl rfl rfl ?_
  refine w_t (np := 34) (l2 := [some (eR 98), some (eI (2)), some (eI (p)), some (eI (q)), some (eI (r)), some (eI (s)), some (eI (u0)), some (eI (u1)), none]) (s2 := [eI (0), eI (2), eI (2), eR 98]) rfl rfl rfl ?_
  refine w_t (np := 35) (l2 := [some (eR 98), some (eI (2)), some (eI (p)), some (eI (q)), some (eI (r)), some (eI (s)), some (eI (u0)), some (eI (u1)), none]) (s2 := [eI (p), eI (0), eI (2), eI (2), eR 98]) rfl rfl rfl ?_
  refine w_t (np := 36) (l2 := [some (eR 98), some (eI (2)), some (eI (p)), some (eI (q)), some (eI (r)), some (eI (s)), some (eI (u0)), some (eI (u1)), none]) (s2 := [eI (q), eI (p), eI (0), eI (2), eI (2), eR 98]) rfl rfl rfl ?_
  refine w_t (np := 38) (l2 := [some (eR 98), some (eI (2)), some (eI (p)), some (eI (q)), some (eI (r)), some (eI (s)), some (eI (u0)), some (eI (u1)), none]) (s2 := [eI (r), eI (q), eI (p), eI (0), eI (2), eI (2), eR 98]) rfl rfl rfl ?_
  refine w_t (np := 40) (l2 := [some (eR 98), some (eI (2)), some (eI (p)), some (eI (q)), some (eI (r)), some (eI (s)), some (eI (u0)), some (eI (u1)), none]) (s2 := [eI (s), eI (r), eI (q), eI (p), eI (0), eI (2), eI (2), eR 98]) rfl rfl rfl ?_
  refine w_cw (np := 43) (as := [eI (2), eI (2), eI (0), eI (p), eI (q), eI (r), eI (s)]) (l2 := [some (eR 98), some (eI (2)), some (eI (2)), some (eI (0)), some (eI (p)), some (eI (q)), some (eI (r)), some (eI (s)), none, none]) (rest := []) rfl rfl rfl (Nat.ble_eq.mp rfl) rfl rfl rfl q1.1 rfl ?_
  refine t265_2_2 q1 hp hq0 hr hs ?_
  intro m2 u2 s2 e2 w2
  have q2 := tQ_s q1 s2
  have b2 : -1 ≤ u2 ∧ u2 ≤ 1 := by omega
  show ex_fine fg rc rs (d + 5, (266, 43, [some (eR 98), some (eI (2)), some (eI (p)), some (eI (q)), some (eI (r)), some (eI (s)), some (eI (u0)), some (eI (u1)), none], [eI (u2)]), f :: F, m2)
  have kc := in3 e0 e1 e2
  have k1 := fun (z : ((0 ≤ u0 ∧ 0 ≤ u1 ∧ 0 ≤ u2) ∨ (u0 ≤ 0 ∧ u1 ≤ 0 ∧ u2 ≤ 0))) => K1 m2 (tS_tr (tS_tr s0 s1) s2) (kc.mpr z)
  have k0 := fun (z : ¬ ((0 ≤ u0 ∧ 0 ≤ u1 ∧ 0 ≤ u2) ∨ (u0 ≤ 0 ∧ u1 ≤ 0 ∧ u2 ≤ 0))) => K0 m2 (tS_tr (tS_tr s0 s1) s2) (fun y => z (kc.mp y))
  clear K1 K0 kc e0 e1 e2 w0 w1 w2
  refine w_t (np := 45) (l2 := [some (eR 98), some (eI (2)), some (eI (p)), some (eI (q)), some (eI (r)), some (eI (s)), some (eI (u0)), some (eI (u1)), some (eI (u2))]) (s2 := []) rfl rfl rfl ?_
  refine w_t (np := 47) (l2 := [some (eR 98), some (eI (2)), some (eI (p)), some (eI (q)), some (eI (r)), some (eI (s)), some (eI (u0)), some (eI (u1)), some (eI (u2))]) (s2 := [eI (u0)]) rfl rfl rfl ?_
  refine b_ilt (t1 := 60) (t2 := 50) rfl rfl rfl (ev_w_in (by omega) (by omega)) (fun g1 => ?_) (fun g1 => ?_)
  · refine w_t (np := 62) (l2 := [some (eR 98), some (eI (2)), some (eI (p)), some (eI (q)), some (eI (r)), some (eI (s)), some (eI (u0)), some (eI (u1)), some (eI (u2))]) (s2 := [eI (u0)]) rfl rfl rfl ?_
    refine b_igt (t1 := 79) (t2 := 65) rfl rfl rfl (ev_w_in (by omega) (by omega)) (fun g2 => ?_) (fun g2 => ?_)
    · refine w_t (np := 80) (l2 := [some (eR 98), some (eI (2)), some (eI (p)), some (eI (q)), some (eI (r)), some (eI (s)), some (eI (u0)), some (eI (u1)), some (eI (u2))]) (s2 := [eI (0)]) rfl rfl rfl ?_
      refine b_rz rfl rfl (Or.inl rfl) ?_
      exact k0 (by omega)
    · refine w_t (np := 67) (l2 := [some (eR 98), some (eI (2)), some (eI (p)), some (eI (q)), some (eI (r)), some (eI (s)), some (eI (u0)), some (eI (u1)), some (eI (u2))]) (s2 := [eI (u1)]) rfl rfl rfl ?_
      refine b_igt (t1 := 79) (t2 := 70) rfl rfl rfl (ev_w_in (by omega) (by omega)) (fun g3 => ?_) (fun g3 => ?_)
      · refine w_t (np := 80) (l2 := [some (eR 98), some (eI (2)), some (eI (p)), some (eI (q)), some (eI (r)), some (eI (s)), some (eI (u0)), some (eI (u1)), some (eI (u2))]) (s2 := [eI (0)]) rfl rfl rfl ?_
        refine b_rz rfl rfl (Or.inl rfl) ?_
        exact k0 (by omega)
      · refine w_t (np := 72) (l2 := [some (eR 98), some (eI (2)), some (eI (p)), some (eI (q)), some (eI (r)), some (eI (s)), some (eI (u0)), some (eI (u1)), some (eI (u2))]) (s2 := [eI (u2)]) rfl rfl rfl ?_
        refine b_igt (t1 := 79) (t2 := 75) rfl rfl rfl (ev_w_in (by omega) (by omega)) (fun g4 => ?_) (fun g4 => ?_)
        · refine w_t (np := 80) (l2 := [some (eR 98), some (eI (2)), some (eI (p)), some (eI (q)), some (eI (r)), some (eI (s)), some (eI (u0)), some (eI (u1)), some (eI (u2))]) (s2 := [eI (0)]) rfl rfl rfl ?_
          refine b_rz rfl rfl (Or.inl rfl) ?_
          exact k0 (by omega)
        · refine w_t (np := 76) (l2 := [some (eR 98), some (eI (2)), some (eI (p)), some (eI (q)), some (eI (r)), some (eI (s)), some (eI (u0)), some (eI (u1)), some (eI (u2))]) (s2 := [eI (1)]) rfl rfl rfl ?_
          refine w_go (t1 := 80) rfl rfl ?_
          refine b_rz rfl rfl (Or.inr rfl) ?_
          exact k1 (by omega)
  · refine w_t (np := 52) (l2 := [some (eR 98), some (eI (2)), some (eI (p)), some (eI (q)), some (eI (r)), some (eI (s)), some (eI (u0)), some (eI (u1)), some (eI (u2))]) (s2 := [eI (u1)]) rfl rfl rfl ?_
    refine b_ilt (t1 := 60) (t2 := 55) rfl rfl rfl (ev_w_in (by omega) (by omega)) (fun g2 => ?_) (fun g2 => ?_)
    · refine w_t (np := 62) (l2 := [some (eR 98), some (eI (2)), some (eI (p)), some (eI (q)), some (eI (r)), some (eI (s)), some (eI (u0)), some (eI (u1)), some (eI (u2))]) (s2 := [eI (u0)]) rfl rfl rfl ?_
      refine b_igt (t1 := 79) (t2 := 65) rfl rfl rfl (ev_w_in (by omega) (by omega)) (fun g3 => ?_) (fun g3 => ?_)
      · refine w_t (np := 80) (l2 := [some (eR 98), some (eI (2)), some (eI (p)), some (eI (q)), some (eI (r)), some (eI (s)), some (eI (u0)), some (eI (u1)), some (eI (u2))]) (s2 := [eI (0)]) rfl rfl rfl ?_
        refine b_rz rfl rfl (Or.inl rfl) ?_
        exact k0 (by omega)
      · refine w_t (np := 67) (l2 := [some (eR 98), some (eI (2)), some (eI (p)), some (eI (q)), some (eI (r)), some (eI (s)), some (eI (u0)), some (eI (u1)), some (eI (u2))]) (s2 := [eI (u1)]) rfl rfl rfl ?_
        refine b_igt (t1 := 79) (t2 := 70) rfl rfl rfl (ev_w_in (by omega) (by omega)) (fun g4 => ?_) (fun g4 => ?_)
        · refine w_t (np := 80) (l2 := [some (eR 98), some (eI (2)), some (eI (p)), some (eI (q)), some (eI (r)), some (eI (s)), some (eI (u0)), some (eI (u1)), some (eI (u2))]) (s2 := [eI (0)]) rfl rfl rfl ?_
          refine b_rz rfl rfl (Or.inl rfl) ?_
          exact k0 (by omega)
        · refine w_t (np := 72) (l2 := [some (eR 98), some (eI (2)), some (eI (p)), some (eI (q)), some (eI (r)), some (eI (s)), some (eI (u0)), some (eI (u1)), some (eI (u2))]) (s2 := [eI (u2)]) rfl rfl rfl ?_
          refine b_igt (t1 := 79) (t2 := 75) rfl rfl rfl (ev_w_in (by omega) (by omega)) (fun g5 => ?_) (fun g5 => ?_)
          · refine w_t (np := 80) (l2 := [some (eR 98), some (eI (2)), some (eI (p)), some (eI (q)), some (eI (r)), some (eI (s)), some (eI (u0)), some (eI (u1)), some (eI (u2))]) (s2 := [eI (0)]) rfl rfl rfl ?_
            refine b_rz rfl rfl (Or.inl rfl) ?_
            exact k0 (by omega)
          · refine w_t (np := 76) (l2 := [some (eR 98), some (eI (2)), some (eI (p)), some (eI (q)), some (eI (r)), some (eI (s)), some (eI (u0)), some (eI (u1)), some (eI (u2))]) (s2 := [eI (1)]) rfl rfl rfl ?_
            refine w_go (t1 := 80) rfl rfl ?_
            refine b_rz rfl rfl (Or.inr rfl) ?_
            exact k1 (by omega)
    · refine w_t (np := 57) (l2 := [some (eR 98), some (eI (2)), some (eI (p)), some (eI (q)), some (eI (r)), some (eI (s)), some (eI (u0)), some (eI (u1)), some (eI (u2))]) (s2 := [eI (u2)]) rfl rfl rfl ?_
      refine b_ige (t1 := 75) (t2 := 60) rfl rfl rfl (ev_w_in (by omega) (by omega)) (fun g3 => ?_) (fun g3 => ?_)
      · refine w_t (np := 76) (l2 := [some (eR 98), some (eI (2)), some (eI (p)), some (eI (q)), some (eI (r)), some (eI (s)), some (eI (u0)), some (eI (u1)), some (eI (u2))]) (s2 := [eI (1)]) rfl rfl rfl ?_
        refine w_go (t1 := 80) rfl rfl ?_
        refine b_rz rfl rfl (Or.inr rfl) ?_
        exact k1 (by omega)
      · refine w_t (np := 62) (l2 := [some (eR 98), some (eI (2)), some (eI (p)), some (eI (q)), some (eI (r)), some (eI (s)), some (eI (u0)), some (eI (u1)), some (eI (u2))]) (s2 := [eI (u0)]) rfl rfl rfl ?_
        refine b_igt (t1 := 79) (t2 := 65) rfl rfl rfl (ev_w_in (by omega) (by omega)) (fun g4 => ?_) (fun g4 => ?_)
        · refine w_t (np := 80) (l2 := [some (eR 98), some (eI (2)), some (eI (p)), some (eI (q)), some (eI (r)), some (eI (s)), some (eI (u0)), some (eI (u1)), some (eI (u2))]) (s2 := [eI (0)]) rfl rfl rfl ?_
          refine b_rz rfl rfl (Or.inl rfl) ?_
          exact k0 (by omega)
        · refine w_t (np := 67) (l2 := [some (eR 98), some (eI (2)), some (eI (p)), some (eI (q)), some (eI (r)), some (eI (s)), some (eI (u0)), some (eI (u1)), some (eI (u2))]) (s2 := [eI (u1)]) rfl rfl rfl ?_
          refine b_igt (t1 := 79) (t2 := 70) rfl rfl rfl (ev_w_in (by omega) (by omega)) (fun g5 => ?_) (fun g5 => ?_)
          · refine w_t (np := 80) (l2 := [some (eR 98), some (eI (2)), some (eI (p)), some (eI (q)), some (eI (r)), some (eI (s)), some (eI (u0)), some (eI (u1)), some (eI (u2))]) (s2 := [eI (0)]) rfl rfl rfl ?_
            refine b_rz rfl rfl (Or.inl rfl) ?_
            exact k0 (by omega)
          · refine w_t (np := 72) (l2 := [some (eR 98), some (eI (2)), some (eI (p)), some (eI (q)), some (eI (r)), some (eI (s)), some (eI (u0)), some (eI (u1)), some (eI (u2))]) (s2 := [eI (u2)]) rfl rfl rfl ?_
            refine b_igt (t1 := 79) (t2 := 75) rfl rfl rfl (ev_w_in (by omega) (by omega)) (fun g6 => ?_) (fun g6 => ?_)
            · refine w_t (np := 80) (l2 := [some (eR 98), some (eI (2)), some (eI (p)), some (eI (q)), some (eI (r)), some (eI (s)), some (eI (u0)), some (eI (u1)), some (eI (u2))]) (s2 := [eI (0)]) rfl rfl rfl ?_
              refine b_rz rfl rfl (Or.inl rfl) ?_
              exact k0 (by omega)
            · refine w_t (np := 76) (l2 := [some (eR 98), some (eI (2)), some (eI (p)), some (eI (q)), some (eI (r)), some (eI (s)), some (eI (u0)), some (eI (u1)), some (eI (u2))]) (s2 := [eI (1)]) rfl rfl rfl ?_
              refine w_go (t1 := 80) rfl rfl ?_
              refine b_rz rfl rfl (Or.inr rfl) ?_
              exact k1 (by omega)
theorem t266_3 {fg : eG} {rc rs d : Nat} {f : eFr} {F : List eFr} {μ : eM} {p q r s : Int} (hq : tQ μ) (hp : -9999 ≤ p ∧ p ≤ 9999) (hq0 : -9999 ≤ q ∧ q ≤ 9999) (hr : -9999 ≤ r ∧ r ≤ 9999) (hs : -9999 ≤ s ∧ s ≤ 9999) (K1 : ∀ μ2 : eM, tS μ μ2 → (((0 ≤ (-1346269) * p + (-1346269) * q + (-832040) * r) ∧ (0 ≤ 514229 * p + (-514229) * r + (-832040) * s + (832040)) ∧ (0 ≤ 832040 * p + 1346269 * q + 1346269 * r + 832040 * s)) ∨ (((-1346269) * p + (-1346269) * q + (-832040) * r ≤ 0) ∧ (514229 * p + (-514229) * r + (-832040) * s + (832040) ≤ 0) ∧ (832040 * p + 1346269 * q + 1346269 * r + 832040 * s ≤ 0))) → ex_fine fg rc rs (d + 6, (f.1, f.2.1, f.2.2.1, eI 1 :: f.2.2.2), F, μ2)) (K0 : ∀ μ2 : eM, tS μ μ2 → ¬ (((0 ≤ (-1346269) * p + (-1346269) * q + (-832040) * r) ∧ (0 ≤ 514229 * p + (-514229) * r + (-832040) * s + (832040)) ∧ (0 ≤ 832040 * p + 1346269 * q + 1346269 * r + 832040 * s)) ∨ (((-1346269) * p + (-1346269) * q + (-832040) * r ≤ 0) ∧ (514229 * p + (-514229) * r + (-832040) * s + (832040) ≤ 0) ∧ (832040 * p + 1346269 * q + 1346269 * r + 832040 * s ≤ 0))) → ex_fine fg rc rs (d + 6, (f.1, f.2.1, f.2.2.1, eI 0 :: f.2.2.2), F, μ2)) : ex_fine fg rc rs (d + 5, (266, 0, [some (eR 98), some (eI (3)), some (eI (p)), some (eI (q)), some (eI (r)), some (eI (s)), none, none, none], []), f :: F, μ) := by
  refine w_t (np := 1) (l2 := [some (eR 98), some (eI (3)), some (eI (p)), some (eI (q)), some (eI (r)), some (eI (s)), none, none, none]) (s2 := [eR 98]) rfl (s_an rfl (by decide)) rfl ?_
  refine w_t (np := 2) (l2 := [some (eR 98), some (eI (3)), some (eI (p)), some (eI (q)), some (eI (r)), some (eI (s)), none, none, none]) (s2 := [eI (3), eR 98]) rfl rfl rfl ?_
  refine w_t (np := 3) (l2 := [some (eR 98), some (eI (3)), some (eI (p)), some (eI (q)), some (eI (r)), some (eI (s)), none, none, none]) (s2 := [eI (0), eI (3), eR 98]) rfl rfl rfl ?_
  refine w_t (np := 4) (l2 := [some (eR 98), some (eI (3)), some (eI (p)), some (eI (q)), some (eI (r)), some (eI (s)), none, none, none]) (s2 := [eI (1), eI (0), eI (3), eR 98]) rfl rfl rfl ?_
  refine w_t (np := 5) (l2 := [some (eR 98), some (eI (3)), some (eI (p)), some (eI (q)), some (eI (r)), some (eI (s)), none, none, none]) (s2 := [eI (p), eI (1), eI (0), eI (3), eR 98]) rfl rfl rfl ?_
  refine w_t (np := 6) (l2 := [some (eR 98), some (eI (3)), some (eI (p)), some (eI (q)), some (eI (r)), some (eI (s)), none, none, none]) (s2 := [eI (q), eI (p), eI (1), eI (0), eI (3), eR 98]) rfl rfl rfl ?_
  refine w_t (np := 8) (l2 := [some (eR 98), some (eI (3)), some (eI (p)), some (eI (q)), some (eI (r)), some (eI (s)), none, none, none]) (s2 := [eI (r), eI (q), eI (p), eI (1), eI (0), eI (3), eR 98]) rfl rfl rfl ?_
  refine w_t (np := 10) (l2 := [some (eR 98), some (eI (3)), some (eI (p)), some (eI (q)), some (eI (r)), some (eI (s)), none, none, none]) (s2 := [eI (s), eI (r), eI (q), eI (p), eI (1), eI (0), eI (3), eR 98]) rfl rfl rfl ?_
  refine w_cw (np := 13) (as := [eI (3), eI (0), eI (1), eI (p), eI (q), eI (r), eI (s)]) (l2 := [some (eR 98), some (eI (3)), some (eI (0)), some (eI (1)), some (eI (p)), some (eI (q)), some (eI (r)), some (eI (s)), none, none]) (rest := []) rfl rfl rfl (Nat.ble_eq.mp rfl) rfl rfl rfl hq.1 rfl ?_
  refine t265_3_0 hq hp hq0 hr hs ?_
  intro m0 u0 s0 e0 w0
  have q0 := tQ_s hq s0
  have b0 : -1 ≤ u0 ∧ u0 ≤ 1 := by omega
  show ex_fine fg rc rs (d + 5, (266, 13, [some (eR 98), some (eI (3)), some (eI (p)), some (eI (q)), some (eI (r)), some (eI (s)), none, none, none], [eI (u0)]), f :: F, m0)
  refine w_t (np := 15) (l2 := [some (eR 98), some (eI (3)), some (eI (p)), some (eI (q)), some (eI (r)), some (eI (s)), some (eI (u0)), none, none]) (s2 := []) rfl rfl rfl ?_
  refine w_t (np := 16) (l2 := [some (eR 98), some (eI (3)), some (eI (p)), some (eI (q)), some (eI (r)), some (eI (s)), some (eI (u0)), none, none]) (s2 := [eR 98]) rfl (s_an rfl (by decide)) rfl ?_
  refine w_t (np := 17) (l2 := [some (eR 98), some (eI (3)), some (eI (p)), some (eI (q)), some (eI (r)), some (eI (s)), some (eI (u0)), none, none]) (s2 := [eI (3), eR 98]) rfl rfl rfl ?_
  refine w_t (np := 18) (l2 := [some (eR 98), some (eI (3)), some (eI (p)), some (eI (q)), some (eI (r)), some (eI (s)), some (eI (u0)), none, none]) (s2 := [eI (1), eI (3), eR 98]) rfl rfl rfl ?_
  refine w_t (np := 19) (l2 := [some (eR 98), some (eI (3)), some (eI (p)), some (eI (q)), some (eI (r)), some (eI (s)), some (eI (u0)), none, none]) (s2 := [eI (2), eI (1), eI (3), eR 98]) rfl rfl rfl ?_
  refine w_t (np := 20) (l2 := [some (eR 98), some (eI (3)), some (eI (p)), some (eI (q)), some (eI (r)), some (eI (s)), some (eI (u0)), none, none]) (s2 := [eI (p), eI (2), eI (1), eI (3), eR 98]) rfl rfl rfl ?_
  refine w_t (np := 21) (l2 := [some (eR 98), some (eI (3)), some (eI (p)), some (eI (q)), some (eI (r)), some (eI (s)), some (eI (u0)), none, none]) (s2 := [eI (q), eI (p), eI (2), eI (1), eI (3), eR 98]) rfl rfl rfl ?_
  refine w_t (np := 23) (l2 := [some (eR 98), some (eI (3)), some (eI (p)), some (eI (q)), some (eI (r)), some (eI (s)), some (eI (u0)), none, none]) (s2 := [eI (r), eI (q), eI (p), eI (2), eI (1), eI (3), eR 98]) rfl rfl rfl ?_
  refine w_t (np := 25) (l2 := [some (eR 98), some (eI (3)), some (eI (p)), some (eI (q)), some (eI (r)), some (eI (s)), some (eI (u0)), none, none]) (s2 := [eI (s), eI (r), eI (q), eI (p), eI (2), eI (1), eI (3), eR 98]) rfl rfl rfl ?_
  refine w_cw (np := 28) (as := [eI (3), eI (1), eI (2), eI (p), eI (q), eI (r), eI (s)]) (l2 := [some (eR 98), some (eI (3)), some (eI (1)), some (eI (2)), some (eI (p)), some (eI (q)), some (eI (r)), some (eI (s)), none, none]) (rest := []) rfl rfl rfl (Nat.ble_eq.mp rfl) rfl rfl rfl q0.1 rfl ?_
  refine t265_3_1 q0 hp hq0 hr hs ?_
  intro m1 u1 s1 e1 w1
  have q1 := tQ_s q0 s1
  have b1 : -1 ≤ u1 ∧ u1 ≤ 1 := by omega
  show ex_fine fg rc rs (d + 5, (266, 28, [some (eR 98), some (eI (3)), some (eI (p)), some (eI (q)), some (eI (r)), some (eI (s)), some (eI (u0)), none, none], [eI (u1)]), f :: F, m1)
  refine w_t (np := 30) (l2 := [some (eR 98), some (eI (3)), some (eI (p)), some (eI (q)), some (eI (r)), some (eI (s)), some (eI (u0)), some (eI (u1)), none]) (s2 := []) rfl rfl rfl ?_
  refine w_t (np := 31) (l2 := [some (eR 98), some (eI (3)), some (eI (p)), some (eI (q)), some (eI (r)), some (eI (s)), some (eI (u0)), some (eI (u1)), none]) (s2 := [eR 98]) rfl (s_an rfl (by decide)) rfl ?_
  refine w_t (np := 32) (l2 := [some (eR 98), some (eI (3)), some (eI (p)), some (eI (q)), some (eI (r)), some (eI (s)), some (eI (u0)), some (eI (u1)), none]) (s2 := [eI (3), eR 98]) rfl rfl rfl ?_
  refine w_t (np := 33) (l2 := [some (eR 98), some (eI (3)), some (eI (p)), some (eI (q)), some (eI (r)), some (eI (s)), some (eI (u0)), some (eI (u1)), none]) (s2 := [eI (2), eI (3), eR 98]) rfl rfl rfl ?_
  refine w_t (np := 34) (l2 := [some (eR 98), some (eI (3)), some (eI (p)), some (eI (q)), some (eI (r)), some (eI (s)), some (eI (u0)), some (eI (u1)), none]) (s2 := [eI (0), eI (2), eI (3), eR 98]) rfl rfl rfl ?_
  refine w_t (np := 35) (l2 := [some (eR 98), some (eI (3)), some (eI (p)), some (eI (q)), some (eI (r)), some (eI (s)), some (eI (u0)), some (eI (u1)), none]) (s2 := [eI (p), eI (0), eI (2), eI (3), eR 98]) rfl rfl rfl ?_
  refine w_t (np := 36) (l2 := [some (eR 98), some (eI (3)), some (eI (p)), some (eI (q)), some (eI (r)), some (eI (s)), some (eI (u0)), some (eI (u1)), none]) (s2 := [eI (q), eI (p), eI (0), eI (2), eI (3), eR 98]) rfl rfl rfl ?_
  refine w_t (np := 38) (l2 := [some (eR 98), some (eI (3)), some (eI (p)), some (eI (q)), some (eI (r)), some (eI (s)), some (eI (u0)), some (eI (u1)), none]) (s2 := [eI (r), eI (q), eI (p), eI (0), eI (2), eI (3), eR 98]) rfl rfl rfl ?_
  refine w_t (np := 40) (l2 := [some (eR 98), some (eI (3)), some (eI (p)), some (eI (q)), some (eI (r)), some (eI (s)), some (eI (u0)), some (eI (u1)), none]) (s2 := [eI (s), eI (r), eI (q), eI (p), eI (0), eI (2), eI (3), eR 98]) rfl rfl rfl ?_
  refine w_cw (np := 43) (as := [eI (3), eI (2), eI (0), eI (p), eI (q), eI (r), eI (s)]) (l2 := [some (eR 98), some (eI (3)), some (eI (2)), some (eI (0)), some (eI (p)), some (eI (q)), some (eI (r)), some (eI (s)), none, none]) (rest := []) rfl rfl rfl (Nat.ble_eq.mp rfl) rfl rfl rfl q1.1 rfl ?_
  refine t265_3_2 q1 hp hq0 hr hs ?_
  intro m2 u2 s2 e2 w2
  have q2 := tQ_s q1 s2
  have b2 : -1 ≤ u2 ∧ u2 ≤ 1 := by omega
  show ex_fine fg rc rs (d + 5, (266, 43, [some (eR 98), some (eI (3)), some (eI (p)), some (eI (q)), some (eI (r)), some (eI (s)), some (eI (u0)), some (eI (u1)), none], [eI (u2)]), f :: F, m2)
  have kc := in3 e0 e1 e2
  have k1 := fun (z : ((0 ≤ u0 ∧ 0 ≤ u1 ∧ 0 ≤ u2) ∨ (u0 ≤ 0 ∧ u1 ≤ 0 ∧ u2 ≤ 0))) => K1 m2 (tS_tr (tS_tr s0 s1) s2) (kc.mpr z)
  have k0 := fun (z : ¬ ((0 ≤ u0 ∧ 0 ≤ u1 ∧ 0 ≤ u2) ∨ (u0 ≤ 0 ∧ u1 ≤ 0 ∧ u2 ≤ 0))) => K0 m2 (tS_tr (tS_tr s0 s1) s2) (fun y => z (kc.mp y))
  clear K1 K0 kc e0 e1 e2 w0 w1 w2
  refine w_t (np := 45) (l2 := [some (eR 98), some (eI (3)), some (eI (p)), some (eI (q)), some (eI (r)), some (eI (s)), some (eI (u0)), some (eI (u1)), some (eI (u2))]) (s2 := []) rfl rfl rfl ?_
  refine w_t (np := 47) (l2 := [some (eR 98), some (eI (3)), some (eI (p)), some (eI (q)), some (eI (r)), some (eI (s)), some (eI (u0)), some (eI (u1)), some (eI (u2))]) (s2 := [eI (u0)]) rfl rfl rfl ?_
  refine b_ilt (t1 := 60) (t2 := 50) rfl rfl rfl (ev_w_in (by omega) (by omega)) (fun g1 => ?_) (fun g1 => ?_)
  · refine w_t (np := 62) (l2 := [some (eR 98), some (eI (3)), some (eI (p)), some (eI (q)), some (eI (r)), some (eI (s)), some (eI (u0)), some (eI (u1)), some (eI (u2))]) (s2 := [eI (u0)]) rfl rfl rfl ?_
    refine b_igt (t1 := 79) (t2 := 65) rfl rfl rfl (ev_w_in (by omega) (by omega)) (fun g2 => ?_) (fun g2 => ?_)
    · refine w_t (np := 80) (l2 := [some (eR 98), some (eI (3)), some (eI (p)), some (eI (q)), some (eI (r)), some (eI (s)), some (eI (u0)), some (eI (u1)), some (eI (u2))]) (s2 := [eI (0)]) rfl rfl rfl ?_
      refine b_rz rfl rfl (Or.inl rfl) ?_
      exact k0 (by omega)
    · refine w_t (np := 67) (l2 := [some (eR 98), some (eI (3)), some (eI (p)), some (eI (q)), some (eI (r)), some (eI (s)), some (eI (u0)), some (eI (u1)), some (eI (u2))]) (s2 := [eI (u1)]) rfl rfl rfl ?_
      refine b_igt (t1 := 79) (t2 := 70) rfl rfl rfl (ev_w_in (by omega) (by omega)) (fun g3 => ?_) (fun g3 => ?_)
      · refine w_t (np := 80) (l2 := [some (eR 98), some (eI (3)), some (eI (p)), some (eI (q)), some (eI (r)), some (eI (s)), some (eI (u0)), some (eI (u1)), some (eI (u2))]) (s2 := [eI (0)]) rfl rfl rfl ?_
        refine b_rz rfl rfl (Or.inl rfl) ?_
        exact k0 (by omega)
      · refine w_t (np := 72) (l2 := [some (eR 98), some (eI (3)), some (eI (p)), some (eI (q)), some (eI (r)), some (eI (s)), some (eI (u0)), some (eI (u1)), some (eI (u2))]) (s2 := [eI (u2)]) rfl rfl rfl ?_
        refine b_igt (t1 := 79) (t2 := 75) rfl rfl rfl (ev_w_in (by omega) (by omega)) (fun g4 => ?_) (fun g4 => ?_)
        · refine w_t (np := 80) (l2 := [some (eR 98), some (eI (3)), some (eI (p)), some (eI (q)), some (eI (r)), some (eI (s)), some (eI (u0)), some (eI (u1)), some (eI (u2))]) (s2 := [eI (0)]) rfl rfl rfl ?_
          refine b_rz rfl rfl (Or.inl rfl) ?_
          exact k0 (by omega)
        · refine w_t (np := 76) (l2 := [some (eR 98), some (eI (3)), some (eI (p)), some (eI (q)), some (eI (r)), some (eI (s)), some (eI (u0)), some (eI (u1)), some (eI (u2))]) (s2 := [eI (1)]) rfl rfl rfl ?_
          refine w_go (t1 := 80) rfl rfl ?_
          refine b_rz rfl rfl (Or.inr rfl) ?_
          exact k1 (by omega)
  · refine w_t (np := 52) (l2 := [some (eR 98), some (eI (3)), some (eI (p)), some (eI (q)), some (eI (r)), some (eI (s)), some (eI (u0)), some (eI (u1)), some (eI (u2))]) (s2 := [eI (u1)]) rfl rfl rfl ?_
    refine b_ilt (t1 := 60) (t2 := 55) rfl rfl rfl (ev_w_in (by omega) (by omega)) (fun g2 => ?_) (fun g2 => ?_)
    · refine w_t (np := 62) (l2 := [some (eR 98), some (eI (3)), some (eI (p)), some (eI (q)), some (eI (r)), some (eI (s)), some (eI (u0)), some (eI (u1)), some (eI (u2))]) (s2 := [eI (u0)]) rfl rfl rfl ?_
      refine b_igt (t1 := 79) (t2 := 65) rfl rfl rfl (ev_w_in (by omega) (by omega)) (fun g3 => ?_) (fun g3 => ?_)
      · refine w_t (np := 80) (l2 := [some (eR 98), some (eI (3)), some (eI (p)), some (eI (q)), some (eI (r)), some (eI (s)), some (eI (u0)), some (eI (u1)), some (eI (u2))]) (s2 := [eI (0)]) rfl rfl rfl ?_
        refine b_rz rfl rfl (Or.inl rfl) ?_
        exact k0 (by omega)
      · refine w_t (np := 67) (l2 := [some (eR 98), some (eI (3)), some (eI (p)), some (eI (q)), some (eI (r)), some (eI (s)), some (eI (u0)), some (eI (u1)), some (eI (u2))]) (s2 := [eI (u1)]) rfl rfl rfl ?_
        refine b_igt (t1 := 79) (t2 := 70) rfl rfl rfl (ev_w_in (by omega) (by omega)) (fun g4 => ?_) (fun g4 => ?_)
        · refine w_t (np := 80) (l2 := [some (eR 98), some (eI (3)), some (eI (p)), some (eI (q)), some (eI (r)), some (eI (s)), some (eI (u0)), some (eI (u1)), some (eI (u2))]) (s2 := [eI (0)]) rfl rfl rfl ?_
          refine b_rz rfl rfl (Or.inl rfl) ?_
          exact k0 (by omega)
        · refine w_t (np := 72) (l2 := [some (eR 98), some (eI (3)), some (eI (p)), some (eI (q)), some (eI (r)), some (eI (s)), some (eI (u0)), some (eI (u1)), some (eI (u2))]) (s2 := [eI (u2)]) rfl rfl rfl ?_
          refine b_igt (t1 := 79) (t2 := 75) rfl rfl rfl (ev_w_in (by omega) (by omega)) (fun g5 => ?_) (fun g5 => ?_)
          · refine w_t (np := 80) (l2 := [some (eR 98), some (eI (3)), some (eI (p)), some (eI (q)), some (eI (r)), some (eI (s)), some (eI (u0)), some (eI (u1)), some (eI (u2))]) (s2 := [eI (0)]) rfl rfl rfl ?_
            refine b_rz rfl rfl (Or.inl rfl) ?_
            exact k0 (by omega)
          · refine w_t (np := 76) (l2 := [some (eR 98), some (eI (3)), some (eI (p)), some (eI (q)), some (eI (r)), some (eI (s)), some (eI (u0)), some (eI (u1)), some (eI (u2))]) (s2 := [eI (1)]) rfl rfl rfl ?_
            refine w_go (t1 := 80) rfl rfl ?_
            refine b_rz rfl rfl (Or.inr rfl) ?_
            exact k1 (by omega)
    · refine w_t (np := 57) (l2 := [some (eR 98), some (eI (3)), some (eI (p)), some (eI (q)), some (eI (r)), some (eI (s)), some (eI (u0)), some (eI (u1)), some (eI (u2))]) (s2 := [eI (u2)]) rfl rfl rfl ?_
      refine b_ige (t1 := 75) (t2 := 60) rfl rfl rfl (ev_w_in (by omega) (by omega)) (fun g3 => ?_) (fun g3 => ?_)
      · refine w_t (np := 76) (l2 := [some (eR 98), some (eI (3)), some (eI (p)), some (eI (q)), some (eI (r)), some (eI (s)), some (eI (u0)), some (eI (u1)), some (eI (u2))]) (s2 := [eI (1)]) rfl rfl rfl ?_
        refine w_go (t1 := 80) rfl rfl ?_
        refine b_rz rfl rfl (Or.inr rfl) ?_
        exact k1 (by omega)
      · refine w_t (np := 62) (l2 := [some (eR 98), some (eI (3)), some (eI (p)), some (eI (q)), some (eI (r)), some (eI (s)), some (eI (u0)), some (eI (u1)), some (eI (u2))]) (s2 := [eI (u0)]) rfl rfl rfl ?_
        refine b_igt (t1 := 79) (t2 := 65) rfl rfl rfl (ev_w_in (by omega) (by omega)) (fun g4 => ?_) (fun g4 => ?_)
        · refine w_t (np := 80) (l2 := [some (eR 98), some (eI (3)), some (eI (p)), some (eI (q)), some (eI (r)), some (eI (s)), some (eI (u0)), some (eI (u1)), some (eI (u2))]) (s2 := [eI (0)]) rfl rfl rfl ?_
          refine b_rz rfl rfl (Or.inl rfl) ?_
          exact k0 (by omega)
        · refine w_t (np := 67) (l2 := [some (eR 98), some (eI (3)), some (eI (p)), some (eI (q)), some (eI (r)), some (eI (s)), some (eI (u0)), some (eI (u1)), some (eI (u2))]) (s2 := [eI (u1)]) rfl rfl rfl ?_
          refine b_igt (t1 := 79) (t2 := 70) rfl rfl rfl (ev_w_in (by omega) (by omega)) (fun g5 => ?_) (fun g5 => ?_)
          · refine w_t (np := 80) (l2 := [some (eR 98), some (eI (3)), some (eI (p)), some (eI (q)), some (eI (r)), some (eI (s)), some (eI (u0)), some (eI (u1)), some (eI (u2))]) (s2 := [eI (0)]) rfl rfl rfl ?_
            refine b_rz rfl rfl (Or.inl rfl) ?_
            exact k0 (by omega)
          · refine w_t (np := 72) (l2 := [some (eR 98), some (eI (3)), some (eI (p)), some (eI (q)), some (eI (r)), some (eI (s)), some (eI (u0)), some (eI (u1)), some (eI (u2))]) (s2 := [eI (u2)]) rfl rfl rfl ?_
            refine b_igt (t1 := 79) (t2 := 75) rfl rfl rfl (ev_w_in (by omega) (by omega)) (fun g6 => ?_) (fun g6 => ?_)
            · refine w_t (np := 80) (l2 := [some (eR 98), some (eI (3)), some (eI (p)), some (eI (q)), some (eI (r)), some (eI (s)), some (eI (u0)), some (eI (u1)), some (eI (u2))]) (s2 := [eI (0)]) rfl rfl rfl ?_
              refine b_rz rfl rfl (Or.inl rfl) ?_
              exact k0 (by omega)
            · refine w_t (np := 76) (l2 := [some (eR 98), some (eI (3)), some (eI (p)), some (eI (q)), some (eI (r)), some (eI (s)), some (eI (u0)), some (eI (u1)), some (eI (u2))]) (s2 := [eI (1)]) rfl rfl rfl ?_
              refine w_go (t1 := 80) rfl rfl ?_
              refine b_rz rfl rfl (Or.inr rfl) ?_
              exact k1 (by omega)
theorem t266_4 {fg : eG} {rc rs d : Nat} {f : eFr} {F : List eFr} {μ : eM} {p q r s : Int} (hq : tQ μ) (hp : -9999 ≤ p ∧ p ≤ 9999) (hq0 : -9999 ≤ q ∧ q ≤ 9999) (hr : -9999 ≤ r ∧ r ≤ 9999) (hs : -9999 ≤ s ∧ s ≤ 9999) (K1 : ∀ μ2 : eM, tS μ μ2 → (((0 ≤ (-832040) * q + (-1346269) * r + (-1346269) * s) ∧ (0 ≤ (-832040) * p + (-514229) * q + 514229 * s + (-832040)) ∧ (0 ≤ 832040 * p + 1346269 * q + 1346269 * r + 832040 * s)) ∨ (((-832040) * q + (-1346269) * r + (-1346269) * s ≤ 0) ∧ ((-832040) * p + (-514229) * q + 514229 * s + (-832040) ≤ 0) ∧ (832040 * p + 1346269 * q + 1346269 * r + 832040 * s ≤ 0))) → ex_fine fg rc rs (d + 6, (f.1, f.2.1, f.2.2.1, eI 1 :: f.2.2.2), F, μ2)) (K0 : ∀ μ2 : eM, tS μ μ2 → ¬ (((0 ≤ (-832040) * q + (-1346269) * r + (-1346269) * s) ∧ (0 ≤ (-832040) * p + (-514229) * q + 514229 * s + (-832040)) ∧ (0 ≤ 832040 * p + 1346269 * q + 1346269 * r + 832040 * s)) ∨ (((-832040) * q + (-1346269) * r + (-1346269) * s ≤ 0) ∧ ((-832040) * p + (-514229) * q + 514229 * s + (-832040) ≤ 0) ∧ (832040 * p + 1346269 * q + 1346269 * r + 832040 * s ≤ 0))) → ex_fine fg rc rs (d + 6, (f.1, f.2.1, f.2.2.1, eI 0 :: f.2.2.2), F, μ2)) : ex_fine fg rc rs (d + 5, (266, 0, [some (eR 98), some (eI (4)), some (eI (p)), some (eI (q)), some (eI (r)), some (eI (s)), none, none, none], []), f :: F, μ) := by
  refine w_t (np := 1) (l2 := [some (eR 98), some (eI (4)), some (eI (p)), some (eI (q)), some (eI (r)), some (eI (s)), none, none, none]) (s2 := [eR 98]) rfl (s_an rfl (by decide)) rfl ?_
  refine w_t (np := 2) (l2 := [some (eR 98), some (eI (4)), some (eI (p)), some (eI (q)), some (eI (r)), some (eI (s)), none, none, none]) (s2 := [eI (4), eR 98]) rfl rfl rfl ?_
  refine w_t (np := 3) (l2 := [some (eR 98), some (eI (4)), some (eI (p)), some (eI (q)), some (eI (r)), some (eI (s)), none, none, none]) (s2 := [eI (0), eI (4), eR 98]) rfl rfl rfl ?_
  refine w_t (np := 4) (l2 := [some (eR 98), some (eI (4)), some (eI (p)), some (eI (q)), some (eI (r)), some (eI (s)), none, none, none]) (s2 := [eI (1), eI (0), eI (4), eR 98]) rfl rfl rfl ?_
  refine w_t (np := 5) (l2 := [some (eR 98), some (eI (4)), some (eI (p)), some (eI (q)), some (eI (r)), some (eI (s)), none, none, none]) (s2 := [eI (p), eI (1), eI (0), eI (4), eR 98]) rfl rfl rfl ?_
  refine w_t (np := 6) (l2 := [some (eR 98), some (eI (4)), some (eI (p)), some (eI (q)), some (eI (r)), some (eI (s)), none, none, none]) (s2 := [eI (q), eI (p), eI (1), eI (0), eI (4), eR 98]) rfl rfl rfl ?_
  refine w_t (np := 8) (l2 := [some (eR 98), some (eI (4)), some (eI (p)), some (eI (q)), some (eI (r)), some (eI (s)), none, none, none]) (s2 := [eI (r), eI (q), eI (p), eI (1), eI (0), eI (4), eR 98]) rfl rfl rfl ?_
  refine w_t (np := 10) (l2 := [some (eR 98), some (eI (4)), some (eI (p)), some (eI (q)), some (eI (r)), some (eI (s)), none, none, none]) (s2 := [eI (s), eI (r), eI (q), eI (p), eI (1), eI (0), eI (4), eR 98]) rfl rfl rfl ?_
  refine w_cw (np := 13) (as := [eI (4), eI (0), eI (1), eI (p), eI (q), eI (r), eI (s)]) (l2 := [some (eR 98), some (eI (4)), some (eI (0)), some (eI (1)), some (eI (p)), some (eI (q)), some (eI (r)), some (eI (s)), none, none]) (rest := []) rfl rfl rfl (Nat.ble_eq.mp rfl) rfl rfl rfl hq.1 rfl ?_
  refine t265_4_0 hq hp hq0 hr hs ?_
  intro m0 u0 s0 e0 w0
  have q0 := tQ_s hq s0
  have b0 : -1 ≤ u0 ∧ u0 ≤ 1 := by omega
  show ex_fine fg rc rs (d + 5, (266, 13, [some (eR 98), some (eI (4)), some (eI (p)), some (eI (q)), some (eI (r)), some (eI (s)), none, none, none], [eI (u0)]), f :: F, m0)
  refine w_t (np := 15) (l2 := [some (eR 98), some (eI (4)), some (eI (p)), some (eI (q)), some (eI (r)), some (eI (s)), some (eI (u0)), none, none]) (s2 := []) rfl rfl rfl ?_
  refine w_t (np := 16) (l2 := [some (eR 98), some (eI (4)), some (eI (p)), some (eI (q)), some (eI (r)), some (eI (s)), some (eI (u0)), none, none]) (s2 := [eR 98]) rfl (s_an rfl (by decide)) rfl ?_
  refine w_t (np := 17) (l2 := [some (eR 98), some (eI (4)), some (eI (p)), some (eI (q)), some (eI (r)), some (eI (s)), some (eI (u0)), none, none]) (s2 := [eI (4), eR 98]) rfl rfl rfl ?_
  refine w_t (np := 18) (l2 := [some (eR 98), some (eI (4)), some (eI (p)), some (eI (q)), some (eI (r)), some (eI (s)), some (eI (u0)), none, none]) (s2 := [eI (1), eI (4), eR 98]) rfl rfl rfl ?_
  refine w_t (np := 19) (l2 := [some (eR 98), some (eI (4)), some (eI (p)), some (eI (q)), some (eI (r)), some (eI (s)), some (eI (u0)), none, none]) (s2 := [eI (2), eI (1), eI (4), eR 98]) rfl rfl rfl ?_
  refine w_t (np := 20) (l2 := [some (eR 98), some (eI (4)), some (eI (p)), some (eI (q)), some (eI (r)), some (eI (s)), some (eI (u0)), none, none]) (s2 := [eI (p), eI (2), eI (1), eI (4), eR 98]) rfl rfl rfl ?_
  refine w_t (np := 21) (l2 := [some (eR 98), some (eI (4)), some (eI (p)), some (eI (q)), some (eI (r)), some (eI (s)), some (eI (u0)), none, none]) (s2 := [eI (q), eI (p), eI (2), eI (1), eI (4), eR 98]) rfl rfl rfl ?_
  refine w_t (np := 23) (l2 := [some (eR 98), some (eI (4)), some (eI (p)), some (eI (q)), some (eI (r)), some (eI (s)), some (eI (u0)), none, none]) (s2 := [eI (r), eI (q), eI (p), eI (2), eI (1), eI (4), eR 98]) rfl rfl rfl ?_
  refine w_t (np := 25) (l2 := [some (eR 98), some (eI (4)), some (eI (p)), some (eI (q)), some (eI (r)), some (eI (s)), some (eI (u0)), none, none]) (s2 := [eI (s), eI (r), eI (q), eI (p), eI (2), eI (1), eI (4), eR 98]) rfl rfl rfl ?_
  refine w_cw (np := 28) (as := [eI (4), eI (1), eI (2), eI (p), eI (q), eI (r), eI (s)]) (l2 := [some (eR 98), some (eI (4)), some (eI (1)), some (eI (2)), some (eI (p)), some (eI (q)), some (eI (r)), some (eI (s)), none, none]) (rest := []) rfl rfl rfl (Nat.ble_eq.mp rfl) rfl rfl rfl q0.1 rfl ?_
  refine t265_4_1 q0 hp hq0 hr hs ?_
  intro m1 u1 s1 e1 w1
  have q1 := tQ_s q0 s1
  have b1 : -1 ≤ u1 ∧ u1 ≤ 1 := by omega
  show ex_fine fg rc rs (d + 5, (266, 28, [some (eR 98), some (eI (4)), some (eI (p)), some (eI (q)), some (eI (r)), some (eI (s)), some (eI (u0)), none, none], [eI (u1)]), f :: F, m1)
  refine w_t (np := 30) (l2 := [some (eR 98), some (eI (4)), some (eI (p)), some (eI (q)), some (eI (r)), some (eI (s)), some (eI (u0)), some (eI (u1)), none]) (s2 := []) rfl rfl rfl ?_
  refine w_t (np := 31) (l2 := [some (eR 98), some (eI (4)), some (eI (p)), some (eI (q)), some (eI (r)), some (eI (s)), some (eI (u0)), some (eI (u1)), none]) (s2 := [eR 98]) rfl (s_an rfl (by decide)) rfl ?_
  refine w_t (np := 32) (l2 := [some (eR 98), some (eI (4)), some (eI (p)), some (eI (q)), some (eI (r)), some (eI (s)), some (eI (u0)), some (eI (u1)), none]) (s2 := [eI (4), eR 98]) rfl rfl rfl ?_
  refine w_t (np := 33) (l2 := [some (eR 98), some (eI (4)), some (eI (p)), some (eI (q)), some (eI (r)), some (eI (s)), some (eI (u0)), some (eI (u1)), none]) (s2 := [eI (2), eI (4), eR 98]) rfl rfl rfl ?_
  refine w_t (np := 34) (l2 := [some (eR 98), some (eI (4)), some (eI (p)), some (eI (q)), some (eI (r)), some (eI (s)), some (eI (u0)), some (eI (u1)), none]) (s2 := [eI (0), eI (2), eI (4), eR 98]) rfl rfl rfl ?_
  refine w_t (np := 35) (l2 := [some (eR 98), some (eI (4)), some (eI (p)), some (eI (q)), some (eI (r)), some (eI (s)), some (eI (u0)), some (eI (u1)), none]) (s2 := [eI (p), eI (0), eI (2), eI (4), eR 98]) rfl rfl rfl ?_
  refine w_t (np := 36) (l2 := [some (eR 98), some (eI (4)), some (eI (p)), some (eI (q)), some (eI (r)), some (eI (s)), some (eI (u0)), some (eI (u1)), none]) (s2 := [eI (q), eI (p), eI (0), eI (2), eI (4), eR 98]) rfl rfl rfl ?_
  refine w_t (np := 38) (l2 := [some (eR 98), some (eI (4)), some (eI (p)), some (eI (q)), some (eI (r)), some (eI (s)), some (eI (u0)), some (eI (u1)), none]) (s2 := [eI (r), eI (q), eI (p), eI (0), eI (2), eI (4), eR 98]) rfl rfl rfl ?_
  refine w_t (np := 40) (l2 := [some (eR 98), some (eI (4)), some (eI (p)), some (eI (q)), some (eI (r)), some (eI (s)), some (eI (u0)), some (eI (u1)), none]) (s2 := [eI (s), eI (r), eI (q), eI (p), eI (0), eI (2), eI (4), eR 98]) rfl rfl rfl ?_
  refine w_cw (np := 43) (as := [eI (4), eI (2), eI (0), eI (p), eI (q), eI (r), eI (s)]) (l2 := [some (eR 98), some (eI (4)), some (eI (2)), some (eI (0)), some (eI (p)), some (eI (q)), some (eI (r)), some (eI (s)), none, none]) (rest := []) rfl rfl rfl (Nat.ble_eq.mp rfl) rfl rfl rfl q1.1 rfl ?_
  refine t265_4_2 q1 hp hq0 hr hs ?_
  intro m2 u2 s2 e2 w2
  have q2 := tQ_s q1 s2
  have b2 : -1 ≤ u2 ∧ u2 ≤ 1 := by omega
  show ex_fine fg rc rs (d + 5, (266, 43, [some (eR 98), some (eI (4)), some (eI (p)), some (eI (q)), some (eI (r)), some (eI (s)), some (eI (u0)), some (eI (u1)), none], [eI (u2)]), f :: F, m2)
  have kc := in3 e0 e1 e2
  have k1 := fun (z : ((0 ≤ u0 ∧ 0 ≤ u1 ∧ 0 ≤ u2) ∨ (u0 ≤ 0 ∧ u1 ≤ 0 ∧ u2 ≤ 0))) => K1 m2 (tS_tr (tS_tr s0 s1) s2) (kc.mpr z)
  have k0 := fun (z : ¬ ((0 ≤ u0 ∧ 0 ≤ u1 ∧ 0 ≤ u2) ∨ (u0 ≤ 0 ∧ u1 ≤ 0 ∧ u2 ≤ 0))) => K0 m2 (tS_tr (tS_tr s0 s1) s2) (fun y => z (kc.mp y))
  clear K1 K0 kc e0 e1 e2 w0 w1 w2
  refine w_t (np := 45) (l2 := [some (eR 98), some (eI (4)), some (eI (p)), some (eI (q)), some (eI (r)), some (eI (s)), some (eI (u0)), some (eI (u1)), some (eI (u2))]) (s2 := []) rfl rfl rfl ?_
  refine w_t (np := 47) (l2 := [some (eR 98), some (eI (4)), some (eI (p)), some (eI (q)), some (eI (r)), some (eI (s)), some (eI (u0)), some (eI (u1)), some (eI (u2))]) (s2 := [eI (u0)]) rfl rfl rfl ?_
  refine b_ilt (t1 := 60) (t2 := 50) rfl rfl rfl (ev_w_in (by omega) (by omega)) (fun g1 => ?_) (fun g1 => ?_)
  · refine w_t (np := 62) (l2 := [some (eR 98), some (eI (4)), some (eI (p)), some (eI (q)), some (eI (r)), some (eI (s)), some (eI (u0)), some (eI (u1)), some (eI (u2))]) (s2 := [eI (u0)]) rfl rfl rfl ?_
    refine b_igt (t1 := 79) (t2 := 65) rfl rfl rfl (ev_w_in (by omega) (by omega)) (fun g2 => ?_) (fun g2 => ?_)
    · refine w_t (np := 80) (l2 := [some (eR 98), some (eI (4)), some (eI (p)), some (eI (q)), some (eI (r)), some (eI (s)), some (eI (u0)), some (eI (u1)), some (eI (u2))]) (s2 := [eI (0)]) rfl rfl rfl ?_
      refine b_rz rfl rfl (Or.inl rfl) ?_
      exact k0 (by omega)
    · refine w_t (np := 67) (l2 := [some (eR 98), some (eI (4)), some (eI (p)), some (eI (q)), some (eI (r)), some (eI (s)), some (eI (u0)), some (eI (u1)), some (eI (u2))]) (s2 := [eI (u1)]) rfl rfl rfl ?_
      refine b_igt (t1 := 79) (t2 := 70) rfl rfl rfl (ev_w_in (by omega) (by omega)) (fun g3 => ?_) (fun g3 => ?_)
      · refine w_t (np := 80) (l2 := [some (eR 98), some (eI (4)), some (eI (p)), some (eI (q)), some (eI (r)), some (eI (s)), some (eI (u0)), some (eI (u1)), some (eI (u2))]) (s2 := [eI (0)]) rfl rfl rfl ?_
        refine b_rz rfl rfl (Or.inl rfl) ?_
        exact k0 (by omega)
      · refine w_t (np := 72) (l2 := [some (eR 98), some (eI (4)), some (eI (p)), some (eI (q)), some (eI (r)), some (eI (s)), some (eI (u0)), some (eI (u1)), some (eI (u2))]) (s2 := [eI (u2)]) rfl rfl rfl ?_
        refine b_igt (t1 := 79) (t2 := 75) rfl rfl rfl (ev_w_in (by omega) (by omega)) (fun g4 => ?_) (fun g4 => ?_)
        · refine w_t (np := 80) (l2 := [some (eR 98), some (eI (4)), some (eI (p)), some (eI (q)), some (eI (r)), some (eI (s)), some (eI (u0)), some (eI (u1)), some (eI (u2))]) (s2 := [eI (0)]) rfl rfl rfl ?_
          refine b_rz rfl rfl (Or.inl rfl) ?_
          exact k0 (by omega)
        · refine w_t (np := 76) (l2 := [some (eR 98), some (eI (4)), some (eI (p)), some (eI (q)), some (eI (r)), some (eI (s)), some (eI (u0)), some (eI (u1)), some (eI (u2))]) (s2 := [eI (1)]) rfl rfl rfl ?_
          refine w_go (t1 := 80) rfl rfl ?_
          refine b_rz rfl rfl (Or.inr rfl) ?_
          exact k1 (by omega)
  · refine w_t (np := 52) (l2 := [some (eR 98), some (eI (4)), some (eI (p)), some (eI (q)), some (eI (r)), some (eI (s)), some (eI (u0)), some (eI (u1)), some (eI (u2))]) (s2 := [eI (u1)]) rfl rfl rfl ?_
    refine b_ilt (t1 := 60) (t2 := 55) rfl rfl rfl (ev_w_in (by omega) (by omega)) (fun g2 => ?_) (fun g2 => ?_)
    · refine w_t (np := 62) (l2 := [some (eR 98), some (eI (4)), some (eI (p)), some (eI (q)), some (eI (r)), some (eI (s)), some (eI (u0)), some (eI (u1)), some (eI (u2))]) (s2 := [eI (u0)]) rfl rfl rfl ?_
      refine b_igt (t1 := 79) (t2 := 65) rfl rfl rfl (ev_w_in (by omega) (by omega)) (fun g3 => ?_) (fun g3 => ?_)
      · refine w_t (np := 80) (l2 := [some (eR 98), some (eI (4)), some (eI (p)), some (eI (q)), some (eI (r)), some (eI (s)), some (eI (u0)), some (eI (u1)), some (eI (u2))]) (s2 := [eI (0)]) rfl rfl rfl ?_
        refine b_rz rfl rfl (Or.inl rfl) ?_
        exact k0 (by omega)
      · refine w_t (np := 67) (l2 := [some (eR 98), some (eI (4)), some (eI (p)), some (eI (q)), some (eI (r)), some (eI (s)), some (eI (u0)), some (eI (u1)), some (eI (u2))]) (s2 := [eI (u1)]) rfl rfl rfl ?_
        refine b_igt (t1 := 79) (t2 := 70) rfl rfl rfl (ev_w_in (by omega) (by omega)) (fun g4 => ?_) (fun g4 => ?_)
        · refine w_t (np := 80) (l2 := [some (eR 98), some (eI (4)), some (eI (p)), some (eI (q)), some (eI (r)), some (eI (s)), some (eI (u0)), some (eI (u1)), some (eI (u2))]) (s2 := [eI (0)]) rfl rfl rfl ?_
          refine b_rz rfl rfl (Or.inl rfl) ?_
          exact k0 (by omega)
        · refine w_t (np := 72) (l2 := [some (eR 98), some (eI (4)), some (eI (p)), some (eI (q)), some (eI (r)), some (eI (s)), some (eI (u0)), some (eI (u1)), some (eI (u2))]) (s2 := [eI (u2)]) rfl rfl rfl ?_
          refine b_igt (t1 := 79) (t2 := 75) rfl rfl rfl (ev_w_in (by omega) (by omega)) (fun g5 => ?_) (fun g5 => ?_)
          · refine w_t (np := 80) (l2 := [some (eR 98), some (eI (4)), some (eI (p)), some (eI (q)), some (eI (r)), some (eI (s)), some (eI (u0)), some (eI (u1)), some (eI (u2))]) (s2 := [eI (0)]) rfl rfl rfl ?_
            refine b_rz rfl rfl (Or.inl rfl) ?_
            exact k0 (by omega)
          · refine w_t (np := 76) (l2 := [some (eR 98), some (eI (4)), some (eI (p)), some (eI (q)), some (eI (r)), some (eI (s)), some (eI (u0)), some (eI (u1)), some (eI (u2))]) (s2 := [eI (1)]) rfl rfl rfl ?_
            refine w_go (t1 := 80) rfl rfl ?_
            refine b_rz rfl rfl (Or.inr rfl) ?_
            exact k1 (by omega)
    · refine w_t (np := 57) (l2 := [some (eR 98), some (eI (4)), some (eI (p)), some (eI (q)), some (eI (r)), some (eI (s)), some (eI (u0)), some (eI (u1)), some (eI (u2))]) (s2 := [eI (u2)]) rfl rfl rfl ?_
      refine b_ige (t1 := 75) (t2 := 60) rfl rfl rfl (ev_w_in (by omega) (by omega)) (fun g3 => ?_) (fun g3 => ?_)
      · refine w_t (np := 76) (l2 := [some (eR 98), some (eI (4)), some (eI (p)), some (eI (q)), some (eI (r)), some (eI (s)), some (eI (u0)), some (eI (u1)), some (eI (u2))]) (s2 := [eI (1)]) rfl rfl rfl ?_
        refine w_go (t1 := 80) rfl rfl ?_
        refine b_rz rfl rfl (Or.inr rfl) ?_
        exact k1 (by omega)
      · refine w_t (np := 62) (l2 := [some (eR 98), some (eI (4)), some (eI (p)), some (eI (q)), some (eI (r)), some (eI (s)), some (eI (u0)), some (eI (u1)), some (eI (u2))]) (s2 := [eI (u0)]) rfl rfl rfl ?_
        refine b_igt (t1 := 79) (t2 := 65) rfl rfl rfl (ev_w_in (by omega) (by omega)) (fun g4 => ?_) (fun g4 => ?_)
        · refine w_t (np := 80) (l2 := [some (eR 98), some (eI (4)), some (eI (p)), some (eI (q)), some (eI (r)), some (eI (s)), some (eI (u0)), some (eI (u1)), some (eI (u2))]) (s2 := [eI (0)]) rfl rfl rfl ?_
          refine b_rz rfl rfl (Or.inl rfl) ?_
          exact k0 (by omega)
        · refine w_t (np := 67) (l2 := [some (eR 98), some (eI (4)), some (eI (p)), some (eI (q)), some (eI (r)), some (eI (s)), some (eI (u0)), some (eI (u1)), some (eI (u2))]) (s2 := [eI (u1)]) rfl rfl rfl ?_
          refine b_igt (t1 := 79) (t2 := 70) rfl rfl rfl (ev_w_in (by omega) (by omega)) (fun g5 => ?_) (fun g5 => ?_)
          · refine w_t (np := 80) (l2 := [some (eR 98), some (eI (4)), some (eI (p)), some (eI (q)), some (eI (r)), some (eI (s)), some (eI (u0)), some (eI (u1)), some (eI (u2))]) (s2 := [eI (0)]) rfl rfl rfl ?_
            refine b_rz rfl rfl (Or.inl rfl) ?_
            exact k0 (by omega)
          · refine w_t (np := 72) (l2 := [some (eR 98), some (eI (4)), some (eI (p)), some (eI (q)), some (eI (r)), some (eI (s)), some (eI (u0)), some (eI (u1)), some (eI (u2))]) (s2 := [eI (u2)]) rfl rfl rfl ?_
            refine b_igt (t1 := 79) (t2 := 75) rfl rfl rfl (ev_w_in (by omega) (by omega)) (fun g6 => ?_) (fun g6 => ?_)
            · refine w_t (np := 80) (l2 := [some (eR 98), some (eI (4)), some (eI (p)), some (eI (q)), some (eI (r)), some (eI (s)), some (eI (u0)), some (eI (u1)), some (eI (u2))]) (s2 := [eI (0)]) rfl rfl rfl ?_
              refine b_rz rfl rfl (Or.inl rfl) ?_
              exact k0 (by omega)
            · refine w_t (np := 76) (l2 := [some (eR 98), some (eI (4)), some (eI (p)), some (eI (q)), some (eI (r)), some (eI (s)), some (eI (u0)), some (eI (u1)), some (eI (u2))]) (s2 := [eI (1)]) rfl rfl rfl ?_
              refine w_go (t1 := 80) rfl rfl ?_
              refine b_rz rfl rfl (Or.inr rfl) ?_
              exact k1 (by omega)
theorem t266_5 {fg : eG} {rc rs d : Nat} {f : eFr} {F : List eFr} {μ : eM} {p q r s : Int} (hq : tQ μ) (hp : -9999 ≤ p ∧ p ≤ 9999) (hq0 : -9999 ≤ q ∧ q ≤ 9999) (hr : -9999 ≤ r ∧ r ≤ 9999) (hs : -9999 ≤ s ∧ s ≤ 9999) (K1 : ∀ μ2 : eM, tS μ μ2 → (((0 ≤ (-832040) * q + (-1346269) * r + (-1346269) * s) ∧ (0 ≤ 832040 * p + 832040 * q + 514229 * r + (832040)) ∧ (0 ≤ (-832040) * p + 832040 * r + 1346269 * s)) ∨ (((-832040) * q + (-1346269) * r + (-1346269) * s ≤ 0) ∧ (832040 * p + 832040 * q + 514229 * r + (832040) ≤ 0) ∧ ((-832040) * p + 832040 * r + 1346269 * s ≤ 0))) → ex_fine fg rc rs (d + 6, (f.1, f.2.1, f.2.2.1, eI 1 :: f.2.2.2), F, μ2)) (K0 : ∀ μ2 : eM, tS μ μ2 → ¬ (((0 ≤ (-832040) * q + (-1346269) * r + (-1346269) * s) ∧ (0 ≤ 832040 * p + 832040 * q + 514229 * r + (832040)) ∧ (0 ≤ (-832040) * p + 832040 * r + 1346269 * s)) ∨ (((-832040) * q + (-1346269) * r + (-1346269) * s ≤ 0) ∧ (832040 * p + 832040 * q + 514229 * r + (832040) ≤ 0) ∧ ((-832040) * p + 832040 * r + 1346269 * s ≤ 0))) → ex_fine fg rc rs (d + 6, (f.1, f.2.1, f.2.2.1, eI 0 :: f.2.2.2), F, μ2)) : ex_fine fg rc rs (d + 5, (266, 0, [some (eR 98), some (eI (5)), some (eI (p)), some (eI (q)), some (eI (r)), some (eI (s)), none, none, none], []), f :: F, μ) := by
  refine w_t (np := 1) (l2 := [some (eR 98), some (eI (5)), some (eI (p)), some (eI (q)), some (eI (r)), some (eI (s)), none, none, none]) (s2 := [eR 98]) rfl (s_an rfl (by decide)) rfl ?_
  refine w_t (np := 2) (l2 := [some (eR 98), some (eI (5)), some (eI (p)), some (eI (q)), some (eI (r)), some (eI (s)), none, none, none]) (s2 := [eI (5), eR 98]) rfl rfl rfl ?_
  refine w_t (np := 3) (l2 := [some (eR 98), some (eI (5)), some (eI (p)), some (eI (q)), some (eI (r)), some (eI (s)), none, none, none]) (s2 := [eI (0), eI (5), eR 98]) rfl rfl rfl ?_
  refine w_t (np := 4) (l2 := [some (eR 98), some (eI (5)), some (eI (p)), some (eI (q)), some (eI (r)), some (eI (s)), none, none, none]) (s2 := [eI (1), eI (0), eI (5), eR 98]) rfl rfl rfl ?_
  refine w_t (np := 5) (l2 := [some (eR 98), some (eI (5)), some (eI (p)), some (eI (q)), some (eI (r)), some (eI (s)), none, none, none]) (s2 := [eI (p), eI (1), eI (0), eI (5), eR 98]) rfl rfl rfl ?_
  refine w_t (np := 6) (l2 := [some (eR 98), some (eI (5)), some (eI (p)), some (eI (q)), some (eI (r)), some (eI (s)), none, none, none]) (s2 := [eI (q), eI (p), eI (1), eI (0), eI (5), eR 98]) rfl rfl rfl ?_
  refine w_t (np := 8) (l2 := [some (eR 98), some (eI (5)), some (eI (p)), some (eI (q)), some (eI (r)), some (eI (s)), none, none, none]) (s2 := [eI (r), eI (q), eI (p), eI (1), eI (0), eI (5), eR 98]) rfl rfl rfl ?_
  refine w_t (np := 10) (l2 := [some (eR 98), some (eI (5)), some (eI (p)), some (eI (q)), some (eI (r)), some (eI (s)), none, none, none]) (s2 := [eI (s), eI (r), eI (q), eI (p), eI (1), eI (0), eI (5), eR 98]) rfl rfl rfl ?_
  refine w_cw (np := 13) (as := [eI (5), eI (0), eI (1), eI (p), eI (q), eI (r), eI (s)]) (l2 := [some (eR 98), some (eI (5)), some (eI (0)), some (eI (1)), some (eI (p)), some (eI (q)), some (eI (r)), some (eI (s)), none, none]) (rest := []) rfl rfl rfl (Nat.ble_eq.mp rfl) rfl rfl rfl hq.1 rfl ?_
  refine t265_5_0 hq hp hq0 hr hs ?_
  intro m0 u0 s0 e0 w0
  have q0 := tQ_s hq s0
  have b0 : -1 ≤ u0 ∧ u0 ≤ 1 := by omega
  show ex_fine fg rc rs (d + 5, (266, 13, [some (eR 98), some (eI (5)), some (eI (p)), some (eI (q)), some (eI (r)), some (eI (s)), none, none, none], [eI (u0)]), f :: F, m0)
  refine w_t (np := 15) (l2 := [some (eR 98), some (eI (5)), some (eI (p)), some (eI (q)), some (eI (r)), some (eI (s)), some (eI (u0)), none, none]) (s2 := []) rfl rfl rfl ?_
  refine w_t (np := 16) (l2 := [some (eR 98), some (eI (5)), some (eI (p)), some (eI (q)), some (eI (r)), some (eI (s)), some (eI (u0)), none, none]) (s2 := [eR 98]) rfl (s_an rfl (by decide)) rfl ?_
  refine w_t (np := 17) (l2 := [some (eR 98), some (eI (5)), some (eI (p)), some (eI (q)), some (eI (r)), some (eI (s)), some (eI (u0)), none, none]) (s2 := [eI (5), eR 98]) rfl rfl rfl ?_
  refine w_t (np := 18) (l2 := [some (eR 98), some (eI (5)), some (eI (p)), some (eI (q)), some (eI (r)), some (eI (s)), some (eI (u0)), none, none]) (s2 := [eI (1), eI (5), eR 98]) rfl rfl rfl ?_
  refine w_t (np := 19) (l2 := [some (eR 98), some (eI (5)), some (eI (p)), some (eI (q)), some (eI (r)), some (eI (s)), some (eI (u0)), none, none]) (s2 := [eI (2), eI (1), eI (5), eR 98]) rfl rfl rfl ?_
  refine w_t (np := 20) (l2 := [some (eR 98), some (eI (5)), some (eI (p)), some (eI (q)), some (eI (r)), some (eI (s)), some (eI (u0)), none, none]) (s2 := [eI (p), eI (2), eI (1), eI (5), eR 98]) rfl rfl rfl ?_
  refine w_t (np := 21) (l2 := [some (eR 98), some (eI (5)), some (eI (p)), some (eI (q)), some (eI (r)), some (eI (s)), some (eI (u0)), none, none]) (s2 := [eI (q), eI (p), eI (2), eI (1), eI (5), eR 98]) rfl rfl rfl ?_
  refine w_t (np := 23) (l2 := [some (eR 98), some (eI (5)), some (eI (p)), some (eI (q)), some (eI (r)), some (eI (s)), some (eI (u0)), none, none]) (s2 := [eI (r), eI (q), eI (p), eI (2), eI (1), eI (5), eR 98]) rfl rfl rfl ?_
  refine w_t (np := 25) (l2 := [some (eR 98), some (eI (5)), some (eI (p)), some (eI (q)), some (eI (r)), some (eI (s)), some (eI (u0)), none, none]) (s2 := [eI (s), eI (r), eI (q), eI (p), eI (2), eI (1), eI (5), eR 98]) rfl rfl rfl ?_
  refine w_cw (np := 28) (as := [eI (5), eI (1), eI (2), eI (p), eI (q), eI (r), eI (s)]) (l2 := [some (eR 98), some (eI (5)), some (eI (1)), some (eI (2)), some (eI (p)), some (eI (q)), some (eI (r)), some (eI (s)), none, none]) (rest := []) rfl rfl rfl (Nat.ble_eq.mp rfl) rfl rfl rfl q0.1 rfl ?_
  refine t265_5_1 q0 hp hq0 hr hs ?_
  intro m1 u1 s1 e1 w1
  have q1 := tQ_s q0 s1
  have b1 : -1 ≤ u1 ∧ u1 ≤ 1 := by omega
  show ex_fine fg rc rs (d + 5, (266, 28, [some (eR 98), some (eI (5)), some (eI (p)), some (eI (q)), some (eI (r)), some (eI (s)), some (eI (u0)), none, none], [eI (u1)]), f :: F, m1)
  refine w_t (np := 30) (l2 := [some (eR 98), some (eI (5)), some (eI (p)), some (eI (q)), some (eI (r)), some (eI (s)), some (eI (u0)), some (eI (u1)), none]) (s2 := []) rfl rfl rfl ?_
  refine w_t (np := 31) (l2 := [some (eR 98), some (eI (5)), some (eI (p)), some (eI (q)), some (eI (r)), some (eI (s)), some (eI (u0)), some (eI (u1)), none]) (s2 := [eR 98]) rfl (s_an rfl (by decide)) rfl ?_
  refine w_t (np := 32) (l2 := [some (eR 98), some (eI (5)), some (eI (p)), some (eI (q)), some (eI (r)), some (eI (s)), some (eI (u0)), some (eI (u1)), none]) (s2 := [eI (5), eR 98]) rfl rfl rfl ?_
  refine w_t (np := 33) (l2 := [some (eR 98), some (eI (5)), some (eI (p)), some (eI (q)), some (eI (r)), some (eI (s)), some (eI (u0)), some (eI (u1)), none]) (s2 := [eI (2), eI (5), eR 98]) rfl rfl rfl ?_
  refine w_t (np := 34) (l2 := [some (eR 98), some (eI (5)), some (eI (p)), some (eI (q)), some (eI (r)), some (eI (s)), some (eI (u0)), some (eI (u1)), none]) (s2 := [eI (0), eI (2), eI (5), eR 98]) rfl rfl rfl ?_
  refine w_t (np := 35) (l2 := [some (eR 98), some (eI (5)), some (eI (p)), some (eI (q)), some (eI (r)), some (eI (s)), some (eI (u0)), some (eI (u1)), none]) (s2 := [eI (p), eI (0), eI (2), eI (5), eR 98]) rfl rfl rfl ?_
  refine w_t (np := 36) (l2 := [some (eR 98), some (eI (5)), some (eI (p)), some (eI (q)), some (eI (r)), some (eI (s)), some (eI (u0)), some (eI (u1)), none]) (s2 := [eI (q), eI (p), eI (0), eI (2), eI (5), eR 98]) rfl rfl rfl ?_
  refine w_t (np := 38) (l2 := [some (eR 98), some (eI (5)), some (eI (p)), some (eI (q)), some (eI (r)), some (eI (s)), some (eI (u0)), some (eI (u1)), none]) (s2 := [eI (r), eI (q), eI (p), eI (0), eI (2), eI (5), eR 98]) rfl rfl rfl ?_
  refine w_t (np := 40) (l2 := [some (eR 98), some (eI (5)), some (eI (p)), some (eI (q)), some (eI (r)), some (eI (s)), some (eI (u0)), some (eI (u1)), none]) (s2 := [eI (s), eI (r), eI (q), eI (p), eI (0), eI (2), eI (5), eR 98]) rfl rfl rfl ?_
  refine w_cw (np := 43) (as := [eI (5), eI (2), eI (0), eI (p), eI (q), eI (r), eI (s)]) (l2 := [some (eR 98), some (eI (5)), some (eI (2)), some (eI (0)), some (eI (p)), some (eI (q)), some (eI (r)), some (eI (s)), none, none]) (rest := []) rfl rfl rfl (Nat.ble_eq.mp rfl) rfl rfl rfl q1.1 rfl ?_
  refine t265_5_2 q1 hp hq0 hr hs ?_
  intro m2 u2 s2 e2 w2
  have q2 := tQ_s q1 s2
  have b2 : -1 ≤ u2 ∧ u2 ≤ 1 := by omega
  show ex_fine fg rc rs (d + 5, (266, 43, [some (eR 98), some (eI (5)), some (eI (p)), some (eI (q)), some (eI (r)), some (eI (s)), some (eI (u0)), some (eI (u1)), none], [eI (u2)]), f :: F, m2)
  have kc := in3 e0 e1 e2
  have k1 := fun (z : ((0 ≤ u0 ∧ 0 ≤ u1 ∧ 0 ≤ u2) ∨ (u0 ≤ 0 ∧ u1 ≤ 0 ∧ u2 ≤ 0))) => K1 m2 (tS_tr (tS_tr s0 s1) s2) (kc.mpr z)
  have k0 := fun (z : ¬ ((0 ≤ u0 ∧ 0 ≤ u1 ∧ 0 ≤ u2) ∨ (u0 ≤ 0 ∧ u1 ≤ 0 ∧ u2 ≤ 0))) => K0 m2 (tS_tr (tS_tr s0 s1) s2) (fun y => z (kc.mp y))
  clear K1 K0 kc e0 e1 e2 w0 w1 w2
  refine w_t (np := 45) (l2 := [some (eR 98), some (eI (5)), some (eI (p)), some (eI (q)), some (eI (r)), some (eI (s)), some (eI (u0)), some (eI (u1)), some (eI (u2))]) (s2 := []) rfl rfl rfl ?_
  refine w_t (np := 47) (l2 := [some (eR 98), some (eI (5)), some (eI (p)), some (eI (q)), some (eI (r)), some (eI (s)), some (eI (u0)), some (eI (u1)), some (eI (u2))]) (s2 := [eI (u0)]) rfl rfl rfl ?_
  refine b_ilt (t1 := 60) (t2 := 50) rfl rfl rfl (ev_w_in (by omega) (by omega)) (fun g1 => ?_) (fun g1 => ?_)
  · refine w_t (np := 62) (l2 := [some (eR 98), some (eI (5)), some (eI (p)), some (eI (q)), some (eI (r)), some (eI (s)), some (eI (u0)), some (eI (u1)), some (eI (u2))]) (s2 := [eI (u0)]) rfl rfl rfl ?_
    refine b_igt (t1 := 79) (t2 := 65) rfl rfl rfl (ev_w_in (by omega) (by omega)) (fun g2 => ?_) (fun g2 => ?_)
    · refine w_t (np := 80) (l2 := [some (eR 98), some (eI (5)), some (eI (p)), some (eI (q)), some (eI (r)), some (eI (s)), some (eI (u0)), some (eI (u1)), some (eI (u2))]) (s2 := [eI (0)]) rfl rfl rfl ?_
      refine b_rz rfl rfl (Or.inl rfl) ?_
      exact k0 (by omega)
    · refine w_t (np := 67) (l2 := [some (eR 98), some (eI (5)), some (eI (p)), some (eI (q)), some (eI (r)), some (eI (s)), some (eI (u0)), some (eI (u1)), some (eI (u2))]) (s2 := [eI (u1)]) rfl rfl rfl ?_
      refine b_igt (t1 := 79) (t2 := 70) rfl rfl rfl (ev_w_in (by omega) (by omega)) (fun g3 => ?_) (fun g3 => ?_)
      · refine w_t (np := 80) (l2 := [some (eR 98), some (eI (5)), some (eI (p)), some (eI (q)), some (eI (r)), some (eI (s)), some (eI (u0)), some (eI (u1)), some (eI (u2))]) (s2 := [eI (0)]) rfl rfl rfl ?_
        refine b_rz rfl rfl (Or.inl rfl) ?_
        exact k0 (by omega)
      · refine w_t (np := 72) (l2 := [some (eR 98), some (eI (5)), some (eI (p)), some (eI (q)), some (eI (r)), some (eI (s)), some (eI (u0)), some (eI (u1)), some (eI (u2))]) (s2 := [eI (u2)]) rfl rfl rfl ?_
        refine b_igt (t1 := 79) (t2 := 75) rfl rfl rfl (ev_w_in (by omega) (by omega)) (fun g4 => ?_) (fun g4 => ?_)
        · refine w_t (np := 80) (l2 := [some (eR 98), some (eI (5)), some (eI (p)), some (eI (q)), some (eI (r)), some (eI (s)), some (eI (u0)), some (eI (u1)), some (eI (u2))]) (s2 := [eI (0)]) rfl rfl rfl ?_
          refine b_rz rfl rfl (Or.inl rfl) ?_
          exact k0 (by omega)
        · refine w_t (np := 76) (l2 := [some (eR 98), some (eI (5)), some (eI (p)), some (eI (q)), some (eI (r)), some (eI (s)), some (eI (u0)), some (eI (u1)), some (eI (u2))]) (s2 := [eI (1)]) rfl rfl rfl ?_
          refine w_go (t1 := 80) rfl rfl ?_
          refine b_rz rfl rfl (Or.inr rfl) ?_
          exact k1 (by omega)
  · refine w_t (np := 52) (l2 := [some (eR 98), some (eI (5)), some (eI (p)), some (eI (q)), some (eI (r)), some (eI (s)), some (eI (u0)), some (eI (u1)), some (eI (u2))]) (s2 := [eI (u1)]) rfl rfl rfl ?_
    refine b_ilt (t1 := 60) (t2 := 55) rfl rfl rfl (ev_w_in (by omega) (by omega)) (fun g2 => ?_) (fun g2 => ?_)
    · refine w_t (np := 62) (l2 := [some (eR 98), some (eI (5)), some (eI (p)), some (eI (q)), some (eI (r)), some (eI (s)), some (eI (u0)), some (eI (u1)), some (eI (u2))]) (s2 := [eI (u0)]) rfl rfl rfl ?_
      refine b_igt (t1 := 79) (t2 := 65) rfl rfl rfl (ev_w_in (by omega) (by omega)) (fun g3 => ?_) (fun g3 => ?_)
      · refine w_t (np := 80) (l2 := [some (eR 98), some (eI (5)), some (eI (p)), some (eI (q)), some (eI (r)), some (eI (s)), some (eI (u0)), some (eI (u1)), some (eI (u2))]) (s2 := [eI (0)]) rfl rfl rfl ?_
        refine b_rz rfl rfl (Or.inl rfl) ?_
        exact k0 (by omega)
      · refine w_t (np := 67) (l2 := [some (eR 98), some (eI (5)), some (eI (p)), some (eI (q)), some (eI (r)), some (eI (s)), some (eI (u0)), some (eI (u1)), some (eI (u2))]) (s2 := [eI (u1)]) rfl rfl rfl ?_
        refine b_igt (t1 := 79) (t2 := 70) rfl rfl rfl (ev_w_in (by omega) (by omega)) (fun g4 => ?_) (fun g4 => ?_)
        · refine w_t (np := 80) (l2 := [some (eR 98), some (eI (5)), some (eI (p)), some (eI (q)), some (eI (r)), some (eI (s)), some (eI (u0)), some (eI (u1)), some (eI (u2))]) (s2 := [eI (0)]) rfl rfl rfl ?_
          refine b_rz rfl rfl (Or.inl rfl) ?_
          exact k0 (by omega)
        · refine w_t (np := 72) (l2 := [some (eR 98), some (eI (5)), some (eI (p)), some (eI (q)), some (eI (r)), some (eI (s)), some (eI (u0)), some (eI (u1)), some (eI (u2))]) (s2 := [eI (u2)]) rfl rfl rfl ?_
          refine b_igt (t1 := 79) (t2 := 75) rfl rfl rfl (ev_w_in (by omega) (by omega)) (fun g5 => ?_) (fun g5 => ?_)
          · refine w_t (np := 80) (l2 := [some (eR 98), some (eI (5)), some (eI (p)), some (eI (q)), some (eI (r)), some (eI (s)), some (eI (u0)), some (eI (u1)), some (eI (u2))]) (s2 := [eI (0)]) rfl rfl rfl ?_
            refine b_rz rfl rfl (Or.inl rfl) ?_
            exact k0 (by omega)
          · refine w_t (np := 76) (l2 := [some (eR 98), some (eI (5)), some (eI (p)), some (eI (q)), some (eI (r)), some (eI (s)), some (eI (u0)), some (eI (u1)), some (eI (u2))]) (s2 := [eI (1)]) rfl rfl rfl ?_
            refine w_go (t1 := 80) rfl rfl ?_
            refine b_rz rfl rfl (Or.inr rfl) ?_
            exact k1 (by omega)
    · refine w_t (np := 57) (l2 := [some (eR 98), some (eI (5)), some (eI (p)), some (eI (q)), some (eI (r)), some (eI (s)), some (eI (u0)), some (eI (u1)), some (eI (u2))]) (s2 := [eI (u2)]) rfl rfl rfl ?_
      refine b_ige (t1 := 75) (t2 := 60) rfl rfl rfl (ev_w_in (by omega) (by omega)) (fun g3 => ?_) (fun g3 => ?_)
      · refine w_t (np := 76) (l2 := [some (eR 98), some (eI (5)), some (eI (p)), some (eI (q)), some (eI (r)), some (eI (s)), some (eI (u0)), some (eI (u1)), some (eI (u2))]) (s2 := [eI (1)]) rfl rfl rfl ?_
        refine w_go (t1 := 80) rfl rfl ?_
        refine b_rz rfl rfl (Or.inr rfl) ?_
        exact k1 (by omega)
      · refine w_t (np := 62) (l2 := [some (eR 98), some (eI (5)), some (eI (p)), some (eI (q)), some (eI (r)), some (eI (s)), some (eI (u0)), some (eI (u1)), some (eI (u2))]) (s2 := [eI (u0)]) rfl rfl rfl ?_
        refine b_igt (t1 := 79) (t2 := 65) rfl rfl rfl (ev_w_in (by omega) (by omega)) (fun g4 => ?_) (fun g4 => ?_)
        · refine w_t (np := 80) (l2 := [some (eR 98), some (eI (5)), some (eI (p)), some (eI (q)), some (eI (r)), some (eI (s)), some (eI (u0)), some (eI (u1)), some (eI (u2))]) (s2 := [eI (0)]) rfl rfl rfl ?_
          refine b_rz rfl rfl (Or.inl rfl) ?_
          exact k0 (by omega)
        · refine w_t (np := 67) (l2 := [some (eR 98), some (eI (5)), some (eI (p)), some (eI (q)), some (eI (r)), some (eI (s)), some (eI (u0)), some (eI (u1)), some (eI (u2))]) (s2 := [eI (u1)]) rfl rfl rfl ?_
          refine b_igt (t1 := 79) (t2 := 70) rfl rfl rfl (ev_w_in (by omega) (by omega)) (fun g5 => ?_) (fun g5 => ?_)
          · refine w_t (np := 80) (l2 := [some (eR 98), some (eI (5)), some (eI (p)), some (eI (q)), some (eI (r)), some (eI (s)), some (eI (u0)), some (eI (u1)), some (eI (u2))]) (s2 := [eI (0)]) rfl rfl rfl ?_
            refine b_rz rfl rfl (Or.inl rfl) ?_
            exact k0 (by omega)
          · refine w_t (np := 72) (l2 := [some (eR 98), some (eI (5)), some (eI (p)), some (eI (q)), some (eI (r)), some (eI (s)), some (eI (u0)), some (eI (u1)), some (eI (u2))]) (s2 := [eI (u2)]) rfl rfl rfl ?_
            refine b_igt (t1 := 79) (t2 := 75) rfl rfl rfl (ev_w_in (by omega) (by omega)) (fun g6 => ?_) (fun g6 => ?_)
            · refine w_t (np := 80) (l2 := [some (eR 98), some (eI (5)), some (eI (p)), some (eI (q)), some (eI (r)), some (eI (s)), some (eI (u0)), some (eI (u1)), some (eI (u2))]) (s2 := [eI (0)]) rfl rfl rfl ?_
              refine b_rz rfl rfl (Or.inl rfl) ?_
              exact k0 (by omega)
            · refine w_t (np := 76) (l2 := [some (eR 98), some (eI (5)), some (eI (p)), some (eI (q)), some (eI (r)), some (eI (s)), some (eI (u0)), some (eI (u1)), some (eI (u2))]) (s2 := [eI (1)]) rfl rfl rfl ?_
              refine w_go (t1 := 80) rfl rfl ?_
              refine b_rz rfl rfl (Or.inr rfl) ?_
              exact k1 (by omega)
theorem t266_6 {fg : eG} {rc rs d : Nat} {f : eFr} {F : List eFr} {μ : eM} {p q r s : Int} (hq : tQ μ) (hp : -9999 ≤ p ∧ p ≤ 9999) (hq0 : -9999 ≤ q ∧ q ≤ 9999) (hr : -9999 ≤ r ∧ r ≤ 9999) (hs : -9999 ≤ s ∧ s ≤ 9999) (K1 : ∀ μ2 : eM, tS μ μ2 → (((0 ≤ 1346269 * p + 832040 * q + (-832040) * s) ∧ (0 ≤ (-514229) * p + (-832040) * q + (-832040) * r + (-514229) * s + (-832040)) ∧ (0 ≤ (-832040) * p + 832040 * r + 1346269 * s)) ∨ ((1346269 * p + 832040 * q + (-832040) * s ≤ 0) ∧ ((-514229) * p + (-832040) * q + (-832040) * r + (-514229) * s + (-832040) ≤ 0) ∧ ((-832040) * p + 832040 * r + 1346269 * s ≤ 0))) → ex_fine fg rc rs (d + 6, (f.1, f.2.1, f.2.2.1, eI 1 :: f.2.2.2), F, μ2)) (K0 : ∀ μ2 : eM, tS μ μ2 → ¬ (((0 ≤ 1346269 * p + 832040 * q + (-832040) * s) ∧ (0 ≤ (-514229) * p + (-832040) * q + (-832040) * r + (-514229) * s + (-832040)) ∧ (0 ≤ (-832040) * p + 832040 * r + 1346269 * s)) ∨ ((1346269 * p + 832040 * q + (-832040) * s ≤ 0) ∧ ((-514229) * p + (-832040) * q + (-832040) * r + (-514229) * s + (-832040) ≤ 0) ∧ ((-832040) * p + 832040 * r + 1346269 * s ≤ 0))) → ex_fine fg rc rs (d + 6, (f.1, f.2.1, f.2.2.1, eI 0 :: f.2.2.2), F, μ2)) : ex_fine fg rc rs (d + 5, (266, 0, [some (eR 98), some (eI (6)), some (eI (p)), some (eI (q)), some (eI (r)), some (eI (s)), none, none, none], []), f :: F, μ) := by
  refine w_t (np := 1) (l2 := [some (eR 98), some (eI (6)), some (eI (p)), some (eI (q)), some (eI (r)), some (eI (s)), none, none, none]) (s2 := [eR 98]) rfl (s_an rfl (by decide)) rfl ?_
  refine w_t (np := 2) (l2 := [some (eR 98), some (eI (6)), some (eI (p)), some (eI (q)), some (eI (r)), some (eI (s)), none, none, none]) (s2 := [eI (6), eR 98]) rfl rfl rfl ?_
  refine w_t (np := 3) (l2 := [some (eR 98), some (eI (6)), some (eI (p)), some (eI (q)), some (eI (r)), some (eI (s)), none, none, none]) (s2 := [eI (0), eI (6), eR 98]) rfl rfl rfl ?_
  refine w_t (np := 4) (l2 := [some (eR 98), some (eI (6)), some (eI (p)), some (eI (q)), some (eI (r)), some (eI (s)), none, none, none]) (s2 := [eI (1), eI (0), eI (6), eR 98]) rfl rfl rfl ?_
  refine w_t (np := 5) (l2 := [some (eR 98), some (eI (6)), some (eI (p)), some (eI (q)), some (eI (r)), some (eI (s)), none, none, none]) (s2 := [eI (p), eI (1), eI (0), eI (6), eR 98]) rfl rfl rfl ?_
  refine w_t (np := 6) (l2 := [some (eR 98), some (eI (6)), some (eI (p)), some (eI (q)), some (eI (r)), some (eI (s)), none, none, none]) (s2 := [eI (q), eI (p), eI (1), eI (0), eI (6), eR 98]) rfl rfl rfl ?_
  refine w_t (np := 8) (l2 := [some (eR 98), some (eI (6)), some (eI (p)), some (eI (q)), some (eI (r)), some (eI (s)), none, none, none]) (s2 := [eI (r), eI (q), eI (p), eI (1), eI (0), eI (6), eR 98]) rfl rfl rfl ?_
  refine w_t (np := 10) (l2 := [some (eR 98), some (eI (6)), some (eI (p)), some (eI (q)), some (eI (r)), some (eI (s)), none, none, none]) (s2 := [eI (s), eI (r), eI (q), eI (p), eI (1), eI (0), eI (6), eR 98]) rfl rfl rfl ?_
  refine w_cw (np := 13) (as := [eI (6), eI (0), eI (1), eI (p), eI (q), eI (r), eI (s)]) (l2 := [some (eR 98), some (eI (6)), some (eI (0)), some (eI (1)), some (eI (p)), some (eI (q)), some (eI (r)), some (eI (s)), none, none]) (rest := []) rfl rfl rfl (Nat.ble_eq.mp rfl) rfl rfl rfl hq.1 rfl ?_
  refine t265_6_0 hq hp hq0 hr hs ?_
  intro m0 u0 s0 e0 w0
  have q0 := tQ_s hq s0
  have b0 : -1 ≤ u0 ∧ u0 ≤ 1 := by omega
  show ex_fine fg rc rs (d + 5, (266, 13, [some (eR 98), some (eI (6)), some (eI (p)), some (eI (q)), some (eI (r)), some (eI (s)), none, none, none], [eI (u0)]), f :: F, m0)
  refine w_t (np := 15) (l2 := [some (eR 98), some (eI (6)), some (eI (p)), some (eI (q)), some (eI (r)), some (eI (s)), some (eI (u0)), none, none]) (s2 := []) rfl rfl rfl ?_
  refine w_t (np := 16) (l2 := [some (eR 98), some (eI (6)), some (eI (p)), some (eI (q)), some (eI (r)), some (eI (s)), some (eI (u0)), none, none]) (s2 := [eR 98]) rfl (s_an rfl (by decide)) rfl ?_
  refine w_t (np := 17) (l2 := [some (eR 98), some (eI (6)), some (eI (p)), some (eI (q)), some (eI (r)), some (eI (s)), some (eI (u0)), none, none]) (s2 := [eI (6), eR 98]) rfl rfl rfl ?_
  refine w_t (np := 18) (l2 := [some (eR 98), some (eI (6)), some (eI (p)), some (eI (q)), some (eI (r)), some (eI (s)), some (eI (u0)), none, none]) (s2 := [eI (1), eI (6), eR 98]) rfl rfl rfl ?_
  refine w_t (np := 19) (l2 := [some (eR 98), some (eI (6)), some (eI (p)), some (eI (q)), some (eI (r)), some (eI (s)), some (eI (u0)), none, none]) (s2 := [eI (2), eI (1), eI (6), eR 98]) rfl rfl rfl ?_
  refine w_t (np := 20) (l2 := [some (eR 98), some (eI (6)), some (eI (p)), some (eI (q)), some (eI (r)), some (eI (s)), some (eI (u0)), none, none]) (s2 := [eI (p), eI (2), eI (1), eI (6), eR 98]) rfl rfl rfl ?_
  refine w_t (np := 21) (l2 := [some (eR 98), some (eI (6)), some (eI (p)), some (eI (q)), some (eI (r)), some (eI (s)), some (eI (u0)), none, none]) (s2 := [eI (q), eI (p), eI (2), eI (1), eI (6), eR 98]) rfl rfl rfl ?_
  refine w_t (np := 23) (l2 := [some (eR 98), some (eI (6)), some (eI (p)), some (eI (q)), some (eI (r)), some (eI (s)), some (eI (u0)), none, none]) (s2 := [eI (r), eI (q), eI (p), eI (2), eI (1), eI (6), eR 98]) rfl rfl rfl ?_
  refine w_t (np := 25) (l2 := [some (eR 98), some (eI (6)), some (eI (p)), some (eI (q)), some (eI (r)), some (eI (s)), some (eI (u0)), none, none]) (s2 := [eI (s), eI (r), eI (q), eI (p), eI (2), eI (1), eI (6), eR 98]) rfl rfl rfl ?_
  refine w_cw (np := 28) (as := [eI (6), eI (1), eI (2), eI (p), eI (q), eI (r), eI (s)]) (l2 := [some (eR 98), some (eI (6)), some (eI (1)), some (eI (2)), some (eI (p)), some (eI (q)), some (eI (r)), some (eI (s)), none, none]) (rest := []) rfl rfl rfl (Nat.ble_eq.mp rfl) rfl rfl rfl q0.1 rfl ?_
  refine t265_6_1 q0 hp hq0 hr hs ?_
  intro m1 u1 s1 e1 w1
  have q1 := tQ_s q0 s1
  have b1 : -1 ≤ u1 ∧ u1 ≤ 1 := by omega
  show ex_fine fg rc rs (d + 5, (266, 28, [some (eR 98), some (eI (6)), some (eI (p)), some (eI (q)), some (eI (r)), some (eI (s)), some (eI (u0)), none, none], [eI (u1)]), f :: F, m1)
  refine w_t (np := 30) (l2 := [some (eR 98), some (eI (6)), some (eI (p)), some (eI (q)), some (eI (r)), some (eI (s)), some (eI (u0)), some (eI (u1)), none]) (s2 := []) rfl rfl rfl ?_
  refine w_t (np := 31) (l2 := [some (eR 98), some (eI (6)), some (eI (p)), some (eI (q)), some (eI (r)), some (eI (s)), some (eI (u0)), some (eI (u1)), none]) (s2 := [eR 98]) rfl (s_an rfl (by decide)) rfl ?_
  refine w_t (np := 32) (l2 := [some (eR 98), some (eI (6)), some (eI (p)), some (eI (q)), some (eI (r)), some (eI (s)), some (eI (u0)), some (eI (u1)), none]) (s2 := [eI (6), eR 98]) rfl rfl rfl ?_
  refine w_t (np := 33) (l2 := [some (eR 98), some (eI (6)), some (eI (p)), some (eI (q)), some (eI (r)), some (eI (s)), some (eI (u0)), some (eI (u1)), none]) (s2 := [eI (2), eI (6), eR 98]) rfl rfl rfl ?_
  refine w_t (np := 34) (l2 := [some (eR 98), some (eI (6)), some (eI (p)), some (eI (q)), some (eI (r)), some (eI (s)), some (eI (u0)), some (eI (u1)), none]) (s2 := [eI (0), eI (2), eI (6), eR 98]) rfl rfl rfl ?_
  refine w_t (np := 35) (l2 := [some (eR 98), some (eI (6)), some (eI (p)), some (eI (q)), some (eI (r)), some (eI (s)), some (eI (u0)), some (eI (u1)), none]) (s2 := [eI (p), eI (0), eI (2), eI (6), eR 98]) rfl rfl rfl ?_
  refine w_t (np := 36) (l2 := [some (eR 98), some (eI (6)), some (eI (p)), some (eI (q)), some (eI (r)), some (eI (s)), some (eI (u0)), some (eI (u1)), none]) (s2 := [eI (q), eI (p), eI (0), eI (2), eI (6), eR 98]) rfl rfl rfl ?_
  refine w_t (np := 38) (l2 := [some (eR 98), some (eI (6)), some (eI (p)), some (eI (q)), some (eI (r)), some (eI (s)), some (eI (u0)), some (eI (u1)), none]) (s2 := [eI (r), eI (q), eI (p), eI (0), eI (2), eI (6), eR 98]) rfl rfl rfl ?_
  refine w_t (np := 40) (l2 := [some (eR 98), some (eI (6)), some (eI (p)), some (eI (q)), some (eI (r)), some (eI (s)), some (eI (u0)), some (eI (u1)), none]) (s2 := [eI (s), eI (r), eI (q), eI (p), eI (0), eI (2), eI (6), eR 98]) rfl rfl rfl ?_
  refine w_cw (np := 43) (as := [eI (6), eI (2), eI (0), eI (p), eI (q), eI (r), eI (s)]) (l2 := [some (eR 98), some (eI (6)), some (eI (2)), some (eI (0)), some (eI (p)), some (eI (q)), some (eI (r)), some (eI (s)), none, none]) (rest := []) rfl rfl rfl (Nat.ble_eq.mp rfl) rfl rfl rfl q1.1 rfl ?_
  refine t265_6_2 q1 hp hq0 hr hs ?_
  intro m2 u2 s2 e2 w2
  have q2 := tQ_s q1 s2
  have b2 : -1 ≤ u2 ∧ u2 ≤ 1 := by omega
  show ex_fine fg rc rs (d + 5, (266, 43, [some (eR 98), some (eI (6)), some (eI (p)), some (eI (q)), some (eI (r)), some (eI (s)), some (eI (u0)), some (eI (u1)), none], [eI (u2)]), f :: F, m2)
  have kc := in3 e0 e1 e2
  have k1 := fun (z : ((0 ≤ u0 ∧ 0 ≤ u1 ∧ 0 ≤ u2) ∨ (u0 ≤ 0 ∧ u1 ≤ 0 ∧ u2 ≤ 0))) => K1 m2 (tS_tr (tS_tr s0 s1) s2) (kc.mpr z)
  have k0 := fun (z : ¬ ((0 ≤ u0 ∧ 0 ≤ u1 ∧ 0 ≤ u2) ∨ (u0 ≤ 0 ∧ u1 ≤ 0 ∧ u2 ≤ 0))) => K0 m2 (tS_tr (tS_tr s0 s1) s2) (fun y => z (kc.mp y))
  clear K1 K0 kc e0 e1 e2 w0 w1 w2
  refine w_t (np := 45) (l2 := [some (eR 98), some (eI (6)), some (eI (p)), some (eI (q)), some (eI (r)), some (eI (s)), some (eI (u0)), some (eI (u1)), some (eI (u2))]) (s2 := []) rfl rfl rfl ?_
  refine w_t (np := 47) (l2 := [some (eR 98), some (eI (6)), some (eI (p)), some (eI (q)), some (eI (r)), some (eI (s)), some (eI (u0)), some (eI (u1)), some (eI (u2))]) (s2 := [eI (u0)]) rfl rfl rfl ?_
  refine b_ilt (t1 := 60) (t2 := 50) rfl rfl rfl (ev_w_in (by omega) (by omega)) (fun g1 => ?_) (fun g1 => ?_)
  · refine w_t (np := 62) (l2 := [some (eR 98), some (eI (6)), some (eI (p)), some (eI (q)), some (eI (r)), some (eI (s)), some (eI (u0)), some (eI (u1)), some (eI (u2))]) (s2 := [eI (u0)]) rfl rfl rfl ?_
    refine b_igt (t1 := 79) (t2 := 65) rfl rfl rfl (ev_w_in (by omega) (by omega)) (fun g2 => ?_) (fun g2 => ?_)
    · refine w_t (np := 80) (l2 := [some (eR 98), some (eI (6)), some (eI (p)), some (eI (q)), some (eI (r)), some (eI (s)), some (eI (u0)), some (eI (u1)), some (eI (u2))]) (s2 := [eI (0)]) rfl rfl rfl ?_
      refine b_rz rfl rfl (Or.inl rfl) ?_
      exact k0 (by omega)
    · refine w_t (np := 67) (l2 := [some (eR 98), some (eI (6)), some (eI (p)), some (eI (q)), some (eI (r)), some (eI (s)), some (eI (u0)), some (eI (u1)), some (eI (u2))]) (s2 := [eI (u1)]) rfl rfl rfl ?_
      refine b_igt (t1 := 79) (t2 := 70) rfl rfl rfl (ev_w_in (by omega) (by omega)) (fun g3 => ?_) (fun g3 => ?_)
      · refine w_t (np := 80) (l2 := [some (eR 98), some (eI (6)), some (eI (p)), some (eI (q)), some (eI (r)), some (eI (s)), some (eI (u0)), some (eI (u1)), some (eI (u2))]) (s2 := [eI (0)]) rfl rfl rfl ?_
        refine b_rz rfl rfl (Or.inl rfl) ?_
        exact k0 (by omega)
      · refine w_t (np := 72) (l2 := [some (eR 98), some (eI (6)), some (eI (p)), some (eI (q)), some (eI (r)), some (eI (s)), some (eI (u0)), some (eI (u1)), some (eI (u2))]) (s2 := [eI (u2)]) rfl rfl rfl ?_
        refine b_igt (t1 := 79) (t2 := 75) rfl rfl rfl (ev_w_in (by omega) (by omega)) (fun g4 => ?_) (fun g4 => ?_)
        · refine w_t (np := 80) (l2 := [some (eR 98), some (eI (6)), some (eI (p)), some (eI (q)), some (eI (r)), some (eI (s)), some (eI (u0)), some (eI (u1)), some (eI (u2))]) (s2 := [eI (0)]) rfl rfl rfl ?_
          refine b_rz rfl rfl (Or.inl rfl) ?_
          exact k0 (by omega)
        · refine w_t (np := 76) (l2 := [some (eR 98), some (eI (6)), some (eI (p)), some (eI (q)), some (eI (r)), some (eI (s)), some (eI (u0)), some (eI (u1)), some (eI (u2))]) (s2 := [eI (1)]) rfl rfl rfl ?_
          refine w_go (t1 := 80) rfl rfl ?_
          refine b_rz rfl rfl (Or.inr rfl) ?_
          exact k1 (by omega)
  · refine w_t (np := 52) (l2 := [some (eR 98), some (eI (6)), some (eI (p)), some (eI (q)), some (eI (r)), some (eI (s)), some (eI (u0)), some (eI (u1)), some (eI (u2))]) (s2 := [eI (u1)]) rfl rfl rfl ?_
    refine b_ilt (t1 := 60) (t2 := 55) rfl rfl rfl (ev_w_in (by omega) (by omega)) (fun g2 => ?_) (fun g2 => ?_)
    · refine w_t (np := 62) (l2 := [some (eR 98), some (eI (6)), some (eI (p)), some (eI (q)), some (eI (r)), some (eI (s)), some (eI (u0)), some (eI (u1)), some (eI (u2))]) (s2 := [eI (u0)]) rfl rfl rfl ?_
      refine b_igt (t1 := 79) (t2 := 65) rfl rfl rfl (ev_w_in (by omega) (by omega)) (fun g3 => ?_) (fun g3 => ?_)
      · refine w_t (np := 80) (l2 := [some (eR 98), some (eI (6)), some (eI (p)), some (eI (q)), some (eI (r)), some (eI (s)), some (eI (u0)), some (eI (u1)), some (eI (u2))]) (s2 := [eI (0)]) rfl rfl rfl ?_
        refine b_rz rfl rfl (Or.inl rfl) ?_
        exact k0 (by omega)
      · refine w_t (np := 67) (l2 := [some (eR 98), some (eI (6)), some (eI (p)), some (eI (q)), some (eI (r)), some (eI (s)), some (eI (u0)), some (eI (u1)), some (eI (u2))]) (s2 := [eI (u1)]) rfl rfl rfl ?_
        refine b_igt (t1 := 79) (t2 := 70) rfl rfl rfl (ev_w_in (by omega) (by omega)) (fun g4 => ?_) (fun g4 => ?_)
        · refine w_t (np := 80) (l2 := [some (eR 98), some (eI (6)), some (eI (p)), some (eI (q)), some (eI (r)), some (eI (s)), some (eI (u0)), some (eI (u1)), some (eI (u2))]) (s2 := [eI (0)]) rfl rfl rfl ?_
          refine b_rz rfl rfl (Or.inl rfl) ?_
          exact k0 (by omega)
        · refine w_t (np := 72) (l2 := [some (eR 98), some (eI (6)), some (eI (p)), some (eI (q)), some (eI (r)), some (eI (s)), some (eI (u0)), some (eI (u1)), some (eI (u2))]) (s2 := [eI (u2)]) rfl rfl rfl ?_
          refine b_igt (t1 := 79) (t2 := 75) rfl rfl rfl (ev_w_in (by omega) (by omega)) (fun g5 => ?_) (fun g5 => ?_)
          · refine w_t (np := 80) (l2 := [some (eR 98), some (eI (6)), some (eI (p)), some (eI (q)), some (eI (r)), some (eI (s)), some (eI (u0)), some (eI (u1)), some (eI (u2))]) (s2 := [eI (0)]) rfl rfl rfl ?_
            refine b_rz rfl rfl (Or.inl rfl) ?_
            exact k0 (by omega)
          · refine w_t (np := 76) (l2 := [some (eR 98), some (eI (6)), some (eI (p)), some (eI (q)), some (eI (r)), some (eI (s)), some (eI (u0)), some (eI (u1)), some (eI (u2))]) (s2 := [eI (1)]) rfl rfl rfl ?_
            refine w_go (t1 := 80) rfl rfl ?_
            refine b_rz rfl rfl (Or.inr rfl) ?_
            exact k1 (by omega)
    · refine w_t (np := 57) (l2 := [some (eR 98), some (eI (6)), some (eI (p)), some (eI (q)), some (eI (r)), some (eI (s)), some (eI (u0)), some (eI (u1)), some (eI (u2))]) (s2 := [eI (u2)]) rfl rfl rfl ?_
      refine b_ige (t1 := 75) (t2 := 60) rfl rfl rfl (ev_w_in (by omega) (by omega)) (fun g3 => ?_) (fun g3 => ?_)
      · refine w_t (np := 76) (l2 := [some (eR 98), some (eI (6)), some (eI (p)), some (eI (q)), some (eI (r)), some (eI (s)), some (eI (u0)), some (eI (u1)), some (eI (u2))]) (s2 := [eI (1)]) rfl rfl rfl ?_
        refine w_go (t1 := 80) rfl rfl ?_
        refine b_rz rfl rfl (Or.inr rfl) ?_
        exact k1 (by omega)
      · refine w_t (np := 62) (l2 := [some (eR 98), some (eI (6)), some (eI (p)), some (eI (q)), some (eI (r)), some (eI (s)), some (eI (u0)), some (eI (u1)), some (eI (u2))]) (s2 := [eI (u0)]) rfl rfl rfl ?_
        refine b_igt (t1 := 79) (t2 := 65) rfl rfl rfl (ev_w_in (by omega) (by omega)) (fun g4 => ?_) (fun g4 => ?_)
        · refine w_t (np := 80) (l2 := [some (eR 98), some (eI (6)), some (eI (p)), some (eI (q)), some (eI (r)), some (eI (s)), some (eI (u0)), some (eI (u1)), some (eI (u2))]) (s2 := [eI (0)]) rfl rfl rfl ?_
          refine b_rz rfl rfl (Or.inl rfl) ?_
          exact k0 (by omega)
        · refine w_t (np := 67) (l2 := [some (eR 98), some (eI (6)), some (eI (p)), some (eI (q)), some (eI (r)), some (eI (s)), some (eI (u0)), some (eI (u1)), some (eI (u2))]) (s2 := [eI (u1)]) rfl rfl rfl ?_
          refine b_igt (t1 := 79) (t2 := 70) rfl rfl rfl (ev_w_in (by omega) (by omega)) (fun g5 => ?_) (fun g5 => ?_)
          · refine w_t (np := 80) (l2 := [some (eR 98), some (eI (6)), some (eI (p)), some (eI (q)), some (eI (r)), some (eI (s)), some (eI (u0)), some (eI (u1)), some (eI (u2))]) (s2 := [eI (0)]) rfl rfl rfl ?_
            refine b_rz rfl rfl (Or.inl rfl) ?_
            exact k0 (by omega)
          · refine w_t (np := 72) (l2 := [some (eR 98), some (eI (6)), some (eI (p)), some (eI (q)), some (eI (r)), some (eI (s)), some (eI (u0)), some (eI (u1)), some (eI (u2))]) (s2 := [eI (u2)]) rfl rfl rfl ?_
            refine b_igt (t1 := 79) (t2 := 75) rfl rfl rfl (ev_w_in (by omega) (by omega)) (fun g6 => ?_) (fun g6 => ?_)
            · refine w_t (np := 80) (l2 := [some (eR 98), some (eI (6)), some (eI (p)), some (eI (q)), some (eI (r)), some (eI (s)), some (eI (u0)), some (eI (u1)), some (eI (u2))]) (s2 := [eI (0)]) rfl rfl rfl ?_
              refine b_rz rfl rfl (Or.inl rfl) ?_
              exact k0 (by omega)
            · refine w_t (np := 76) (l2 := [some (eR 98), some (eI (6)), some (eI (p)), some (eI (q)), some (eI (r)), some (eI (s)), some (eI (u0)), some (eI (u1)), some (eI (u2))]) (s2 := [eI (1)]) rfl rfl rfl ?_
              refine w_go (t1 := 80) rfl rfl ?_
              refine b_rz rfl rfl (Or.inr rfl) ?_
              exact k1 (by omega)
theorem t266_7 {fg : eG} {rc rs d : Nat} {f : eFr} {F : List eFr} {μ : eM} {p q r s : Int} (hq : tQ μ) (hp : -9999 ≤ p ∧ p ≤ 9999) (hq0 : -9999 ≤ q ∧ q ≤ 9999) (hr : -9999 ≤ r ∧ r ≤ 9999) (hs : -9999 ≤ s ∧ s ≤ 9999) (K1 : ∀ μ2 : eM, tS μ μ2 → (((0 ≤ 1346269 * p + 832040 * q + (-832040) * s) ∧ (0 ≤ 514229 * q + 832040 * r + 832040 * s + (832040)) ∧ (0 ≤ (-1346269) * p + (-1346269) * q + (-832040) * r)) ∨ ((1346269 * p + 832040 * q + (-832040) * s ≤ 0) ∧ (514229 * q + 832040 * r + 832040 * s + (832040) ≤ 0) ∧ ((-1346269) * p + (-1346269) * q + (-832040) * r ≤ 0))) → ex_fine fg rc rs (d + 6, (f.1, f.2.1, f.2.2.1, eI 1 :: f.2.2.2), F, μ2)) (K0 : ∀ μ2 : eM, tS μ μ2 → ¬ (((0 ≤ 1346269 * p + 832040 * q + (-832040) * s) ∧ (0 ≤ 514229 * q + 832040 * r + 832040 * s + (832040)) ∧ (0 ≤ (-1346269) * p + (-1346269) * q + (-832040) * r)) ∨ ((1346269 * p + 832040 * q + (-832040) * s ≤ 0) ∧ (514229 * q + 832040 * r + 832040 * s + (832040) ≤ 0) ∧ ((-1346269) * p + (-1346269) * q + (-832040) * r ≤ 0))) → ex_fine fg rc rs (d + 6, (f.1, f.2.1, f.2.2.1, eI 0 :: f.2.2.2), F, μ2)) : ex_fine fg rc rs (d + 5, (266, 0, [some (eR 98), some (eI (7)), some (eI (p)), some (eI (q)), some (eI (r)), some (eI (s)), none, none, none], []), f :: F, μ) := by
  refine w_t (np := 1) (l2 := [some (eR 98), some (eI (7)), some (eI (p)), some (eI (q)), some (eI (r)), some (eI (s)), none, none, none]) (s2 := [eR 98]) rfl (s_an rfl (by decide)) rfl ?_
  refine w_t (np := 2) (l2 := [some (eR 98), some (eI (7)), some (eI (p)), some (eI (q)), some (eI (r)), some (eI (s)), none, none, none]) (s2 := [eI (7), eR 98]) rfl rfl rfl ?_
  refine w_t (np := 3) (l2 := [some (eR 98), some (eI (7)), some (eI (p)), some (eI (q)), some (eI (r)), some (eI (s)), none, none, none]) (s2 := [eI (0), eI (7), eR 98]) rfl rfl rfl ?_
  refine w_t (np := 4) (l2 := [some (eR 98), some (eI (7)), some (eI (p)), some (eI (q)), some (eI (r)), some (eI (s)), none, none, none]) (s2 := [eI (1), eI (0), eI (7), eR 98]) rfl rfl rfl ?_
  refine w_t (np := 5) (l2 := [some (eR 98), some (eI (7)), some (eI (p)), some (eI (q)), some (eI (r)), some (eI (s)), none, none, none]) (s2 := [eI (p), eI (1), eI (0), eI (7), eR 98]) rfl rfl rfl ?_
  refine w_t (np := 6) (l2 := [some (eR 98), some (eI (7)), some (eI (p)), some (eI (q)), some (eI (r)), some (eI (s)), none, none, none]) (s2 := [eI (q), eI (p), eI (1), eI (0), eI (7), eR 98]) rfl rfl rfl ?_
  refine w_t (np := 8) (l2 := [some (eR 98), some (eI (7)), some (eI (p)), some (eI (q)), some (eI (r)), some (eI (s)), none, none, none]) (s2 := [eI (r), eI (q), eI (p), eI (1), eI (0), eI (7), eR 98]) rfl rfl rfl ?_
  refine w_t (np := 10) (l2 := [some (eR 98), some (eI (7)), some (eI (p)), some (eI (q)), some (eI (r)), some (eI (s)), none, none, none]) (s2 := [eI (s), eI (r), eI (q), eI (p), eI (1), eI (0), eI (7), eR 98]) rfl rfl rfl ?_
  refine w_cw (np := 13) (as := [eI (7), eI (0), eI (1), eI (p), eI (q), eI (r), eI (s)]) (l2 := [some (eR 98), some (eI (7)), some (eI (0)), some (eI (1)), some (eI (p)), some (eI (q)), some (eI (r)), some (eI (s)), none, none]) (rest := []) rfl rfl rfl (Nat.ble_eq.mp rfl) rfl rfl rfl hq.1 rfl ?_
  refine t265_7_0 hq hp hq0 hr hs ?_
  intro m0 u0 s0 e0 w0
  have q0 := tQ_s hq s0
  have b0 : -1 ≤ u0 ∧ u0 ≤ 1 := by omega
  show ex_fine fg rc rs (d + 5, (266, 13, [some (eR 98), some (eI (7)), some (eI (p)), some (eI (q)), some (eI (r)), some (eI (s)), none, none, none], [eI (u0)]), f :: F, m0)
  refine w_t (np := 15) (l2 := [some (eR 98), some (eI (7)), some (eI (p)), some (eI (q)), some (eI (r)), some (eI (s)), some (eI (u0)), none, none]) (s2 := []) rfl rfl rfl ?_
  refine w_t (np := 16) (l2 := [some (eR 98), some (eI (7)), some (eI (p)), some (eI (q)), some (eI (r)), some (eI (s)), some (eI (u0)), none, none]) (s2 := [eR 98]) rfl (s_an rfl (by decide)) rfl ?_
  refine w_t (np := 17) (l2 := [some (eR 98), some (eI (7)), some (eI (p)), some (eI (q)), some (eI (r)), some (eI (s)), some (eI (u0)), none, none]) (s2 := [eI (7), eR 98]) rfl rfl rfl ?_
  refine w_t (np := 18) (l2 := [some (eR 98), some (eI (7)), some (eI (p)), some (eI (q)), some (eI (r)), some (eI (s)), some (eI (u0)), none, none]) (s2 := [eI (1), eI (7), eR 98]) rfl rfl rfl ?_
  refine w_t (np := 19) (l2 := [some (eR 98), some (eI (7)), some (eI (p)), some (eI (q)), some (eI (r)), some (eI (s)), some (eI (u0)), none, none]) (s2 := [eI (2), eI (1), eI (7), eR 98]) rfl rfl rfl ?_
  refine w_t (np := 20) (l2 := [some (eR 98), some (eI (7)), some (eI (p)), some (eI (q)), some (eI (r)), some (eI (s)), some (eI (u0)), none, none]) (s2 := [eI (p), eI (2), eI (1), eI (7), eR 98]) rfl rfl rfl ?_
  refine w_t (np := 21) (l2 := [some (eR 98), some (eI (7)), some (eI (p)), some (eI (q)), some (eI (r)), some (eI (s)), some (eI (u0)), none, none]) (s2 := [eI (q), eI (p), eI (2), eI (1), eI (7), eR 98]) rfl rfl rfl ?_
  refine w_t (np := 23) (l2 := [some (eR 98), some (eI (7)), some (eI (p)), some (eI (q)), some (eI (r)), some (eI (s)), some (eI (u0)), none, none]) (s2 := [eI (r), eI (q), eI (p), eI (2), eI (1), eI (7), eR 98]) rfl rfl rfl ?_
  refine w_t (np := 25) (l2 := [some (eR 98), some (eI (7)), some (eI (p)), some (eI (q)), some (eI (r)), some (eI (s)), some (eI (u0)), none, none]) (s2 := [eI (s), eI (r), eI (q), eI (p), eI (2), eI (1), eI (7), eR 98]) rfl rfl rfl ?_
  refine w_cw (np := 28) (as := [eI (7), eI (1), eI (2), eI (p), eI (q), eI (r), eI (s)]) (l2 := [some (eR 98), some (eI (7)), some (eI (1)), some (eI (2)), some (eI (p)), some (eI (q)), some (eI (r)), some (eI (s)), none, none]) (rest := []) rfl rfl rfl (Nat.ble_eq.mp rfl) rfl rfl rfl q0.1 rfl ?_
  refine t265_7_1 q0 hp hq0 hr hs ?_
  intro m1 u1 s1 e1 w1
  have q1 := tQ_s q0 s1
  have b1 : -1 ≤ u1 ∧ u1 ≤ 1 := by omega
  show ex_fine fg rc rs (d + 5, (266, 28, [some (eR 98), some (eI (7)), some (eI (p)), some (eI (q)), some (eI (r)), some (eI (s)), some (eI (u0)), none, none], [eI (u1)]), f :: F, m1)
  refine w_t (np := 30) (l2 := [some (eR 98), some (eI (7)), some (eI (p)), some (eI (q)), some (eI (r)), some (eI (s)), some (eI (u0)), some (eI (u1)), none]) (s2 := []) rfl rfl rfl ?_
  refine w_t (np := 31) (l2 := [some (eR 98), some (eI (7)), some (eI (p)), some (eI (q)), some (eI (r)), some (eI (s)), some (eI (u0)), some (eI (u1)), none]) (s2 := [eR 98]) rfl (s_an rfl (by decide)) rfl ?_
  refine w_t (np := 32) (l2 := [some (eR 98), some (eI (7)), some (eI (p)), some (eI (q)), some (eI (r)), some (eI (s)), some (eI (u0)), some (eI (u1)), none]) (s2 := [eI (7), eR 98]) rfl rfl rfl ?_
  refine w_t (np := 33) (l2 := [some (eR 98), some (eI (7)), some (eI (p)), some (eI (q)), some (eI (r)), some (eI (s)), some (eI (u0)), some (eI (u1)), none]) (s2 := [eI (2), eI (7), eR 98]) rfl rfl rfl ?_
  refine w_t (np := 34) (l2 := [some (eR 98), some (eI (7)), some (eI (p)), some (eI (q)), some (eI (r)), some (eI (s)), some (eI (u0)), some (eI (u1)), none]) (s2 := [eI (0), eI (2), eI (7), eR 98]) rfl rfl rfl ?_
  refine w_t (np := 35) (l2 := [some (eR 98), some (eI (7)), some (eI (p)), some (eI (q)), some (eI (r)), some (eI (s)), some (eI (u0)), some (eI (u1)), none]) (s2 := [eI (p), eI (0), eI (2), eI (7), eR 98]) rfl rfl rfl ?_
  refine w_t (np := 36) (l2 := [some (eR 98), some (eI (7)), some (eI (p)), some (eI (q)), some (eI (r)), some (eI (s)), some (eI (u0)), some (eI (u1)), none]) (s2 := [eI (q), eI (p), eI (0), eI (2), eI (7), eR 98]) rfl rfl rfl ?_
  refine w_t (np := 38) (l2 := [some (eR 98), some (eI (7)), some (eI (p)), some (eI (q)), some (eI (r)), some (eI (s)), some (eI (u0)), some (eI (u1)), none]) (s2 := [eI (r), eI (q), eI (p), eI (0), eI (2), eI (7), eR 98]) rfl rfl rfl ?_
  refine w_t (np := 40) (l2 := [some (eR 98), some (eI (7)), some (eI (p)), some (eI (q)), some (eI (r)), some (eI (s)), some (eI (u0)), some (eI (u1)), none]) (s2 := [eI (s), eI (r), eI (q), eI (p), eI (0), eI (2), eI (7), eR 98]) rfl rfl rfl ?_
  refine w_cw (np := 43) (as := [eI (7), eI (2), eI (0), eI (p), eI (q), eI (r), eI (s)]) (l2 := [some (eR 98), some (eI (7)), some (eI (2)), some (eI (0)), some (eI (p)), some (eI (q)), some (eI (r)), some (eI (s)), none, none]) (rest := []) rfl rfl rfl (Nat.ble_eq.mp rfl) rfl rfl rfl q1.1 rfl ?_
  refine t265_7_2 q1 hp hq0 hr hs ?_
  intro m2 u2 s2 e2 w2
  have q2 := tQ_s q1 s2
  have b2 : -1 ≤ u2 ∧ u2 ≤ 1 := by omega
  show ex_fine fg rc rs (d + 5, (266, 43, [some (eR 98), some (eI (7)), some (eI (p)), some (eI (q)), some (eI (r)), some (eI (s)), some (eI (u0)), some (eI (u1)), none], [eI (u2)]), f :: F, m2)
  have kc := in3 e0 e1 e2
  have k1 := fun (z : ((0 ≤ u0 ∧ 0 ≤ u1 ∧ 0 ≤ u2) ∨ (u0 ≤ 0 ∧ u1 ≤ 0 ∧ u2 ≤ 0))) => K1 m2 (tS_tr (tS_tr s0 s1) s2) (kc.mpr z)
  have k0 := fun (z : ¬ ((0 ≤ u0 ∧ 0 ≤ u1 ∧ 0 ≤ u2) ∨ (u0 ≤ 0 ∧ u1 ≤ 0 ∧ u2 ≤ 0))) => K0 m2 (tS_tr (tS_tr s0 s1) s2) (fun y => z (kc.mp y))
  clear K1 K0 kc e0 e1 e2 w0 w1 w2
  refine w_t (np := 45) (l2 := [some (eR 98), some (eI (7)), some (eI (p)), some (eI (q)), some (eI (r)), some (eI (s)), some (eI (u0)), some (eI (u1)), some (eI (u2))]) (s2 := []) rfl rfl rfl ?_
  refine w_t (np := 47) (l2 := [some (eR 98), some (eI (7)), some (eI (p)), some (eI (q)), some (eI (r)), some (eI (s)), some (eI (u0)), some (eI (u1)), some (eI (u2))]) (s2 := [eI (u0)]) rfl rfl rfl ?_
  refine b_ilt (t1 := 60) (t2 := 50) rfl rfl rfl (ev_w_in (by omega) (by omega)) (fun g1 => ?_) (fun g1 => ?_)
  · refine w_t (np := 62) (l2 := [some (eR 98), some (eI (7)), some (eI (p)), some (eI (q)), some (eI (r)), some (eI (s)), some (eI (u0)), some (eI (u1)), some (eI (u2))]) (s2 := [eI (u0)]) rfl rfl rfl ?_
    refine b_igt (t1 := 79) (t2 := 65) rfl rfl rfl (ev_w_in (by omega) (by omega)) (fun g2 => ?_) (fun g2 => ?_)
    · refine w_t (np := 80) (l2 := [some (eR 98), some (eI (7)), some (eI (p)), some (eI (q)), some (eI (r)), some (eI (s)), some (eI (u0)), some (eI (u1)), some (eI (u2))]) (s2 := [eI (0)]) rfl rfl rfl ?_
      refine b_rz rfl rfl (Or.inl rfl) ?_
      exact k0 (by omega)
    · refine w_t (np := 67) (l2 := [some (eR 98), some (eI (7)), some (eI (p)), some (eI (q)), some (eI (r)), some (eI (s)), some (eI (u0)), some (eI (u1)), some (eI (u2))]) (s2 := [eI (u1)]) rfl rfl rfl ?_
      refine b_igt (t1 := 79) (t2 := 70) rfl rfl rfl (ev_w_in (by omega) (by omega)) (fun g3 => ?_) (fun g3 => ?_)
      · refine w_t (np := 80) (l2 := [some (eR 98), some (eI (7)), some (eI (p)), some (eI (q)), some (eI (r)), some (eI (s)), some (eI (u0)), some (eI (u1)), some (eI (u2))]) (s2 := [eI (0)]) rfl rfl rfl ?_
        refine b_rz rfl rfl (Or.inl rfl) ?_
        exact k0 (by omega)
      · refine w_t (np := 72) (l2 := [some (eR 98), some (eI (7)), some (eI (p)), some (eI (q)), some (eI (r)), some (eI (s)), some (eI (u0)), some (eI (u1)), some (eI (u2))]) (s2 := [eI (u2)]) rfl rfl rfl ?_
        refine b_igt (t1 := 79) (t2 := 75) rfl rfl rfl (ev_w_in (by omega) (by omega)) (fun g4 => ?_) (fun g4 => ?_)
        · refine w_t (np := 80) (l2 := [some (eR 98), some (eI (7)), some (eI (p)), some (eI (q)), some (eI (r)), some (eI (s)), some (eI (u0)), some (eI (u1)), some (eI (u2))]) (s2 := [eI (0)]) rfl rfl rfl ?_
          refine b_rz rfl rfl (Or.inl rfl) ?_
          exact k0 (by omega)
        · refine w_t (np := 76) (l2 := [some (eR 98), some (eI (7)), some (eI (p)), some (eI (q)), some (eI (r)), some (eI (s)), some (eI (u0)), some (eI (u1)), some (eI (u2))]) (s2 := [eI (1)]) rfl rfl rfl ?_
          refine w_go (t1 := 80) rfl rfl ?_
          refine b_rz rfl rfl (Or.inr rfl) ?_
          exact k1 (by omega)
  · refine w_t (np := 52) (l2 := [some (eR 98), some (eI (7)), some (eI (p)), some (eI (q)), some (eI (r)), some (eI (s)), some (eI (u0)), some (eI (u1)), some (eI (u2))]) (s2 := [eI (u1)]) rfl rfl rfl ?_
    refine b_ilt (t1 := 60) (t2 := 55) rfl rfl rfl (ev_w_in (by omega) (by omega)) (fun g2 => ?_) (fun g2 => ?_)
    · refine w_t (np := 62) (l2 := [some (eR 98), some (eI (7)), some (eI (p)), some (eI (q)), some (eI (r)), some (eI (s)), some (eI (u0)), some (eI (u1)), some (eI (u2))]) (s2 := [eI (u0)]) rfl rfl rfl ?_
      refine b_igt (t1 := 79) (t2 := 65) rfl rfl rfl (ev_w_in (by omega) (by omega)) (fun g3 => ?_) (fun g3 => ?_)
      · refine w_t (np := 80) (l2 := [some (eR 98), some (eI (7)), some (eI (p)), some (eI (q)), some (eI (r)), some (eI (s)), some (eI (u0)), some (eI (u1)), some (eI (u2))]) (s2 := [eI (0)]) rfl rfl rfl ?_
        refine b_rz rfl rfl (Or.inl rfl) ?_
        exact k0 (by omega)
      · refine w_t (np := 67) (l2 := [some (eR 98), some (eI (7)), some (eI (p)), some (eI (q)), some (eI (r)), some (eI (s)), some (eI (u0)), some (eI (u1)), some (eI (u2))]) (s2 := [eI (u1)]) rfl rfl rfl ?_
        refine b_igt (t1 := 79) (t2 := 70) rfl rfl rfl (ev_w_in (by omega) (by omega)) (fun g4 => ?_) (fun g4 => ?_)
        · refine w_t (np := 80) (l2 := [some (eR 98), some (eI (7)), some (eI (p)), some (eI (q)), some (eI (r)), some (eI (s)), some (eI (u0)), some (eI (u1)), some (eI (u2))]) (s2 := [eI (0)]) rfl rfl rfl ?_
          refine b_rz rfl rfl (Or.inl rfl) ?_
          exact k0 (by omega)
        · refine w_t (np := 72) (l2 := [some (eR 98), some (eI (7)), some (eI (p)), some (eI (q)), some (eI (r)), some (eI (s)), some (eI (u0)), some (eI (u1)), some (eI (u2))]) (s2 := [eI (u2)]) rfl rfl rfl ?_
          refine b_igt (t1 := 79) (t2 := 75) rfl rfl rfl (ev_w_in (by omega) (by omega)) (fun g5 => ?_) (fun g5 => ?_)
          · refine w_t (np := 80) (l2 := [some (eR 98), some (eI (7)), some (eI (p)), some (eI (q)), some (eI (r)), some (eI (s)), some (eI (u0)), some (eI (u1)), some (eI (u2))]) (s2 := [eI (0)]) rfl rfl rfl ?_
            refine b_rz rfl rfl (Or.inl rfl) ?_
            exact k0 (by omega)
          · refine w_t (np := 76) (l2 := [some (eR 98), some (eI (7)), some (eI (p)), some (eI (q)), some (eI (r)), some (eI (s)), some (eI (u0)), some (eI (u1)), some (eI (u2))]) (s2 := [eI (1)]) rfl rfl rfl ?_
            refine w_go (t1 := 80) rfl rfl ?_
            refine b_rz rfl rfl (Or.inr rfl) ?_
            exact k1 (by omega)
    · refine w_t (np := 57) (l2 := [some (eR 98), some (eI (7)), some (eI (p)), some (eI (q)), some (eI (r)), some (eI (s)), some (eI (u0)), some (eI (u1)), some (eI (u2))]) (s2 := [eI (u2)]) rfl rfl rfl ?_
      refine b_ige (t1 := 75) (t2 := 60) rfl rfl rfl (ev_w_in (by omega) (by omega)) (fun g3 => ?_) (fun g3 => ?_)
      · refine w_t (np := 76) (l2 := [some (eR 98), some (eI (7)), some (eI (p)), some (eI (q)), some (eI (r)), some (eI (s)), some (eI (u0)), some (eI (u1)), some (eI (u2))]) (s2 := [eI (1)]) rfl rfl rfl ?_
        refine w_go (t1 := 80) rfl rfl ?_
        refine b_rz rfl rfl (Or.inr rfl) ?_
        exact k1 (by omega)
      · refine w_t (np := 62) (l2 := [some (eR 98), some (eI (7)), some (eI (p)), some (eI (q)), some (eI (r)), some (eI (s)), some (eI (u0)), some (eI (u1)), some (eI (u2))]) (s2 := [eI (u0)]) rfl rfl rfl ?_
        refine b_igt (t1 := 79) (t2 := 65) rfl rfl rfl (ev_w_in (by omega) (by omega)) (fun g4 => ?_) (fun g4 => ?_)
        · refine w_t (np := 80) (l2 := [some (eR 98), some (eI (7)), some (eI (p)), some (eI (q)), some (eI (r)), some (eI (s)), some (eI (u0)), some (eI (u1)), some (eI (u2))]) (s2 := [eI (0)]) rfl rfl rfl ?_
          refine b_rz rfl rfl (Or.inl rfl) ?_
          exact k0 (by omega)
        · refine w_t (np := 67) (l2 := [some (eR 98), some (eI (7)), some (eI (p)), some (eI (q)), some (eI (r)), some (eI (s)), some (eI (u0)), some (eI (u1)), some (eI (u2))]) (s2 := [eI (u1)]) rfl rfl rfl ?_
          refine b_igt (t1 := 79) (t2 := 70) rfl rfl rfl (ev_w_in (by omega) (by omega)) (fun g5 => ?_) (fun g5 => ?_)
          · refine w_t (np := 80) (l2 := [some (eR 98), some (eI (7)), some (eI (p)), some (eI (q)), some (eI (r)), some (eI (s)), some (eI (u0)), some (eI (u1)), some (eI (u2))]) (s2 := [eI (0)]) rfl rfl rfl ?_
            refine b_rz rfl rfl (Or.inl rfl) ?_
            exact k0 (by omega)
          · refine w_t (np := 72) (l2 := [some (eR 98), some (eI (7)), some (eI (p)), some (eI (q)), some (eI (r)), some (eI (s)), some (eI (u0)), some (eI (u1)), some (eI (u2))]) (s2 := [eI (u2)]) rfl rfl rfl ?_
            refine b_igt (t1 := 79) (t2 := 75) rfl rfl rfl (ev_w_in (by omega) (by omega)) (fun g6 => ?_) (fun g6 => ?_)
            · refine w_t (np := 80) (l2 := [some (eR 98), some (eI (7)), some (eI (p)), some (eI (q)), some (eI (r)), some (eI (s)), some (eI (u0)), some (eI (u1)), some (eI (u2))]) (s2 := [eI (0)]) rfl rfl rfl ?_
              refine b_rz rfl rfl (Or.inl rfl) ?_
              exact k0 (by omega)
            · refine w_t (np := 76) (l2 := [some (eR 98), some (eI (7)), some (eI (p)), some (eI (q)), some (eI (r)), some (eI (s)), some (eI (u0)), some (eI (u1)), some (eI (u2))]) (s2 := [eI (1)]) rfl rfl rfl ?_
              refine w_go (t1 := 80) rfl rfl ?_
              refine b_rz rfl rfl (Or.inr rfl) ?_
              exact k1 (by omega)
theorem t266_8 {fg : eG} {rc rs d : Nat} {f : eFr} {F : List eFr} {μ : eM} {p q r s : Int} (hq : tQ μ) (hp : -9999 ≤ p ∧ p ≤ 9999) (hq0 : -9999 ≤ q ∧ q ≤ 9999) (hr : -9999 ≤ r ∧ r ≤ 9999) (hs : -9999 ≤ s ∧ s ≤ 9999) (K1 : ∀ μ2 : eM, tS μ μ2 → (((0 ≤ 832040 * p + 1346269 * q + 1346269 * r + 832040 * s) ∧ (0 ≤ 514229 * p + (-514229) * r + (-832040) * s + (-832040)) ∧ (0 ≤ (-1346269) * p + (-1346269) * q + (-832040) * r)) ∨ ((832040 * p + 1346269 * q + 1346269 * r + 832040 * s ≤ 0) ∧ (514229 * p + (-514229) * r + (-832040) * s + (-832040) ≤ 0) ∧ ((-1346269) * p + (-1346269) * q + (-832040) * r ≤ 0))) → ex_fine fg rc rs (d + 6, (f.1, f.2.1, f.2.2.1, eI 1 :: f.2.2.2), F, μ2)) (K0 : ∀ μ2 : eM, tS μ μ2 → ¬ (((0 ≤ 832040 * p + 1346269 * q + 1346269 * r + 832040 * s) ∧ (0 ≤ 514229 * p + (-514229) * r + (-832040) * s + (-832040)) ∧ (0 ≤ (-1346269) * p + (-1346269) * q + (-832040) * r)) ∨ ((832040 * p + 1346269 * q + 1346269 * r + 832040 * s ≤ 0) ∧ (514229 * p + (-514229) * r + (-832040) * s + (-832040) ≤ 0) ∧ ((-1346269) * p + (-1346269) * q + (-832040) * r ≤ 0))) → ex_fine fg rc rs (d + 6, (f.1, f.2.1, f.2.2.1, eI 0 :: f.2.2.2), F, μ2)) : ex_fine fg rc rs (d + 5, (266, 0, [some (eR 98), some (eI (8)), some (eI (p)), some (eI (q)), some (eI (r)), some (eI (s)), none, none, none], []), f :: F, μ) := by
  refine w_t (np := 1) (l2 := [some (eR 98), some (eI (8)), some (eI (p)), some (eI (q)), some (eI (r)), some (eI (s)), none, none, none]) (s2 := [eR 98]) rfl (s_an rfl (by decide)) rfl ?_
  refine w_t (np := 2) (l2 := [some (eR 98), some (eI (8)), some (eI (p)), some (eI (q)), some (eI (r)), some (eI (s)), none, none, none]) (s2 := [eI (8), eR 98]) rfl rfl rfl ?_
  refine w_t (np := 3) (l2 := [some (eR 98), some (eI (8)), some (eI (p)), some (eI (q)), some (eI (r)), some (eI (s)), none, none, none]) (s2 := [eI (0), eI (8), eR 98]) rfl rfl rfl ?_
  refine w_t (np := 4) (l2 := [some (eR 98), some (eI (8)), some (eI (p)), some (eI (q)), some (eI (r)), some (eI (s)), none, none, none]) (s2 := [eI (1), eI (0), eI (8), eR 98]) rfl rfl rfl ?_
  refine w_t (np := 5) (l2 := [some (eR 98), some (eI (8)), some (eI (p)), some (eI (q)), some (eI (r)), some (eI (s)), none, none, none]) (s2 := [eI (p), eI (1), eI (0), eI (8), eR 98]) rfl rfl rfl ?_
  refine w_t (np := 6) (l2 := [some (eR 98), some (eI (8)), some (eI (p)), some (eI (q)), some (eI (r)), some (eI (s)), none, none, none]) (s2 := [eI (q), eI (p), eI (1), eI (0), eI (8), eR 98]) rfl rfl rfl ?_
  refine w_t (np := 8) (l2 := [some (eR 98), some (eI (8)), some (eI (p)), some (eI (q)), some (eI (r)), some (eI (s)), none, none, none]) (s2 := [eI (r), eI (q), eI (p), eI (1), eI (0), eI (8), eR 98]) rfl rfl rfl ?_
  refine w_t (np := 10) (l2 := [some (eR 98), some (eI (8)), some (eI (p)), some (eI (q)), some (eI (r)), some (eI (s)), none, none, none]) (s2 := [eI (s), eI (r), eI (q), eI (p), eI (1), eI (0), eI (8), eR 98]) rfl rfl rfl ?_
  refine w_cw (np := 13) (as := [eI (8), eI (0), eI (1), eI (p), eI (q), eI (r), eI (s)]) (l2 := [some (eR 98), some (eI (8)), some (eI (0)), some (eI (1)), some (eI (p)), some (eI (q)), some (eI (r)), some (eI (s)), none, none]) (rest := []) rfl rfl rfl (Nat.ble_eq.mp rfl) rfl rfl rfl hq.1 rfl ?_
  refine t265_8_0 hq hp hq0 hr hs ?_
  intro m0 u0 s0 e0 w0
  have q0 := tQ_s hq s0
  have b0 : -1 ≤ u0 ∧ u0 ≤ 1 := by omega
  show ex_fine fg rc rs (d + 5, (266, 13, [some (eR 98), some (eI (8)), some (eI (p)), some (eI (q)), some (eI (r)), some (eI (s)), none, none, none], [eI (u0)]), f :: F, m0)
  refine w_t (np := 15) (l2 := [some (eR 98), some (eI (8)), some (eI (p)), some (eI (q)), some (eI (r)), some (eI (s)), some (eI (u0)), none, none]) (s2 := []) rfl rfl rfl ?_
  refine w_t (np := 16) (l2 := [some (eR 98), some (eI (8)), some (eI (p)), some (eI (q)), some (eI (r)), some (eI (s)), some (eI (u0)), none, none]) (s2 := [eR 98]) rfl (s_an rfl (by decide)) rfl ?_
  refine w_t (np := 17) (l2 := [some (eR 98), some (eI (8)), some (eI (p)), some (eI (q)), some (eI (r)), some (eI (s)), some (eI (u0)), none, none]) (s2 := [eI (8), eR 98]) rfl rfl rfl ?_
  refine w_t (np := 18) (l2 := [some (eR 98), some (eI (8)), some (eI (p)), some (eI (q)), some (eI (r)), some (eI (s)), some (eI (u0)), none, none]) (s2 := [eI (1), eI (8), eR 98]) rfl rfl rfl ?_
  refine w_t (np := 19) (l2 := [some (eR 98), some (eI (8)), some (eI (p)), some (eI (q)), some (eI (r)), some (eI (s)), some (eI (u0)), none, none]) (s2 := [eI (2), eI (1), eI (8), eR 98]) rfl rfl rfl ?_
  refine w_t (np := 20) (l2 := [some (eR 98), some (eI (8)), some (eI (p)), some (eI (q)), some (eI (r)), some (eI (s)), some (eI (u0)), none, none]) (s2 := [eI (p), eI (2), eI (1), eI (8), eR 98]) rfl rfl rfl ?_
  refine w_t (np := 21) (l2 := [some (eR 98), some (eI (8)), some (eI (p)), some (eI (q)), some (eI (r)), some (eI (s)), some (eI (u0)), none, none]) (s2 := [eI (q), eI (p), eI (2), eI (1), eI (8), eR 98]) rfl rfl rfl ?_
  refine w_t (np := 23) (l2 := [some (eR 98), some (eI (8)), some (eI (p)), some (eI (q)), some (eI (r)), some (eI (s)), some (eI (u0)), none, none]) (s2 := [eI (r), eI (q), eI (p), eI (2), eI (1), eI (8), eR 98]) rfl rfl rfl ?_
  refine w_t (np := 25) (l2 := [some (eR 98), some (eI (8)), some (eI (p)), some (eI (q)), some (eI (r)), some (eI (s)), some (eI (u0)), none, none]) (s2 := [eI (s), eI (r), eI (q), eI (p), eI (2), eI (1), eI (8), eR 98]) rfl rfl rfl ?_
  refine w_cw (np := 28) (as := [eI (8), eI (1), eI (2), eI (p), eI (q), eI (r), eI (s)]) (l2 := [some (eR 98), some (eI (8)), some (eI (1)), some (eI (2)), some (eI (p)), some (eI (q)), some (eI (r)), some (eI (s)), none, none]) (rest := []) rfl rfl rfl (Nat.ble_eq.mp rfl) rfl rfl rfl q0.1 rfl ?_
  refine t265_8_1 q0 hp hq0 hr hs ?_
  intro m1 u1 s1 e1 w1
  have q1 := tQ_s q0 s1
  have b1 : -1 ≤ u1 ∧ u1 ≤ 1 := by omega
  show ex_fine fg rc rs (d + 5, (266, 28, [some (eR 98), some (eI (8)), some (eI (p)), some (eI (q)), some (eI (r)), some (eI (s)), some (eI (u0)), none, none], [eI (u1)]), f :: F, m1)
  refine w_t (np := 30) (l2 := [some (eR 98), some (eI (8)), some (eI (p)), some (eI (q)), some (eI (r)), some (eI (s)), some (eI (u0)), some (eI (u1)), none]) (s2 := []) rfl rfl rfl ?_
  refine w_t (np := 31) (l2 := [some (eR 98), some (eI (8)), some (eI (p)), some (eI (q)), some (eI (r)), some (eI (s)), some (eI (u0)), some (eI (u1)), none]) (s2 := [eR 98]) rfl (s_an rfl (by decide)) rfl ?_
  refine w_t (np := 32) (l2 := [some (eR 98), some (eI (8)), some (eI (p)), some (eI (q)), some (eI (r)), some (eI (s)), some (eI (u0)), some (eI (u1)), none]) (s2 := [eI (8), eR 98]) rfl rfl rfl ?_
  refine w_t (np := 33) (l2 := [some (eR 98), some (eI (8)), some (eI (p)), some (eI (q)), some (eI (r)), some (eI (s)), some (eI (u0)), some (eI (u1)), none]) (s2 := [eI (2), eI (8), eR 98]) rfl rfl rfl ?_
  refine w_t (np := 34) (l2 := [some (eR 98), some (eI (8)), some (eI (p)), some (eI (q)), some (eI (r)), some (eI (s)), some (eI (u0)), some (eI (u1)), none]) (s2 := [eI (0), eI (2), eI (8), eR 98]) rfl rfl rfl ?_
  refine w_t (np := 35) (l2 := [some (eR 98), some (eI (8)), some (eI (p)), some (eI (q)), some (eI (r)), some (eI (s)), some (eI (u0)), some (eI (u1)), none]) (s2 := [eI (p), eI (0), eI (2), eI (8), eR 98]) rfl rfl rfl ?_
  refine w_t (np := 36) (l2 := [some (eR 98), some (eI (8)), some (eI (p)), some (eI (q)), some (eI (r)), some (eI (s)), some (eI (u0)), some (eI (u1)), none]) (s2 := [eI (q), eI (p), eI (0), eI (2), eI (8), eR 98]) rfl rfl rfl ?_
  refine w_t (np := 38) (l2 := [some (eR 98), some (eI (8)), some (eI (p)), some (eI (q)), some (eI (r)), some (eI (s)), some (eI (u0)), some (eI (u1)), none]) (s2 := [eI (r), eI (q), eI (p), eI (0), eI (2), eI (8), eR 98]) rfl rfl rfl ?_
  refine w_t (np := 40) (l2 := [some (eR 98), some (eI (8)), some (eI (p)), some (eI (q)), some (eI (r)), some (eI (s)), some (eI (u0)), some (eI (u1)), none]) (s2 := [eI (s), eI (r), eI (q), eI (p), eI (0), eI (2), eI (8), eR 98]) rfl rfl rfl ?_
  refine w_cw (np := 43) (as := [eI (8), eI (2), eI (0), eI (p), eI (q), eI (r), eI (s)]) (l2 := [some (eR 98), some (eI (8)), some (eI (2)), some (eI (0)), some (eI (p)), some (eI (q)), some (eI (r)), some (eI (s)), none, none]) (rest := []) rfl rfl rfl (Nat.ble_eq.mp rfl) rfl rfl rfl q1.1 rfl ?_
  refine t265_8_2 q1 hp hq0 hr hs ?_
  intro m2 u2 s2 e2 w2
  have q2 := tQ_s q1 s2
  have b2 : -1 ≤ u2 ∧ u2 ≤ 1 := by omega
  show ex_fine fg rc rs (d + 5, (266, 43, [some (eR 98), some (eI (8)), some (eI (p)), some (eI (q)), some (eI (r)), some (eI (s)), some (eI (u0)), some (eI (u1)), none], [eI (u2)]), f :: F, m2)
  have kc := in3 e0 e1 e2
  have k1 := fun (z : ((0 ≤ u0 ∧ 0 ≤ u1 ∧ 0 ≤ u2) ∨ (u0 ≤ 0 ∧ u1 ≤ 0 ∧ u2 ≤ 0))) => K1 m2 (tS_tr (tS_tr s0 s1) s2) (kc.mpr z)
  have k0 := fun (z : ¬ ((0 ≤ u0 ∧ 0 ≤ u1 ∧ 0 ≤ u2) ∨ (u0 ≤ 0 ∧ u1 ≤ 0 ∧ u2 ≤ 0))) => K0 m2 (tS_tr (tS_tr s0 s1) s2) (fun y => z (kc.mp y))
  clear K1 K0 kc e0 e1 e2 w0 w1 w2
  refine w_t (np := 45) (l2 := [some (eR 98), some (eI (8)), some (eI (p)), some (eI (q)), some (eI (r)), some (eI (s)), some (eI (u0)), some (eI (u1)), some (eI (u2))]) (s2 := []) rfl rfl rfl ?_
  refine w_t (np := 47) (l2 := [some (eR 98), some (eI (8)), some (eI (p)), some (eI (q)), some (eI (r)), some (eI (s)), some (eI (u0)), some (eI (u1)), some (eI (u2))]) (s2 := [eI (u0)]) rfl rfl rfl ?_
  refine b_ilt (t1 := 60) (t2 := 50) rfl rfl rfl (ev_w_in (by omega) (by omega)) (fun g1 => ?_) (fun g1 => ?_)
  · refine w_t (np := 62) (l2 := [some (eR 98), some (eI (8)), some (eI (p)), some (eI (q)), some (eI (r)), some (eI (s)), some (eI (u0)), some (eI (u1)), some (eI (u2))]) (s2 := [eI (u0)]) rfl rfl rfl ?_
    refine b_igt (t1 := 79) (t2 := 65) rfl rfl rfl (ev_w_in (by omega) (by omega)) (fun g2 => ?_) (fun g2 => ?_)
    · refine w_t (np := 80) (l2 := [some (eR 98), some (eI (8)), some (eI (p)), some (eI (q)), some (eI (r)), some (eI (s)), some (eI (u0)), some (eI (u1)), some (eI (u2))]) (s2 := [eI (0)]) rfl rfl rfl ?_
      refine b_rz rfl rfl (Or.inl rfl) ?_
      exact k0 (by omega)
    · refine w_t (np := 67) (l2 := [some (eR 98), some (eI (8)), some (eI (p)), some (eI (q)), some (eI (r)), some (eI (s)), some (eI (u0)), some (eI (u1)), some (eI (u2))]) (s2 := [eI (u1)]) rfl rfl rfl ?_
      refine b_igt (t1 := 79) (t2 := 70) rfl rfl rfl (ev_w_in (by omega) (by omega)) (fun g3 => ?_) (fun g3 => ?_)
      · refine w_t (np := 80) (l2 := [some (eR 98), some (eI (8)), some (eI (p)), some (eI (q)), some (eI (r)), some (eI (s)), some (eI (u0)), some (eI (u1)), some (eI (u2))]) (s2 := [eI (0)]) rfl rfl rfl ?_
        refine b_rz rfl rfl (Or.inl rfl) ?_
        exact k0 (by omega)
      · refine w_t (np := 72) (l2 := [some (eR 98), some (eI (8)), some (eI (p)), some (eI (q)), some (eI (r)), some (eI (s)), some (eI (u0)), some (eI (u1)), some (eI (u2))]) (s2 := [eI (u2)]) rfl rfl rfl ?_
        refine b_igt (t1 := 79) (t2 := 75) rfl rfl rfl (ev_w_in (by omega) (by omega)) (fun g4 => ?_) (fun g4 => ?_)
        · refine w_t (np := 80) (l2 := [some (eR 98), some (eI (8)), some (eI (p)), some (eI (q)), some (eI (r)), some (eI (s)), some (eI (u0)), some (eI (u1)), some (eI (u2))]) (s2 := [eI (0)]) rfl rfl rfl ?_
          refine b_rz rfl rfl (Or.inl rfl) ?_
          exact k0 (by omega)
        · refine w_t (np := 76) (l2 := [some (eR 98), some (eI (8)), some (eI (p)), some (eI (q)), some (eI (r)), some (eI (s)), some (eI (u0)), some (eI (u1)), some (eI (u2))]) (s2 := [eI (1)]) rfl rfl rfl ?_
          refine w_go (t1 := 80) rfl rfl ?_
          refine b_rz rfl rfl (Or.inr rfl) ?_
          exact k1 (by omega)
  · refine w_t (np := 52) (l2 := [some (eR 98), some (eI (8)), some (eI (p)), some (eI (q)), some (eI (r)), some (eI (s)), some (eI (u0)), some (eI (u1)), some (eI (u2))]) (s2 := [eI (u1)]) rfl rfl rfl ?_
    refine b_ilt (t1 := 60) (t2 := 55) rfl rfl rfl (ev_w_in (by omega) (by omega)) (fun g2 => ?_) (fun g2 => ?_)
    · refine w_t (np := 62) (l2 := [some (eR 98), some (eI (8)), some (eI (p)), some (eI (q)), some (eI (r)), some (eI (s)), some (eI (u0)), some (eI (u1)), some (eI (u2))]) (s2 := [eI (u0)]) rfl rfl rfl ?_
      refine b_igt (t1 := 79) (t2 := 65) rfl rfl rfl (ev_w_in (by omega) (by omega)) (fun g3 => ?_) (fun g3 => ?_)
      · refine w_t (np := 80) (l2 := [some (eR 98), some (eI (8)), some (eI (p)), some (eI (q)), some (eI (r)), some (eI (s)), some (eI (u0)), some (eI (u1)), some (eI (u2))]) (s2 := [eI (0)]) rfl rfl rfl ?_
        refine b_rz rfl rfl (Or.inl rfl) ?_
        exact k0 (by omega)
      · refine w_t (np := 67) (l2 := [some (eR 98), some (eI (8)), some (eI (p)), some (eI (q)), some (eI (r)), some (eI (s)), some (eI (u0)), some (eI (u1)), some (eI (u2))]) (s2 := [eI (u1)]) rfl rfl rfl ?_
        refine b_igt (t1 := 79) (t2 := 70) rfl rfl rfl (ev_w_in (by omega) (by omega)) (fun g4 => ?_) (fun g4 => ?_)
        · refine w_t (np := 80) (l2 := [some (eR 98), some (eI (8)), some (eI (p)), some (eI (q)), some (eI (r)), some (eI (s)), some (eI (u0)), some (eI (u1)), some (eI (u2))]) (s2 := [eI (0)]) rfl rfl rfl ?_
          refine b_rz rfl rfl (Or.inl rfl) ?_
          exact k0 (by omega)
        · refine w_t (np := 72) (l2 := [some (eR 98), some (eI (8)), some (eI (p)), some (eI (q)), some (eI (r)), some (eI (s)), some (eI (u0)), some (eI (u1)), some (eI (u2))]) (s2 := [eI (u2)]) rfl rfl rfl ?_
          refine b_igt (t1 := 79) (t2 := 75) rfl rfl rfl (ev_w_in (by omega) (by omega)) (fun g5 => ?_) (fun g5 => ?_)
          · refine w_t (np := 80) (l2 := [some (eR 98), some (eI (8)), some (eI (p)), some (eI (q)), some (eI (r)), some (eI (s)), some (eI (u0)), some (eI (u1)), some (eI (u2))]) (s2 := [eI (0)]) rfl rfl rfl ?_
            refine b_rz rfl rfl (Or.inl rfl) ?_
            exact k0 (by omega)
          · refine w_t (np := 76) (l2 := [some (eR 98), some (eI (8)), some (eI (p)), some (eI (q)), some (eI (r)), some (eI (s)), some (eI (u0)), some (eI (u1)), some (eI (u2))]) (s2 := [eI (1)]) rfl rfl rfl ?_
            refine w_go (t1 := 80) rfl rfl ?_
            refine b_rz rfl rfl (Or.inr rfl) ?_
            exact k1 (by omega)
    · refine w_t (np := 57) (l2 := [some (eR 98), some (eI (8)), some (eI (p)), some (eI (q)), some (eI (r)), some (eI (s)), some (eI (u0)), some (eI (u1)), some (eI (u2))]) (s2 := [eI (u2)]) rfl rfl rfl ?_
      refine b_ige (t1 := 75) (t2 := 60) rfl rfl rfl (ev_w_in (by omega) (by omega)) (fun g3 => ?_) (fun g3 => ?_)
      · refine w_t (np := 76) (l2 := [some (eR 98), some (eI (8)), some (eI (p)), some (eI (q)), some (eI (r)), some (eI (s)), some (eI (u0)), some (eI (u1)), some (eI (u2))]) (s2 := [eI (1)]) rfl rfl rfl ?_
        refine w_go (t1 := 80) rfl rfl ?_
        refine b_rz rfl rfl (Or.inr rfl) ?_
        exact k1 (by omega)
      · refine w_t (np := 62) (l2 := [some (eR 98), some (eI (8)), some (eI (p)), some (eI (q)), some (eI (r)), some (eI (s)), some (eI (u0)), some (eI (u1)), some (eI (u2))]) (s2 := [eI (u0)]) rfl rfl rfl ?_
        refine b_igt (t1 := 79) (t2 := 65) rfl rfl rfl (ev_w_in (by omega) (by omega)) (fun g4 => ?_) (fun g4 => ?_)
        · refine w_t (np := 80) (l2 := [some (eR 98), some (eI (8)), some (eI (p)), some (eI (q)), some (eI (r)), some (eI (s)), some (eI (u0)), some (eI (u1)), some (eI (u2))]) (s2 := [eI (0)]) rfl rfl rfl ?_
          refine b_rz rfl rfl (Or.inl rfl) ?_
          exact k0 (by omega)
        · refine w_t (np := 67) (l2 := [some (eR 98), some (eI (8)), some (eI (p)), some (eI (q)), some (eI (r)), some (eI (s)), some (eI (u0)), some (eI (u1)), some (eI (u2))]) (s2 := [eI (u1)]) rfl rfl rfl ?_
          refine b_igt (t1 := 79) (t2 := 70) rfl rfl rfl (ev_w_in (by omega) (by omega)) (fun g5 => ?_) (fun g5 => ?_)
          · refine w_t (np := 80) (l2 := [some (eR 98), some (eI (8)), some (eI (p)), some (eI (q)), some (eI (r)), some (eI (s)), some (eI (u0)), some (eI (u1)), some (eI (u2))]) (s2 := [eI (0)]) rfl rfl rfl ?_
            refine b_rz rfl rfl (Or.inl rfl) ?_
            exact k0 (by omega)
          · refine w_t (np := 72) (l2 := [some (eR 98), some (eI (8)), some (eI (p)), some (eI (q)), some (eI (r)), some (eI (s)), some (eI (u0)), some (eI (u1)), some (eI (u2))]) (s2 := [eI (u2)]) rfl rfl rfl ?_
            refine b_igt (t1 := 79) (t2 := 75) rfl rfl rfl (ev_w_in (by omega) (by omega)) (fun g6 => ?_) (fun g6 => ?_)
            · refine w_t (np := 80) (l2 := [some (eR 98), some (eI (8)), some (eI (p)), some (eI (q)), some (eI (r)), some (eI (s)), some (eI (u0)), some (eI (u1)), some (eI (u2))]) (s2 := [eI (0)]) rfl rfl rfl ?_
              refine b_rz rfl rfl (Or.inl rfl) ?_
              exact k0 (by omega)
            · refine w_t (np := 76) (l2 := [some (eR 98), some (eI (8)), some (eI (p)), some (eI (q)), some (eI (r)), some (eI (s)), some (eI (u0)), some (eI (u1)), some (eI (u2))]) (s2 := [eI (1)]) rfl rfl rfl ?_
              refine w_go (t1 := 80) rfl rfl ?_
              refine b_rz rfl rfl (Or.inr rfl) ?_
              exact k1 (by omega)
theorem t266_9 {fg : eG} {rc rs d : Nat} {f : eFr} {F : List eFr} {μ : eM} {p q r s : Int} (hq : tQ μ) (hp : -9999 ≤ p ∧ p ≤ 9999) (hq0 : -9999 ≤ q ∧ q ≤ 9999) (hr : -9999 ≤ r ∧ r ≤ 9999) (hs : -9999 ≤ s ∧ s ≤ 9999) (K1 : ∀ μ2 : eM, tS μ μ2 → (((0 ≤ 832040 * p + 1346269 * q + 1346269 * r + 832040 * s) ∧ (0 ≤ (-832040) * p + (-514229) * q + 514229 * s + (832040)) ∧ (0 ≤ (-832040) * q + (-1346269) * r + (-1346269) * s)) ∨ ((832040 * p + 1346269 * q + 1346269 * r + 832040 * s ≤ 0) ∧ ((-832040) * p + (-514229) * q + 514229 * s + (832040) ≤ 0) ∧ ((-832040) * q + (-1346269) * r + (-1346269) * s ≤ 0))) → ex_fine fg rc rs (d + 6, (f.1, f.2.1, f.2.2.1, eI 1 :: f.2.2.2), F, μ2)) (K0 : ∀ μ2 : eM, tS μ μ2 → ¬ (((0 ≤ 832040 * p + 1346269 * q + 1346269 * r + 832040 * s) ∧ (0 ≤ (-832040) * p + (-514229) * q + 514229 * s + (832040)) ∧ (0 ≤ (-832040) * q + (-1346269) * r + (-1346269) * s)) ∨ ((832040 * p + 1346269 * q + 1346269 * r + 832040 * s ≤ 0) ∧ ((-832040) * p + (-514229) * q + 514229 * s + (832040) ≤ 0) ∧ ((-832040) * q + (-1346269) * r + (-1346269) * s ≤ 0))) → ex_fine fg rc rs (d + 6, (f.1, f.2.1, f.2.2.1, eI 0 :: f.2.2.2), F, μ2)) : ex_fine fg rc rs (d + 5, (266, 0, [some (eR 98), some (eI (9)), some (eI (p)), some (eI (q)), some (eI (r)), some (eI (s)), none, none, none], []), f :: F, μ) := by
  refine w_t (np := 1) (l2 := [some (eR 98), some (eI (9)), some (eI (p)), some (eI (q)), some (eI (r)), some (eI (s)), none, none, none]) (s2 := [eR 98]) rfl (s_an rfl (by decide)) rfl ?_
  refine w_t (np := 2) (l2 := [some (eR 98), some (eI (9)), some (eI (p)), some (eI (q)), some (eI (r)), some (eI (s)), none, none, none]) (s2 := [eI (9), eR 98]) rfl rfl rfl ?_
  refine w_t (np := 3) (l2 := [some (eR 98), some (eI (9)), some (eI (p)), some (eI (q)), some (eI (r)), some (eI (s)), none, none, none]) (s2 := [eI (0), eI (9), eR 98]) rfl rfl rfl ?_
  refine w_t (np := 4) (l2 := [some (eR 98), some (eI (9)), some (eI (p)), some (eI (q)), some (eI (r)), some (eI (s)), none, none, none]) (s2 := [eI (1), eI (0), eI (9), eR 98]) rfl rfl rfl ?_
  refine w_t (np := 5) (l2 := [some (eR 98), some (eI (9)), some (eI (p)), some (eI (q)), some (eI (r)), some (eI (s)), none, none, none]) (s2 := [eI (p), eI (1), eI (0), eI (9), eR 98]) rfl rfl rfl ?_
  refine w_t (np := 6) (l2 := [some (eR 98), some (eI (9)), some (eI (p)), some (eI (q)), some (eI (r)), some (eI (s)), none, none, none]) (s2 := [eI (q), eI (p), eI (1), eI (0), eI (9), eR 98]) rfl rfl rfl ?_
  refine w_t (np := 8) (l2 := [some (eR 98), some (eI (9)), some (eI (p)), some (eI (q)), some (eI (r)), some (eI (s)), none, none, none]) (s2 := [eI (r), eI (q), eI (p), eI (1), eI (0), eI (9), eR 98]) rfl rfl rfl ?_
  refine w_t (np := 10) (l2 := [some (eR 98), some (eI (9)), some (eI (p)), some (eI (q)), some (eI (r)), some (eI (s)), none, none, none]) (s2 := [eI (s), eI (r), eI (q), eI (p), eI (1), eI (0), eI (9), eR 98]) rfl rfl rfl ?_
  refine w_cw (np := 13) (as := [eI (9), eI (0), eI (1), eI (p), eI (q), eI (r), eI (s)]) (l2 := [some (eR 98), some (eI (9)), some (eI (0)), some (eI (1)), some (eI (p)), some (eI (q)), some (eI (r)), some (eI (s)), none, none]) (rest := []) rfl rfl rfl (Nat.ble_eq.mp rfl) rfl rfl rfl hq.1 rfl ?_
  refine t265_9_0 hq hp hq0 hr hs ?_
  intro m0 u0 s0 e0 w0
  have q0 := tQ_s hq s0
  have b0 : -1 ≤ u0 ∧ u0 ≤ 1 := by omega
  show ex_fine fg rc rs (d + 5, (266, 13, [some (eR 98), some (eI (9)), some (eI (p)), some (eI (q)), some (eI (r)), some (eI (s)), none, none, none], [eI (u0)]), f :: F, m0)
  refine w_t (np := 15) (l2 := [some (eR 98), some (eI (9)), some (eI (p)), some (eI (q)), some (eI (r)), some (eI (s)), some (eI (u0)), none, none]) (s2 := []) rfl rfl rfl ?_
  refine w_t (np := 16) (l2 := [some (eR 98), some (eI (9)), some (eI (p)), some (eI (q)), some (eI (r)), some (eI (s)), some (eI (u0)), none, none]) (s2 := [eR 98]) rfl (s_an rfl (by decide)) rfl ?_
  refine w_t (np := 17) (l2 := [some (eR 98), some (eI (9)), some (eI (p)), some (eI (q)), some (eI (r)), some (eI (s)), some (eI (u0)), none, none]) (s2 := [eI (9), eR 98]) rfl rfl rfl ?_
  refine w_t (np := 18) (l2 := [some (eR 98), some (eI (9)), some (eI (p)), some (eI (q)), some (eI (r)), some (eI (s)), some (eI (u0)), none, none]) (s2 := [eI (1), eI (9), eR 98]) rfl rfl rfl ?_
  refine w_t (np := 19) (l2 := [some (eR 98), some (eI (9)), some (eI (p)), some (eI (q)), some (eI (r)), some (eI (s)), some (eI (u0)), none, none]) (s2 := [eI (2), eI (1), eI (9), eR 98]) rfl rfl rfl ?_
  refine w_t (np := 20) (l2 := [some (eR 98), some (eI (9)), some (eI (p)), some (eI (q)), some (eI (r)), some (eI (s)), some (eI (u0)), none, none]) (s2 := [eI (p), eI (2), eI (1), eI (9), eR 98]) rfl rfl rfl ?_
  refine w_t (np := 21) (l2 := [some (eR 98), some (eI (9)), some (eI (p)), some (eI (q)), some (eI (r)), some (eI (s)), some (eI (u0)), none, none]) (s2 := [eI (q), eI (p), eI (2), eI (1), eI (9), eR 98]) rfl rfl rfl ?_
  refine w_t (np := 23) (l2 := [some (eR 98), some (eI (9)), some (eI (p)), some (eI (q)), some (eI (r)), some (eI (s)), some (eI (u0)), none, none]) (s2 := [eI (r), eI (q), eI (p), eI (2), eI (1), eI (9), eR 98]) rfl rfl rfl ?_
  refine w_t (np := 25) (l2 := [some (eR 98), some (eI (9)), some (eI (p)), some (eI (q)), some (eI (r)), some (eI (s)), some (eI (u0)), none, none]) (s2 := [eI (s), eI (r), eI (q), eI (p), eI (2), eI (1), eI (9), eR 98]) rfl rfl rfl ?_
  refine w_cw (np := 28) (as := [eI (9), eI (1), eI (2), eI (p), eI (q), eI (r), eI (s)]) (l2 := [some (eR 98), some (eI (9)), some (eI (1)), some (eI (2)), some (eI (p)), some (eI (q)), some (eI (r)), some (eI (s)), none, none]) (rest := []) rfl rfl rfl (Nat.ble_eq.mp rfl) rfl rfl rfl q0.1 rfl ?_
  refine t265_9_1 q0 hp hq0 hr hs ?_
  intro m1 u1 s1 e1 w1
  have q1 := tQ_s q0 s1
  have b1 : -1 ≤ u1 ∧ u1 ≤ 1 := by omega
  show ex_fine fg rc rs (d + 5, (266, 28, [some (eR 98), some (eI (9)), some (eI (p)), some (eI (q)), some (eI (r)), some (eI (s)), some (eI (u0)), none, none], [eI (u1)]), f :: F, m1)
  refine w_t (np := 30) (l2 := [some (eR 98), some (eI (9)), some (eI (p)), some (eI (q)), some (eI (r)), some (eI (s)), some (eI (u0)), some (eI (u1)), none]) (s2 := []) rfl rfl rfl ?_
  refine w_t (np := 31) (l2 := [some (eR 98), some (eI (9)), some (eI (p)), some (eI (q)), some (eI (r)), some (eI (s)), some (eI (u0)), some (eI (u1)), none]) (s2 := [eR 98]) rfl (s_an rfl (by decide)) rfl ?_
  refine w_t (np := 32) (l2 := [some (eR 98), some (eI (9)), some (eI (p)), some (eI (q)), some (eI (r)), some (eI (s)), some (eI (u0)), some (eI (u1)), none]) (s2 := [eI (9), eR 98]) rfl rfl rfl ?_
  refine w_t (np := 33) (l2 := [some (eR 98), some (eI (9)), some (eI (p)), some (eI (q)), some (eI (r)), some (eI (s)), some (eI (u0)), some (eI (u1)), none]) (s2 := [eI (2), eI (9), eR 98]) rfl rfl rfl ?_
  refine w_t (np := 34) (l2 := [some (eR 98), some (eI (9)), some (eI (p)), some (eI (q)), some (eI (r)), some (eI (s)), some (eI (u0)), some (eI (u1)), none]) (s2 := [eI (0), eI (2), eI (9), eR 98]) rfl rfl rfl ?_
  refine w_t (np := 35) (l2 := [some (eR 98), some (eI (9)), some (eI (p)), some (eI (q)), some (eI (r)), some (eI (s)), some (eI (u0)), some (eI (u1)), none]) (s2 := [eI (p), eI (0), eI (2), eI (9), eR 98]) rfl rfl rfl ?_
  refine w_t (np := 36) (l2 := [some (eR 98), some (eI (9)), some (eI (p)), some (eI (q)), some (eI (r)), some (eI (s)), some (eI (u0)), some (eI (u1)), none]) (s2 := [eI (q), eI (p), eI (0), eI (2), eI (9), eR 98]) rfl rfl rfl ?_
  refine w_t (np := 38) (l2 := [some (eR 98), some (eI (9)), some (eI (p)), some (eI (q)), some (eI (r)), some (eI (s)), some (eI (u0)), some (eI (u1)), none]) (s2 := [eI (r), eI (q), eI (p), eI (0), eI (2), eI (9), eR 98]) rfl rfl rfl ?_
  refine w_t (np := 40) (l2 := [some (eR 98), some (eI (9)), some (eI (p)), some (eI (q)), some (eI (r)), some (eI (s)), some (eI (u0)), some (eI (u1)), none]) (s2 := [eI (s), eI (r), eI (q), eI (p), eI (0), eI (2), eI (9), eR 98]) rfl rfl rfl ?_
  refine w_cw (np := 43) (as := [eI (9), eI (2), eI (0), eI (p), eI (q), eI (r), eI (s)]) (l2 := [some (eR 98), some (eI (9)), some (eI (2)), some (eI (0)), some (eI (p)), some (eI (q)), some (eI (r)), some (eI (s)), none, none]) (rest := []) rfl rfl rfl (Nat.ble_eq.mp rfl) rfl rfl rfl q1.1 rfl ?_
  refine t265_9_2 q1 hp hq0 hr hs ?_
  intro m2 u2 s2 e2 w2
  have q2 := tQ_s q1 s2
  have b2 : -1 ≤ u2 ∧ u2 ≤ 1 := by omega
  show ex_fine fg rc rs (d + 5, (266, 43, [some (eR 98), some (eI (9)), some (eI (p)), some (eI (q)), some (eI (r)), some (eI (s)), some (eI (u0)), some (eI (u1)), none], [eI (u2)]), f :: F, m2)
  have kc := in3 e0 e1 e2
  have k1 := fun (z : ((0 ≤ u0 ∧ 0 ≤ u1 ∧ 0 ≤ u2) ∨ (u0 ≤ 0 ∧ u1 ≤ 0 ∧ u2 ≤ 0))) => K1 m2 (tS_tr (tS_tr s0 s1) s2) (kc.mpr z)
  have k0 := fun (z : ¬ ((0 ≤ u0 ∧ 0 ≤ u1 ∧ 0 ≤ u2) ∨ (u0 ≤ 0 ∧ u1 ≤ 0 ∧ u2 ≤ 0))) => K0 m2 (tS_tr (tS_tr s0 s1) s2) (fun y => z (kc.mp y))
  clear K1 K0 kc e0 e1 e2 w0 w1 w2
  refine w_t (np := 45) (l2 := [some (eR 98), some (eI (9)), some (eI (p)), some (eI (q)), some (eI (r)), some (eI (s)), some (eI (u0)), some (eI (u1)), some (eI (u2))]) (s2 := []) rfl rfl rfl ?_
  refine w_t (np := 47) (l2 := [some (eR 98), some (eI (9)), some (eI (p)), some (eI (q)), some (eI (r)), some (eI (s)), some (eI (u0)), some (eI (u1)), some (eI (u2))]) (s2 := [eI (u0)]) rfl rfl rfl ?_
  refine b_ilt (t1 := 60) (t2 := 50) rfl rfl rfl (ev_w_in (by omega) (by omega)) (fun g1 => ?_) (fun g1 => ?_)
  · refine w_t (np := 62) (l2 := [some (eR 98), some (eI (9)), some (eI (p)), some (eI (q)), some (eI (r)), some (eI (s)), some (eI (u0)), some (eI (u1)), some (eI (u2))]) (s2 := [eI (u0)]) rfl rfl rfl ?_
    refine b_igt (t1 := 79) (t2 := 65) rfl rfl rfl (ev_w_in (by omega) (by omega)) (fun g2 => ?_) (fun g2 => ?_)
    · refine w_t (np := 80) (l2 := [some (eR 98), some (eI (9)), some (eI (p)), some (eI (q)), some (eI (r)), some (eI (s)), some (eI (u0)), some (eI (u1)), some (eI (u2))]) (s2 := [eI (0)]) rfl rfl rfl ?_
      refine b_rz rfl rfl (Or.inl rfl) ?_
      exact k0 (by omega)
    · refine w_t (np := 67) (l2 := [some (eR 98), some (eI (9)), some (eI (p)), some (eI (q)), some (eI (r)), some (eI (s)), some (eI (u0)), some (eI (u1)), some (eI (u2))]) (s2 := [eI (u1)]) rfl rfl rfl ?_
      refine b_igt (t1 := 79) (t2 := 70) rfl rfl rfl (ev_w_in (by omega) (by omega)) (fun g3 => ?_) (fun g3 => ?_)
      · refine w_t (np := 80) (l2 := [some (eR 98), some (eI (9)), some (eI (p)), some (eI (q)), some (eI (r)), some (eI (s)), some (eI (u0)), some (eI (u1)), some (eI (u2))]) (s2 := [eI (0)]) rfl rfl rfl ?_
        refine b_rz rfl rfl (Or.inl rfl) ?_
        exact k0 (by omega)
      · refine w_t (np := 72) (l2 := [some (eR 98), some (eI (9)), some (eI (p)), some (eI (q)), some (eI (r)), some (eI (s)), some (eI (u0)), some (eI (u1)), some (eI (u2))]) (s2 := [eI (u2)]) rfl rfl rfl ?_
        refine b_igt (t1 := 79) (t2 := 75) rfl rfl rfl (ev_w_in (by omega) (by omega)) (fun g4 => ?_) (fun g4 => ?_)
        · refine w_t (np := 80) (l2 := [some (eR 98), some (eI (9)), some (eI (p)), some (eI (q)), some (eI (r)), some (eI (s)), some (eI (u0)), some (eI (u1)), some (eI (u2))]) (s2 := [eI (0)]) rfl rfl rfl ?_
          refine b_rz rfl rfl (Or.inl rfl) ?_
          exact k0 (by omega)
        · refine w_t (np := 76) (l2 := [some (eR 98), some (eI (9)), some (eI (p)), some (eI (q)), some (eI (r)), some (eI (s)), some (eI (u0)), some (eI (u1)), some (eI (u2))]) (s2 := [eI (1)]) rfl rfl rfl ?_
          refine w_go (t1 := 80) rfl rfl ?_
          refine b_rz rfl rfl (Or.inr rfl) ?_
          exact k1 (by omega)
  · refine w_t (np := 52) (l2 := [some (eR 98), some (eI (9)), some (eI (p)), some (eI (q)), some (eI (r)), some (eI (s)), some (eI (u0)), some (eI (u1)), some (eI (u2))]) (s2 := [eI (u1)]) rfl rfl rfl ?_
    refine b_ilt (t1 := 60) (t2 := 55) rfl rfl rfl (ev_w_in (by omega) (by omega)) (fun g2 => ?_) (fun g2 => ?_)
    · refine w_t (np := 62) (l2 := [some (eR 98), some (eI (9)), some (eI (p)), some (eI (q)), some (eI (r)), some (eI (s)), some (eI (u0)), some (eI (u1)), some (eI (u2))]) (s2 := [eI (u0)]) rfl rfl rfl ?_
      refine b_igt (t1 := 79) (t2 := 65) rfl rfl rfl (ev_w_in (by omega) (by omega)) (fun g3 => ?_) (fun g3 => ?_)
      · refine w_t (np := 80) (l2 := [some (eR 98), some (eI (9)), some (eI (p)), some (eI (q)), some (eI (r)), some (eI (s)), some (eI (u0)), some (eI (u1)), some (eI (u2))]) (s2 := [eI (0)]) rfl rfl rfl ?_
        refine b_rz rfl rfl (Or.inl rfl) ?_
        exact k0 (by omega)
      · refine w_t (np := 67) (l2 := [some (eR 98), some (eI (9)), some (eI (p)), some (eI (q)), some (eI (r)), some (eI (s)), some (eI (u0)), some (eI (u1)), some (eI (u2))]) (s2 := [eI (u1)]) rfl rfl rfl ?_
        refine b_igt (t1 := 79) (t2 := 70) rfl rfl rfl (ev_w_in (by omega) (by omega)) (fun g4 => ?_) (fun g4 => ?_)
        · refine w_t (np := 80) (l2 := [some (eR 98), some (eI (9)), some (eI (p)), some (eI (q)), some (eI (r)), some (eI (s)), some (eI (u0)), some (eI (u1)), some (eI (u2))]) (s2 := [eI (0)]) rfl rfl rfl ?_
          refine b_rz rfl rfl (Or.inl rfl) ?_
          exact k0 (by omega)
        · refine w_t (np := 72) (l2 := [some (eR 98), some (eI (9)), some (eI (p)), some (eI (q)), some (eI (r)), some (eI (s)), some (eI (u0)), some (eI (u1)), some (eI (u2))]) (s2 := [eI (u2)]) rfl rfl rfl ?_
          refine b_igt (t1 := 79) (t2 := 75) rfl rfl rfl (ev_w_in (by omega) (by omega)) (fun g5 => ?_) (fun g5 => ?_)
          · refine w_t (np := 80) (l2 := [some (eR 98), some (eI (9)), some (eI (p)), some (eI (q)), some (eI (r)), some (eI (s)), some (eI (u0)), some (eI (u1)), some (eI (u2))]) (s2 := [eI (0)]) rfl rfl rfl ?_
            refine b_rz rfl rfl (Or.inl rfl) ?_
            exact k0 (by omega)
          · refine w_t (np := 76) (l2 := [some (eR 98), some (eI (9)), some (eI (p)), some (eI (q)), some (eI (r)), some (eI (s)), some (eI (u0)), some (eI (u1)), some (eI (u2))]) (s2 := [eI (1)]) rfl rfl rfl ?_
            refine w_go (t1 := 80) rfl rfl ?_
            refine b_rz rfl rfl (Or.inr rfl) ?_
            exact k1 (by omega)
    · refine w_t (np := 57) (l2 := [some (eR 98), some (eI (9)), some (eI (p)), some (eI (q)), some (eI (r)), some (eI (s)), some (eI (u0)), some (eI (u1)), some (eI (u2))]) (s2 := [eI (u2)]) rfl rfl rfl ?_
      refine b_ige (t1 := 75) (t2 := 60) rfl rfl rfl (ev_w_in (by omega) (by omega)) (fun g3 => ?_) (fun g3 => ?_)
      · refine w_t (np := 76) (l2 := [some (eR 98), some (eI (9)), some (eI (p)), some (eI (q)), some (eI (r)), some (eI (s)), some (eI (u0)), some (eI (u1)), some (eI (u2))]) (s2 := [eI (1)]) rfl rfl rfl ?_
        refine w_go (t1 := 80) rfl rfl ?_
        refine b_rz rfl rfl (Or.inr rfl) ?_
        exact k1 (by omega)
      · refine w_t (np := 62) (l2 := [some (eR 98), some (eI (9)), some (eI (p)), some (eI (q)), some (eI (r)), some (eI (s)), some (eI (u0)), some (eI (u1)), some (eI (u2))]) (s2 := [eI (u0)]) rfl rfl rfl ?_
        refine b_igt (t1 := 79) (t2 := 65) rfl rfl rfl (ev_w_in (by omega) (by omega)) (fun g4 => ?_) (fun g4 => ?_)
        · refine w_t (np := 80) (l2 := [some (eR 98), some (eI (9)), some (eI (p)), some (eI (q)), some (eI (r)), some (eI (s)), some (eI (u0)), some (eI (u1)), some (eI (u2))]) (s2 := [eI (0)]) rfl rfl rfl ?_
          refine b_rz rfl rfl (Or.inl rfl) ?_
          exact k0 (by omega)
        · refine w_t (np := 67) (l2 := [some (eR 98), some (eI (9)), some (eI (p)), some (eI (q)), some (eI (r)), some (eI (s)), some (eI (u0)), some (eI (u1)), some (eI (u2))]) (s2 := [eI (u1)]) rfl rfl rfl ?_
          refine b_igt (t1 := 79) (t2 := 70) rfl rfl rfl (ev_w_in (by omega) (by omega)) (fun g5 => ?_) (fun g5 => ?_)
          · refine w_t (np := 80) (l2 := [some (eR 98), some (eI (9)), some (eI (p)), some (eI (q)), some (eI (r)), some (eI (s)), some (eI (u0)), some (eI (u1)), some (eI (u2))]) (s2 := [eI (0)]) rfl rfl rfl ?_
            refine b_rz rfl rfl (Or.inl rfl) ?_
            exact k0 (by omega)
          · refine w_t (np := 72) (l2 := [some (eR 98), some (eI (9)), some (eI (p)), some (eI (q)), some (eI (r)), some (eI (s)), some (eI (u0)), some (eI (u1)), some (eI (u2))]) (s2 := [eI (u2)]) rfl rfl rfl ?_
            refine b_igt (t1 := 79) (t2 := 75) rfl rfl rfl (ev_w_in (by omega) (by omega)) (fun g6 => ?_) (fun g6 => ?_)
            · refine w_t (np := 80) (l2 := [some (eR 98), some (eI (9)), some (eI (p)), some (eI (q)), some (eI (r)), some (eI (s)), some (eI (u0)), some (eI (u1)), some (eI (u2))]) (s2 := [eI (0)]) rfl rfl rfl ?_
              refine b_rz rfl rfl (Or.inl rfl) ?_
              exact k0 (by omega)
            · refine w_t (np := 76) (l2 := [some (eR 98), some (eI (9)), some (eI (p)), some (eI (q)), some (eI (r)), some (eI (s)), some (eI (u0)), some (eI (u1)), some (eI (u2))]) (s2 := [eI (1)]) rfl rfl rfl ?_
              refine w_go (t1 := 80) rfl rfl ?_
              refine b_rz rfl rfl (Or.inr rfl) ?_
              exact k1 (by omega)
