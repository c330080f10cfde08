/-! locate: the class, its methods -/
theorem t80_14_0 {L : Nat} {ρ : Nat → Int} {rc rs d : Nat} {f : eFr} {F : List eFr} {μ : eM} {c : Nat} {p q r s : Int} (l0 : zI (z_i2s (z_l2i (z_lshr c 48))) = p) (l1 : zI (z_i2s (z_l2i (z_lshr c 32))) = q) (l2 : zI (z_i2s (z_l2i (z_lshr c 16))) = r) (l3 : zI (z_i2s (z_l2i (z_lshr c 0))) = s) (hp : -10010 ≤ p ∧ p ≤ 10010) (hq : -10010 ≤ q ∧ q ≤ 10010) (hr : -10010 ≤ r ∧ r ≤ 10010) (hs : -10010 ≤ s ∧ s ≤ 10010) (K : ex_fine (dt_fg L ρ) rc rs (d + 1, (f.1, f.2.1, f.2.2.1, eI (1 * q) :: f.2.2.2), F, μ)) : ex_fine (dt_fg L ρ) rc rs (d, (80, 0, [some (eJ (zJ c)), none, some (eI (0)), some (eR 14), none, none, none], []), f :: F, μ) := by
  refine w_t (np := 2) (l2 := [some (eJ (zJ c)), none, some (eI (0)), some (eR 14), none, none, none]) (s2 := [eI (10)]) rfl rfl rfl ?_
  refine w_t (np := 3) (l2 := [some (eJ (zJ c)), none, some (eI (0)), some (eR 14), none, none, none]) (s2 := [eI (0), eI (10)]) rfl rfl rfl ?_
  refine w_t (np := 5) (l2 := [some (eJ (zJ c)), none, some (eI (0)), some (eR 14), none, none, none]) (s2 := [eI (10), eI (0), eI (10)]) rfl rfl rfl ?_
  refine w_t (np := 6) (l2 := [some (eJ (zJ c)), none, some (eI (0)), some (eR 14), none, none, none]) (s2 := [eI (0), eI (10)]) rfl rfl rfl ?_
  refine w_t (np := 7) (l2 := [some (eJ (zJ c)), none, some (eI (0)), some (eR 14), none, none, none]) (s2 := [eI (10)]) rfl (b_isub rfl) rfl ?_
  refine w_t (np := 9) (l2 := [some (eJ (zJ c)), none, some (eI (0)), some (eR 14), none, none, none]) (s2 := [eI (10), eI (10)]) rfl rfl rfl ?_
  refine w_t (np := 10) (l2 := [some (eJ (zJ c)), none, some (eI (0)), some (eR 14), none, none, none]) (s2 := [eI (0)]) rfl rfl rfl ?_
  refine w_t (np := 12) (l2 := [some (eJ (zJ c)), none, some (eI (0)), some (eR 14), some (eI (0)), none, none]) (s2 := []) rfl rfl rfl ?_
  refine w_t (np := 13) (l2 := [some (eJ (zJ c)), none, some (eI (0)), some (eR 14), some (eI (0)), none, none]) (s2 := [eI (0)]) rfl rfl rfl ?_
  refine w_t (np := 15) (l2 := [some (eJ (zJ c)), none, some (eI (0)), some (eR 14), some (eI (0)), some (eI (0)), none]) (s2 := []) rfl rfl rfl ?_
  refine w_t (np := 16) (l2 := [some (eJ (zJ c)), none, some (eI (0)), some (eR 14), some (eI (0)), some (eI (0)), none]) (s2 := [eI (0)]) rfl rfl rfl ?_
  refine w_t (np := 18) (l2 := [some (eJ (zJ c)), none, some (eI (0)), some (eR 14), some (eI (0)), some (eI (0)), some (eI (0))]) (s2 := []) rfl rfl rfl ?_
  refine w_t (np := 20) (l2 := [some (eJ (zJ c)), none, some (eI (0)), some (eR 14), some (eI (0)), some (eI (0)), some (eI (0))]) (s2 := [eI (0)]) rfl rfl rfl ?_
  refine w_t (np := 21) (l2 := [some (eJ (zJ c)), none, some (eI (0)), some (eR 14), some (eI (0)), some (eI (0)), some (eI (0))]) (s2 := [eI (4), eI (0)]) rfl rfl rfl ?_
  refine b_cge (t1 := 65) (t2 := 24) rfl rfl rfl rfl rfl (fun g => absurd g (by decide)) (fun g => ?_)
  clear g
  refine w_t (np := 26) (l2 := [some (eJ (zJ c)), none, some (eI (0)), some (eR 14), some (eI (0)), some (eI (0)), some (eI (0))]) (s2 := [eI (0)]) rfl rfl rfl ?_
  refine w_t (np := 28) (l2 := [some (eJ (zJ c)), none, some (eI (0)), some (eR 14), some (eI (0)), some (eI (0)), some (eI (0))]) (s2 := [eI (0), eI (0)]) rfl rfl rfl ?_
  refine w_t (np := 29) (l2 := [some (eJ (zJ c)), none, some (eI (0)), some (eR 14), some (eI (0)), some (eI (0)), some (eI (0))]) (s2 := [eI (0)]) rfl (b_iadd rfl) rfl ?_
  refine w_t (np := 30) (l2 := [some (eJ (zJ c)), none, some (eI (0)), some (eR 14), some (eI (0)), some (eI (0)), some (eI (0))]) (s2 := [eR 14, eI (0)]) rfl (s_an rfl (by decide)) rfl ?_
  refine v_ln (np := 31) (v := 13) (n := 13) rfl rfl ⟨rfl, zI_lit (by decide)⟩ ?_
  rw [show zI 13 = 13 by decide]
  refine b_cge (t1 := 65) (t2 := 34) rfl rfl rfl rfl rfl (fun g => absurd g (by decide)) (fun g => ?_)
  clear g
  refine w_t (np := 36) (l2 := [some (eJ (zJ c)), none, some (eI (0)), some (eR 14), some (eI (0)), some (eI (0)), some (eI (0))]) (s2 := [eI (0)]) rfl rfl rfl ?_
  refine w_t (np := 37) (l2 := [some (eJ (zJ c)), none, some (eI (0)), some (eR 14), some (eI (0)), some (eI (0)), some (eI (0))]) (s2 := [eJ (zJ c), eI (0)]) rfl rfl rfl ?_
  refine w_t (np := 39) (l2 := [some (eJ (zJ c)), none, some (eI (0)), some (eR 14), some (eI (0)), some (eI (0)), some (eI (0))]) (s2 := [eI (48), eJ (zJ c), eI (0)]) rfl rfl rfl ?_
  refine w_t (np := 41) (l2 := [some (eJ (zJ c)), none, some (eI (0)), some (eR 14), some (eI (0)), some (eI (0)), some (eI (0))]) (s2 := [eI (16), eI (48), eJ (zJ c), eI (0)]) rfl rfl rfl ?_
  refine w_t (np := 43) (l2 := [some (eJ (zJ c)), none, some (eI (0)), some (eR 14), some (eI (0)), some (eI (0)), some (eI (0))]) (s2 := [eI (0), eI (16), eI (48), eJ (zJ c), eI (0)]) rfl rfl rfl ?_
  refine w_t (np := 44) (l2 := [some (eJ (zJ c)), none, some (eI (0)), some (eR 14), some (eI (0)), some (eI (0)), some (eI (0))]) (s2 := [eI (0), eI (48), eJ (zJ c), eI (0)]) rfl (b_imul rfl) rfl ?_
  refine w_t (np := 45) (l2 := [some (eJ (zJ c)), none, some (eI (0)), some (eR 14), some (eI (0)), some (eI (0)), some (eI (0))]) (s2 := [eI (48), eJ (zJ c), eI (0)]) rfl (b_isub rfl) rfl ?_
  refine w_lane (np := 48) (k := 48) (v := p) rfl rfl rfl rfl (by decide) rfl l0 ?_
  refine w_t (np := 49) (l2 := [some (eJ (zJ c)), none, some (eI (0)), some (eR 14), some (eI (0)), some (eI (0)), some (eI (0))]) (s2 := [eR 14, eI (p), eI (0)]) rfl (s_an rfl (by decide)) rfl ?_
  refine w_t (np := 51) (l2 := [some (eJ (zJ c)), none, some (eI (0)), some (eR 14), some (eI (0)), some (eI (0)), some (eI (0))]) (s2 := [eI (0), eR 14, eI (p), eI (0)]) rfl rfl rfl ?_
  refine w_t (np := 53) (l2 := [some (eJ (zJ c)), none, some (eI (0)), some (eR 14), some (eI (0)), some (eI (0)), some (eI (0))]) (s2 := [eI (0), eI (0), eR 14, eI (p), eI (0)]) rfl rfl rfl ?_
  refine w_t (np := 54) (l2 := [some (eJ (zJ c)), none, some (eI (0)), some (eR 14), some (eI (0)), some (eI (0)), some (eI (0))]) (s2 := [eI (0), eR 14, eI (p), eI (0)]) rfl (b_iadd rfl) rfl ?_
  refine w_al (np := 55) (v := 0) rfl rfl (s_al (j := 0) (by decide) (by decide) (by decide) rfl rfl (by decide) (by decide) rfl) ?_
  obtain ⟨v1, e2⟩ : ∃ zz : Int, zz = (p) * (0) := ⟨_, rfl⟩
  have b3 : 0 ≤ v1 ∧ v1 ≤ 0 := by omega
  refine w_t (np := 56) (l2 := [some (eJ (zJ c)), none, some (eI (0)), some (eR 14), some (eI (0)), some (eI (0)), some (eI (0))]) (s2 := [eI (v1), eI (0)]) rfl (b_imul (by rw [← e2]; exact ev_w_in (by omega) (by omega))) rfl ?_
  obtain ⟨v4, e5⟩ : ∃ zz : Int, zz = (0) + (v1) := ⟨_, rfl⟩
  have b6 : 0 ≤ v4 ∧ v4 ≤ 0 := by omega
  refine w_t (np := 57) (l2 := [some (eJ (zJ c)), none, some (eI (0)), some (eR 14), some (eI (0)), some (eI (0)), some (eI (0))]) (s2 := [eI (v4)]) rfl (b_iadd (by rw [← e5]; exact ev_w_in (by omega) (by omega))) rfl ?_
  refine w_t (np := 59) (l2 := [some (eJ (zJ c)), none, some (eI (0)), some (eR 14), some (eI (0)), some (eI (v4)), some (eI (0))]) (s2 := []) rfl rfl rfl ?_
  refine w_t (np := 62) (l2 := [some (eJ (zJ c)), none, some (eI (0)), some (eR 14), some (eI (0)), some (eI (v4)), some (eI (1))]) (s2 := []) rfl (b_iinc rfl rfl rfl) rfl ?_
  refine w_go (t1 := 18) rfl rfl ?_
  refine w_t (np := 20) (l2 := [some (eJ (zJ c)), none, some (eI (0)), some (eR 14), some (eI (0)), some (eI (v4)), some (eI (1))]) (s2 := [eI (1)]) rfl rfl rfl ?_
  refine w_t (np := 21) (l2 := [some (eJ (zJ c)), none, some (eI (0)), some (eR 14), some (eI (0)), some (eI (v4)), some (eI (1))]) (s2 := [eI (4), eI (1)]) rfl rfl rfl ?_
  refine b_cge (t1 := 65) (t2 := 24) rfl rfl rfl rfl rfl (fun g => absurd g (by decide)) (fun g => ?_)
  clear g
  refine w_t (np := 26) (l2 := [some (eJ (zJ c)), none, some (eI (0)), some (eR 14), some (eI (0)), some (eI (v4)), some (eI (1))]) (s2 := [eI (0)]) rfl rfl rfl ?_
  refine w_t (np := 28) (l2 := [some (eJ (zJ c)), none, some (eI (0)), some (eR 14), some (eI (0)), some (eI (v4)), some (eI (1))]) (s2 := [eI (1), eI (0)]) rfl rfl rfl ?_
  refine w_t (np := 29) (l2 := [some (eJ (zJ c)), none, some (eI (0)), some (eR 14), some (eI (0)), some (eI (v4)), some (eI (1))]) (s2 := [eI (1)]) rfl (b_iadd rfl) rfl ?_
  refine w_t (np := 30) (l2 := [some (eJ (zJ c)), none, some (eI (0)), some (eR 14), some (eI (0)), some (eI (v4)), some (eI (1))]) (s2 := [eR 14, eI (1)]) rfl (s_an rfl (by decide)) rfl ?_
  refine v_ln (np := 31) (v := 13) (n := 13) rfl rfl ⟨rfl, zI_lit (by decide)⟩ ?_
  rw [show zI 13 = 13 by decide]
  refine b_cge (t1 := 65) (t2 := 34) rfl rfl rfl rfl rfl (fun g => absurd g (by decide)) (fun g => ?_)
  clear g
  refine w_t (np := 36) (l2 := [some (eJ (zJ c)), none, some (eI (0)), some (eR 14), some (eI (0)), some (eI (v4)), some (eI (1))]) (s2 := [eI (v4)]) rfl rfl rfl ?_
  refine w_t (np := 37) (l2 := [some (eJ (zJ c)), none, some (eI (0)), some (eR 14), some (eI (0)), some (eI (v4)), some (eI (1))]) (s2 := [eJ (zJ c), eI (v4)]) rfl rfl rfl ?_
  refine w_t (np := 39) (l2 := [some (eJ (zJ c)), none, some (eI (0)), some (eR 14), some (eI (0)), some (eI (v4)), some (eI (1))]) (s2 := [eI (48), eJ (zJ c), eI (v4)]) rfl rfl rfl ?_
  refine w_t (np := 41) (l2 := [some (eJ (zJ c)), none, some (eI (0)), some (eR 14), some (eI (0)), some (eI (v4)), some (eI (1))]) (s2 := [eI (16), eI (48), eJ (zJ c), eI (v4)]) rfl rfl rfl ?_
  refine w_t (np := 43) (l2 := [some (eJ (zJ c)), none, some (eI (0)), some (eR 14), some (eI (0)), some (eI (v4)), some (eI (1))]) (s2 := [eI (1), eI (16), eI (48), eJ (zJ c), eI (v4)]) rfl rfl rfl ?_
  refine w_t (np := 44) (l2 := [some (eJ (zJ c)), none, some (eI (0)), some (eR 14), some (eI (0)), some (eI (v4)), some (eI (1))]) (s2 := [eI (16), eI (48), eJ (zJ c), eI (v4)]) rfl (b_imul rfl) rfl ?_
  refine w_t (np := 45) (l2 := [some (eJ (zJ c)), none, some (eI (0)), some (eR 14), some (eI (0)), some (eI (v4)), some (eI (1))]) (s2 := [eI (32), eJ (zJ c), eI (v4)]) rfl (b_isub rfl) rfl ?_
  refine w_lane (np := 48) (k := 32) (v := q) rfl rfl rfl rfl (by decide) rfl l1 ?_
  refine w_t (np := 49) (l2 := [some (eJ (zJ c)), none, some (eI (0)), some (eR 14), some (eI (0)), some (eI (v4)), some (eI (1))]) (s2 := [eR 14, eI (q), eI (v4)]) rfl (s_an rfl (by decide)) rfl ?_
  refine w_t (np := 51) (l2 := [some (eJ (zJ c)), none, some (eI (0)), some (eR 14), some (eI (0)), some (eI (v4)), some (eI (1))]) (s2 := [eI (0), eR 14, eI (q), eI (v4)]) rfl rfl rfl ?_
  refine w_t (np := 53) (l2 := [some (eJ (zJ c)), none, some (eI (0)), some (eR 14), some (eI (0)), some (eI (v4)), some (eI (1))]) (s2 := [eI (1), eI (0), eR 14, eI (q), eI (v4)]) rfl rfl rfl ?_
  refine w_t (np := 54) (l2 := [some (eJ (zJ c)), none, some (eI (0)), some (eR 14), some (eI (0)), some (eI (v4)), some (eI (1))]) (s2 := [eI (1), eR 14, eI (q), eI (v4)]) rfl (b_iadd rfl) rfl ?_
  refine w_al (np := 55) (v := 1) rfl rfl (s_al (j := 1) (by decide) (by decide) (by decide) rfl rfl (by decide) (by decide) rfl) ?_
  obtain ⟨v7, e8⟩ : ∃ zz : Int, zz = (q) * (1) := ⟨_, rfl⟩
  have b9 : -10010 ≤ v7 ∧ v7 ≤ 10010 := by omega
  refine w_t (np := 56) (l2 := [some (eJ (zJ c)), none, some (eI (0)), some (eR 14), some (eI (0)), some (eI (v4)), some (eI (1))]) (s2 := [eI (v7), eI (v4)]) rfl (b_imul (by rw [← e8]; exact ev_w_in (by omega) (by omega))) rfl ?_
  obtain ⟨v10, e11⟩ : ∃ zz : Int, zz = (v4) + (v7) := ⟨_, rfl⟩
  have b12 : -10010 ≤ v10 ∧ v10 ≤ 10010 := by omega
  refine w_t (np := 57) (l2 := [some (eJ (zJ c)), none, some (eI (0)), some (eR 14), some (eI (0)), some (eI (v4)), some (eI (1))]) (s2 := [eI (v10)]) rfl (b_iadd (by rw [← e11]; exact ev_w_in (by omega) (by omega))) rfl ?_
  refine w_t (np := 59) (l2 := [some (eJ (zJ c)), none, some (eI (0)), some (eR 14), some (eI (0)), some (eI (v10)), some (eI (1))]) (s2 := []) rfl rfl rfl ?_
  refine w_t (np := 62) (l2 := [some (eJ (zJ c)), none, some (eI (0)), some (eR 14), some (eI (0)), some (eI (v10)), some (eI (2))]) (s2 := []) rfl (b_iinc rfl rfl rfl) rfl ?_
  refine w_go (t1 := 18) rfl rfl ?_
  refine w_t (np := 20) (l2 := [some (eJ (zJ c)), none, some (eI (0)), some (eR 14), some (eI (0)), some (eI (v10)), some (eI (2))]) (s2 := [eI (2)]) rfl rfl rfl ?_
  refine w_t (np := 21) (l2 := [some (eJ (zJ c)), none, some (eI (0)), some (eR 14), some (eI (0)), some (eI (v10)), some (eI (2))]) (s2 := [eI (4), eI (2)]) rfl rfl rfl ?_
  refine b_cge (t1 := 65) (t2 := 24) rfl rfl rfl rfl rfl (fun g => absurd g (by decide)) (fun g => ?_)
  clear g
  refine w_t (np := 26) (l2 := [some (eJ (zJ c)), none, some (eI (0)), some (eR 14), some (eI (0)), some (eI (v10)), some (eI (2))]) (s2 := [eI (0)]) rfl rfl rfl ?_
  refine w_t (np := 28) (l2 := [some (eJ (zJ c)), none, some (eI (0)), some (eR 14), some (eI (0)), some (eI (v10)), some (eI (2))]) (s2 := [eI (2), eI (0)]) rfl rfl rfl ?_
  refine w_t (np := 29) (l2 := [some (eJ (zJ c)), none, some (eI (0)), some (eR 14), some (eI (0)), some (eI (v10)), some (eI (2))]) (s2 := [eI (2)]) rfl (b_iadd rfl) rfl ?_
  refine w_t (np := 30) (l2 := [some (eJ (zJ c)), none, some (eI (0)), some (eR 14), some (eI (0)), some (eI (v10)), some (eI (2))]) (s2 := [eR 14, eI (2)]) rfl (s_an rfl (by decide)) rfl ?_
  refine v_ln (np := 31) (v := 13) (n := 13) rfl rfl ⟨rfl, zI_lit (by decide)⟩ ?_
  rw [show zI 13 = 13 by decide]
  refine b_cge (t1 := 65) (t2 := 34) rfl rfl rfl rfl rfl (fun g => absurd g (by decide)) (fun g => ?_)
  clear g
  refine w_t (np := 36) (l2 := [some (eJ (zJ c)), none, some (eI (0)), some (eR 14), some (eI (0)), some (eI (v10)), some (eI (2))]) (s2 := [eI (v10)]) rfl rfl rfl ?_
  refine w_t (np := 37) (l2 := [some (eJ (zJ c)), none, some (eI (0)), some (eR 14), some (eI (0)), some (eI (v10)), some (eI (2))]) (s2 := [eJ (zJ c), eI (v10)]) rfl rfl rfl ?_
  refine w_t (np := 39) (l2 := [some (eJ (zJ c)), none, some (eI (0)), some (eR 14), some (eI (0)), some (eI (v10)), some (eI (2))]) (s2 := [eI (48), eJ (zJ c), eI (v10)]) rfl rfl rfl ?_
  refine w_t (np := 41) (l2 := [some (eJ (zJ c)), none, some (eI (0)), some (eR 14), some (eI (0)), some (eI (v10)), some (eI (2))]) (s2 := [eI (16), eI (48), eJ (zJ c), eI (v10)]) rfl rfl rfl ?_
  refine w_t (np := 43) (l2 := [some (eJ (zJ c)), none, some (eI (0)), some (eR 14), some (eI (0)), some (eI (v10)), some (eI (2))]) (s2 := [eI (2), eI (16), eI (48), eJ (zJ c), eI (v10)]) rfl rfl rfl ?_
  refine w_t (np := 44) (l2 := [some (eJ (zJ c)), none, some (eI (0)), some (eR 14), some (eI (0)), some (eI (v10)), some (eI (2))]) (s2 := [eI (32), eI (48), eJ (zJ c), eI (v10)]) rfl (b_imul rfl) rfl ?_
  refine w_t (np := 45) (l2 := [some (eJ (zJ c)), none, some (eI (0)), some (eR 14), some (eI (0)), some (eI (v10)), some (eI (2))]) (s2 := [eI (16), eJ (zJ c), eI (v10)]) rfl (b_isub rfl) rfl ?_
  refine w_lane (np := 48) (k := 16) (v := r) rfl rfl rfl rfl (by decide) rfl l2 ?_
  refine w_t (np := 49) (l2 := [some (eJ (zJ c)), none, some (eI (0)), some (eR 14), some (eI (0)), some (eI (v10)), some (eI (2))]) (s2 := [eR 14, eI (r), eI (v10)]) rfl (s_an rfl (by decide)) rfl ?_
  refine w_t (np := 51) (l2 := [some (eJ (zJ c)), none, some (eI (0)), some (eR 14), some (eI (0)), some (eI (v10)), some (eI (2))]) (s2 := [eI (0), eR 14, eI (r), eI (v10)]) rfl rfl rfl ?_
  refine w_t (np := 53) (l2 := [some (eJ (zJ c)), none, some (eI (0)), some (eR 14), some (eI (0)), some (eI (v10)), some (eI (2))]) (s2 := [eI (2), eI (0), eR 14, eI (r), eI (v10)]) rfl rfl rfl ?_
  refine w_t (np := 54) (l2 := [some (eJ (zJ c)), none, some (eI (0)), some (eR 14), some (eI (0)), some (eI (v10)), some (eI (2))]) (s2 := [eI (2), eR 14, eI (r), eI (v10)]) rfl (b_iadd rfl) rfl ?_
  refine w_al (np := 55) (v := 0) rfl rfl (s_al (j := 2) (by decide) (by decide) (by decide) rfl rfl (by decide) (by decide) rfl) ?_
  obtain ⟨v13, e14⟩ : ∃ zz : Int, zz = (r) * (0) := ⟨_, rfl⟩
  have b15 : 0 ≤ v13 ∧ v13 ≤ 0 := by omega
  refine w_t (np := 56) (l2 := [some (eJ (zJ c)), none, some (eI (0)), some (eR 14), some (eI (0)), some (eI (v10)), some (eI (2))]) (s2 := [eI (v13), eI (v10)]) rfl (b_imul (by rw [← e14]; exact ev_w_in (by omega) (by omega))) rfl ?_
  obtain ⟨v16, e17⟩ : ∃ zz : Int, zz = (v10) + (v13) := ⟨_, rfl⟩
  have b18 : -10010 ≤ v16 ∧ v16 ≤ 10010 := by omega
  refine w_t (np := 57) (l2 := [some (eJ (zJ c)), none, some (eI (0)), some (eR 14), some (eI (0)), some (eI (v10)), some (eI (2))]) (s2 := [eI (v16)]) rfl (b_iadd (by rw [← e17]; exact ev_w_in (by omega) (by omega))) rfl ?_
  refine w_t (np := 59) (l2 := [some (eJ (zJ c)), none, some (eI (0)), some (eR 14), some (eI (0)), some (eI (v16)), some (eI (2))]) (s2 := []) rfl rfl rfl ?_
  refine w_t (np := 62) (l2 := [some (eJ (zJ c)), none, some (eI (0)), some (eR 14), some (eI (0)), some (eI (v16)), some (eI (3))]) (s2 := []) rfl (b_iinc rfl rfl rfl) rfl ?_
  refine w_go (t1 := 18) rfl rfl ?_
  refine w_t (np := 20) (l2 := [some (eJ (zJ c)), none, some (eI (0)), some (eR 14), some (eI (0)), some (eI (v16)), some (eI (3))]) (s2 := [eI (3)]) rfl rfl rfl ?_
  refine w_t (np := 21) (l2 := [some (eJ (zJ c)), none, some (eI (0)), some (eR 14), some (eI (0)), some (eI (v16)), some (eI (3))]) (s2 := [eI (4), eI (3)]) rfl rfl rfl ?_
  refine b_cge (t1 := 65) (t2 := 24) rfl rfl rfl rfl rfl (fun g => absurd g (by decide)) (fun g => ?_)
  clear g
  refine w_t (np := 26) (l2 := [some (eJ (zJ c)), none, some (eI (0)), some (eR 14), some (eI (0)), some (eI (v16)), some (eI (3))]) (s2 := [eI (0)]) rfl rfl rfl ?_
  refine w_t (np := 28) (l2 := [some (eJ (zJ c)), none, some (eI (0)), some (eR 14), some (eI (0)), some (eI (v16)), some (eI (3))]) (s2 := [eI (3), eI (0)]) rfl rfl rfl ?_
  refine w_t (np := 29) (l2 := [some (eJ (zJ c)), none, some (eI (0)), some (eR 14), some (eI (0)), some (eI (v16)), some (eI (3))]) (s2 := [eI (3)]) rfl (b_iadd rfl) rfl ?_
  refine w_t (np := 30) (l2 := [some (eJ (zJ c)), none, some (eI (0)), some (eR 14), some (eI (0)), some (eI (v16)), some (eI (3))]) (s2 := [eR 14, eI (3)]) rfl (s_an rfl (by decide)) rfl ?_
  refine v_ln (np := 31) (v := 13) (n := 13) rfl rfl ⟨rfl, zI_lit (by decide)⟩ ?_
  rw [show zI 13 = 13 by decide]
  refine b_cge (t1 := 65) (t2 := 34) rfl rfl rfl rfl rfl (fun g => absurd g (by decide)) (fun g => ?_)
  clear g
  refine w_t (np := 36) (l2 := [some (eJ (zJ c)), none, some (eI (0)), some (eR 14), some (eI (0)), some (eI (v16)), some (eI (3))]) (s2 := [eI (v16)]) rfl rfl rfl ?_
  refine w_t (np := 37) (l2 := [some (eJ (zJ c)), none, some (eI (0)), some (eR 14), some (eI (0)), some (eI (v16)), some (eI (3))]) (s2 := [eJ (zJ c), eI (v16)]) rfl rfl rfl ?_
  refine w_t (np := 39) (l2 := [some (eJ (zJ c)), none, some (eI (0)), some (eR 14), some (eI (0)), some (eI (v16)), some (eI (3))]) (s2 := [eI (48), eJ (zJ c), eI (v16)]) rfl rfl rfl ?_
  refine w_t (np := 41) (l2 := [some (eJ (zJ c)), none, some (eI (0)), some (eR 14), some (eI (0)), some (eI (v16)), some (eI (3))]) (s2 := [eI (16), eI (48), eJ (zJ c), eI (v16)]) rfl rfl rfl ?_
  refine w_t (np := 43) (l2 := [some (eJ (zJ c)), none, some (eI (0)), some (eR 14), some (eI (0)), some (eI (v16)), some (eI (3))]) (s2 := [eI (3), eI (16), eI (48), eJ (zJ c), eI (v16)]) rfl rfl rfl ?_
  refine w_t (np := 44) (l2 := [some (eJ (zJ c)), none, some (eI (0)), some (eR 14), some (eI (0)), some (eI (v16)), some (eI (3))]) (s2 := [eI (48), eI (48), eJ (zJ c), eI (v16)]) rfl (b_imul rfl) rfl ?_
  refine w_t (np := 45) (l2 := [some (eJ (zJ c)), none, some (eI (0)), some (eR 14), some (eI (0)), some (eI (v16)), some (eI (3))]) (s2 := [eI (0), eJ (zJ c), eI (v16)]) rfl (b_isub rfl) rfl ?_
  refine w_lane (np := 48) (k := 0) (v := s) rfl rfl rfl rfl (by decide) rfl l3 ?_
  refine w_t (np := 49) (l2 := [some (eJ (zJ c)), none, some (eI (0)), some (eR 14), some (eI (0)), some (eI (v16)), some (eI (3))]) (s2 := [eR 14, eI (s), eI (v16)]) rfl (s_an rfl (by decide)) rfl ?_
  refine w_t (np := 51) (l2 := [some (eJ (zJ c)), none, some (eI (0)), some (eR 14), some (eI (0)), some (eI (v16)), some (eI (3))]) (s2 := [eI (0), eR 14, eI (s), eI (v16)]) rfl rfl rfl ?_
  refine w_t (np := 53) (l2 := [some (eJ (zJ c)), none, some (eI (0)), some (eR 14), some (eI (0)), some (eI (v16)), some (eI (3))]) (s2 := [eI (3), eI (0), eR 14, eI (s), eI (v16)]) rfl rfl rfl ?_
  refine w_t (np := 54) (l2 := [some (eJ (zJ c)), none, some (eI (0)), some (eR 14), some (eI (0)), some (eI (v16)), some (eI (3))]) (s2 := [eI (3), eR 14, eI (s), eI (v16)]) rfl (b_iadd rfl) rfl ?_
  refine w_al (np := 55) (v := 0) rfl rfl (s_al (j := 3) (by decide) (by decide) (by decide) rfl rfl (by decide) (by decide) rfl) ?_
  obtain ⟨v19, e20⟩ : ∃ zz : Int, zz = (s) * (0) := ⟨_, rfl⟩
  have b21 : 0 ≤ v19 ∧ v19 ≤ 0 := by omega
  refine w_t (np := 56) (l2 := [some (eJ (zJ c)), none, some (eI (0)), some (eR 14), some (eI (0)), some (eI (v16)), some (eI (3))]) (s2 := [eI (v19), eI (v16)]) rfl (b_imul (by rw [← e20]; exact ev_w_in (by omega) (by omega))) rfl ?_
  obtain ⟨v22, e23⟩ : ∃ zz : Int, zz = (v16) + (v19) := ⟨_, rfl⟩
  have b24 : -10010 ≤ v22 ∧ v22 ≤ 10010 := by omega
  refine w_t (np := 57) (l2 := [some (eJ (zJ c)), none, some (eI (0)), some (eR 14), some (eI (0)), some (eI (v16)), some (eI (3))]) (s2 := [eI (v22)]) rfl (b_iadd (by rw [← e23]; exact ev_w_in (by omega) (by omega))) rfl ?_
  refine w_t (np := 59) (l2 := [some (eJ (zJ c)), none, some (eI (0)), some (eR 14), some (eI (0)), some (eI (v22)), some (eI (3))]) (s2 := []) rfl rfl rfl ?_
  refine w_t (np := 62) (l2 := [some (eJ (zJ c)), none, some (eI (0)), some (eR 14), some (eI (0)), some (eI (v22)), some (eI (4))]) (s2 := []) rfl (b_iinc rfl rfl rfl) rfl ?_
  refine w_go (t1 := 18) rfl rfl ?_
  refine w_t (np := 20) (l2 := [some (eJ (zJ c)), none, some (eI (0)), some (eR 14), some (eI (0)), some (eI (v22)), some (eI (4))]) (s2 := [eI (4)]) rfl rfl rfl ?_
  refine w_t (np := 21) (l2 := [some (eJ (zJ c)), none, some (eI (0)), some (eR 14), some (eI (0)), some (eI (v22)), some (eI (4))]) (s2 := [eI (4), eI (4)]) rfl rfl rfl ?_
  refine b_cge (t1 := 65) (t2 := 24) rfl rfl rfl rfl rfl (fun g => ?_) (fun g => absurd g (by decide))
  clear g
  refine w_t (np := 67) (l2 := [some (eJ (zJ c)), none, some (eI (0)), some (eR 14), some (eI (0)), some (eI (v22)), some (eI (4))]) (s2 := [eI (v22)]) rfl rfl rfl ?_
  refine b_ri rfl rfl ?_
  have e9 : v22 = 1 * q := by omega
  rw [e9]
  exact K
theorem t80_14_1 {L : Nat} {ρ : Nat → Int} {rc rs d : Nat} {f : eFr} {F : List eFr} {μ : eM} {c : Nat} {p q r s : Int} (l0 : zI (z_i2s (z_l2i (z_lshr c 48))) = p) (l1 : zI (z_i2s (z_l2i (z_lshr c 32))) = q) (l2 : zI (z_i2s (z_l2i (z_lshr c 16))) = r) (l3 : zI (z_i2s (z_l2i (z_lshr c 0))) = s) (hp : -10010 ≤ p ∧ p ≤ 10010) (hq : -10010 ≤ q ∧ q ≤ 10010) (hr : -10010 ≤ r ∧ r ≤ 10010) (hs : -10010 ≤ s ∧ s ≤ 10010) (K : ex_fine (dt_fg L ρ) rc rs (d + 1, (f.1, f.2.1, f.2.2.1, eI ((-1) * p + 1 * r) :: f.2.2.2), F, μ)) : ex_fine (dt_fg L ρ) rc rs (d, (80, 0, [some (eJ (zJ c)), none, some (eI (1)), some (eR 14), none, none, none], []), f :: F, μ) := by
  refine w_t (np := 2) (l2 := [some (eJ (zJ c)), none, some (eI (1)), some (eR 14), none, none, none]) (s2 := [eI (10)]) rfl rfl rfl ?_
  refine w_t (np := 3) (l2 := [some (eJ (zJ c)), none, some (eI (1)), some (eR 14), none, none, none]) (s2 := [eI (1), eI (10)]) rfl rfl rfl ?_
  refine w_t (np := 5) (l2 := [some (eJ (zJ c)), none, some (eI (1)), some (eR 14), none, none, none]) (s2 := [eI (10), eI (1), eI (10)]) rfl rfl rfl ?_
  refine w_t (np := 6) (l2 := [some (eJ (zJ c)), none, some (eI (1)), some (eR 14), none, none, none]) (s2 := [eI (1), eI (10)]) rfl rfl rfl ?_
  refine w_t (np := 7) (l2 := [some (eJ (zJ c)), none, some (eI (1)), some (eR 14), none, none, none]) (s2 := [eI (9)]) rfl (b_isub rfl) rfl ?_
  refine w_t (np := 9) (l2 := [some (eJ (zJ c)), none, some (eI (1)), some (eR 14), none, none, none]) (s2 := [eI (10), eI (9)]) rfl rfl rfl ?_
  refine w_t (np := 10) (l2 := [some (eJ (zJ c)), none, some (eI (1)), some (eR 14), none, none, none]) (s2 := [eI (9)]) rfl rfl rfl ?_
  refine w_t (np := 12) (l2 := [some (eJ (zJ c)), none, some (eI (1)), some (eR 14), some (eI (9)), none, none]) (s2 := []) rfl rfl rfl ?_
  refine w_t (np := 13) (l2 := [some (eJ (zJ c)), none, some (eI (1)), some (eR 14), some (eI (9)), none, none]) (s2 := [eI (0)]) rfl rfl rfl ?_
  refine w_t (np := 15) (l2 := [some (eJ (zJ c)), none, some (eI (1)), some (eR 14), some (eI (9)), some (eI (0)), none]) (s2 := []) rfl rfl rfl ?_
  refine w_t (np := 16) (l2 := [some (eJ (zJ c)), none, some (eI (1)), some (eR 14), some (eI (9)), some (eI (0)), none]) (s2 := [eI (0)]) rfl rfl rfl ?_
  refine w_t (np := 18) (l2 := [some (eJ (zJ c)), none, some (eI (1)), some (eR 14), some (eI (9)), some (eI (0)), some (eI (0))]) (s2 := []) rfl rfl rfl ?_
  refine w_t (np := 20) (l2 := [some (eJ (zJ c)), none, some (eI (1)), some (eR 14), some (eI (9)), some (eI (0)), some (eI (0))]) (s2 := [eI (0)]) rfl rfl rfl ?_
  refine w_t (np := 21) (l2 := [some (eJ (zJ c)), none, some (eI (1)), some (eR 14), some (eI (9)), some (eI (0)), some (eI (0))]) (s2 := [eI (4), eI (0)]) rfl rfl rfl ?_
  refine b_cge (t1 := 65) (t2 := 24) rfl rfl rfl rfl rfl (fun g => absurd g (by decide)) (fun g => ?_)
  clear g
  refine w_t (np := 26) (l2 := [some (eJ (zJ c)), none, some (eI (1)), some (eR 14), some (eI (9)), some (eI (0)), some (eI (0))]) (s2 := [eI (9)]) rfl rfl rfl ?_
  refine w_t (np := 28) (l2 := [some (eJ (zJ c)), none, some (eI (1)), some (eR 14), some (eI (9)), some (eI (0)), some (eI (0))]) (s2 := [eI (0), eI (9)]) rfl rfl rfl ?_
  refine w_t (np := 29) (l2 := [some (eJ (zJ c)), none, some (eI (1)), some (eR 14), some (eI (9)), some (eI (0)), some (eI (0))]) (s2 := [eI (9)]) rfl (b_iadd rfl) rfl ?_
  refine w_t (np := 30) (l2 := [some (eJ (zJ c)), none, some (eI (1)), some (eR 14), some (eI (9)), some (eI (0)), some (eI (0))]) (s2 := [eR 14, eI (9)]) rfl (s_an rfl (by decide)) rfl ?_
  refine v_ln (np := 31) (v := 13) (n := 13) rfl rfl ⟨rfl, zI_lit (by decide)⟩ ?_
  rw [show zI 13 = 13 by decide]
  refine b_cge (t1 := 65) (t2 := 34) rfl rfl rfl rfl rfl (fun g => absurd g (by decide)) (fun g => ?_)
  clear g
  refine w_t (np := 36) (l2 := [some (eJ (zJ c)), none, some (eI (1)), some (eR 14), some (eI (9)), some (eI (0)), some (eI (0))]) (s2 := [eI (0)]) rfl rfl rfl ?_
  refine w_t (np := 37) (l2 := [some (eJ (zJ c)), none, some (eI (1)), some (eR 14), some (eI (9)), some (eI (0)), some (eI (0))]) (s2 := [eJ (zJ c), eI (0)]) rfl rfl rfl ?_
  refine w_t (np := 39) (l2 := [some (eJ (zJ c)), none, some (eI (1)), some (eR 14), some (eI (9)), some (eI (0)), some (eI (0))]) (s2 := [eI (48), eJ (zJ c), eI (0)]) rfl rfl rfl ?_
  refine w_t (np := 41) (l2 := [some (eJ (zJ c)), none, some (eI (1)), some (eR 14), some (eI (9)), some (eI (0)), some (eI (0))]) (s2 := [eI (16), eI (48), eJ (zJ c), eI (0)]) rfl rfl rfl ?_
  refine w_t (np := 43) (l2 := [some (eJ (zJ c)), none, some (eI (1)), some (eR 14), some (eI (9)), some (eI (0)), some (eI (0))]) (s2 := [eI (0), eI (16), eI (48), eJ (zJ c), eI (0)]) rfl rfl rfl ?_
  refine w_t (np := 44) (l2 := [some (eJ (zJ c)), none, some (eI (1)), some (eR 14), some (eI (9)), some (eI (0)), some (eI (0))]) (s2 := [eI (0), eI (48), eJ (zJ c), eI (0)]) rfl (b_imul rfl) rfl ?_
  refine w_t (np := 45) (l2 := [some (eJ (zJ c)), none, some (eI (1)), some (eR 14), some (eI (9)), some (eI (0)), some (eI (0))]) (s2 := [eI (48), eJ (zJ c), eI (0)]) rfl (b_isub rfl) rfl ?_
  refine w_lane (np := 48) (k := 48) (v := p) rfl rfl rfl rfl (by decide) rfl l0 ?_
  refine w_t (np := 49) (l2 := [some (eJ (zJ c)), none, some (eI (1)), some (eR 14), some (eI (9)), some (eI (0)), some (eI (0))]) (s2 := [eR 14, eI (p), eI (0)]) rfl (s_an rfl (by decide)) rfl ?_
  refine w_t (np := 51) (l2 := [some (eJ (zJ c)), none, some (eI (1)), some (eR 14), some (eI (9)), some (eI (0)), some (eI (0))]) (s2 := [eI (9), eR 14, eI (p), eI (0)]) rfl rfl rfl ?_
  refine w_t (np := 53) (l2 := [some (eJ (zJ c)), none, some (eI (1)), some (eR 14), some (eI (9)), some (eI (0)), some (eI (0))]) (s2 := [eI (0), eI (9), eR 14, eI (p), eI (0)]) rfl rfl rfl ?_
  refine w_t (np := 54) (l2 := [some (eJ (zJ c)), none, some (eI (1)), some (eR 14), some (eI (9)), some (eI (0)), some (eI (0))]) (s2 := [eI (9), eR 14, eI (p), eI (0)]) rfl (b_iadd rfl) rfl ?_
  refine w_al (np := 55) (v := -1) rfl rfl (s_al (j := 9) (by decide) (by decide) (by decide) rfl rfl (by decide) (by decide) rfl) ?_
  obtain ⟨v1, e2⟩ : ∃ zz : Int, zz = (p) * (-1) := ⟨_, rfl⟩
  have b3 : -10010 ≤ v1 ∧ v1 ≤ 10010 := by omega
  refine w_t (np := 56) (l2 := [some (eJ (zJ c)), none, some (eI (1)), some (eR 14), some (eI (9)), some (eI (0)), some (eI (0))]) (s2 := [eI (v1), eI (0)]) rfl (b_imul (by rw [← e2]; exact ev_w_in (by omega) (by omega))) rfl ?_
  obtain ⟨v4, e5⟩ : ∃ zz : Int, zz = (0) + (v1) := ⟨_, rfl⟩
  have b6 : -10010 ≤ v4 ∧ v4 ≤ 10010 := by omega
  refine w_t (np := 57) (l2 := [some (eJ (zJ c)), none, some (eI (1)), some (eR 14), some (eI (9)), some (eI (0)), some (eI (0))]) (s2 := [eI (v4)]) rfl (b_iadd (by rw [← e5]; exact ev_w_in (by omega) (by omega))) rfl ?_
  refine w_t (np := 59) (l2 := [some (eJ (zJ c)), none, some (eI (1)), some (eR 14), some (eI (9)), some (eI (v4)), some (eI (0))]) (s2 := []) rfl rfl rfl ?_
  refine w_t (np := 62) (l2 := [some (eJ (zJ c)), none, some (eI (1)), some (eR 14), some (eI (9)), some (eI (v4)), some (eI (1))]) (s2 := []) rfl (b_iinc rfl rfl rfl) rfl ?_
  refine w_go (t1 := 18) rfl rfl ?_
  refine w_t (np := 20) (l2 := [some (eJ (zJ c)), none, some (eI (1)), some (eR 14), some (eI (9)), some (eI (v4)), some (eI (1))]) (s2 := [eI (1)]) rfl rfl rfl ?_
  refine w_t (np := 21) (l2 := [some (eJ (zJ c)), none, some (eI (1)), some (eR 14), some (eI (9)), some (eI (v4)), some (eI (1))]) (s2 := [eI (4), eI (1)]) rfl rfl rfl ?_
  refine b_cge (t1 := 65) (t2 := 24) rfl rfl rfl rfl rfl (fun g => absurd g (by decide)) (fun g => ?_)
  clear g
  refine w_t (np := 26) (l2 := [some (eJ (zJ c)), none, some (eI (1)), some (eR 14), some (eI (9)), some (eI (v4)), some (eI (1))]) (s2 := [eI (9)]) rfl rfl rfl ?_
  refine w_t (np := 28) (l2 := [some (eJ (zJ c)), none, some (eI (1)), some (eR 14), some (eI (9)), some (eI (v4)), some (eI (1))]) (s2 := [eI (1), eI (9)]) rfl rfl rfl ?_
  refine w_t (np := 29) (l2 := [some (eJ (zJ c)), none, some (eI (1)), some (eR 14), some (eI (9)), some (eI (v4)), some (eI (1))]) (s2 := [eI (10)]) rfl (b_iadd rfl) rfl ?_
  refine w_t (np := 30) (l2 := [some (eJ (zJ c)), none, some (eI (1)), some (eR 14), some (eI (9)), some (eI (v4)), some (eI (1))]) (s2 := [eR 14, eI (10)]) rfl (s_an rfl (by decide)) rfl ?_
  refine v_ln (np := 31) (v := 13) (n := 13) rfl rfl ⟨rfl, zI_lit (by decide)⟩ ?_
  rw [show zI 13 = 13 by decide]
  refine b_cge (t1 := 65) (t2 := 34) rfl rfl rfl rfl rfl (fun g => absurd g (by decide)) (fun g => ?_)
  clear g
  refine w_t (np := 36) (l2 := [some (eJ (zJ c)), none, some (eI (1)), some (eR 14), some (eI (9)), some (eI (v4)), some (eI (1))]) (s2 := [eI (v4)]) rfl rfl rfl ?_
  refine w_t (np := 37) (l2 := [some (eJ (zJ c)), none, some (eI (1)), some (eR 14), some (eI (9)), some (eI (v4)), some (eI (1))]) (s2 := [eJ (zJ c), eI (v4)]) rfl rfl rfl ?_
  refine w_t (np := 39) (l2 := [some (eJ (zJ c)), none, some (eI (1)), some (eR 14), some (eI (9)), some (eI (v4)), some (eI (1))]) (s2 := [eI (48), eJ (zJ c), eI (v4)]) rfl rfl rfl ?_
  refine w_t (np := 41) (l2 := [some (eJ (zJ c)), none, some (eI (1)), some (eR 14), some (eI (9)), some (eI (v4)), some (eI (1))]) (s2 := [eI (16), eI (48), eJ (zJ c), eI (v4)]) rfl rfl rfl ?_
  refine w_t (np := 43) (l2 := [some (eJ (zJ c)), none, some (eI (1)), some (eR 14), some (eI (9)), some (eI (v4)), some (eI (1))]) (s2 := [eI (1), eI (16), eI (48), eJ (zJ c), eI (v4)]) rfl rfl rfl ?_
  refine w_t (np := 44) (l2 := [some (eJ (zJ c)), none, some (eI (1)), some (eR 14), some (eI (9)), some (eI (v4)), some (eI (1))]) (s2 := [eI (16), eI (48), eJ (zJ c), eI (v4)]) rfl (b_imul rfl) rfl ?_
  refine w_t (np := 45) (l2 := [some (eJ (zJ c)), none, some (eI (1)), some (eR 14), some (eI (9)), some (eI (v4)), some (eI (1))]) (s2 := [eI (32), eJ (zJ c), eI (v4)]) rfl (b_isub rfl) rfl ?_
  refine w_lane (np := 48) (k := 32) (v := q) rfl rfl rfl rfl (by decide) rfl l1 ?_
  refine w_t (np := 49) (l2 := [some (eJ (zJ c)), none, some (eI (1)), some (eR 14), some (eI (9)), some (eI (v4)), some (eI (1))]) (s2 := [eR 14, eI (q), eI (v4)]) rfl (s_an rfl (by decide)) rfl ?_
  refine w_t (np := 51) (l2 := [some (eJ (zJ c)), none, some (eI (1)), some (eR 14), some (eI (9)), some (eI (v4)), some (eI (1))]) (s2 := [eI (9), eR 14, eI (q), eI (v4)]) rfl rfl rfl ?_
  refine w_t (np := 53) (l2 := [some (eJ (zJ c)), none, some (eI (1)), some (eR 14), some (eI (9)), some (eI (v4)), some (eI (1))]) (s2 := [eI (1), eI (9), eR 14, eI (q), eI (v4)]) rfl rfl rfl ?_
  refine w_t (np := 54) (l2 := [some (eJ (zJ c)), none, some (eI (1)), some (eR 14), some (eI (9)), some (eI (v4)), some (eI (1))]) (s2 := [eI (10), eR 14, eI (q), eI (v4)]) rfl (b_iadd rfl) rfl ?_
  refine w_al (np := 55) (v := 0) rfl rfl (s_al (j := 10) (by decide) (by decide) (by decide) rfl rfl (by decide) (by decide) rfl) ?_
  obtain ⟨v7, e8⟩ : ∃ zz : Int, zz = (q) * (0) := ⟨_, rfl⟩
  have b9 : 0 ≤ v7 ∧ v7 ≤ 0 := by omega
  refine w_t (np := 56) (l2 := [some (eJ (zJ c)), none, some (eI (1)), some (eR 14), some (eI (9)), some (eI (v4)), some (eI (1))]) (s2 := [eI (v7), eI (v4)]) rfl (b_imul (by rw [← e8]; exact ev_w_in (by omega) (by omega))) rfl ?_
  obtain ⟨v10, e11⟩ : ∃ zz : Int, zz = (v4) + (v7) := ⟨_, rfl⟩
  have b12 : -10010 ≤ v10 ∧ v10 ≤ 10010 := by omega
  refine w_t (np := 57) (l2 := [some (eJ (zJ c)), none, some (eI (1)), some (eR 14), some (eI (9)), some (eI (v4)), some (eI (1))]) (s2 := [eI (v10)]) rfl (b_iadd (by rw [← e11]; exact ev_w_in (by omega) (by omega))) rfl ?_
  refine w_t (np := 59) (l2 := [some (eJ (zJ c)), none, some (eI (1)), some (eR 14), some (eI (9)), some (eI (v10)), some (eI (1))]) (s2 := []) rfl rfl rfl ?_
  refine w_t (np := 62) (l2 := [some (eJ (zJ c)), none, some (eI (1)), some (eR 14), some (eI (9)), some (eI (v10)), some (eI (2))]) (s2 := []) rfl (b_iinc rfl rfl rfl) rfl ?_
  refine w_go (t1 := 18) rfl rfl ?_
  refine w_t (np := 20) (l2 := [some (eJ (zJ c)), none, some (eI (1)), some (eR 14), some (eI (9)), some (eI (v10)), some (eI (2))]) (s2 := [eI (2)]) rfl rfl rfl ?_
  refine w_t (np := 21) (l2 := [some (eJ (zJ c)), none, some (eI (1)), some (eR 14), some (eI (9)), some (eI (v10)), some (eI (2))]) (s2 := [eI (4), eI (2)]) rfl rfl rfl ?_
  refine b_cge (t1 := 65) (t2 := 24) rfl rfl rfl rfl rfl (fun g => absurd g (by decide)) (fun g => ?_)
  clear g
  refine w_t (np := 26) (l2 := [some (eJ (zJ c)), none, some (eI (1)), some (eR 14), some (eI (9)), some (eI (v10)), some (eI (2))]) (s2 := [eI (9)]) rfl rfl rfl ?_
  refine w_t (np := 28) (l2 := [some (eJ (zJ c)), none, some (eI (1)), some (eR 14), some (eI (9)), some (eI (v10)), some (eI (2))]) (s2 := [eI (2), eI (9)]) rfl rfl rfl ?_
  refine w_t (np := 29) (l2 := [some (eJ (zJ c)), none, some (eI (1)), some (eR 14), some (eI (9)), some (eI (v10)), some (eI (2))]) (s2 := [eI (11)]) rfl (b_iadd rfl) rfl ?_
  refine w_t (np := 30) (l2 := [some (eJ (zJ c)), none, some (eI (1)), some (eR 14), some (eI (9)), some (eI (v10)), some (eI (2))]) (s2 := [eR 14, eI (11)]) rfl (s_an rfl (by decide)) rfl ?_
  refine v_ln (np := 31) (v := 13) (n := 13) rfl rfl ⟨rfl, zI_lit (by decide)⟩ ?_
  rw [show zI 13 = 13 by decide]
  refine b_cge (t1 := 65) (t2 := 34) rfl rfl rfl rfl rfl (fun g => absurd g (by decide)) (fun g => ?_)
  clear g
  refine w_t (np := 36) (l2 := [some (eJ (zJ c)), none, some (eI (1)), some (eR 14), some (eI (9)), some (eI (v10)), some (eI (2))]) (s2 := [eI (v10)]) rfl rfl rfl ?_
  refine w_t (np := 37) (l2 := [some (eJ (zJ c)), none, some (eI (1)), some (eR 14), some (eI (9)), some (eI (v10)), some (eI (2))]) (s2 := [eJ (zJ c), eI (v10)]) rfl rfl rfl ?_
  refine w_t (np := 39) (l2 := [some (eJ (zJ c)), none, some (eI (1)), some (eR 14), some (eI (9)), some (eI (v10)), some (eI (2))]) (s2 := [eI (48), eJ (zJ c), eI (v10)]) rfl rfl rfl ?_
  refine w_t (np := 41) (l2 := [some (eJ (zJ c)), none, some (eI (1)), some (eR 14), some (eI (9)), some (eI (v10)), some (eI (2))]) (s2 := [eI (16), eI (48), eJ (zJ c), eI (v10)]) rfl rfl rfl ?_
  refine w_t (np := 43) (l2 := [some (eJ (zJ c)), none, some (eI (1)), some (eR 14), some (eI (9)), some (eI (v10)), some (eI (2))]) (s2 := [eI (2), eI (16), eI (48), eJ (zJ c), eI (v10)]) rfl rfl rfl ?_
  refine w_t (np := 44) (l2 := [some (eJ (zJ c)), none, some (eI (1)), some (eR 14), some (eI (9)), some (eI (v10)), some (eI (2))]) (s2 := [eI (32), eI (48), eJ (zJ c), eI (v10)]) rfl (b_imul rfl) rfl ?_
  refine w_t (np := 45) (l2 := [some (eJ (zJ c)), none, some (eI (1)), some (eR 14), some (eI (9)), some (eI (v10)), some (eI (2))]) (s2 := [eI (16), eJ (zJ c), eI (v10)]) rfl (b_isub rfl) rfl ?_
  refine w_lane (np := 48) (k := 16) (v := r) rfl rfl rfl rfl (by decide) rfl l2 ?_
  refine w_t (np := 49) (l2 := [some (eJ (zJ c)), none, some (eI (1)), some (eR 14), some (eI (9)), some (eI (v10)), some (eI (2))]) (s2 := [eR 14, eI (r), eI (v10)]) rfl (s_an rfl (by decide)) rfl ?_
  refine w_t (np := 51) (l2 := [some (eJ (zJ c)), none, some (eI (1)), some (eR 14), some (eI (9)), some (eI (v10)), some (eI (2))]) (s2 := [eI (9), eR 14, eI (r), eI (v10)]) rfl rfl rfl ?_
  refine w_t (np := 53) (l2 := [some (eJ (zJ c)), none, some (eI (1)), some (eR 14), some (eI (9)), some (eI (v10)), some (eI (2))]) (s2 := [eI (2), eI (9), eR 14, eI (r), eI (v10)]) rfl rfl rfl ?_
  refine w_t (np := 54) (l2 := [some (eJ (zJ c)), none, some (eI (1)), some (eR 14), some (eI (9)), some (eI (v10)), some (eI (2))]) (s2 := [eI (11), eR 14, eI (r), eI (v10)]) rfl (b_iadd rfl) rfl ?_
  refine w_al (np := 55) (v := 1) rfl rfl (s_al (j := 11) (by decide) (by decide) (by decide) rfl rfl (by decide) (by decide) rfl) ?_
  obtain ⟨v13, e14⟩ : ∃ zz : Int, zz = (r) * (1) := ⟨_, rfl⟩
  have b15 : -10010 ≤ v13 ∧ v13 ≤ 10010 := by omega
  refine w_t (np := 56) (l2 := [some (eJ (zJ c)), none, some (eI (1)), some (eR 14), some (eI (9)), some (eI (v10)), some (eI (2))]) (s2 := [eI (v13), eI (v10)]) rfl (b_imul (by rw [← e14]; exact ev_w_in (by omega) (by omega))) rfl ?_
  obtain ⟨v16, e17⟩ : ∃ zz : Int, zz = (v10) + (v13) := ⟨_, rfl⟩
  have b18 : -20020 ≤ v16 ∧ v16 ≤ 20020 := by omega
  refine w_t (np := 57) (l2 := [some (eJ (zJ c)), none, some (eI (1)), some (eR 14), some (eI (9)), some (eI (v10)), some (eI (2))]) (s2 := [eI (v16)]) rfl (b_iadd (by rw [← e17]; exact ev_w_in (by omega) (by omega))) rfl ?_
  refine w_t (np := 59) (l2 := [some (eJ (zJ c)), none, some (eI (1)), some (eR 14), some (eI (9)), some (eI (v16)), some (eI (2))]) (s2 := []) rfl rfl rfl ?_
  refine w_t (np := 62) (l2 := [some (eJ (zJ c)), none, some (eI (1)), some (eR 14), some (eI (9)), some (eI (v16)), some (eI (3))]) (s2 := []) rfl (b_iinc rfl rfl rfl) rfl ?_
  refine w_go (t1 := 18) rfl rfl ?_
  refine w_t (np := 20) (l2 := [some (eJ (zJ c)), none, some (eI (1)), some (eR 14), some (eI (9)), some (eI (v16)), some (eI (3))]) (s2 := [eI (3)]) rfl rfl rfl ?_
  refine w_t (np := 21) (l2 := [some (eJ (zJ c)), none, some (eI (1)), some (eR 14), some (eI (9)), some (eI (v16)), some (eI (3))]) (s2 := [eI (4), eI (3)]) rfl rfl rfl ?_
  refine b_cge (t1 := 65) (t2 := 24) rfl rfl rfl rfl rfl (fun g => absurd g (by decide)) (fun g => ?_)
  clear g
  refine w_t (np := 26) (l2 := [some (eJ (zJ c)), none, some (eI (1)), some (eR 14), some (eI (9)), some (eI (v16)), some (eI (3))]) (s2 := [eI (9)]) rfl rfl rfl ?_
  refine w_t (np := 28) (l2 := [some (eJ (zJ c)), none, some (eI (1)), some (eR 14), some (eI (9)), some (eI (v16)), some (eI (3))]) (s2 := [eI (3), eI (9)]) rfl rfl rfl ?_
  refine w_t (np := 29) (l2 := [some (eJ (zJ c)), none, some (eI (1)), some (eR 14), some (eI (9)), some (eI (v16)), some (eI (3))]) (s2 := [eI (12)]) rfl (b_iadd rfl) rfl ?_
  refine w_t (np := 30) (l2 := [some (eJ (zJ c)), none, some (eI (1)), some (eR 14), some (eI (9)), some (eI (v16)), some (eI (3))]) (s2 := [eR 14, eI (12)]) rfl (s_an rfl (by decide)) rfl ?_
  refine v_ln (np := 31) (v := 13) (n := 13) rfl rfl ⟨rfl, zI_lit (by decide)⟩ ?_
  rw [show zI 13 = 13 by decide]
  refine b_cge (t1 := 65) (t2 := 34) rfl rfl rfl rfl rfl (fun g => absurd g (by decide)) (fun g => ?_)
  clear g
  refine w_t (np := 36) (l2 := [some (eJ (zJ c)), none, some (eI (1)), some (eR 14), some (eI (9)), some (eI (v16)), some (eI (3))]) (s2 := [eI (v16)]) rfl rfl rfl ?_
  refine w_t (np := 37) (l2 := [some (eJ (zJ c)), none, some (eI (1)), some (eR 14), some (eI (9)), some (eI (v16)), some (eI (3))]) (s2 := [eJ (zJ c), eI (v16)]) rfl rfl rfl ?_
  refine w_t (np := 39) (l2 := [some (eJ (zJ c)), none, some (eI (1)), some (eR 14), some (eI (9)), some (eI (v16)), some (eI (3))]) (s2 := [eI (48), eJ (zJ c), eI (v16)]) rfl rfl rfl ?_
  refine w_t (np := 41) (l2 := [some (eJ (zJ c)), none, some (eI (1)), some (eR 14), some (eI (9)), some (eI (v16)), some (eI (3))]) (s2 := [eI (16), eI (48), eJ (zJ c), eI (v16)]) rfl rfl rfl ?_
  refine w_t (np := 43) (l2 := [some (eJ (zJ c)), none, some (eI (1)), some (eR 14), some (eI (9)), some (eI (v16)), some (eI (3))]) (s2 := [eI (3), eI (16), eI (48), eJ (zJ c), eI (v16)]) rfl rfl rfl ?_
  refine w_t (np := 44) (l2 := [some (eJ (zJ c)), none, some (eI (1)), some (eR 14), some (eI (9)), some (eI (v16)), some (eI (3))]) (s2 := [eI (48), eI (48), eJ (zJ c), eI (v16)]) rfl (b_imul rfl) rfl ?_
  refine w_t (np := 45) (l2 := [some (eJ (zJ c)), none, some (eI (1)), some (eR 14), some (eI (9)), some (eI (v16)), some (eI (3))]) (s2 := [eI (0), eJ (zJ c), eI (v16)]) rfl (b_isub rfl) rfl ?_
  refine w_lane (np := 48) (k := 0) (v := s) rfl rfl rfl rfl (by decide) rfl l3 ?_
  refine w_t (np := 49) (l2 := [some (eJ (zJ c)), none, some (eI (1)), some (eR 14), some (eI (9)), some (eI (v16)), some (eI (3))]) (s2 := [eR 14, eI (s), eI (v16)]) rfl (s_an rfl (by decide)) rfl ?_
  refine w_t (np := 51) (l2 := [some (eJ (zJ c)), none, some (eI (1)), some (eR 14), some (eI (9)), some (eI (v16)), some (eI (3))]) (s2 := [eI (9), eR 14, eI (s), eI (v16)]) rfl rfl rfl ?_
  refine w_t (np := 53) (l2 := [some (eJ (zJ c)), none, some (eI (1)), some (eR 14), some (eI (9)), some (eI (v16)), some (eI (3))]) (s2 := [eI (3), eI (9), eR 14, eI (s), eI (v16)]) rfl rfl rfl ?_
  refine w_t (np := 54) (l2 := [some (eJ (zJ c)), none, some (eI (1)), some (eR 14), some (eI (9)), some (eI (v16)), some (eI (3))]) (s2 := [eI (12), eR 14, eI (s), eI (v16)]) rfl (b_iadd rfl) rfl ?_
  refine w_al (np := 55) (v := 0) rfl rfl (s_al (j := 12) (by decide) (by decide) (by decide) rfl rfl (by decide) (by decide) rfl) ?_
  obtain ⟨v19, e20⟩ : ∃ zz : Int, zz = (s) * (0) := ⟨_, rfl⟩
  have b21 : 0 ≤ v19 ∧ v19 ≤ 0 := by omega
  refine w_t (np := 56) (l2 := [some (eJ (zJ c)), none, some (eI (1)), some (eR 14), some (eI (9)), some (eI (v16)), some (eI (3))]) (s2 := [eI (v19), eI (v16)]) rfl (b_imul (by rw [← e20]; exact ev_w_in (by omega) (by omega))) rfl ?_
  obtain ⟨v22, e23⟩ : ∃ zz : Int, zz = (v16) + (v19) := ⟨_, rfl⟩
  have b24 : -20020 ≤ v22 ∧ v22 ≤ 20020 := by omega
  refine w_t (np := 57) (l2 := [some (eJ (zJ c)), none, some (eI (1)), some (eR 14), some (eI (9)), some (eI (v16)), some (eI (3))]) (s2 := [eI (v22)]) rfl (b_iadd (by rw [← e23]; exact ev_w_in (by omega) (by omega))) rfl ?_
  refine w_t (np := 59) (l2 := [some (eJ (zJ c)), none, some (eI (1)), some (eR 14), some (eI (9)), some (eI (v22)), some (eI (3))]) (s2 := []) rfl rfl rfl ?_
  refine w_t (np := 62) (l2 := [some (eJ (zJ c)), none, some (eI (1)), some (eR 14), some (eI (9)), some (eI (v22)), some (eI (4))]) (s2 := []) rfl (b_iinc rfl rfl rfl) rfl ?_
  refine w_go (t1 := 18) rfl rfl ?_
  refine w_t (np := 20) (l2 := [some (eJ (zJ c)), none, some (eI (1)), some (eR 14), some (eI (9)), some (eI (v22)), some (eI (4))]) (s2 := [eI (4)]) rfl rfl rfl ?_
  refine w_t (np := 21) (l2 := [some (eJ (zJ c)), none, some (eI (1)), some (eR 14), some (eI (9)), some (eI (v22)), some (eI (4))]) (s2 := [eI (4), eI (4)]) rfl rfl rfl ?_
  refine b_cge (t1 := 65) (t2 := 24) rfl rfl rfl rfl rfl (fun g => ?_) (fun g => absurd g (by decide))
  clear g
  refine w_t (np := 67) (l2 := [some (eJ (zJ c)), none, some (eI (1)), some (eR 14), some (eI (9)), some (eI (v22)), some (eI (4))]) (s2 := [eI (v22)]) rfl rfl rfl ?_
  refine b_ri rfl rfl ?_
  have e9 : v22 = (-1) * p + 1 * r := by omega
  rw [e9]
  exact K
theorem t80_14_2 {L : Nat} {ρ : Nat → Int} {rc rs d : Nat} {f : eFr} {F : List eFr} {μ : eM} {c : Nat} {p q r s : Int} (l0 : zI (z_i2s (z_l2i (z_lshr c 48))) = p) (l1 : zI (z_i2s (z_l2i (z_lshr c 32))) = q) (l2 : zI (z_i2s (z_l2i (z_lshr c 16))) = r) (l3 : zI (z_i2s (z_l2i (z_lshr c 0))) = s) (hp : -10010 ≤ p ∧ p ≤ 10010) (hq : -10010 ≤ q ∧ q ≤ 10010) (hr : -10010 ≤ r ∧ r ≤ 10010) (hs : -10010 ≤ s ∧ s ≤ 10010) (K : ex_fine (dt_fg L ρ) rc rs (d + 1, (f.1, f.2.1, f.2.2.1, eI ((-1) * q + 1 * s) :: f.2.2.2), F, μ)) : ex_fine (dt_fg L ρ) rc rs (d, (80, 0, [some (eJ (zJ c)), none, some (eI (2)), some (eR 14), none, none, none], []), f :: F, μ) := by
  refine w_t (np := 2) (l2 := [some (eJ (zJ c)), none, some (eI (2)), some (eR 14), none, none, none]) (s2 := [eI (10)]) rfl rfl rfl ?_
  refine w_t (np := 3) (l2 := [some (eJ (zJ c)), none, some (eI (2)), some (eR 14), none, none, none]) (s2 := [eI (2), eI (10)]) rfl rfl rfl ?_
  refine w_t (np := 5) (l2 := [some (eJ (zJ c)), none, some (eI (2)), some (eR 14), none, none, none]) (s2 := [eI (10), eI (2), eI (10)]) rfl rfl rfl ?_
  refine w_t (np := 6) (l2 := [some (eJ (zJ c)), none, some (eI (2)), some (eR 14), none, none, none]) (s2 := [eI (2), eI (10)]) rfl rfl rfl ?_
  refine w_t (np := 7) (l2 := [some (eJ (zJ c)), none, some (eI (2)), some (eR 14), none, none, none]) (s2 := [eI (8)]) rfl (b_isub rfl) rfl ?_
  refine w_t (np := 9) (l2 := [some (eJ (zJ c)), none, some (eI (2)), some (eR 14), none, none, none]) (s2 := [eI (10), eI (8)]) rfl rfl rfl ?_
  refine w_t (np := 10) (l2 := [some (eJ (zJ c)), none, some (eI (2)), some (eR 14), none, none, none]) (s2 := [eI (8)]) rfl rfl rfl ?_
  refine w_t (np := 12) (l2 := [some (eJ (zJ c)), none, some (eI (2)), some (eR 14), some (eI (8)), none, none]) (s2 := []) rfl rfl rfl ?_
  refine w_t (np := 13) (l2 := [some (eJ (zJ c)), none, some (eI (2)), some (eR 14), some (eI (8)), none, none]) (s2 := [eI (0)]) rfl rfl rfl ?_
  refine w_t (np := 15) (l2 := [some (eJ (zJ c)), none, some (eI (2)), some (eR 14), some (eI (8)), some (eI (0)), none]) (s2 := []) rfl rfl rfl ?_
  refine w_t (np := 16) (l2 := [some (eJ (zJ c)), none, some (eI (2)), some (eR 14), some (eI (8)), some (eI (0)), none]) (s2 := [eI (0)]) rfl rfl rfl ?_
  refine w_t (np := 18) (l2 := [some (eJ (zJ c)), none, some (eI (2)), some (eR 14), some (eI (8)), some (eI (0)), some (eI (0))]) (s2 := []) rfl rfl rfl ?_
  refine w_t (np := 20) (l2 := [some (eJ (zJ c)), none, some (eI (2)), some (eR 14), some (eI (8)), some (eI (0)), some (eI (0))]) (s2 := [eI (0)]) rfl rfl rfl ?_
  refine w_t (np := 21) (l2 := [some (eJ (zJ c)), none, some (eI (2)), some (eR 14), some (eI (8)), some (eI (0)), some (eI (0))]) (s2 := [eI (4), eI (0)]) rfl rfl rfl ?_
  refine b_cge (t1 := 65) (t2 := 24) rfl rfl rfl rfl rfl (fun g => absurd g (by decide)) (fun g => ?_)
  clear g
  refine w_t (np := 26) (l2 := [some (eJ (zJ c)), none, some (eI (2)), some (eR 14), some (eI (8)), some (eI (0)), some (eI (0))]) (s2 := [eI (8)]) rfl rfl rfl ?_
  refine w_t (np := 28) (l2 := [some (eJ (zJ c)), none, some (eI (2)), some (eR 14), some (eI (8)), some (eI (0)), some (eI (0))]) (s2 := [eI (0), eI (8)]) rfl rfl rfl ?_
  refine w_t (np := 29) (l2 := [some (eJ (zJ c)), none, some (eI (2)), some (eR 14), some (eI (8)), some (eI (0)), some (eI (0))]) (s2 := [eI (8)]) rfl (b_iadd rfl) rfl ?_
  refine w_t (np := 30) (l2 := [some (eJ (zJ c)), none, some (eI (2)), some (eR 14), some (eI (8)), some (eI (0)), some (eI (0))]) (s2 := [eR 14, eI (8)]) rfl (s_an rfl (by decide)) rfl ?_
  refine v_ln (np := 31) (v := 13) (n := 13) rfl rfl ⟨rfl, zI_lit (by decide)⟩ ?_
  rw [show zI 13 = 13 by decide]
  refine b_cge (t1 := 65) (t2 := 34) rfl rfl rfl rfl rfl (fun g => absurd g (by decide)) (fun g => ?_)
  clear g
  refine w_t (np := 36) (l2 := [some (eJ (zJ c)), none, some (eI (2)), some (eR 14), some (eI (8)), some (eI (0)), some (eI (0))]) (s2 := [eI (0)]) rfl rfl rfl ?_
  refine w_t (np := 37) (l2 := [some (eJ (zJ c)), none, some (eI (2)), some (eR 14), some (eI (8)), some (eI (0)), some (eI (0))]) (s2 := [eJ (zJ c), eI (0)]) rfl rfl rfl ?_
  refine w_t (np := 39) (l2 := [some (eJ (zJ c)), none, some (eI (2)), some (eR 14), some (eI (8)), some (eI (0)), some (eI (0))]) (s2 := [eI (48), eJ (zJ c), eI (0)]) rfl rfl rfl ?_
  refine w_t (np := 41) (l2 := [some (eJ (zJ c)), none, some (eI (2)), some (eR 14), some (eI (8)), some (eI (0)), some (eI (0))]) (s2 := [eI (16), eI (48), eJ (zJ c), eI (0)]) rfl rfl rfl ?_
  refine w_t (np := 43) (l2 := [some (eJ (zJ c)), none, some (eI (2)), some (eR 14), some (eI (8)), some (eI (0)), some (eI (0))]) (s2 := [eI (0), eI (16), eI (48), eJ (zJ c), eI (0)]) rfl rfl rfl ?_
  refine w_t (np := 44) (l2 := [some (eJ (zJ c)), none, some (eI (2)), some (eR 14), some (eI (8)), some (eI (0)), some (eI (0))]) (s2 := [eI (0), eI (48), eJ (zJ c), eI (0)]) rfl (b_imul rfl) rfl ?_
  refine w_t (np := 45) (l2 := [some (eJ (zJ c)), none, some (eI (2)), some (eR 14), some (eI (8)), some (eI (0)), some (eI (0))]) (s2 := [eI (48), eJ (zJ c), eI (0)]) rfl (b_isub rfl) rfl ?_
  refine w_lane (np := 48) (k := 48) (v := p) rfl rfl rfl rfl (by decide) rfl l0 ?_
  refine w_t (np := 49) (l2 := [some (eJ (zJ c)), none, some (eI (2)), some (eR 14), some (eI (8)), some (eI (0)), some (eI (0))]) (s2 := [eR 14, eI (p), eI (0)]) rfl (s_an rfl (by decide)) rfl ?_
  refine w_t (np := 51) (l2 := [some (eJ (zJ c)), none, some (eI (2)), some (eR 14), some (eI (8)), some (eI (0)), some (eI (0))]) (s2 := [eI (8), eR 14, eI (p), eI (0)]) rfl rfl rfl ?_
  refine w_t (np := 53) (l2 := [some (eJ (zJ c)), none, some (eI (2)), some (eR 14), some (eI (8)), some (eI (0)), some (eI (0))]) (s2 := [eI (0), eI (8), eR 14, eI (p), eI (0)]) rfl rfl rfl ?_
  refine w_t (np := 54) (l2 := [some (eJ (zJ c)), none, some (eI (2)), some (eR 14), some (eI (8)), some (eI (0)), some (eI (0))]) (s2 := [eI (8), eR 14, eI (p), eI (0)]) rfl (b_iadd rfl) rfl ?_
  refine w_al (np := 55) (v := 0) rfl rfl (s_al (j := 8) (by decide) (by decide) (by decide) rfl rfl (by decide) (by decide) rfl) ?_
  obtain ⟨v1, e2⟩ : ∃ zz : Int, zz = (p) * (0) := ⟨_, rfl⟩
  have b3 : 0 ≤ v1 ∧ v1 ≤ 0 := by omega
  refine w_t (np := 56) (l2 := [some (eJ (zJ c)), none, some (eI (2)), some (eR 14), some (eI (8)), some (eI (0)), some (eI (0))]) (s2 := [eI (v1), eI (0)]) rfl (b_imul (by rw [← e2]; exact ev_w_in (by omega) (by omega))) rfl ?_
  obtain ⟨v4, e5⟩ : ∃ zz : Int, zz = (0) + (v1) := ⟨_, rfl⟩
  have b6 : 0 ≤ v4 ∧ v4 ≤ 0 := by omega
  refine w_t (np := 57) (l2 := [some (eJ (zJ c)), none, some (eI (2)), some (eR 14), some (eI (8)), some (eI (0)), some (eI (0))]) (s2 := [eI (v4)]) rfl (b_iadd (by rw [← e5]; exact ev_w_in (by omega) (by omega))) rfl ?_
  refine w_t (np := 59) (l2 := [some (eJ (zJ c)), none, some (eI (2)), some (eR 14), some (eI (8)), some (eI (v4)), some (eI (0))]) (s2 := []) rfl rfl rfl ?_
  refine w_t (np := 62) (l2 := [some (eJ (zJ c)), none, some (eI (2)), some (eR 14), some (eI (8)), some (eI (v4)), some (eI (1))]) (s2 := []) rfl (b_iinc rfl rfl rfl) rfl ?_
  refine w_go (t1 := 18) rfl rfl ?_
  refine w_t (np := 20) (l2 := [some (eJ (zJ c)), none, some (eI (2)), some (eR 14), some (eI (8)), some (eI (v4)), some (eI (1))]) (s2 := [eI (1)]) rfl rfl rfl ?_
  refine w_t (np := 21) (l2 := [some (eJ (zJ c)), none, some (eI (2)), some (eR 14), some (eI (8)), some (eI (v4)), some (eI (1))]) (s2 := [eI (4), eI (1)]) rfl rfl rfl ?_
  refine b_cge (t1 := 65) (t2 := 24) rfl rfl rfl rfl rfl (fun g => absurd g (by decide)) (fun g => ?_)
  clear g
  refine w_t (np := 26) (l2 := [some (eJ (zJ c)), none, some (eI (2)), some (eR 14), some (eI (8)), some (eI (v4)), some (eI (1))]) (s2 := [eI (8)]) rfl rfl rfl ?_
  refine w_t (np := 28) (l2 := [some (eJ (zJ c)), none, some (eI (2)), some (eR 14), some (eI (8)), some (eI (v4)), some (eI (1))]) (s2 := [eI (1), eI (8)]) rfl rfl rfl ?_
  refine w_t (np := 29) (l2 := [some (eJ (zJ c)), none, some (eI (2)), some (eR 14), some (eI (8)), some (eI (v4)), some (eI (1))]) (s2 := [eI (9)]) rfl (b_iadd rfl) rfl ?_
  refine w_t (np := 30) (l2 := [some (eJ (zJ c)), none, some (eI (2)), some (eR 14), some (eI (8)), some (eI (v4)), some (eI (1))]) (s2 := [eR 14, eI (9)]) rfl (s_an rfl (by decide)) rfl ?_
  refine v_ln (np := 31) (v := 13) (n := 13) rfl rfl ⟨rfl, zI_lit (by decide)⟩ ?_
  rw [show zI 13 = 13 by decide]
  refine b_cge (t1 := 65) (t2 := 34) rfl rfl rfl rfl rfl (fun g => absurd g (by decide)) (fun g => ?_)
  clear g
  refine w_t (np := 36) (l2 := [some (eJ (zJ c)), none, some (eI (2)), some (eR 14), some (eI (8)), some (eI (v4)), some (eI (1))]) (s2 := [eI (v4)]) rfl rfl rfl ?_
  refine w_t (np := 37) (l2 := [some (eJ (zJ c)), none, some (eI (2)), some (eR 14), some (eI (8)), some (eI (v4)), some (eI (1))]) (s2 := [eJ (zJ c), eI (v4)]) rfl rfl rfl ?_
  refine w_t (np := 39) (l2 := [some (eJ (zJ c)), none, some (eI (2)), some (eR 14), some (eI (8)), some (eI (v4)), some (eI (1))]) (s2 := [eI (48), eJ (zJ c), eI (v4)]) rfl rfl rfl ?_
  refine w_t (np := 41) (l2 := [some (eJ (zJ c)), none, some (eI (2)), some (eR 14), some (eI (8)), some (eI (v4)), some (eI (1))]) (s2 := [eI (16), eI (48), eJ (zJ c), eI (v4)]) rfl rfl rfl ?_
  refine w_t (np := 43) (l2 := [some (eJ (zJ c)), none, some (eI (2)), some (eR 14), some (eI (8)), some (eI (v4)), some (eI (1))]) (s2 := [eI (1), eI (16), eI (48), eJ (zJ c), eI (v4)]) rfl rfl rfl ?_
  refine w_t (np := 44) (l2 := [some (eJ (zJ c)), none, some (eI (2)), some (eR 14), some (eI (8)), some (eI (v4)), some (eI (1))]) (s2 := [eI (16), eI (48), eJ (zJ c), eI (v4)]) rfl (b_imul rfl) rfl ?_
  refine w_t (np := 45) (l2 := [some (eJ (zJ c)), none, some (eI (2)), some (eR 14), some (eI (8)), some (eI (v4)), some (eI (1))]) (s2 := [eI (32), eJ (zJ c), eI (v4)]) rfl (b_isub rfl) rfl ?_
  refine w_lane (np := 48) (k := 32) (v := q) rfl rfl rfl rfl (by decide) rfl l1 ?_
  refine w_t (np := 49) (l2 := [some (eJ (zJ c)), none, some (eI (2)), some (eR 14), some (eI (8)), some (eI (v4)), some (eI (1))]) (s2 := [eR 14, eI (q), eI (v4)]) rfl (s_an rfl (by decide)) rfl ?_
  refine w_t (np := 51) (l2 := [some (eJ (zJ c)), none, some (eI (2)), some (eR 14), some (eI (8)), some (eI (v4)), some (eI (1))]) (s2 := [eI (8), eR 14, eI (q), eI (v4)]) rfl rfl rfl ?_
  refine w_t (np := 53) (l2 := [some (eJ (zJ c)), none, some (eI (2)), some (eR 14), some (eI (8)), some (eI (v4)), some (eI (1))]) (s2 := [eI (1), eI (8), eR 14, eI (q), eI (v4)]) rfl rfl rfl ?_
  refine w_t (np := 54) (l2 := [some (eJ (zJ c)), none, some (eI (2)), some (eR 14), some (eI (8)), some (eI (v4)), some (eI (1))]) (s2 := [eI (9), eR 14, eI (q), eI (v4)]) rfl (b_iadd rfl) rfl ?_
  refine w_al (np := 55) (v := -1) rfl rfl (s_al (j := 9) (by decide) (by decide) (by decide) rfl rfl (by decide) (by decide) rfl) ?_
  obtain ⟨v7, e8⟩ : ∃ zz : Int, zz = (q) * (-1) := ⟨_, rfl⟩
  have b9 : -10010 ≤ v7 ∧ v7 ≤ 10010 := by omega
  refine w_t (np := 56) (l2 := [some (eJ (zJ c)), none, some (eI (2)), some (eR 14), some (eI (8)), some (eI (v4)), some (eI (1))]) (s2 := [eI (v7), eI (v4)]) rfl (b_imul (by rw [← e8]; exact ev_w_in (by omega) (by omega))) rfl ?_
  obtain ⟨v10, e11⟩ : ∃ zz : Int, zz = (v4) + (v7) := ⟨_, rfl⟩
  have b12 : -10010 ≤ v10 ∧ v10 ≤ 10010 := by omega
  refine w_t (np := 57) (l2 := [some (eJ (zJ c)), none, some (eI (2)), some (eR 14), some (eI (8)), some (eI (v4)), some (eI (1))]) (s2 := [eI (v10)]) rfl (b_iadd (by rw [← e11]; exact ev_w_in (by omega) (by omega))) rfl ?_
  refine w_t (np := 59) (l2 := [some (eJ (zJ c)), none, some (eI (2)), some (eR 14), some (eI (8)), some (eI (v10)), some (eI (1))]) (s2 := []) rfl rfl rfl ?_
  refine w_t (np := 62) (l2 := [some (eJ (zJ c)), none, some (eI (2)), some (eR 14), some (eI (8)), some (eI (v10)), some (eI (2))]) (s2 := []) rfl (b_iinc rfl rfl rfl) rfl ?_
  refine w_go (t1 := 18) rfl rfl ?_
  refine w_t (np := 20) (l2 := [some (eJ (zJ c)), none, some (eI (2)), some (eR 14), some (eI (8)), some (eI (v10)), some (eI (2))]) (s2 := [eI (2)]) rfl rfl rfl ?_
  refine w_t (np := 21) (l2 := [some (eJ (zJ c)), none, some (eI (2)), some (eR 14), some (eI (8)), some (eI (v10)), some (eI (2))]) (s2 := [eI (4), eI (2)]) rfl rfl rfl ?_
  refine b_cge (t1 := 65) (t2 := 24) rfl rfl rfl rfl rfl (fun g => absurd g (by decide)) (fun g => ?_)
  clear g
  refine w_t (np := 26) (l2 := [some (eJ (zJ c)), none, some (eI (2)), some (eR 14), some (eI (8)), some (eI (v10)), some (eI (2))]) (s2 := [eI (8)]) rfl rfl rfl ?_
  refine w_t (np := 28) (l2 := [some (eJ (zJ c)), none, some (eI (2)), some (eR 14), some (eI (8)), some (eI (v10)), some (eI (2))]) (s2 := [eI (2), eI (8)]) rfl rfl rfl ?_
  refine w_t (np := 29) (l2 := [some (eJ (zJ c)), none, some (eI (2)), some (eR 14), some (eI (8)), some (eI (v10)), some (eI (2))]) (s2 := [eI (10)]) rfl (b_iadd rfl) rfl ?_
  refine w_t (np := 30) (l2 := [some (eJ (zJ c)), none, some (eI (2)), some (eR 14), some (eI (8)), some (eI (v10)), some (eI (2))]) (s2 := [eR 14, eI (10)]) rfl (s_an rfl (by decide)) rfl ?_
  refine v_ln (np := 31) (v := 13) (n := 13) rfl rfl ⟨rfl, zI_lit (by decide)⟩ ?_
  rw [show zI 13 = 13 by decide]
  refine b_cge (t1 := 65) (t2 := 34) rfl rfl rfl rfl rfl (fun g => absurd g (by decide)) (fun g => ?_)
  clear g
  refine w_t (np := 36) (l2 := [some (eJ (zJ c)), none, some (eI (2)), some (eR 14), some (eI (8)), some (eI (v10)), some (eI (2))]) (s2 := [eI (v10)]) rfl rfl rfl ?_
  refine w_t (np := 37) (l2 := [some (eJ (zJ c)), none, some (eI (2)), some (eR 14), some (eI (8)), some (eI (v10)), some (eI (2))]) (s2 := [eJ (zJ c), eI (v10)]) rfl rfl rfl ?_
  refine w_t (np := 39) (l2 := [some (eJ (zJ c)), none, some (eI (2)), some (eR 14), some (eI (8)), some (eI (v10)), some (eI (2))]) (s2 := [eI (48), eJ (zJ c), eI (v10)]) rfl rfl rfl ?_
  refine w_t (np := 41) (l2 := [some (eJ (zJ c)), none, some (eI (2)), some (eR 14), some (eI (8)), some (eI (v10)), some (eI (2))]) (s2 := [eI (16), eI (48), eJ (zJ c), eI (v10)]) rfl rfl rfl ?_
  refine w_t (np := 43) (l2 := [some (eJ (zJ c)), none, some (eI (2)), some (eR 14), some (eI (8)), some (eI (v10)), some (eI (2))]) (s2 := [eI (2), eI (16), eI (48), eJ (zJ c), eI (v10)]) rfl rfl rfl ?_
  refine w_t (np := 44) (l2 := [some (eJ (zJ c)), none, some (eI (2)), some (eR 14), some (eI (8)), some (eI (v10)), some (eI (2))]) (s2 := [eI (32), eI (48), eJ (zJ c), eI (v10)]) rfl (b_imul rfl) rfl ?_
  refine w_t (np := 45) (l2 := [some (eJ (zJ c)), none, some (eI (2)), some (eR 14), some (eI (8)), some (eI (v10)), some (eI (2))]) (s2 := [eI (16), eJ (zJ c), eI (v10)]) rfl (b_isub rfl) rfl ?_
  refine w_lane (np := 48) (k := 16) (v := r) rfl rfl rfl rfl (by decide) rfl l2 ?_
  refine w_t (np := 49) (l2 := [some (eJ (zJ c)), none, some (eI (2)), some (eR 14), some (eI (8)), some (eI (v10)), some (eI (2))]) (s2 := [eR 14, eI (r), eI (v10)]) rfl (s_an rfl (by decide)) rfl ?_
  refine w_t (np := 51) (l2 := [some (eJ (zJ c)), none, some (eI (2)), some (eR 14), some (eI (8)), some (eI (v10)), some (eI (2))]) (s2 := [eI (8), eR 14, eI (r), eI (v10)]) rfl rfl rfl ?_
  refine w_t (np := 53) (l2 := [some (eJ (zJ c)), none, some (eI (2)), some (eR 14), some (eI (8)), some (eI (v10)), some (eI (2))]) (s2 := [eI (2), eI (8), eR 14, eI (r), eI (v10)]) rfl rfl rfl ?_
  refine w_t (np := 54) (l2 := [some (eJ (zJ c)), none, some (eI (2)), some (eR 14), some (eI (8)), some (eI (v10)), some (eI (2))]) (s2 := [eI (10), eR 14, eI (r), eI (v10)]) rfl (b_iadd rfl) rfl ?_
  refine w_al (np := 55) (v := 0) rfl rfl (s_al (j := 10) (by decide) (by decide) (by decide) rfl rfl (by decide) (by decide) rfl) ?_
  obtain ⟨v13, e14⟩ : ∃ zz : Int, zz = (r) * (0) := ⟨_, rfl⟩
  have b15 : 0 ≤ v13 ∧ v13 ≤ 0 := by omega
  refine w_t (np := 56) (l2 := [some (eJ (zJ c)), none, some (eI (2)), some (eR 14), some (eI (8)), some (eI (v10)), some (eI (2))]) (s2 := [eI (v13), eI (v10)]) rfl (b_imul (by rw [← e14]; exact ev_w_in (by omega) (by omega))) rfl ?_
  obtain ⟨v16, e17⟩ : ∃ zz : Int, zz = (v10) + (v13) := ⟨_, rfl⟩
  have b18 : -10010 ≤ v16 ∧ v16 ≤ 10010 := by omega
  refine w_t (np := 57) (l2 := [some (eJ (zJ c)), none, some (eI (2)), some (eR 14), some (eI (8)), some (eI (v10)), some (eI (2))]) (s2 := [eI (v16)]) rfl (b_iadd (by rw [← e17]; exact ev_w_in (by omega) (by omega))) rfl ?_
  refine w_t (np := 59) (l2 := [some (eJ (zJ c)), none, some (eI (2)), some (eR 14), some (eI (8)), some (eI (v16)), some (eI (2))]) (s2 := []) rfl rfl rfl ?_
  refine w_t (np := 62) (l2 := [some (eJ (zJ c)), none, some (eI (2)), some (eR 14), some (eI (8)), some (eI (v16)), some (eI (3))]) (s2 := []) rfl (b_iinc rfl rfl rfl) rfl ?_
  refine w_go (t1 := 18) rfl rfl ?_
  refine w_t (np := 20) (l2 := [some (eJ (zJ c)), none, some (eI (2)), some (eR 14), some (eI (8)), some (eI (v16)), some (eI (3))]) (s2 := [eI (3)]) rfl rfl rfl ?_
  refine w_t (np := 21) (l2 := [some (eJ (zJ c)), none, some (eI (2)), some (eR 14), some (eI (8)), some (eI (v16)), some (eI (3))]) (s2 := [eI (4), eI (3)]) rfl rfl rfl ?_
  refine b_cge (t1 := 65) (t2 := 24) rfl rfl rfl rfl rfl (fun g => absurd g (by decide)) (fun g => ?_)
  clear g
  refine w_t (np := 26) (l2 := [some (eJ (zJ c)), none, some (eI (2)), some (eR 14), some (eI (8)), some (eI (v16)), some (eI (3))]) (s2 := [eI (8)]) rfl rfl rfl ?_
  refine w_t (np := 28) (l2 := [some (eJ (zJ c)), none, some (eI (2)), some (eR 14), some (eI (8)), some (eI (v16)), some (eI (3))]) (s2 := [eI (3), eI (8)]) rfl rfl rfl ?_
  refine w_t (np := 29) (l2 := [some (eJ (zJ c)), none, some (eI (2)), some (eR 14), some (eI (8)), some (eI (v16)), some (eI (3))]) (s2 := [eI (11)]) rfl (b_iadd rfl) rfl ?_
  refine w_t (np := 30) (l2 := [some (eJ (zJ c)), none, some (eI (2)), some (eR 14), some (eI (8)), some (eI (v16)), some (eI (3))]) (s2 := [eR 14, eI (11)]) rfl (s_an rfl (by decide)) rfl ?_
  refine v_ln (np := 31) (v := 13) (n := 13) rfl rfl ⟨rfl, zI_lit (by decide)⟩ ?_
  rw [show zI 13 = 13 by decide]
  refine b_cge (t1 := 65) (t2 := 34) rfl rfl rfl rfl rfl (fun g => absurd g (by decide)) (fun g => ?_)
  clear g
  refine w_t (np := 36) (l2 := [some (eJ (zJ c)), none, some (eI (2)), some (eR 14), some (eI (8)), some (eI (v16)), some (eI (3))]) (s2 := [eI (v16)]) rfl rfl rfl ?_
  refine w_t (np := 37) (l2 := [some (eJ (zJ c)), none, some (eI (2)), some (eR 14), some (eI (8)), some (eI (v16)), some (eI (3))]) (s2 := [eJ (zJ c), eI (v16)]) rfl rfl rfl ?_
  refine w_t (np := 39) (l2 := [some (eJ (zJ c)), none, some (eI (2)), some (eR 14), some (eI (8)), some (eI (v16)), some (eI (3))]) (s2 := [eI (48), eJ (zJ c), eI (v16)]) rfl rfl rfl ?_
  refine w_t (np := 41) (l2 := [some (eJ (zJ c)), none, some (eI (2)), some (eR 14), some (eI (8)), some (eI (v16)), some (eI (3))]) (s2 := [eI (16), eI (48), eJ (zJ c), eI (v16)]) rfl rfl rfl ?_
  refine w_t (np := 43) (l2 := [some (eJ (zJ c)), none, some (eI (2)), some (eR 14), some (eI (8)), some (eI (v16)), some (eI (3))]) (s2 := [eI (3), eI (16), eI (48), eJ (zJ c), eI (v16)]) rfl rfl rfl ?_
  refine w_t (np := 44) (l2 := [some (eJ (zJ c)), none, some (eI (2)), some (eR 14), some (eI (8)), some (eI (v16)), some (eI (3))]) (s2 := [eI (48), eI (48), eJ (zJ c), eI (v16)]) rfl (b_imul rfl) rfl ?_
  refine w_t (np := 45) (l2 := [some (eJ (zJ c)), none, some (eI (2)), some (eR 14), some (eI (8)), some (eI (v16)), some (eI (3))]) (s2 := [eI (0), eJ (zJ c), eI (v16)]) rfl (b_isub rfl) rfl ?_
  refine w_lane (np := 48) (k := 0) (v := s) rfl rfl rfl rfl (by decide) rfl l3 ?_
  refine w_t (np := 49) (l2 := [some (eJ (zJ c)), none, some (eI (2)), some (eR 14), some (eI (8)), some (eI (v16)), some (eI (3))]) (s2 := [eR 14, eI (s), eI (v16)]) rfl (s_an rfl (by decide)) rfl ?_
  refine w_t (np := 51) (l2 := [some (eJ (zJ c)), none, some (eI (2)), some (eR 14), some (eI (8)), some (eI (v16)), some (eI (3))]) (s2 := [eI (8), eR 14, eI (s), eI (v16)]) rfl rfl rfl ?_
  refine w_t (np := 53) (l2 := [some (eJ (zJ c)), none, some (eI (2)), some (eR 14), some (eI (8)), some (eI (v16)), some (eI (3))]) (s2 := [eI (3), eI (8), eR 14, eI (s), eI (v16)]) rfl rfl rfl ?_
  refine w_t (np := 54) (l2 := [some (eJ (zJ c)), none, some (eI (2)), some (eR 14), some (eI (8)), some (eI (v16)), some (eI (3))]) (s2 := [eI (11), eR 14, eI (s), eI (v16)]) rfl (b_iadd rfl) rfl ?_
  refine w_al (np := 55) (v := 1) rfl rfl (s_al (j := 11) (by decide) (by decide) (by decide) rfl rfl (by decide) (by decide) rfl) ?_
  obtain ⟨v19, e20⟩ : ∃ zz : Int, zz = (s) * (1) := ⟨_, rfl⟩
  have b21 : -10010 ≤ v19 ∧ v19 ≤ 10010 := by omega
  refine w_t (np := 56) (l2 := [some (eJ (zJ c)), none, some (eI (2)), some (eR 14), some (eI (8)), some (eI (v16)), some (eI (3))]) (s2 := [eI (v19), eI (v16)]) rfl (b_imul (by rw [← e20]; exact ev_w_in (by omega) (by omega))) rfl ?_
  obtain ⟨v22, e23⟩ : ∃ zz : Int, zz = (v16) + (v19) := ⟨_, rfl⟩
  have b24 : -20020 ≤ v22 ∧ v22 ≤ 20020 := by omega
  refine w_t (np := 57) (l2 := [some (eJ (zJ c)), none, some (eI (2)), some (eR 14), some (eI (8)), some (eI (v16)), some (eI (3))]) (s2 := [eI (v22)]) rfl (b_iadd (by rw [← e23]; exact ev_w_in (by omega) (by omega))) rfl ?_
  refine w_t (np := 59) (l2 := [some (eJ (zJ c)), none, some (eI (2)), some (eR 14), some (eI (8)), some (eI (v22)), some (eI (3))]) (s2 := []) rfl rfl rfl ?_
  refine w_t (np := 62) (l2 := [some (eJ (zJ c)), none, some (eI (2)), some (eR 14), some (eI (8)), some (eI (v22)), some (eI (4))]) (s2 := []) rfl (b_iinc rfl rfl rfl) rfl ?_
  refine w_go (t1 := 18) rfl rfl ?_
  refine w_t (np := 20) (l2 := [some (eJ (zJ c)), none, some (eI (2)), some (eR 14), some (eI (8)), some (eI (v22)), some (eI (4))]) (s2 := [eI (4)]) rfl rfl rfl ?_
  refine w_t (np := 21) (l2 := [some (eJ (zJ c)), none, some (eI (2)), some (eR 14), some (eI (8)), some (eI (v22)), some (eI (4))]) (s2 := [eI (4), eI (4)]) rfl rfl rfl ?_
  refine b_cge (t1 := 65) (t2 := 24) rfl rfl rfl rfl rfl (fun g => ?_) (fun g => absurd g (by decide))
  clear g
  refine w_t (np := 67) (l2 := [some (eJ (zJ c)), none, some (eI (2)), some (eR 14), some (eI (8)), some (eI (v22)), some (eI (4))]) (s2 := [eI (v22)]) rfl rfl rfl ?_
  refine b_ri rfl rfl ?_
  have e9 : v22 = (-1) * q + 1 * s := by omega
  rw [e9]
  exact K
theorem t80_14_3 {L : Nat} {ρ : Nat → Int} {rc rs d : Nat} {f : eFr} {F : List eFr} {μ : eM} {c : Nat} {p q r s : Int} (l0 : zI (z_i2s (z_l2i (z_lshr c 48))) = p) (l1 : zI (z_i2s (z_l2i (z_lshr c 32))) = q) (l2 : zI (z_i2s (z_l2i (z_lshr c 16))) = r) (l3 : zI (z_i2s (z_l2i (z_lshr c 0))) = s) (hp : -10010 ≤ p ∧ p ≤ 10010) (hq : -10010 ≤ q ∧ q ≤ 10010) (hr : -10010 ≤ r ∧ r ≤ 10010) (hs : -10010 ≤ s ∧ s ≤ 10010) (K : ex_fine (dt_fg L ρ) rc rs (d + 1, (f.1, f.2.1, f.2.2.1, eI ((-1) * r) :: f.2.2.2), F, μ)) : ex_fine (dt_fg L ρ) rc rs (d, (80, 0, [some (eJ (zJ c)), none, some (eI (3)), some (eR 14), none, none, none], []), f :: F, μ) := by
  refine w_t (np := 2) (l2 := [some (eJ (zJ c)), none, some (eI (3)), some (eR 14), none, none, none]) (s2 := [eI (10)]) rfl rfl rfl ?_
  refine w_t (np := 3) (l2 := [some (eJ (zJ c)), none, some (eI (3)), some (eR 14), none, none, none]) (s2 := [eI (3), eI (10)]) rfl rfl rfl ?_
  refine w_t (np := 5) (l2 := [some (eJ (zJ c)), none, some (eI (3)), some (eR 14), none, none, none]) (s2 := [eI (10), eI (3), eI (10)]) rfl rfl rfl ?_
  refine w_t (np := 6) (l2 := [some (eJ (zJ c)), none, some (eI (3)), some (eR 14), none, none, none]) (s2 := [eI (3), eI (10)]) rfl rfl rfl ?_
  refine w_t (np := 7) (l2 := [some (eJ (zJ c)), none, some (eI (3)), some (eR 14), none, none, none]) (s2 := [eI (7)]) rfl (b_isub rfl) rfl ?_
  refine w_t (np := 9) (l2 := [some (eJ (zJ c)), none, some (eI (3)), some (eR 14), none, none, none]) (s2 := [eI (10), eI (7)]) rfl rfl rfl ?_
  refine w_t (np := 10) (l2 := [some (eJ (zJ c)), none, some (eI (3)), some (eR 14), none, none, none]) (s2 := [eI (7)]) rfl rfl rfl ?_
  refine w_t (np := 12) (l2 := [some (eJ (zJ c)), none, some (eI (3)), some (eR 14), some (eI (7)), none, none]) (s2 := []) rfl rfl rfl ?_
  refine w_t (np := 13) (l2 := [some (eJ (zJ c)), none, some (eI (3)), some (eR 14), some (eI (7)), none, none]) (s2 := [eI (0)]) rfl rfl rfl ?_
  refine w_t (np := 15) (l2 := [some (eJ (zJ c)), none, some (eI (3)), some (eR 14), some (eI (7)), some (eI (0)), none]) (s2 := []) rfl rfl rfl ?_
  refine w_t (np := 16) (l2 := [some (eJ (zJ c)), none, some (eI (3)), some (eR 14), some (eI (7)), some (eI (0)), none]) (s2 := [eI (0)]) rfl rfl rfl ?_
  refine w_t (np := 18) (l2 := [some (eJ (zJ c)), none, some (eI (3)), some (eR 14), some (eI (7)), some (eI (0)), some (eI (0))]) (s2 := []) rfl rfl rfl ?_
  refine w_t (np := 20) (l2 := [some (eJ (zJ c)), none, some (eI (3)), some (eR 14), some (eI (7)), some (eI (0)), some (eI (0))]) (s2 := [eI (0)]) rfl rfl rfl ?_
  refine w_t (np := 21) (l2 := [some (eJ (zJ c)), none, some (eI (3)), some (eR 14), some (eI (7)), some (eI (0)), some (eI (0))]) (s2 := [eI (4), eI (0)]) rfl rfl rfl ?_
  refine b_cge (t1 := 65) (t2 := 24) rfl rfl rfl rfl rfl (fun g => absurd g (by decide)) (fun g => ?_)
  clear g
  refine w_t (np := 26) (l2 := [some (eJ (zJ c)), none, some (eI (3)), some (eR 14), some (eI (7)), some (eI (0)), some (eI (0))]) (s2 := [eI (7)]) rfl rfl rfl ?_
  refine w_t (np := 28) (l2 := [some (eJ (zJ c)), none, some (eI (3)), some (eR 14), some (eI (7)), some (eI (0)), some (eI (0))]) (s2 := [eI (0), eI (7)]) rfl rfl rfl ?_
  refine w_t (np := 29) (l2 := [some (eJ (zJ c)), none, some (eI (3)), some (eR 14), some (eI (7)), some (eI (0)), some (eI (0))]) (s2 := [eI (7)]) rfl (b_iadd rfl) rfl ?_
  refine w_t (np := 30) (l2 := [some (eJ (zJ c)), none, some (eI (3)), some (eR 14), some (eI (7)), some (eI (0)), some (eI (0))]) (s2 := [eR 14, eI (7)]) rfl (s_an rfl (by decide)) rfl ?_
  refine v_ln (np := 31) (v := 13) (n := 13) rfl rfl ⟨rfl, zI_lit (by decide)⟩ ?_
  rw [show zI 13 = 13 by decide]
  refine b_cge (t1 := 65) (t2 := 34) rfl rfl rfl rfl rfl (fun g => absurd g (by decide)) (fun g => ?_)
  clear g
  refine w_t (np := 36) (l2 := [some (eJ (zJ c)), none, some (eI (3)), some (eR 14), some (eI (7)), some (eI (0)), some (eI (0))]) (s2 := [eI (0)]) rfl rfl rfl ?_
  refine w_t (np := 37) (l2 := [some (eJ (zJ c)), none, some (eI (3)), some (eR 14), some (eI (7)), some (eI (0)), some (eI (0))]) (s2 := [eJ (zJ c), eI (0)]) rfl rfl rfl ?_
  refine w_t (np := 39) (l2 := [some (eJ (zJ c)), none, some (eI (3)), some (eR 14), some (eI (7)), some (eI (0)), some (eI (0))]) (s2 := [eI (48), eJ (zJ c), eI (0)]) rfl rfl rfl ?_
  refine w_t (np := 41) (l2 := [some (eJ (zJ c)), none, some (eI (3)), some (eR 14), some (eI (7)), some (eI (0)), some (eI (0))]) (s2 := [eI (16), eI (48), eJ (zJ c), eI (0)]) rfl rfl rfl ?_
  refine w_t (np := 43) (l2 := [some (eJ (zJ c)), none, some (eI (3)), some (eR 14), some (eI (7)), some (eI (0)), some (eI (0))]) (s2 := [eI (0), eI (16), eI (48), eJ (zJ c), eI (0)]) rfl rfl rfl ?_
  refine w_t (np := 44) (l2 := [some (eJ (zJ c)), none, some (eI (3)), some (eR 14), some (eI (7)), some (eI (0)), some (eI (0))]) (s2 := [eI (0), eI (48), eJ (zJ c), eI (0)]) rfl (b_imul rfl) rfl ?_
  refine w_t (np := 45) (l2 := [some (eJ (zJ c)), none, some (eI (3)), some (eR 14), some (eI (7)), some (eI (0)), some (eI (0))]) (s2 := [eI (48), eJ (zJ c), eI (0)]) rfl (b_isub rfl) rfl ?_
  refine w_lane (np := 48) (k := 48) (v := p) rfl rfl rfl rfl (by decide) rfl l0 ?_
  refine w_t (np := 49) (l2 := [some (eJ (zJ c)), none, some (eI (3)), some (eR 14), some (eI (7)), some (eI (0)), some (eI (0))]) (s2 := [eR 14, eI (p), eI (0)]) rfl (s_an rfl (by decide)) rfl ?_
  refine w_t (np := 51) (l2 := [some (eJ (zJ c)), none, some (eI (3)), some (eR 14), some (eI (7)), some (eI (0)), some (eI (0))]) (s2 := [eI (7), eR 14, eI (p), eI (0)]) rfl rfl rfl ?_
  refine w_t (np := 53) (l2 := [some (eJ (zJ c)), none, some (eI (3)), some (eR 14), some (eI (7)), some (eI (0)), some (eI (0))]) (s2 := [eI (0), eI (7), eR 14, eI (p), eI (0)]) rfl rfl rfl ?_
  refine w_t (np := 54) (l2 := [some (eJ (zJ c)), none, some (eI (3)), some (eR 14), some (eI (7)), some (eI (0)), some (eI (0))]) (s2 := [eI (7), eR 14, eI (p), eI (0)]) rfl (b_iadd rfl) rfl ?_
  refine w_al (np := 55) (v := 0) rfl rfl (s_al (j := 7) (by decide) (by decide) (by decide) rfl rfl (by decide) (by decide) rfl) ?_
  obtain ⟨v1, e2⟩ : ∃ zz : Int, zz = (p) * (0) := ⟨_, rfl⟩
  have b3 : 0 ≤ v1 ∧ v1 ≤ 0 := by omega
  refine w_t (np := 56) (l2 := [some (eJ (zJ c)), none, some (eI (3)), some (eR 14), some (eI (7)), some (eI (0)), some (eI (0))]) (s2 := [eI (v1), eI (0)]) rfl (b_imul (by rw [← e2]; exact ev_w_in (by omega) (by omega))) rfl ?_
  obtain ⟨v4, e5⟩ : ∃ zz : Int, zz = (0) + (v1) := ⟨_, rfl⟩
  have b6 : 0 ≤ v4 ∧ v4 ≤ 0 := by omega
  refine w_t (np := 57) (l2 := [some (eJ (zJ c)), none, some (eI (3)), some (eR 14), some (eI (7)), some (eI (0)), some (eI (0))]) (s2 := [eI (v4)]) rfl (b_iadd (by rw [← e5]; exact ev_w_in (by omega) (by omega))) rfl ?_
  refine w_t (np := 59) (l2 := [some (eJ (zJ c)), none, some (eI (3)), some (eR 14), some (eI (7)), some (eI (v4)), some (eI (0))]) (s2 := []) rfl rfl rfl ?_
  refine w_t (np := 62) (l2 := [some (eJ (zJ c)), none, some (eI (3)), some (eR 14), some (eI (7)), some (eI (v4)), some (eI (1))]) (s2 := []) rfl (b_iinc rfl rfl rfl) rfl ?_
  refine w_go (t1 := 18) rfl rfl ?_
  refine w_t (np := 20) (l2 := [some (eJ (zJ c)), none, some (eI (3)), some (eR 14), some (eI (7)), some (eI (v4)), some (eI (1))]) (s2 := [eI (1)]) rfl rfl rfl ?_
  refine w_t (np := 21) (l2 := [some (eJ (zJ c)), none, some (eI (3)), some (eR 14), some (eI (7)), some (eI (v4)), some (eI (1))]) (s2 := [eI (4), eI (1)]) rfl rfl rfl ?_
  refine b_cge (t1 := 65) (t2 := 24) rfl rfl rfl rfl rfl (fun g => absurd g (by decide)) (fun g => ?_)
  clear g
  refine w_t (np := 26) (l2 := [some (eJ (zJ c)), none, some (eI (3)), some (eR 14), some (eI (7)), some (eI (v4)), some (eI (1))]) (s2 := [eI (7)]) rfl rfl rfl ?_
  refine w_t (np := 28) (l2 := [some (eJ (zJ c)), none, some (eI (3)), some (eR 14), some (eI (7)), some (eI (v4)), some (eI (1))]) (s2 := [eI (1), eI (7)]) rfl rfl rfl ?_
  refine w_t (np := 29) (l2 := [some (eJ (zJ c)), none, some (eI (3)), some (eR 14), some (eI (7)), some (eI (v4)), some (eI (1))]) (s2 := [eI (8)]) rfl (b_iadd rfl) rfl ?_
  refine w_t (np := 30) (l2 := [some (eJ (zJ c)), none, some (eI (3)), some (eR 14), some (eI (7)), some (eI (v4)), some (eI (1))]) (s2 := [eR 14, eI (8)]) rfl (s_an rfl (by decide)) rfl ?_
  refine v_ln (np := 31) (v := 13) (n := 13) rfl rfl ⟨rfl, zI_lit (by decide)⟩ ?_
  rw [show zI 13 = 13 by decide]
  refine b_cge (t1 := 65) (t2 := 34) rfl rfl rfl rfl rfl (fun g => absurd g (by decide)) (fun g => ?_)
  clear g
  refine w_t (np := 36) (l2 := [some (eJ (zJ c)), none, some (eI (3)), some (eR 14), some (eI (7)), some (eI (v4)), some (eI (1))]) (s2 := [eI (v4)]) rfl rfl rfl ?_
  refine w_t (np := 37) (l2 := [some (eJ (zJ c)), none, some (eI (3)), some (eR 14), some (eI (7)), some (eI (v4)), some (eI (1))]) (s2 := [eJ (zJ c), eI (v4)]) rfl rfl rfl ?_
  refine w_t (np := 39) (l2 := [some (eJ (zJ c)), none, some (eI (3)), some (eR 14), some (eI (7)), some (eI (v4)), some (eI (1))]) (s2 := [eI (48), eJ (zJ c), eI (v4)]) rfl rfl rfl ?_
  refine w_t (np := 41) (l2 := [some (eJ (zJ c)), none, some (eI (3)), some (eR 14), some (eI (7)), some (eI (v4)), some (eI (1))]) (s2 := [eI (16), eI (48), eJ (zJ c), eI (v4)]) rfl rfl rfl ?_
  refine w_t (np := 43) (l2 := [some (eJ (zJ c)), none, some (eI (3)), some (eR 14), some (eI (7)), some (eI (v4)), some (eI (1))]) (s2 := [eI (1), eI (16), eI (48), eJ (zJ c), eI (v4)]) rfl rfl rfl ?_
  refine w_t (np := 44) (l2 := [some (eJ (zJ c)), none, some (eI (3)), some (eR 14), some (eI (7)), some (eI (v4)), some (eI (1))]) (s2 := [eI (16), eI (48), eJ (zJ c), eI (v4)]) rfl (b_imul rfl) rfl ?_
  refine w_t (np := 45) (l2 := [some (eJ (zJ c)), none, some (eI (3)), some (eR 14), some (eI (7)), some (eI (v4)), some (eI (1))]) (s2 := [eI (32), eJ (zJ c), eI (v4)]) rfl (b_isub rfl) rfl ?_
  refine w_lane (np := 48) (k := 32) (v := q) rfl rfl rfl rfl (by decide) rfl l1 ?_
  refine w_t (np := 49) (l2 := [some (eJ (zJ c)), none, some (eI (3)), some (eR 14), some (eI (7)), some (eI (v4)), some (eI (1))]) (s2 := [eR 14, eI (q), eI (v4)]) rfl (s_an rfl (by decide)) rfl ?_
  refine w_t (np := 51) (l2 := [some (eJ (zJ c)), none, some (eI (3)), some (eR 14), some (eI (7)), some (eI (v4)), some (eI (1))]) (s2 := [eI (7), eR 14, eI (q), eI (v4)]) rfl rfl rfl ?_
  refine w_t (np := 53) (l2 := [some (eJ (zJ c)), none, some (eI (3)), some (eR 14), some (eI (7)), some (eI (v4)), some (eI (1))]) (s2 := [eI (1), eI (7), eR 14, eI (q), eI (v4)]) rfl rfl rfl ?_
  refine w_t (np := 54) (l2 := [some (eJ (zJ c)), none, some (eI (3)), some (eR 14), some (eI (7)), some (eI (v4)), some (eI (1))]) (s2 := [eI (8), eR 14, eI (q), eI (v4)]) rfl (b_iadd rfl) rfl ?_
  refine w_al (np := 55) (v := 0) rfl rfl (s_al (j := 8) (by decide) (by decide) (by decide) rfl rfl (by decide) (by decide) rfl) ?_
  obtain ⟨v7, e8⟩ : ∃ zz : Int, zz = (q) * (0) := ⟨_, rfl⟩
  have b9 : 0 ≤ v7 ∧ v7 ≤ 0 := by omega
  refine w_t (np := 56) (l2 := [some (eJ (zJ c)), none, some (eI (3)), some (eR 14), some (eI (7)), some (eI (v4)), some (eI (1))]) (s2 := [eI (v7), eI (v4)]) rfl (b_imul (by rw [← e8]; exact ev_w_in (by omega) (by omega))) rfl ?_
  obtain ⟨v10, e11⟩ : ∃ zz : Int, zz = (v4) + (v7) := ⟨_, rfl⟩
  have b12 : 0 ≤ v10 ∧ v10 ≤ 0 := by omega
  refine w_t (np := 57) (l2 := [some (eJ (zJ c)), none, some (eI (3)), some (eR 14), some (eI (7)), some (eI (v4)), some (eI (1))]) (s2 := [eI (v10)]) rfl (b_iadd (by rw [← e11]; exact ev_w_in (by omega) (by omega))) rfl ?_
  refine w_t (np := 59) (l2 := [some (eJ (zJ c)), none, some (eI (3)), some (eR 14), some (eI (7)), some (eI (v10)), some (eI (1))]) (s2 := []) rfl rfl rfl ?_
  refine w_t (np := 62) (l2 := [some (eJ (zJ c)), none, some (eI (3)), some (eR 14), some (eI (7)), some (eI (v10)), some (eI (2))]) (s2 := []) rfl (b_iinc rfl rfl rfl) rfl ?_
  refine w_go (t1 := 18) rfl rfl ?_
  refine w_t (np := 20) (l2 := [some (eJ (zJ c)), none, some (eI (3)), some (eR 14), some (eI (7)), some (eI (v10)), some (eI (2))]) (s2 := [eI (2)]) rfl rfl rfl ?_
  refine w_t (np := 21) (l2 := [some (eJ (zJ c)), none, some (eI (3)), some (eR 14), some (eI (7)), some (eI (v10)), some (eI (2))]) (s2 := [eI (4), eI (2)]) rfl rfl rfl ?_
  refine b_cge (t1 := 65) (t2 := 24) rfl rfl rfl rfl rfl (fun g => absurd g (by decide)) (fun g => ?_)
  clear g
  refine w_t (np := 26) (l2 := [some (eJ (zJ c)), none, some (eI (3)), some (eR 14), some (eI (7)), some (eI (v10)), some (eI (2))]) (s2 := [eI (7)]) rfl rfl rfl ?_
  refine w_t (np := 28) (l2 := [some (eJ (zJ c)), none, some (eI (3)), some (eR 14), some (eI (7)), some (eI (v10)), some (eI (2))]) (s2 := [eI (2), eI (7)]) rfl rfl rfl ?_
  refine w_t (np := 29) (l2 := [some (eJ (zJ c)), none, some (eI (3)), some (eR 14), some (eI (7)), some (eI (v10)), some (eI (2))]) (s2 := [eI (9)]) rfl (b_iadd rfl) rfl ?_
  refine w_t (np := 30) (l2 := [some (eJ (zJ c)), none, some (eI (3)), some (eR 14), some (eI (7)), some (eI (v10)), some (eI (2))]) (s2 := [eR 14, eI (9)]) rfl (s_an rfl (by decide)) rfl ?_
  refine v_ln (np := 31) (v := 13) (n := 13) rfl rfl ⟨rfl, zI_lit (by decide)⟩ ?_
  rw [show zI 13 = 13 by decide]
  refine b_cge (t1 := 65) (t2 := 34) rfl rfl rfl rfl rfl (fun g => absurd g (by decide)) (fun g => ?_)
  clear g
  refine w_t (np := 36) (l2 := [some (eJ (zJ c)), none, some (eI (3)), some (eR 14), some (eI (7)), some (eI (v10)), some (eI (2))]) (s2 := [eI (v10)]) rfl rfl rfl ?_
  refine w_t (np := 37) (l2 := [some (eJ (zJ c)), none, some (eI (3)), some (eR 14), some (eI (7)), some (eI (v10)), some (eI (2))]) (s2 := [eJ (zJ c), eI (v10)]) rfl rfl rfl ?_
  refine w_t (np := 39) (l2 := [some (eJ (zJ c)), none, some (eI (3)), some (eR 14), some (eI (7)), some (eI (v10)), some (eI (2))]) (s2 := [eI (48), eJ (zJ c), eI (v10)]) rfl rfl rfl ?_
  refine w_t (np := 41) (l2 := [some (eJ (zJ c)), none, some (eI (3)), some (eR 14), some (eI (7)), some (eI (v10)), some (eI (2))]) (s2 := [eI (16), eI (48), eJ (zJ c), eI (v10)]) rfl rfl rfl ?_
  refine w_t (np := 43) (l2 := [some (eJ (zJ c)), none, some (eI (3)), some (eR 14), some (eI (7)), some (eI (v10)), some (eI (2))]) (s2 := [eI (2), eI (16), eI (48), eJ (zJ c), eI (v10)]) rfl rfl rfl ?_
  refine w_t (np := 44) (l2 := [some (eJ (zJ c)), none, some (eI (3)), some (eR 14), some (eI (7)), some (eI (v10)), some (eI (2))]) (s2 := [eI (32), eI (48), eJ (zJ c), eI (v10)]) rfl (b_imul rfl) rfl ?_
  refine w_t (np := 45) (l2 := [some (eJ (zJ c)), none, some (eI (3)), some (eR 14), some (eI (7)), some (eI (v10)), some (eI (2))]) (s2 := [eI (16), eJ (zJ c), eI (v10)]) rfl (b_isub rfl) rfl ?_
  refine w_lane (np := 48) (k := 16) (v := r) rfl rfl rfl rfl (by decide) rfl l2 ?_
  refine w_t (np := 49) (l2 := [some (eJ (zJ c)), none, some (eI (3)), some (eR 14), some (eI (7)), some (eI (v10)), some (eI (2))]) (s2 := [eR 14, eI (r), eI (v10)]) rfl (s_an rfl (by decide)) rfl ?_
  refine w_t (np := 51) (l2 := [some (eJ (zJ c)), none, some (eI (3)), some (eR 14), some (eI (7)), some (eI (v10)), some (eI (2))]) (s2 := [eI (7), eR 14, eI (r), eI (v10)]) rfl rfl rfl ?_
  refine w_t (np := 53) (l2 := [some (eJ (zJ c)), none, some (eI (3)), some (eR 14), some (eI (7)), some (eI (v10)), some (eI (2))]) (s2 := [eI (2), eI (7), eR 14, eI (r), eI (v10)]) rfl rfl rfl ?_
  refine w_t (np := 54) (l2 := [some (eJ (zJ c)), none, some (eI (3)), some (eR 14), some (eI (7)), some (eI (v10)), some (eI (2))]) (s2 := [eI (9), eR 14, eI (r), eI (v10)]) rfl (b_iadd rfl) rfl ?_
  refine w_al (np := 55) (v := -1) rfl rfl (s_al (j := 9) (by decide) (by decide) (by decide) rfl rfl (by decide) (by decide) rfl) ?_
  obtain ⟨v13, e14⟩ : ∃ zz : Int, zz = (r) * (-1) := ⟨_, rfl⟩
  have b15 : -10010 ≤ v13 ∧ v13 ≤ 10010 := by omega
  refine w_t (np := 56) (l2 := [some (eJ (zJ c)), none, some (eI (3)), some (eR 14), some (eI (7)), some (eI (v10)), some (eI (2))]) (s2 := [eI (v13), eI (v10)]) rfl (b_imul (by rw [← e14]; exact ev_w_in (by omega) (by omega))) rfl ?_
  obtain ⟨v16, e17⟩ : ∃ zz : Int, zz = (v10) + (v13) := ⟨_, rfl⟩
  have b18 : -10010 ≤ v16 ∧ v16 ≤ 10010 := by omega
  refine w_t (np := 57) (l2 := [some (eJ (zJ c)), none, some (eI (3)), some (eR 14), some (eI (7)), some (eI (v10)), some (eI (2))]) (s2 := [eI (v16)]) rfl (b_iadd (by rw [← e17]; exact ev_w_in (by omega) (by omega))) rfl ?_
  refine w_t (np := 59) (l2 := [some (eJ (zJ c)), none, some (eI (3)), some (eR 14), some (eI (7)), some (eI (v16)), some (eI (2))]) (s2 := []) rfl rfl rfl ?_
  refine w_t (np := 62) (l2 := [some (eJ (zJ c)), none, some (eI (3)), some (eR 14), some (eI (7)), some (eI (v16)), some (eI (3))]) (s2 := []) rfl (b_iinc rfl rfl rfl) rfl ?_
  refine w_go (t1 := 18) rfl rfl ?_
  refine w_t (np := 20) (l2 := [some (eJ (zJ c)), none, some (eI (3)), some (eR 14), some (eI (7)), some (eI (v16)), some (eI (3))]) (s2 := [eI (3)]) rfl rfl rfl ?_
  refine w_t (np := 21) (l2 := [some (eJ (zJ c)), none, some (eI (3)), some (eR 14), some (eI (7)), some (eI (v16)), some (eI (3))]) (s2 := [eI (4), eI (3)]) rfl rfl rfl ?_
  refine b_cge (t1 := 65) (t2 := 24) rfl rfl rfl rfl rfl (fun g => absurd g (by decide)) (fun g => ?_)
  clear g
  refine w_t (np := 26) (l2 := [some (eJ (zJ c)), none, some (eI (3)), some (eR 14), some (eI (7)), some (eI (v16)), some (eI (3))]) (s2 := [eI (7)]) rfl rfl rfl ?_
  refine w_t (np := 28) (l2 := [some (eJ (zJ c)), none, some (eI (3)), some (eR 14), some (eI (7)), some (eI (v16)), some (eI (3))]) (s2 := [eI (3), eI (7)]) rfl rfl rfl ?_
  refine w_t (np := 29) (l2 := [some (eJ (zJ c)), none, some (eI (3)), some (eR 14), some (eI (7)), some (eI (v16)), some (eI (3))]) (s2 := [eI (10)]) rfl (b_iadd rfl) rfl ?_
  refine w_t (np := 30) (l2 := [some (eJ (zJ c)), none, some (eI (3)), some (eR 14), some (eI (7)), some (eI (v16)), some (eI (3))]) (s2 := [eR 14, eI (10)]) rfl (s_an rfl (by decide)) rfl ?_
  refine v_ln (np := 31) (v := 13) (n := 13) rfl rfl ⟨rfl, zI_lit (by decide)⟩ ?_
  rw [show zI 13 = 13 by decide]
  refine b_cge (t1 := 65) (t2 := 34) rfl rfl rfl rfl rfl (fun g => absurd g (by decide)) (fun g => ?_)
  clear g
  refine w_t (np := 36) (l2 := [some (eJ (zJ c)), none, some (eI (3)), some (eR 14), some (eI (7)), some (eI (v16)), some (eI (3))]) (s2 := [eI (v16)]) rfl rfl rfl ?_
  refine w_t (np := 37) (l2 := [some (eJ (zJ c)), none, some (eI (3)), some (eR 14), some (eI (7)), some (eI (v16)), some (eI (3))]) (s2 := [eJ (zJ c), eI (v16)]) rfl rfl rfl ?_
  refine w_t (np := 39) (l2 := [some (eJ (zJ c)), none, some (eI (3)), some (eR 14), some (eI (7)), some (eI (v16)), some (eI (3))]) (s2 := [eI (48), eJ (zJ c), eI (v16)]) rfl rfl rfl ?_
  refine w_t (np := 41) (l2 := [some (eJ (zJ c)), none, some (eI (3)), some (eR 14), some (eI (7)), some (eI (v16)), some (eI (3))]) (s2 := [eI (16), eI (48), eJ (zJ c), eI (v16)]) rfl rfl rfl ?_
  refine w_t (np := 43) (l2 := [some (eJ (zJ c)), none, some (eI (3)), some (eR 14), some (eI (7)), some (eI (v16)), some (eI (3))]) (s2 := [eI (3), eI (16), eI (48), eJ (zJ c), eI (v16)]) rfl rfl rfl ?_
  refine w_t (np := 44) (l2 := [some (eJ (zJ c)), none, some (eI (3)), some (eR 14), some (eI (7)), some (eI (v16)), some (eI (3))]) (s2 := [eI (48), eI (48), eJ (zJ c), eI (v16)]) rfl (b_imul rfl) rfl ?_
  refine w_t (np := 45) (l2 := [some (eJ (zJ c)), none, some (eI (3)), some (eR 14), some (eI (7)), some (eI (v16)), some (eI (3))]) (s2 := [eI (0), eJ (zJ c), eI (v16)]) rfl (b_isub rfl) rfl ?_
  refine w_lane (np := 48) (k := 0) (v := s) rfl rfl rfl rfl (by decide) rfl l3 ?_
  refine w_t (np := 49) (l2 := [some (eJ (zJ c)), none, some (eI (3)), some (eR 14), some (eI (7)), some (eI (v16)), some (eI (3))]) (s2 := [eR 14, eI (s), eI (v16)]) rfl (s_an rfl (by decide)) rfl ?_
  refine w_t (np := 51) (l2 := [some (eJ (zJ c)), none, some (eI (3)), some (eR 14), some (eI (7)), some (eI (v16)), some (eI (3))]) (s2 := [eI (7), eR 14, eI (s), eI (v16)]) rfl rfl rfl ?_
  refine w_t (np := 53) (l2 := [some (eJ (zJ c)), none, some (eI (3)), some (eR 14), some (eI (7)), some (eI (v16)), some (eI (3))]) (s2 := [eI (3), eI (7), eR 14, eI (s), eI (v16)]) rfl rfl rfl ?_
  refine w_t (np := 54) (l2 := [some (eJ (zJ c)), none, some (eI (3)), some (eR 14), some (eI (7)), some (eI (v16)), some (eI (3))]) (s2 := [eI (10), eR 14, eI (s), eI (v16)]) rfl (b_iadd rfl) rfl ?_
  refine w_al (np := 55) (v := 0) rfl rfl (s_al (j := 10) (by decide) (by decide) (by decide) rfl rfl (by decide) (by decide) rfl) ?_
  obtain ⟨v19, e20⟩ : ∃ zz : Int, zz = (s) * (0) := ⟨_, rfl⟩
  have b21 : 0 ≤ v19 ∧ v19 ≤ 0 := by omega
  refine w_t (np := 56) (l2 := [some (eJ (zJ c)), none, some (eI (3)), some (eR 14), some (eI (7)), some (eI (v16)), some (eI (3))]) (s2 := [eI (v19), eI (v16)]) rfl (b_imul (by rw [← e20]; exact ev_w_in (by omega) (by omega))) rfl ?_
  obtain ⟨v22, e23⟩ : ∃ zz : Int, zz = (v16) + (v19) := ⟨_, rfl⟩
  have b24 : -10010 ≤ v22 ∧ v22 ≤ 10010 := by omega
  refine w_t (np := 57) (l2 := [some (eJ (zJ c)), none, some (eI (3)), some (eR 14), some (eI (7)), some (eI (v16)), some (eI (3))]) (s2 := [eI (v22)]) rfl (b_iadd (by rw [← e23]; exact ev_w_in (by omega) (by omega))) rfl ?_
  refine w_t (np := 59) (l2 := [some (eJ (zJ c)), none, some (eI (3)), some (eR 14), some (eI (7)), some (eI (v22)), some (eI (3))]) (s2 := []) rfl rfl rfl ?_
  refine w_t (np := 62) (l2 := [some (eJ (zJ c)), none, some (eI (3)), some (eR 14), some (eI (7)), some (eI (v22)), some (eI (4))]) (s2 := []) rfl (b_iinc rfl rfl rfl) rfl ?_
  refine w_go (t1 := 18) rfl rfl ?_
  refine w_t (np := 20) (l2 := [some (eJ (zJ c)), none, some (eI (3)), some (eR 14), some (eI (7)), some (eI (v22)), some (eI (4))]) (s2 := [eI (4)]) rfl rfl rfl ?_
  refine w_t (np := 21) (l2 := [some (eJ (zJ c)), none, some (eI (3)), some (eR 14), some (eI (7)), some (eI (v22)), some (eI (4))]) (s2 := [eI (4), eI (4)]) rfl rfl rfl ?_
  refine b_cge (t1 := 65) (t2 := 24) rfl rfl rfl rfl rfl (fun g => ?_) (fun g => absurd g (by decide))
  clear g
  refine w_t (np := 67) (l2 := [some (eJ (zJ c)), none, some (eI (3)), some (eR 14), some (eI (7)), some (eI (v22)), some (eI (4))]) (s2 := [eI (v22)]) rfl rfl rfl ?_
  refine b_ri rfl rfl ?_
  have e9 : v22 = (-1) * r := by omega
  rw [e9]
  exact K
theorem t80_14_4 {L : Nat} {ρ : Nat → Int} {rc rs d : Nat} {f : eFr} {F : List eFr} {μ : eM} {c : Nat} {p q r s : Int} (l0 : zI (z_i2s (z_l2i (z_lshr c 48))) = p) (l1 : zI (z_i2s (z_l2i (z_lshr c 32))) = q) (l2 : zI (z_i2s (z_l2i (z_lshr c 16))) = r) (l3 : zI (z_i2s (z_l2i (z_lshr c 0))) = s) (hp : -10010 ≤ p ∧ p ≤ 10010) (hq : -10010 ≤ q ∧ q ≤ 10010) (hr : -10010 ≤ r ∧ r ≤ 10010) (hs : -10010 ≤ s ∧ s ≤ 10010) (K : ex_fine (dt_fg L ρ) rc rs (d + 1, (f.1, f.2.1, f.2.2.1, eI ((-1) * p + (-1) * s) :: f.2.2.2), F, μ)) : ex_fine (dt_fg L ρ) rc rs (d, (80, 0, [some (eJ (zJ c)), none, some (eI (4)), some (eR 14), none, none, none], []), f :: F, μ) := by
  refine w_t (np := 2) (l2 := [some (eJ (zJ c)), none, some (eI (4)), some (eR 14), none, none, none]) (s2 := [eI (10)]) rfl rfl rfl ?_
  refine w_t (np := 3) (l2 := [some (eJ (zJ c)), none, some (eI (4)), some (eR 14), none, none, none]) (s2 := [eI (4), eI (10)]) rfl rfl rfl ?_
  refine w_t (np := 5) (l2 := [some (eJ (zJ c)), none, some (eI (4)), some (eR 14), none, none, none]) (s2 := [eI (10), eI (4), eI (10)]) rfl rfl rfl ?_
  refine w_t (np := 6) (l2 := [some (eJ (zJ c)), none, some (eI (4)), some (eR 14), none, none, none]) (s2 := [eI (4), eI (10)]) rfl rfl rfl ?_
  refine w_t (np := 7) (l2 := [some (eJ (zJ c)), none, some (eI (4)), some (eR 14), none, none, none]) (s2 := [eI (6)]) rfl (b_isub rfl) rfl ?_
  refine w_t (np := 9) (l2 := [some (eJ (zJ c)), none, some (eI (4)), some (eR 14), none, none, none]) (s2 := [eI (10), eI (6)]) rfl rfl rfl ?_
  refine w_t (np := 10) (l2 := [some (eJ (zJ c)), none, some (eI (4)), some (eR 14), none, none, none]) (s2 := [eI (6)]) rfl rfl rfl ?_
  refine w_t (np := 12) (l2 := [some (eJ (zJ c)), none, some (eI (4)), some (eR 14), some (eI (6)), none, none]) (s2 := []) rfl rfl rfl ?_
  refine w_t (np := 13) (l2 := [some (eJ (zJ c)), none, some (eI (4)), some (eR 14), some (eI (6)), none, none]) (s2 := [eI (0)]) rfl rfl rfl ?_
  refine w_t (np := 15) (l2 := [some (eJ (zJ c)), none, some (eI (4)), some (eR 14), some (eI (6)), some (eI (0)), none]) (s2 := []) rfl rfl rfl ?_
  refine w_t (np := 16) (l2 := [some (eJ (zJ c)), none, some (eI (4)), some (eR 14), some (eI (6)), some (eI (0)), none]) (s2 := [eI (0)]) rfl rfl rfl ?_
  refine w_t (np := 18) (l2 := [some (eJ (zJ c)), none, some (eI (4)), some (eR 14), some (eI (6)), some (eI (0)), some (eI (0))]) (s2 := []) rfl rfl rfl ?_
  refine w_t (np := 20) (l2 := [some (eJ (zJ c)), none, some (eI (4)), some (eR 14), some (eI (6)), some (eI (0)), some (eI (0))]) (s2 := [eI (0)]) rfl rfl rfl ?_
  refine w_t (np := 21) (l2 := [some (eJ (zJ c)), none, some (eI (4)), some (eR 14), some (eI (6)), some (eI (0)), some (eI (0))]) (s2 := [eI (4), eI (0)]) rfl rfl rfl ?_
  refine b_cge (t1 := 65) (t2 := 24) rfl rfl rfl rfl rfl (fun g => absurd g (by decide)) (fun g => ?_)
  clear g
  refine w_t (np := 26) (l2 := [some (eJ (zJ c)), none, some (eI (4)), some (eR 14), some (eI (6)), some (eI (0)), some (eI (0))]) (s2 := [eI (6)]) rfl rfl rfl ?_
  refine w_t (np := 28) (l2 := [some (eJ (zJ c)), none, some (eI (4)), some (eR 14), some (eI (6)), some (eI (0)), some (eI (0))]) (s2 := [eI (0), eI (6)]) rfl rfl rfl ?_
  refine w_t (np := 29) (l2 := [some (eJ (zJ c)), none, some (eI (4)), some (eR 14), some (eI (6)), some (eI (0)), some (eI (0))]) (s2 := [eI (6)]) rfl (b_iadd rfl) rfl ?_
  refine w_t (np := 30) (l2 := [some (eJ (zJ c)), none, some (eI (4)), some (eR 14), some (eI (6)), some (eI (0)), some (eI (0))]) (s2 := [eR 14, eI (6)]) rfl (s_an rfl (by decide)) rfl ?_
  refine v_ln (np := 31) (v := 13) (n := 13) rfl rfl ⟨rfl, zI_lit (by decide)⟩ ?_
  rw [show zI 13 = 13 by decide]
  refine b_cge (t1 := 65) (t2 := 34) rfl rfl rfl rfl rfl (fun g => absurd g (by decide)) (fun g => ?_)
  clear g
  refine w_t (np := 36) (l2 := [some (eJ (zJ c)), none, some (eI (4)), some (eR 14), some (eI (6)), some (eI (0)), some (eI (0))]) (s2 := [eI (0)]) rfl rfl rfl ?_
  refine w_t (np := 37) (l2 := [some (eJ (zJ c)), none, some (eI (4)), some (eR 14), some (eI (6)), some (eI (0)), some (eI (0))]) (s2 := [eJ (zJ c), eI (0)]) rfl rfl rfl ?_
  refine w_t (np := 39) (l2 := [some (eJ (zJ c)), none, some (eI (4)), some (eR 14), some (eI (6)), some (eI (0)), some (eI (0))]) (s2 := [eI (48), eJ (zJ c), eI (0)]) rfl rfl rfl ?_
  refine w_t (np := 41) (l2 := [some (eJ (zJ c)), none, some (eI (4)), some (eR 14), some (eI (6)), some (eI (0)), some (eI (0))]) (s2 := [eI (16), eI (48), eJ (zJ c), eI (0)]) rfl rfl rfl ?_
  refine w_t (np := 43) (l2 := [some (eJ (zJ c)), none, some (eI (4)), some (eR 14), some (eI (6)), some (eI (0)), some (eI (0))]) (s2 := [eI (0), eI (16), eI (48), eJ (zJ c), eI (0)]) rfl rfl rfl ?_
  refine w_t (np := 44) (l2 := [some (eJ (zJ c)), none, some (eI (4)), some (eR 14), some (eI (6)), some (eI (0)), some (eI (0))]) (s2 := [eI (0), eI (48), eJ (zJ c), eI (0)]) rfl (b_imul rfl) rfl ?_
  refine w_t (np := 45) (l2 := [some (eJ (zJ c)), none, some (eI (4)), some (eR 14), some (eI (6)), some (eI (0)), some (eI (0))]) (s2 := [eI (48), eJ (zJ c), eI (0)]) rfl (b_isub rfl) rfl ?_
  refine w_lane (np := 48) (k := 48) (v := p) rfl rfl rfl rfl (by decide) rfl l0 ?_
  refine w_t (np := 49) (l2 := [some (eJ (zJ c)), none, some (eI (4)), some (eR 14), some (eI (6)), some (eI (0)), some (eI (0))]) (s2 := [eR 14, eI (p), eI (0)]) rfl (s_an rfl (by decide)) rfl ?_
  refine w_t (np := 51) (l2 := [some (eJ (zJ c)), none, some (eI (4)), some (eR 14), some (eI (6)), some (eI (0)), some (eI (0))]) (s2 := [eI (6), eR 14, eI (p), eI (0)]) rfl rfl rfl ?_
  refine w_t (np := 53) (l2 := [some (eJ (zJ c)), none, some (eI (4)), some (eR 14), some (eI (6)), some (eI (0)), some (eI (0))]) (s2 := [eI (0), eI (6), eR 14, eI (p), eI (0)]) rfl rfl rfl ?_
  refine w_t (np := 54) (l2 := [some (eJ (zJ c)), none, some (eI (4)), some (eR 14), some (eI (6)), some (eI (0)), some (eI (0))]) (s2 := [eI (6), eR 14, eI (p), eI (0)]) rfl (b_iadd rfl) rfl ?_
  refine w_al (np := 55) (v := -1) rfl rfl (s_al (j := 6) (by decide) (by decide) (by decide) rfl rfl (by decide) (by decide) rfl) ?_
  obtain ⟨v1, e2⟩ : ∃ zz : Int, zz = (p) * (-1) := ⟨_, rfl⟩
  have b3 : -10010 ≤ v1 ∧ v1 ≤ 10010 := by omega
  refine w_t (np := 56) (l2 := [some (eJ (zJ c)), none, some (eI (4)), some (eR 14), some (eI (6)), some (eI (0)), some (eI (0))]) (s2 := [eI (v1), eI (0)]) rfl (b_imul (by rw [← e2]; exact ev_w_in (by omega) (by omega))) rfl ?_
  obtain ⟨v4, e5⟩ : ∃ zz : Int, zz = (0) + (v1) := ⟨_, rfl⟩
  have b6 : -10010 ≤ v4 ∧ v4 ≤ 10010 := by omega
  refine w_t (np := 57) (l2 := [some (eJ (zJ c)), none, some (eI (4)), some (eR 14), some (eI (6)), some (eI (0)), some (eI (0))]) (s2 := [eI (v4)]) rfl (b_iadd (by rw [← e5]; exact ev_w_in (by omega) (by omega))) rfl ?_
  refine w_t (np := 59) (l2 := [some (eJ (zJ c)), none, some (eI (4)), some (eR 14), some (eI (6)), some (eI (v4)), some (eI (0))]) (s2 := []) rfl rfl rfl ?_
  refine w_t (np := 62) (l2 := [some (eJ (zJ c)), none, some (eI (4)), some (eR 14), some (eI (6)), some (eI (v4)), some (eI (1))]) (s2 := []) rfl (b_iinc rfl rfl rfl) rfl ?_
  refine w_go (t1 := 18) rfl rfl ?_
  refine w_t (np := 20) (l2 := [some (eJ (zJ c)), none, some (eI (4)), some (eR 14), some (eI (6)), some (eI (v4)), some (eI (1))]) (s2 := [eI (1)]) rfl rfl rfl ?_
  refine w_t (np := 21) (l2 := [some (eJ (zJ c)), none, some (eI (4)), some (eR 14), some (eI (6)), some (eI (v4)), some (eI (1))]) (s2 := [eI (4), eI (1)]) rfl rfl rfl ?_
  refine b_cge (t1 := 65) (t2 := 24) rfl rfl rfl rfl rfl (fun g => absurd g (by decide)) (fun g => ?_)
  clear g
  refine w_t (np := 26) (l2 := [some (eJ (zJ c)), none, some (eI (4)), some (eR 14), some (eI (6)), some (eI (v4)), some (eI (1))]) (s2 := [eI (6)]) rfl rfl rfl ?_
  refine w_t (np := 28) (l2 := [some (eJ (zJ c)), none, some (eI (4)), some (eR 14), some (eI (6)), some (eI (v4)), some (eI (1))]) (s2 := [eI (1), eI (6)]) rfl rfl rfl ?_
  refine w_t (np := 29) (l2 := [some (eJ (zJ c)), none, some (eI (4)), some (eR 14), some (eI (6)), some (eI (v4)), some (eI (1))]) (s2 := [eI (7)]) rfl (b_iadd rfl) rfl ?_
  refine w_t (np := 30) (l2 := [some (eJ (zJ c)), none, some (eI (4)), some (eR 14), some (eI (6)), some (eI (v4)), some (eI (1))]) (s2 := [eR 14, eI (7)]) rfl (s_an rfl (by decide)) rfl ?_
  refine v_ln (np := 31) (v := 13) (n := 13) rfl rfl ⟨rfl, zI_lit (by decide)⟩ ?_
  rw [show zI 13 = 13 by decide]
  refine b_cge (t1 := 65) (t2 := 34) rfl rfl rfl rfl rfl (fun g => absurd g (by decide)) (fun g => ?_)
  clear g
  refine w_t (np := 36) (l2 := [some (eJ (zJ c)), none, some (eI (4)), some (eR 14), some (eI (6)), some (eI (v4)), some (eI (1))]) (s2 := [eI (v4)]) rfl rfl rfl ?_
  refine w_t (np := 37) (l2 := [some (eJ (zJ c)), none, some (eI (4)), some (eR 14), some (eI (6)), some (eI (v4)), some (eI (1))]) (s2 := [eJ (zJ c), eI (v4)]) rfl rfl rfl ?_
  refine w_t (np := 39) (l2 := [some (eJ (zJ c)), none, some (eI (4)), some (eR 14), some (eI (6)), some (eI (v4)), some (eI (1))]) (s2 := [eI (48), eJ (zJ c), eI (v4)]) rfl rfl rfl ?_
  refine w_t (np := 41) (l2 := [some (eJ (zJ c)), none, some (eI (4)), some (eR 14), some (eI (6)), some (eI (v4)), some (eI (1))]) (s2 := [eI (16), eI (48), eJ (zJ c), eI (v4)]) rfl rfl rfl ?_
  refine w_t (np := 43) (l2 := [some (eJ (zJ c)), none, some (eI (4)), some (eR 14), some (eI (6)), some (eI (v4)), some (eI (1))]) (s2 := [eI (1), eI (16), eI (48), eJ (zJ c), eI (v4)]) rfl rfl rfl ?_
  refine w_t (np := 44) (l2 := [some (eJ (zJ c)), none, some (eI (4)), some (eR 14), some (eI (6)), some (eI (v4)), some (eI (1))]) (s2 := [eI (16), eI (48), eJ (zJ c), eI (v4)]) rfl (b_imul rfl) rfl ?_
  refine w_t (np := 45) (l2 := [some (eJ (zJ c)), none, some (eI (4)), some (eR 14), some (eI (6)), some (eI (v4)), some (eI (1))]) (s2 := [eI (32), eJ (zJ c), eI (v4)]) rfl (b_isub rfl) rfl ?_
  refine w_lane (np := 48) (k := 32) (v := q) rfl rfl rfl rfl (by decide) rfl l1 ?_
  refine w_t (np := 49) (l2 := [some (eJ (zJ c)), none, some (eI (4)), some (eR 14), some (eI (6)), some (eI (v4)), some (eI (1))]) (s2 := [eR 14, eI (q), eI (v4)]) rfl (s_an rfl (by decide)) rfl ?_
  refine w_t (np := 51) (l2 := [some (eJ (zJ c)), none, some (eI (4)), some (eR 14), some (eI (6)), some (eI (v4)), some (eI (1))]) (s2 := [eI (6), eR 14, eI (q), eI (v4)]) rfl rfl rfl ?_
  refine w_t (np := 53) (l2 := [some (eJ (zJ c)), none, some (eI (4)), some (eR 14), some (eI (6)), some (eI (v4)), some (eI (1))]) (s2 := [eI (1), eI (6), eR 14, eI (q), eI (v4)]) rfl rfl rfl ?_
  refine w_t (np := 54) (l2 := [some (eJ (zJ c)), none, some (eI (4)), some (eR 14), some (eI (6)), some (eI (v4)), some (eI (1))]) (s2 := [eI (7), eR 14, eI (q), eI (v4)]) rfl (b_iadd rfl) rfl ?_
  refine w_al (np := 55) (v := 0) rfl rfl (s_al (j := 7) (by decide) (by decide) (by decide) rfl rfl (by decide) (by decide) rfl) ?_
  obtain ⟨v7, e8⟩ : ∃ zz : Int, zz = (q) * (0) := ⟨_, rfl⟩
  have b9 : 0 ≤ v7 ∧ v7 ≤ 0 := by omega
  refine w_t (np := 56) (l2 := [some (eJ (zJ c)), none, some (eI (4)), some (eR 14), some (eI (6)), some (eI (v4)), some (eI (1))]) (s2 := [eI (v7), eI (v4)]) rfl (b_imul (by rw [← e8]; exact ev_w_in (by omega) (by omega))) rfl ?_
  obtain ⟨v10, e11⟩ : ∃ zz : Int, zz = (v4) + (v7) := ⟨_, rfl⟩
  have b12 : -10010 ≤ v10 ∧ v10 ≤ 10010 := by omega
  refine w_t (np := 57) (l2 := [some (eJ (zJ c)), none, some (eI (4)), some (eR 14), some (eI (6)), some (eI (v4)), some (eI (1))]) (s2 := [eI (v10)]) rfl (b_iadd (by rw [← e11]; exact ev_w_in (by omega) (by omega))) rfl ?_
  refine w_t (np := 59) (l2 := [some (eJ (zJ c)), none, some (eI (4)), some (eR 14), some (eI (6)), some (eI (v10)), some (eI (1))]) (s2 := []) rfl rfl rfl ?_
  refine w_t (np := 62) (l2 := [some (eJ (zJ c)), none, some (eI (4)), some (eR 14), some (eI (6)), some (eI (v10)), some (eI (2))]) (s2 := []) rfl (b_iinc rfl rfl rfl) rfl ?_
  refine w_go (t1 := 18) rfl rfl ?_
  refine w_t (np := 20) (l2 := [some (eJ (zJ c)), none, some (eI (4)), some (eR 14), some (eI (6)), some (eI (v10)), some (eI (2))]) (s2 := [eI (2)]) rfl rfl rfl ?_
  refine w_t (np := 21) (l2 := [some (eJ (zJ c)), none, some (eI (4)), some (eR 14), some (eI (6)), some (eI (v10)), some (eI (2))]) (s2 := [eI (4), eI (2)]) rfl rfl rfl ?_
  refine b_cge (t1 := 65) (t2 := 24) rfl rfl rfl rfl rfl (fun g => absurd g (by decide)) (fun g => ?_)
  clear g
  refine w_t (np := 26) (l2 := [some (eJ (zJ c)), none, some (eI (4)), some (eR 14), some (eI (6)), some (eI (v10)), some (eI (2))]) (s2 := [eI (6)]) rfl rfl rfl ?_
  refine w_t (np := 28) (l2 := [some (eJ (zJ c)), none, some (eI (4)), some (eR 14), some (eI (6)), some (eI (v10)), some (eI (2))]) (s2 := [eI (2), eI (6)]) rfl rfl rfl ?_
  refine w_t (np := 29) (l2 := [some (eJ (zJ c)), none, some (eI (4)), some (eR 14), some (eI (6)), some (eI (v10)), some (eI (2))]) (s2 := [eI (8)]) rfl (b_iadd rfl) rfl ?_
  refine w_t (np := 30) (l2 := [some (eJ (zJ c)), none, some (eI (4)), some (eR 14), some (eI (6)), some (eI (v10)), some (eI (2))]) (s2 := [eR 14, eI (8)]) rfl (s_an rfl (by decide)) rfl ?_
  refine v_ln (np := 31) (v := 13) (n := 13) rfl rfl ⟨rfl, zI_lit (by decide)⟩ ?_
  rw [show zI 13 = 13 by decide]
  refine b_cge (t1 := 65) (t2 := 34) rfl rfl rfl rfl rfl (fun g => absurd g (by decide)) (fun g => ?_)
  clear g
  refine w_t (np := 36) (l2 := [some (eJ (zJ c)), none, some (eI (4)), some (eR 14), some (eI (6)), some (eI (v10)), some (eI (2))]) (s2 := [eI (v10)]) rfl rfl rfl ?_
  refine w_t (np := 37) (l2 := [some (eJ (zJ c)), none, some (eI (4)), some (eR 14), some (eI (6)), some (eI (v10)), some (eI (2))]) (s2 := [eJ (zJ c), eI (v10)]) rfl rfl rfl ?_
  refine w_t (np := 39) (l2 := [some (eJ (zJ c)), none, some (eI (4)), some (eR 14), some (eI (6)), some (eI (v10)), some (eI (2))]) (s2 := [eI (48), eJ (zJ c), eI (v10)]) rfl rfl rfl ?_
  refine w_t (np := 41) (l2 := [some (eJ (zJ c)), none, some (eI (4)), some (eR 14), some (eI (6)), some (eI (v10)), some (eI (2))]) (s2 := [eI (16), eI (48), eJ (zJ c), eI (v10)]) rfl rfl rfl ?_
  refine w_t (np := 43) (l2 := [some (eJ (zJ c)), none, some (eI (4)), some (eR 14), some (eI (6)), some (eI (v10)), some (eI (2))]) (s2 := [eI (2), eI (16), eI (48), eJ (zJ c), eI (v10)]) rfl rfl rfl ?_
  refine w_t (np := 44) (l2 := [some (eJ (zJ c)), none, some (eI (4)), some (eR 14), some (eI (6)), some (eI (v10)), some (eI (2))]) (s2 := [eI (32), eI (48), eJ (zJ c), eI (v10)]) rfl (b_imul rfl) rfl ?_
  refine w_t (np := 45) (l2 := [some (eJ (zJ c)), none, some (eI (4)), some (eR 14), some (eI (6)), some (eI (v10)), some (eI (2))]) (s2 := [eI (16), eJ (zJ c), eI (v10)]) rfl (b_isub rfl) rfl ?_
  refine w_lane (np := 48) (k := 16) (v := r) rfl rfl rfl rfl (by decide) rfl l2 ?_
  refine w_t (np := 49) (l2 := [some (eJ (zJ c)), none, some (eI (4)), some (eR 14), some (eI (6)), some (eI (v10)), some (eI (2))]) (s2 := [eR 14, eI (r), eI (v10)]) rfl (s_an rfl (by decide)) rfl ?_
  refine w_t (np := 51) (l2 := [some (eJ (zJ c)), none, some (eI (4)), some (eR 14), some (eI (6)), some (eI (v10)), some (eI (2))]) (s2 := [eI (6), eR 14, eI (r), eI (v10)]) rfl rfl rfl ?_
  refine w_t (np := 53) (l2 := [some (eJ (zJ c)), none, some (eI (4)), some (eR 14), some (eI (6)), some (eI (v10)), some (eI (2))]) (s2 := [eI (2), eI (6), eR 14, eI (r), eI (v10)]) rfl rfl rfl ?_
  refine w_t (np := 54) (l2 := [some (eJ (zJ c)), none, some (eI (4)), some (eR 14), some (eI (6)), some (eI (v10)), some (eI (2))]) (s2 := [eI (8), eR 14, eI (r), eI (v10)]) rfl (b_iadd rfl) rfl ?_
  refine w_al (np := 55) (v := 0) rfl rfl (s_al (j := 8) (by decide) (by decide) (by decide) rfl rfl (by decide) (by decide) rfl) ?_
  obtain ⟨v13, e14⟩ : ∃ zz : Int, zz = (r) * (0) := ⟨_, rfl⟩
  have b15 : 0 ≤ v13 ∧ v13 ≤ 0 := by omega
  refine w_t (np := 56) (l2 := [some (eJ (zJ c)), none, some (eI (4)), some (eR 14), some (eI (6)), some (eI (v10)), some (eI (2))]) (s2 := [eI (v13), eI (v10)]) rfl (b_imul (by rw [← e14]; exact ev_w_in (by omega) (by omega))) rfl ?_
  obtain ⟨v16, e17⟩ : ∃ zz : Int, zz = (v10) + (v13) := ⟨_, rfl⟩
  have b18 : -10010 ≤ v16 ∧ v16 ≤ 10010 := by omega
  refine w_t (np := 57) (l2 := [some (eJ (zJ c)), none, some (eI (4)), some (eR 14), some (eI (6)), some (eI (v10)), some (eI (2))]) (s2 := [eI (v16)]) rfl (b_iadd (by rw [← e17]; exact ev_w_in (by omega) (by omega))) rfl ?_
  refine w_t (np := 59) (l2 := [some (eJ (zJ c)), none, some (eI (4)), some (eR 14), some (eI (6)), some (eI (v16)), some (eI (2))]) (s2 := []) rfl rfl rfl ?_
  refine w_t (np := 62) (l2 := [some (eJ (zJ c)), none, some (eI (4)), some (eR 14), some (eI (6)), some (eI (v16)), some (eI (3))]) (s2 := []) rfl (b_iinc rfl rfl rfl) rfl ?_
  refine w_go (t1 := 18) rfl rfl ?_
  refine w_t (np := 20) (l2 := [some (eJ (zJ c)), none, some (eI (4)), some (eR 14), some (eI (6)), some (eI (v16)), some (eI (3))]) (s2 := [eI (3)]) rfl rfl rfl ?_
  refine w_t (np := 21) (l2 := [some (eJ (zJ c)), none, some (eI (4)), some (eR 14), some (eI (6)), some (eI (v16)), some (eI (3))]) (s2 := [eI (4), eI (3)]) rfl rfl rfl ?_
  refine b_cge (t1 := 65) (t2 := 24) rfl rfl rfl rfl rfl (fun g => absurd g (by decide)) (fun g => ?_)
  clear g
  refine w_t (np := 26) (l2 := [some (eJ (zJ c)), none, some (eI (4)), some (eR 14), some (eI (6)), some (eI (v16)), some (eI (3))]) (s2 := [eI (6)]) rfl rfl rfl ?_
  refine w_t (np := 28) (l2 := [some (eJ (zJ c)), none, some (eI (4)), some (eR 14), some (eI (6)), some (eI (v16)), some (eI (3))]) (s2 := [eI (3), eI (6)]) rfl rfl rfl ?_
  refine w_t (np := 29) (l2 := [some (eJ (zJ c)), none, some (eI (4)), some (eR 14), some (eI (6)), some (eI (v16)), some (eI (3))]) (s2 := [eI (9)]) rfl (b_iadd rfl) rfl ?_
  refine w_t (np := 30) (l2 := [some (eJ (zJ c)), none, some (eI (4)), some (eR 14), some (eI (6)), some (eI (v16)), some (eI (3))]) (s2 := [eR 14, eI (9)]) rfl (s_an rfl (by decide)) rfl ?_
  refine v_ln (np := 31) (v := 13) (n := 13) rfl rfl ⟨rfl, zI_lit (by decide)⟩ ?_
  rw [show zI 13 = 13 by decide]
  refine b_cge (t1 := 65) (t2 := 34) rfl rfl rfl rfl rfl (fun g => absurd g (by decide)) (fun g => ?_)
  clear g
  refine w_t (np := 36) (l2 := [some (eJ (zJ c)), none, some (eI (4)), some (eR 14), some (eI (6)), some (eI (v16)), some (eI (3))]) (s2 := [eI (v16)]) rfl rfl rfl ?_
  refine w_t (np := 37) (l2 := [some (eJ (zJ c)), none, some (eI (4)), some (eR 14), some (eI (6)), some (eI (v16)), some (eI (3))]) (s2 := [eJ (zJ c), eI (v16)]) rfl rfl rfl ?_
  refine w_t (np := 39) (l2 := [some (eJ (zJ c)), none, some (eI (4)), some (eR 14), some (eI (6)), some (eI (v16)), some (eI (3))]) (s2 := [eI (48), eJ (zJ c), eI (v16)]) rfl rfl rfl ?_
  refine w_t (np := 41) (l2 := [some (eJ (zJ c)), none, some (eI (4)), some (eR 14), some (eI (6)), some (eI (v16)), some (eI (3))]) (s2 := [eI (16), eI (48), eJ (zJ c), eI (v16)]) rfl rfl rfl ?_
  refine w_t (np := 43) (l2 := [some (eJ (zJ c)), none, some (eI (4)), some (eR 14), some (eI (6)), some (eI (v16)), some (eI (3))]) (s2 := [eI (3), eI (16), eI (48), eJ (zJ c), eI (v16)]) rfl rfl rfl ?_
  refine w_t (np := 44) (l2 := [some (eJ (zJ c)), none, some (eI (4)), some (eR 14), some (eI (6)), some (eI (v16)), some (eI (3))]) (s2 := [eI (48), eI (48), eJ (zJ c), eI (v16)]) rfl (b_imul rfl) rfl ?_
  refine w_t (np := 45) (l2 := [some (eJ (zJ c)), none, some (eI (4)), some (eR 14), some (eI (6)), some (eI (v16)), some (eI (3))]) (s2 := [eI (0), eJ (zJ c), eI (v16)]) rfl (b_isub rfl) rfl ?_
  refine w_lane (np := 48) (k := 0) (v := s) rfl rfl rfl rfl (by decide) rfl l3 ?_
  refine w_t (np := 49) (l2 := [some (eJ (zJ c)), none, some (eI (4)), some (eR 14), some (eI (6)), some (eI (v16)), some (eI (3))]) (s2 := [eR 14, eI (s), eI (v16)]) rfl (s_an rfl (by decide)) rfl ?_
  refine w_t (np := 51) (l2 := [some (eJ (zJ c)), none, some (eI (4)), some (eR 14), some (eI (6)), some (eI (v16)), some (eI (3))]) (s2 := [eI (6), eR 14, eI (s), eI (v16)]) rfl rfl rfl ?_
  refine w_t (np := 53) (l2 := [some (eJ (zJ c)), none, some (eI (4)), some (eR 14), some (eI (6)), some (eI (v16)), some (eI (3))]) (s2 := [eI (3), eI (6), eR 14, eI (s), eI (v16)]) rfl rfl rfl ?_
  refine w_t (np := 54) (l2 := [some (eJ (zJ c)), none, some (eI (4)), some (eR 14), some (eI (6)), some (eI (v16)), some (eI (3))]) (s2 := [eI (9), eR 14, eI (s), eI (v16)]) rfl (b_iadd rfl) rfl ?_
  refine w_al (np := 55) (v := -1) rfl rfl (s_al (j := 9) (by decide) (by decide) (by decide) rfl rfl (by decide) (by decide) rfl) ?_
  obtain ⟨v19, e20⟩ : ∃ zz : Int, zz = (s) * (-1) := ⟨_, rfl⟩
  have b21 : -10010 ≤ v19 ∧ v19 ≤ 10010 := by omega
  refine w_t (np := 56) (l2 := [some (eJ (zJ c)), none, some (eI (4)), some (eR 14), some (eI (6)), some (eI (v16)), some (eI (3))]) (s2 := [eI (v19), eI (v16)]) rfl (b_imul (by rw [← e20]; exact ev_w_in (by omega) (by omega))) rfl ?_
  obtain ⟨v22, e23⟩ : ∃ zz : Int, zz = (v16) + (v19) := ⟨_, rfl⟩
  have b24 : -20020 ≤ v22 ∧ v22 ≤ 20020 := by omega
  refine w_t (np := 57) (l2 := [some (eJ (zJ c)), none, some (eI (4)), some (eR 14), some (eI (6)), some (eI (v16)), some (eI (3))]) (s2 := [eI (v22)]) rfl (b_iadd (by rw [← e23]; exact ev_w_in (by omega) (by omega))) rfl ?_
  refine w_t (np := 59) (l2 := [some (eJ (zJ c)), none, some (eI (4)), some (eR 14), some (eI (6)), some (eI (v22)), some (eI (3))]) (s2 := []) rfl rfl rfl ?_
  refine w_t (np := 62) (l2 := [some (eJ (zJ c)), none, some (eI (4)), some (eR 14), some (eI (6)), some (eI (v22)), some (eI (4))]) (s2 := []) rfl (b_iinc rfl rfl rfl) rfl ?_
  refine w_go (t1 := 18) rfl rfl ?_
  refine w_t (np := 20) (l2 := [some (eJ (zJ c)), none, some (eI (4)), some (eR 14), some (eI (6)), some (eI (v22)), some (eI (4))]) (s2 := [eI (4)]) rfl rfl rfl ?_
  refine w_t (np := 21) (l2 := [some (eJ (zJ c)), none, some (eI (4)), some (eR 14), some (eI (6)), some (eI (v22)), some (eI (4))]) (s2 := [eI (4), eI (4)]) rfl rfl rfl ?_
  refine b_cge (t1 := 65) (t2 := 24) rfl rfl rfl rfl rfl (fun g => ?_) (fun g => absurd g (by decide))
  clear g
  refine w_t (np := 67) (l2 := [some (eJ (zJ c)), none, some (eI (4)), some (eR 14), some (eI (6)), some (eI (v22)), some (eI (4))]) (s2 := [eI (v22)]) rfl rfl rfl ?_
  refine b_ri rfl rfl ?_
  have e9 : v22 = (-1) * p + (-1) * s := by omega
  rw [e9]
  exact K
theorem t80_14_5 {L : Nat} {ρ : Nat → Int} {rc rs d : Nat} {f : eFr} {F : List eFr} {μ : eM} {c : Nat} {p q r s : Int} (l0 : zI (z_i2s (z_l2i (z_lshr c 48))) = p) (l1 : zI (z_i2s (z_l2i (z_lshr c 32))) = q) (l2 : zI (z_i2s (z_l2i (z_lshr c 16))) = r) (l3 : zI (z_i2s (z_l2i (z_lshr c 0))) = s) (hp : -10010 ≤ p ∧ p ≤ 10010) (hq : -10010 ≤ q ∧ q ≤ 10010) (hr : -10010 ≤ r ∧ r ≤ 10010) (hs : -10010 ≤ s ∧ s ≤ 10010) (K : ex_fine (dt_fg L ρ) rc rs (d + 1, (f.1, f.2.1, f.2.2.1, eI ((-1) * q) :: f.2.2.2), F, μ)) : ex_fine (dt_fg L ρ) rc rs (d, (80, 0, [some (eJ (zJ c)), none, some (eI (5)), some (eR 14), none, none, none], []), f :: F, μ) := by
  refine w_t (np := 2) (l2 := [some (eJ (zJ c)), none, some (eI (5)), some (eR 14), none, none, none]) (s2 := [eI (10)]) rfl rfl rfl ?_
  refine w_t (np := 3) (l2 := [some (eJ (zJ c)), none, some (eI (5)), some (eR 14), none, none, none]) (s2 := [eI (5), eI (10)]) rfl rfl rfl ?_
  refine w_t (np := 5) (l2 := [some (eJ (zJ c)), none, some (eI (5)), some (eR 14), none, none, none]) (s2 := [eI (10), eI (5), eI (10)]) rfl rfl rfl ?_
  refine w_t (np := 6) (l2 := [some (eJ (zJ c)), none, some (eI (5)), some (eR 14), none, none, none]) (s2 := [eI (5), eI (10)]) rfl rfl rfl ?_
  refine w_t (np := 7) (l2 := [some (eJ (zJ c)), none, some (eI (5)), some (eR 14), none, none, none]) (s2 := [eI (5)]) rfl (b_isub rfl) rfl ?_
  refine w_t (np := 9) (l2 := [some (eJ (zJ c)), none, some (eI (5)), some (eR 14), none, none, none]) (s2 := [eI (10), eI (5)]) rfl rfl rfl ?_
  refine w_t (np := 10) (l2 := [some (eJ (zJ c)), none, some (eI (5)), some (eR 14), none, none, none]) (s2 := [eI (5)]) rfl rfl rfl ?_
  refine w_t (np := 12) (l2 := [some (eJ (zJ c)), none, some (eI (5)), some (eR 14), some (eI (5)), none, none]) (s2 := []) rfl rfl rfl ?_
  refine w_t (np := 13) (l2 := [some (eJ (zJ c)), none, some (eI (5)), some (eR 14), some (eI (5)), none, none]) (s2 := [eI (0)]) rfl rfl rfl ?_
  refine w_t (np := 15) (l2 := [some (eJ (zJ c)), none, some (eI (5)), some (eR 14), some (eI (5)), some (eI (0)), none]) (s2 := []) rfl rfl rfl ?_
  refine w_t (np := 16) (l2 := [some (eJ (zJ c)), none, some (eI (5)), some (eR 14), some (eI (5)), some (eI (0)), none]) (s2 := [eI (0)]) rfl rfl rfl ?_
  refine w_t (np := 18) (l2 := [some (eJ (zJ c)), none, some (eI (5)), some (eR 14), some (eI (5)), some (eI (0)), some (eI (0))]) (s2 := []) rfl rfl rfl ?_
  refine w_t (np := 20) (l2 := [some (eJ (zJ c)), none, some (eI (5)), some (eR 14), some (eI (5)), some (eI (0)), some (eI (0))]) (s2 := [eI (0)]) rfl rfl rfl ?_
  refine w_t (np := 21) (l2 := [some (eJ (zJ c)), none, some (eI (5)), some (eR 14), some (eI (5)), some (eI (0)), some (eI (0))]) (s2 := [eI (4), eI (0)]) rfl rfl rfl ?_
  refine b_cge (t1 := 65) (t2 := 24) rfl rfl rfl rfl rfl (fun g => absurd g (by decide)) (fun g => ?_)
  clear g
  refine w_t (np := 26) (l2 := [some (eJ (zJ c)), none, some (eI (5)), some (eR 14), some (eI (5)), some (eI (0)), some (eI (0))]) (s2 := [eI (5)]) rfl rfl rfl ?_
  refine w_t (np := 28) (l2 := [some (eJ (zJ c)), none, some (eI (5)), some (eR 14), some (eI (5)), some (eI (0)), some (eI (0))]) (s2 := [eI (0), eI (5)]) rfl rfl rfl ?_
  refine w_t (np := 29) (l2 := [some (eJ (zJ c)), none, some (eI (5)), some (eR 14), some (eI (5)), some (eI (0)), some (eI (0))]) (s2 := [eI (5)]) rfl (b_iadd rfl) rfl ?_
  refine w_t (np := 30) (l2 := [some (eJ (zJ c)), none, some (eI (5)), some (eR 14), some (eI (5)), some (eI (0)), some (eI (0))]) (s2 := [eR 14, eI (5)]) rfl (s_an rfl (by decide)) rfl ?_
  refine v_ln (np := 31) (v := 13) (n := 13) rfl rfl ⟨rfl, zI_lit (by decide)⟩ ?_
  rw [show zI 13 = 13 by decide]
  refine b_cge (t1 := 65) (t2 := 34) rfl rfl rfl rfl rfl (fun g => absurd g (by decide)) (fun g => ?_)
  clear g
  refine w_t (np := 36) (l2 := [some (eJ (zJ c)), none, some (eI (5)), some (eR 14), some (eI (5)), some (eI (0)), some (eI (0))]) (s2 := [eI (0)]) rfl rfl rfl ?_
  refine w_t (np := 37) (l2 := [some (eJ (zJ c)), none, some (eI (5)), some (eR 14), some (eI (5)), some (eI (0)), some (eI (0))]) (s2 := [eJ (zJ c), eI (0)]) rfl rfl rfl ?_
  refine w_t (np := 39) (l2 := [some (eJ (zJ c)), none, some (eI (5)), some (eR 14), some (eI (5)), some (eI (0)), some (eI (0))]) (s2 := [eI (48), eJ (zJ c), eI (0)]) rfl rfl rfl ?_
  refine w_t (np := 41) (l2 := [some (eJ (zJ c)), none, some (eI (5)), some (eR 14), some (eI (5)), some (eI (0)), some (eI (0))]) (s2 := [eI (16), eI (48), eJ (zJ c), eI (0)]) rfl rfl rfl ?_
  refine w_t (np := 43) (l2 := [some (eJ (zJ c)), none, some (eI (5)), some (eR 14), some (eI (5)), some (eI (0)), some (eI (0))]) (s2 := [eI (0), eI (16), eI (48), eJ (zJ c), eI (0)]) rfl rfl rfl ?_
  refine w_t (np := 44) (l2 := [some (eJ (zJ c)), none, some (eI (5)), some (eR 14), some (eI (5)), some (eI (0)), some (eI (0))]) (s2 := [eI (0), eI (48), eJ (zJ c), eI (0)]) rfl (b_imul rfl) rfl ?_
  refine w_t (np := 45) (l2 := [some (eJ (zJ c)), none, some (eI (5)), some (eR 14), some (eI (5)), some (eI (0)), some (eI (0))]) (s2 := [eI (48), eJ (zJ c), eI (0)]) rfl (b_isub rfl) rfl ?_
  refine w_lane (np := 48) (k := 48) (v := p) rfl rfl rfl rfl (by decide) rfl l0 ?_
  refine w_t (np := 49) (l2 := [some (eJ (zJ c)), none, some (eI (5)), some (eR 14), some (eI (5)), some (eI (0)), some (eI (0))]) (s2 := [eR 14, eI (p), eI (0)]) rfl (s_an rfl (by decide)) rfl ?_
  refine w_t (np := 51) (l2 := [some (eJ (zJ c)), none, some (eI (5)), some (eR 14), some (eI (5)), some (eI (0)), some (eI (0))]) (s2 := [eI (5), eR 14, eI (p), eI (0)]) rfl rfl rfl ?_
  refine w_t (np := 53) (l2 := [some (eJ (zJ c)), none, some (eI (5)), some (eR 14), some (eI (5)), some (eI (0)), some (eI (0))]) (s2 := [eI (0), eI (5), eR 14, eI (p), eI (0)]) rfl rfl rfl ?_
  refine w_t (np := 54) (l2 := [some (eJ (zJ c)), none, some (eI (5)), some (eR 14), some (eI (5)), some (eI (0)), some (eI (0))]) (s2 := [eI (5), eR 14, eI (p), eI (0)]) rfl (b_iadd rfl) rfl ?_
  refine w_al (np := 55) (v := 0) rfl rfl (s_al (j := 5) (by decide) (by decide) (by decide) rfl rfl (by decide) (by decide) rfl) ?_
  obtain ⟨v1, e2⟩ : ∃ zz : Int, zz = (p) * (0) := ⟨_, rfl⟩
  have b3 : 0 ≤ v1 ∧ v1 ≤ 0 := by omega
  refine w_t (np := 56) (l2 := [some (eJ (zJ c)), none, some (eI (5)), some (eR 14), some (eI (5)), some (eI (0)), some (eI (0))]) (s2 := [eI (v1), eI (0)]) rfl (b_imul (by rw [← e2]; exact ev_w_in (by omega) (by omega))) rfl ?_
  obtain ⟨v4, e5⟩ : ∃ zz : Int, zz = (0) + (v1) := ⟨_, rfl⟩
  have b6 : 0 ≤ v4 ∧ v4 ≤ 0 := by omega
  refine w_t (np := 57) (l2 := [some (eJ (zJ c)), none, some (eI (5)), some (eR 14), some (eI (5)), some (eI (0)), some (eI (0))]) (s2 := [eI (v4)]) rfl (b_iadd (by rw [← e5]; exact ev_w_in (by omega) (by omega))) rfl ?_
  refine w_t (np := 59) (l2 := [some (eJ (zJ c)), none, some (eI (5)), some (eR 14), some (eI (5)), some (eI (v4)), some (eI (0))]) (s2 := []) rfl rfl rfl ?_
  refine w_t (np := 62) (l2 := [some (eJ (zJ c)), none, some (eI (5)), some (eR 14), some (eI (5)), some (eI (v4)), some (eI (1))]) (s2 := []) rfl (b_iinc rfl rfl rfl) rfl ?_
  refine w_go (t1 := 18) rfl rfl ?_
  refine w_t (np := 20) (l2 := [some (eJ (zJ c)), none, some (eI (5)), some (eR 14), some (eI (5)), some (eI (v4)), some (eI (1))]) (s2 := [eI (1)]) rfl rfl rfl ?_
  refine w_t (np := 21) (l2 := [some (eJ (zJ c)), none, some (eI (5)), some (eR 14), some (eI (5)), some (eI (v4)), some (eI (1))]) (s2 := [eI (4), eI (1)]) rfl rfl rfl ?_
  refine b_cge (t1 := 65) (t2 := 24) rfl rfl rfl rfl rfl (fun g => absurd g (by decide)) (fun g => ?_)
  clear g
  refine w_t (np := 26) (l2 := [some (eJ (zJ c)), none, some (eI (5)), some (eR 14), some (eI (5)), some (eI (v4)), some (eI (1))]) (s2 := [eI (5)]) rfl rfl rfl ?_
  refine w_t (np := 28) (l2 := [some (eJ (zJ c)), none, some (eI (5)), some (eR 14), some (eI (5)), some (eI (v4)), some (eI (1))]) (s2 := [eI (1), eI (5)]) rfl rfl rfl ?_
  refine w_t (np := 29) (l2 := [some (eJ (zJ c)), none, some (eI (5)), some (eR 14), some (eI (5)), some (eI (v4)), some (eI (1))]) (s2 := [eI (6)]) rfl (b_iadd rfl) rfl ?_
  refine w_t (np := 30) (l2 := [some (eJ (zJ c)), none, some (eI (5)), some (eR 14), some (eI (5)), some (eI (v4)), some (eI (1))]) (s2 := [eR 14, eI (6)]) rfl (s_an rfl (by decide)) rfl ?_
  refine v_ln (np := 31) (v := 13) (n := 13) rfl rfl ⟨rfl, zI_lit (by decide)⟩ ?_
  rw [show zI 13 = 13 by decide]
  refine b_cge (t1 := 65) (t2 := 34) rfl rfl rfl rfl rfl (fun g => absurd g (by decide)) (fun g => ?_)
  clear g
  refine w_t (np := 36) (l2 := [some (eJ (zJ c)), none, some (eI (5)), some (eR 14), some (eI (5)), some (eI (v4)), some (eI (1))]) (s2 := [eI (v4)]) rfl rfl rfl ?_
  refine w_t (np := 37) (l2 := [some (eJ (zJ c)), none, some (eI (5)), some (eR 14), some (eI (5)), some (eI (v4)), some (eI (1))]) (s2 := [eJ (zJ c), eI (v4)]) rfl rfl rfl ?_
  refine w_t (np := 39) (l2 := [some (eJ (zJ c)), none, some (eI (5)), some (eR 14), some (eI (5)), some (eI (v4)), some (eI (1))]) (s2 := [eI (48), eJ (zJ c), eI (v4)]) rfl rfl rfl ?_
  refine w_t (np := 41) (l2 := [some (eJ (zJ c)), none, some (eI (5)), some (eR 14), some (eI (5)), some (eI (v4)), some (eI (1))]) (s2 := [eI (16), eI (48), eJ (zJ c), eI (v4)]) rfl rfl rfl ?_
  refine w_t (np := 43) (l2 := [some (eJ (zJ c)), none, some (eI (5)), some (eR 14), some (eI (5)), some (eI (v4)), some (eI (1))]) (s2 := [eI (1), eI (16), eI (48), eJ (zJ c), eI (v4)]) rfl rfl rfl ?_
  refine w_t (np := 44) (l2 := [some (eJ (zJ c)), none, some (eI (5)), some (eR 14), some (eI (5)), some (eI (v4)), some (eI (1))]) (s2 := [eI (16), eI (48), eJ (zJ c), eI (v4)]) rfl (b_imul rfl) rfl ?_
  refine w_t (np := 45) (l2 := [some (eJ (zJ c)), none, some (eI (5)), some (eR 14), some (eI (5)), some (eI (v4)), some (eI (1))]) (s2 := [eI (32), eJ (zJ c), eI (v4)]) rfl (b_isub rfl) rfl ?_
  refine w_lane (np := 48) (k := 32) (v := q) rfl rfl rfl rfl (by decide) rfl l1 ?_
  refine w_t (np := 49) (l2 := [some (eJ (zJ c)), none, some (eI (5)), some (eR 14), some (eI (5)), some (eI (v4)), some (eI (1))]) (s2 := [eR 14, eI (q), eI (v4)]) rfl (s_an rfl (by decide)) rfl ?_
  refine w_t (np := 51) (l2 := [some (eJ (zJ c)), none, some (eI (5)), some (eR 14), some (eI (5)), some (eI (v4)), some (eI (1))]) (s2 := [eI (5), eR 14, eI (q), eI (v4)]) rfl rfl rfl ?_
  refine w_t (np := 53) (l2 := [some (eJ (zJ c)), none, some (eI (5)), some (eR 14), some (eI (5)), some (eI (v4)), some (eI (1))]) (s2 := [eI (1), eI (5), eR 14, eI (q), eI (v4)]) rfl rfl rfl ?_
  refine w_t (np := 54) (l2 := [some (eJ (zJ c)), none, some (eI (5)), some (eR 14), some (eI (5)), some (eI (v4)), some (eI (1))]) (s2 := [eI (6), eR 14, eI (q), eI (v4)]) rfl (b_iadd rfl) rfl ?_
  refine w_al (np := 55) (v := -1) rfl rfl (s_al (j := 6) (by decide) (by decide) (by decide) rfl rfl (by decide) (by decide) rfl) ?_
  obtain ⟨v7, e8⟩ : ∃ zz : Int, zz = (q) * (-1) := ⟨_, rfl⟩
  have b9 : -10010 ≤ v7 ∧ v7 ≤ 10010 := by omega
  refine w_t (np := 56) (l2 := [some (eJ (zJ c)), none, some (eI (5)), some (eR 14), some (eI (5)), some (eI (v4)), some (eI (1))]) (s2 := [eI (v7), eI (v4)]) rfl (b_imul (by rw [← e8]; exact ev_w_in (by omega) (by omega))) rfl ?_
  obtain ⟨v10, e11⟩ : ∃ zz : Int, zz = (v4) + (v7) := ⟨_, rfl⟩
  have b12 : -10010 ≤ v10 ∧ v10 ≤ 10010 := by omega
  refine w_t (np := 57) (l2 := [some (eJ (zJ c)), none, some (eI (5)), some (eR 14), some (eI (5)), some (eI (v4)), some (eI (1))]) (s2 := [eI (v10)]) rfl (b_iadd (by rw [← e11]; exact ev_w_in (by omega) (by omega))) rfl ?_
  refine w_t (np := 59) (l2 := [some (eJ (zJ c)), none, some (eI (5)), some (eR 14), some (eI (5)), some (eI (v10)), some (eI (1))]) (s2 := []) rfl rfl rfl ?_
  refine w_t (np := 62) (l2 := [some (eJ (zJ c)), none, some (eI (5)), some (eR 14), some (eI (5)), some (eI (v10)), some (eI (2))]) (s2 := []) rfl (b_iinc rfl rfl rfl) rfl ?_
  refine w_go (t1 := 18) rfl rfl ?_
  refine w_t (np := 20) (l2 := [some (eJ (zJ c)), none, some (eI (5)), some (eR 14), some (eI (5)), some (eI (v10)), some (eI (2))]) (s2 := [eI (2)]) rfl rfl rfl ?_
  refine w_t (np := 21) (l2 := [some (eJ (zJ c)), none, some (eI (5)), some (eR 14), some (eI (5)), some (eI (v10)), some (eI (2))]) (s2 := [eI (4), eI (2)]) rfl rfl rfl ?_
  refine b_cge (t1 := 65) (t2 := 24) rfl rfl rfl rfl rfl (fun g => absurd g (by decide)) (fun g => ?_)
  clear g
  refine w_t (np := 26) (l2 := [some (eJ (zJ c)), none, some (eI (5)), some (eR 14), some (eI (5)), some (eI (v10)), some (eI (2))]) (s2 := [eI (5)]) rfl rfl rfl ?_
  refine w_t (np := 28) (l2 := [some (eJ (zJ c)), none, some (eI (5)), some (eR 14), some (eI (5)), some (eI (v10)), some (eI (2))]) (s2 := [eI (2), eI (5)]) rfl rfl rfl ?_
  refine w_t (np := 29) (l2 := [some (eJ (zJ c)), none, some (eI (5)), some (eR 14), some (eI (5)), some (eI (v10)), some (eI (2))]) (s2 := [eI (7)]) rfl (b_iadd rfl) rfl ?_
  refine w_t (np := 30) (l2 := [some (eJ (zJ c)), none, some (eI (5)), some (eR 14), some (eI (5)), some (eI (v10)), some (eI (2))]) (s2 := [eR 14, eI (7)]) rfl (s_an rfl (by decide)) rfl ?_
  refine v_ln (np := 31) (v := 13) (n := 13) rfl rfl ⟨rfl, zI_lit (by decide)⟩ ?_
  rw [show zI 13 = 13 by decide]
  refine b_cge (t1 := 65) (t2 := 34) rfl rfl rfl rfl rfl (fun g => absurd g (by decide)) (fun g => ?_)
  clear g
  refine w_t (np := 36) (l2 := [some (eJ (zJ c)), none, some (eI (5)), some (eR 14), some (eI (5)), some (eI (v10)), some (eI (2))]) (s2 := [eI (v10)]) rfl rfl rfl ?_
  refine w_t (np := 37) (l2 := [some (eJ (zJ c)), none, some (eI (5)), some (eR 14), some (eI (5)), some (eI (v10)), some (eI (2))]) (s2 := [eJ (zJ c), eI (v10)]) rfl rfl rfl ?_
  refine w_t (np := 39) (l2 := [some (eJ (zJ c)), none, some (eI (5)), some (eR 14), some (eI (5)), some (eI (v10)), some (eI (2))]) (s2 := [eI (48), eJ (zJ c), eI (v10)]) rfl rfl rfl ?_
  refine w_t (np := 41) (l2 := [some (eJ (zJ c)), none, some (eI (5)), some (eR 14), some (eI (5)), some (eI (v10)), some (eI (2))]) (s2 := [eI (16), eI (48), eJ (zJ c), eI (v10)]) rfl rfl rfl ?_
  refine w_t (np := 43) (l2 := [some (eJ (zJ c)), none, some (eI (5)), some (eR 14), some (eI (5)), some (eI (v10)), some (eI (2))]) (s2 := [eI (2), eI (16), eI (48), eJ (zJ c), eI (v10)]) rfl rfl rfl ?_
  refine w_t (np := 44) (l2 := [some (eJ (zJ c)), none, some (eI (5)), some (eR 14), some (eI (5)), some (eI (v10)), some (eI (2))]) (s2 := [eI (32), eI (48), eJ (zJ c), eI (v10)]) rfl (b_imul rfl) rfl ?_
  refine w_t (np := 45) (l2 := [some (eJ (zJ c)), none, some (eI (5)), some (eR 14), some (eI (5)), some (eI (v10)), some (eI (2))]) (s2 := [eI (16), eJ (zJ c), eI (v10)]) rfl (b_isub rfl) rfl ?_
  refine w_lane (np := 48) (k := 16) (v := r) rfl rfl rfl rfl (by decide) rfl l2 ?_
  refine w_t (np := 49) (l2 := [some (eJ (zJ c)), none, some (eI (5)), some (eR 14), some (eI (5)), some (eI (v10)), some (eI (2))]) (s2 := [eR 14, eI (r), eI (v10)]) rfl (s_an rfl (by decide)) rfl ?_
  refine w_t (np := 51) (l2 := [some (eJ (zJ c)), none, some (eI (5)), some (eR 14), some (eI (5)), some (eI (v10)), some (eI (2))]) (s2 := [eI (5), eR 14, eI (r), eI (v10)]) rfl rfl rfl ?_
  refine w_t (np := 53) (l2 := [some (eJ (zJ c)), none, some (eI (5)), some (eR 14), some (eI (5)), some (eI (v10)), some (eI (2))]) (s2 := [eI (2), eI (5), eR 14, eI (r), eI (v10)]) rfl rfl rfl ?_
  refine w_t (np := 54) (l2 := [some (eJ (zJ c)), none, some (eI (5)), some (eR 14), some (eI (5)), some (eI (v10)), some (eI (2))]) (s2 := [eI (7), eR 14, eI (r), eI (v10)]) rfl (b_iadd rfl) rfl ?_
  refine w_al (np := 55) (v := 0) rfl rfl (s_al (j := 7) (by decide) (by decide) (by decide) rfl rfl (by decide) (by decide) rfl) ?_
  obtain ⟨v13, e14⟩ : ∃ zz : Int, zz = (r) * (0) := ⟨_, rfl⟩
  have b15 : 0 ≤ v13 ∧ v13 ≤ 0 := by omega
  refine w_t (np := 56) (l2 := [some (eJ (zJ c)), none, some (eI (5)), some (eR 14), some (eI (5)), some (eI (v10)), some (eI (2))]) (s2 := [eI (v13), eI (v10)]) rfl (b_imul (by rw [← e14]; exact ev_w_in (by omega) (by omega))) rfl ?_
  obtain ⟨v16, e17⟩ : ∃ zz : Int, zz = (v10) + (v13) := ⟨_, rfl⟩
  have b18 : -10010 ≤ v16 ∧ v16 ≤ 10010 := by omega
  refine w_t (np := 57) (l2 := [some (eJ (zJ c)), none, some (eI (5)), some (eR 14), some (eI (5)), some (eI (v10)), some (eI (2))]) (s2 := [eI (v16)]) rfl (b_iadd (by rw [← e17]; exact ev_w_in (by omega) (by omega))) rfl ?_
  refine w_t (np := 59) (l2 := [some (eJ (zJ c)), none, some (eI (5)), some (eR 14), some (eI (5)), some (eI (v16)), some (eI (2))]) (s2 := []) rfl rfl rfl ?_
  refine w_t (np := 62) (l2 := [some (eJ (zJ c)), none, some (eI (5)), some (eR 14), some (eI (5)), some (eI (v16)), some (eI (3))]) (s2 := []) rfl (b_iinc rfl rfl rfl) rfl ?_
  refine w_go (t1 := 18) rfl rfl ?_
  refine w_t (np := 20) (l2 := [some (eJ (zJ c)), none, some (eI (5)), some (eR 14), some (eI (5)), some (eI (v16)), some (eI (3))]) (s2 := [eI (3)]) rfl rfl rfl ?_
  refine w_t (np := 21) (l2 := [some (eJ (zJ c)), none, some (eI (5)), some (eR 14), some (eI (5)), some (eI (v16)), some (eI (3))]) (s2 := [eI (4), eI (3)]) rfl rfl rfl ?_
  refine b_cge (t1 := 65) (t2 := 24) rfl rfl rfl rfl rfl (fun g => absurd g (by decide)) (fun g => ?_)
  clear g
  refine w_t (np := 26) (l2 := [some (eJ (zJ c)), none, some (eI (5)), some (eR 14), some (eI (5)), some (eI (v16)), some (eI (3))]) (s2 := [eI (5)]) rfl rfl rfl ?_
  refine w_t (np := 28) (l2 := [some (eJ (zJ c)), none, some (eI (5)), some (eR 14), some (eI (5)), some (eI (v16)), some (eI (3))]) (s2 := [eI (3), eI (5)]) rfl rfl rfl ?_
  refine w_t (np := 29) (l2 := [some (eJ (zJ c)), none, some (eI (5)), some (eR 14), some (eI (5)), some (eI (v16)), some (eI (3))]) (s2 := [eI (8)]) rfl (b_iadd rfl) rfl ?_
  refine w_t (np := 30) (l2 := [some (eJ (zJ c)), none, some (eI (5)), some (eR 14), some (eI (5)), some (eI (v16)), some (eI (3))]) (s2 := [eR 14, eI (8)]) rfl (s_an rfl (by decide)) rfl ?_
  refine v_ln (np := 31) (v := 13) (n := 13) rfl rfl ⟨rfl, zI_lit (by decide)⟩ ?_
  rw [show zI 13 = 13 by decide]
  refine b_cge (t1 := 65) (t2 := 34) rfl rfl rfl rfl rfl (fun g => absurd g (by decide)) (fun g => ?_)
  clear g
  refine w_t (np := 36) (l2 := [some (eJ (zJ c)), none, some (eI (5)), some (eR 14), some (eI (5)), some (eI (v16)), some (eI (3))]) (s2 := [eI (v16)]) rfl rfl rfl ?_
  refine w_t (np := 37) (l2 := [some (eJ (zJ c)), none, some (eI (5)), some (eR 14), some (eI (5)), some (eI (v16)), some (eI (3))]) (s2 := [eJ (zJ c), eI (v16)]) rfl rfl rfl ?_
  refine w_t (np := 39) (l2 := [some (eJ (zJ c)), none, some (eI (5)), some (eR 14), some (eI (5)), some (eI (v16)), some (eI (3))]) (s2 := [eI (48), eJ (zJ c), eI (v16)]) rfl rfl rfl ?_
  refine w_t (np := 41) (l2 := [some (eJ (zJ c)), none, some (eI (5)), some (eR 14), some (eI (5)), some (eI (v16)), some (eI (3))]) (s2 := [eI (16), eI (48), eJ (zJ c), eI (v16)]) rfl rfl rfl ?_
  refine w_t (np := 43) (l2 := [some (eJ (zJ c)), none, some (eI (5)), some (eR 14), some (eI (5)), some (eI (v16)), some (eI (3))]) (s2 := [eI (3), eI (16), eI (48), eJ (zJ c), eI (v16)]) rfl rfl rfl ?_
  refine w_t (np := 44) (l2 := [some (eJ (zJ c)), none, some (eI (5)), some (eR 14), some (eI (5)), some (eI (v16)), some (eI (3))]) (s2 := [eI (48), eI (48), eJ (zJ c), eI (v16)]) rfl (b_imul rfl) rfl ?_
  refine w_t (np := 45) (l2 := [some (eJ (zJ c)), none, some (eI (5)), some (eR 14), some (eI (5)), some (eI (v16)), some (eI (3))]) (s2 := [eI (0), eJ (zJ c), eI (v16)]) rfl (b_isub rfl) rfl ?_
  refine w_lane (np := 48) (k := 0) (v := s) rfl rfl rfl rfl (by decide) rfl l3 ?_
  refine w_t (np := 49) (l2 := [some (eJ (zJ c)), none, some (eI (5)), some (eR 14), some (eI (5)), some (eI (v16)), some (eI (3))]) (s2 := [eR 14, eI (s), eI (v16)]) rfl (s_an rfl (by decide)) rfl ?_
  refine w_t (np := 51) (l2 := [some (eJ (zJ c)), none, some (eI (5)), some (eR 14), some (eI (5)), some (eI (v16)), some (eI (3))]) (s2 := [eI (5), eR 14, eI (s), eI (v16)]) rfl rfl rfl ?_
  refine w_t (np := 53) (l2 := [some (eJ (zJ c)), none, some (eI (5)), some (eR 14), some (eI (5)), some (eI (v16)), some (eI (3))]) (s2 := [eI (3), eI (5), eR 14, eI (s), eI (v16)]) rfl rfl rfl ?_
  refine w_t (np := 54) (l2 := [some (eJ (zJ c)), none, some (eI (5)), some (eR 14), some (eI (5)), some (eI (v16)), some (eI (3))]) (s2 := [eI (8), eR 14, eI (s), eI (v16)]) rfl (b_iadd rfl) rfl ?_
  refine w_al (np := 55) (v := 0) rfl rfl (s_al (j := 8) (by decide) (by decide) (by decide) rfl rfl (by decide) (by decide) rfl) ?_
  obtain ⟨v19, e20⟩ : ∃ zz : Int, zz = (s) * (0) := ⟨_, rfl⟩
  have b21 : 0 ≤ v19 ∧ v19 ≤ 0 := by omega
  refine w_t (np := 56) (l2 := [some (eJ (zJ c)), none, some (eI (5)), some (eR 14), some (eI (5)), some (eI (v16)), some (eI (3))]) (s2 := [eI (v19), eI (v16)]) rfl (b_imul (by rw [← e20]; exact ev_w_in (by omega) (by omega))) rfl ?_
  obtain ⟨v22, e23⟩ : ∃ zz : Int, zz = (v16) + (v19) := ⟨_, rfl⟩
  have b24 : -10010 ≤ v22 ∧ v22 ≤ 10010 := by omega
  refine w_t (np := 57) (l2 := [some (eJ (zJ c)), none, some (eI (5)), some (eR 14), some (eI (5)), some (eI (v16)), some (eI (3))]) (s2 := [eI (v22)]) rfl (b_iadd (by rw [← e23]; exact ev_w_in (by omega) (by omega))) rfl ?_
  refine w_t (np := 59) (l2 := [some (eJ (zJ c)), none, some (eI (5)), some (eR 14), some (eI (5)), some (eI (v22)), some (eI (3))]) (s2 := []) rfl rfl rfl ?_
  refine w_t (np := 62) (l2 := [some (eJ (zJ c)), none, some (eI (5)), some (eR 14), some (eI (5)), some (eI (v22)), some (eI (4))]) (s2 := []) rfl (b_iinc rfl rfl rfl) rfl ?_
  refine w_go (t1 := 18) rfl rfl ?_
  refine w_t (np := 20) (l2 := [some (eJ (zJ c)), none, some (eI (5)), some (eR 14), some (eI (5)), some (eI (v22)), some (eI (4))]) (s2 := [eI (4)]) rfl rfl rfl ?_
  refine w_t (np := 21) (l2 := [some (eJ (zJ c)), none, some (eI (5)), some (eR 14), some (eI (5)), some (eI (v22)), some (eI (4))]) (s2 := [eI (4), eI (4)]) rfl rfl rfl ?_
  refine b_cge (t1 := 65) (t2 := 24) rfl rfl rfl rfl rfl (fun g => ?_) (fun g => absurd g (by decide))
  clear g
  refine w_t (np := 67) (l2 := [some (eJ (zJ c)), none, some (eI (5)), some (eR 14), some (eI (5)), some (eI (v22)), some (eI (4))]) (s2 := [eI (v22)]) rfl rfl rfl ?_
  refine b_ri rfl rfl ?_
  have e9 : v22 = (-1) * q := by omega
  rw [e9]
  exact K
theorem t80_14_6 {L : Nat} {ρ : Nat → Int} {rc rs d : Nat} {f : eFr} {F : List eFr} {μ : eM} {c : Nat} {p q r s : Int} (l0 : zI (z_i2s (z_l2i (z_lshr c 48))) = p) (l1 : zI (z_i2s (z_l2i (z_lshr c 32))) = q) (l2 : zI (z_i2s (z_l2i (z_lshr c 16))) = r) (l3 : zI (z_i2s (z_l2i (z_lshr c 0))) = s) (hp : -10010 ≤ p ∧ p ≤ 10010) (hq : -10010 ≤ q ∧ q ≤ 10010) (hr : -10010 ≤ r ∧ r ≤ 10010) (hs : -10010 ≤ s ∧ s ≤ 10010) (K : ex_fine (dt_fg L ρ) rc rs (d + 1, (f.1, f.2.1, f.2.2.1, eI (1 * p + (-1) * r) :: f.2.2.2), F, μ)) : ex_fine (dt_fg L ρ) rc rs (d, (80, 0, [some (eJ (zJ c)), none, some (eI (6)), some (eR 14), none, none, none], []), f :: F, μ) := by
  refine w_t (np := 2) (l2 := [some (eJ (zJ c)), none, some (eI (6)), some (eR 14), none, none, none]) (s2 := [eI (10)]) rfl rfl rfl ?_
  refine w_t (np := 3) (l2 := [some (eJ (zJ c)), none, some (eI (6)), some (eR 14), none, none, none]) (s2 := [eI (6), eI (10)]) rfl rfl rfl ?_
  refine w_t (np := 5) (l2 := [some (eJ (zJ c)), none, some (eI (6)), some (eR 14), none, none, none]) (s2 := [eI (10), eI (6), eI (10)]) rfl rfl rfl ?_
  refine w_t (np := 6) (l2 := [some (eJ (zJ c)), none, some (eI (6)), some (eR 14), none, none, none]) (s2 := [eI (6), eI (10)]) rfl rfl rfl ?_
  refine w_t (np := 7) (l2 := [some (eJ (zJ c)), none, some (eI (6)), some (eR 14), none, none, none]) (s2 := [eI (4)]) rfl (b_isub rfl) rfl ?_
  refine w_t (np := 9) (l2 := [some (eJ (zJ c)), none, some (eI (6)), some (eR 14), none, none, none]) (s2 := [eI (10), eI (4)]) rfl rfl rfl ?_
  refine w_t (np := 10) (l2 := [some (eJ (zJ c)), none, some (eI (6)), some (eR 14), none, none, none]) (s2 := [eI (4)]) rfl rfl rfl ?_
  refine w_t (np := 12) (l2 := [some (eJ (zJ c)), none, some (eI (6)), some (eR 14), some (eI (4)), none, none]) (s2 := []) rfl rfl rfl ?_
  refine w_t (np := 13) (l2 := [some (eJ (zJ c)), none, some (eI (6)), some (eR 14), some (eI (4)), none, none]) (s2 := [eI (0)]) rfl rfl rfl ?_
  refine w_t (np := 15) (l2 := [some (eJ (zJ c)), none, some (eI (6)), some (eR 14), some (eI (4)), some (eI (0)), none]) (s2 := []) rfl rfl rfl ?_
  refine w_t (np := 16) (l2 := [some (eJ (zJ c)), none, some (eI (6)), some (eR 14), some (eI (4)), some (eI (0)), none]) (s2 := [eI (0)]) rfl rfl rfl ?_
  refine w_t (np := 18) (l2 := [some (eJ (zJ c)), none, some (eI (6)), some (eR 14), some (eI (4)), some (eI (0)), some (eI (0))]) (s2 := []) rfl rfl rfl ?_
  refine w_t (np := 20) (l2 := [some (eJ (zJ c)), none, some (eI (6)), some (eR 14), some (eI (4)), some (eI (0)), some (eI (0))]) (s2 := [eI (0)]) rfl rfl rfl ?_
  refine w_t (np := 21) (l2 := [some (eJ (zJ c)), none, some (eI (6)), some (eR 14), some (eI (4)), some (eI (0)), some (eI (0))]) (s2 := [eI (4), eI (0)]) rfl rfl rfl ?_
  refine b_cge (t1 := 65) (t2 := 24) rfl rfl rfl rfl rfl (fun g => absurd g (by decide)) (fun g => ?_)
  clear g
  refine w_t (np := 26) (l2 := [some (eJ (zJ c)), none, some (eI (6)), some (eR 14), some (eI (4)), some (eI (0)), some (eI (0))]) (s2 := [eI (4)]) rfl rfl rfl ?_
  refine w_t (np := 28) (l2 := [some (eJ (zJ c)), none, some (eI (6)), some (eR 14), some (eI (4)), some (eI (0)), some (eI (0))]) (s2 := [eI (0), eI (4)]) rfl rfl rfl ?_
  refine w_t (np := 29) (l2 := [some (eJ (zJ c)), none, some (eI (6)), some (eR 14), some (eI (4)), some (eI (0)), some (eI (0))]) (s2 := [eI (4)]) rfl (b_iadd rfl) rfl ?_
  refine w_t (np := 30) (l2 := [some (eJ (zJ c)), none, some (eI (6)), some (eR 14), some (eI (4)), some (eI (0)), some (eI (0))]) (s2 := [eR 14, eI (4)]) rfl (s_an rfl (by decide)) rfl ?_
  refine v_ln (np := 31) (v := 13) (n := 13) rfl rfl ⟨rfl, zI_lit (by decide)⟩ ?_
  rw [show zI 13 = 13 by decide]
  refine b_cge (t1 := 65) (t2 := 34) rfl rfl rfl rfl rfl (fun g => absurd g (by decide)) (fun g => ?_)
  clear g
  refine w_t (np := 36) (l2 := [some (eJ (zJ c)), none, some (eI (6)), some (eR 14), some (eI (4)), some (eI (0)), some (eI (0))]) (s2 := [eI (0)]) rfl rfl rfl ?_
  refine w_t (np := 37) (l2 := [some (eJ (zJ c)), none, some (eI (6)), some (eR 14), some (eI (4)), some (eI (0)), some (eI (0))]) (s2 := [eJ (zJ c), eI (0)]) rfl rfl rfl ?_
  refine w_t (np := 39) (l2 := [some (eJ (zJ c)), none, some (eI (6)), some (eR 14), some (eI (4)), some (eI (0)), some (eI (0))]) (s2 := [eI (48), eJ (zJ c), eI (0)]) rfl rfl rfl ?_
  refine w_t (np := 41) (l2 := [some (eJ (zJ c)), none, some (eI (6)), some (eR 14), some (eI (4)), some (eI (0)), some (eI (0))]) (s2 := [eI (16), eI (48), eJ (zJ c), eI (0)]) rfl rfl rfl ?_
  refine w_t (np := 43) (l2 := [some (eJ (zJ c)), none, some (eI (6)), some (eR 14), some (eI (4)), some (eI (0)), some (eI (0))]) (s2 := [eI (0), eI (16), eI (48), eJ (zJ c), eI (0)]) rfl rfl rfl ?_
  refine w_t (np := 44) (l2 := [some (eJ (zJ c)), none, some (eI (6)), some (eR 14), some (eI (4)), some (eI (0)), some (eI (0))]) (s2 := [eI (0), eI (48), eJ (zJ c), eI (0)]) rfl (b_imul rfl) rfl ?_
  refine w_t (np := 45) (l2 := [some (eJ (zJ c)), none, some (eI (6)), some (eR 14), some (eI (4)), some (eI (0)), some (eI (0))]) (s2 := [eI (48), eJ (zJ c), eI (0)]) rfl (b_isub rfl) rfl ?_
  refine w_lane (np := 48) (k := 48) (v := p) rfl rfl rfl rfl (by decide) rfl l0 ?_
  refine w_t (np := 49) (l2 := [some (eJ (zJ c)), none, some (eI (6)), some (eR 14), some (eI (4)), some (eI (0)), some (eI (0))]) (s2 := [eR 14, eI (p), eI (0)]) rfl (s_an rfl (by decide)) rfl ?_
  refine w_t (np := 51) (l2 := [some (eJ (zJ c)), none, some (eI (6)), some (eR 14), some (eI (4)), some (eI (0)), some (eI (0))]) (s2 := [eI (4), eR 14, eI (p), eI (0)]) rfl rfl rfl ?_
  refine w_t (np := 53) (l2 := [some (eJ (zJ c)), none, some (eI (6)), some (eR 14), some (eI (4)), some (eI (0)), some (eI (0))]) (s2 := [eI (0), eI (4), eR 14, eI (p), eI (0)]) rfl rfl rfl ?_
  refine w_t (np := 54) (l2 := [some (eJ (zJ c)), none, some (eI (6)), some (eR 14), some (eI (4)), some (eI (0)), some (eI (0))]) (s2 := [eI (4), eR 14, eI (p), eI (0)]) rfl (b_iadd rfl) rfl ?_
  refine w_al (np := 55) (v := 1) rfl rfl (s_al (j := 4) (by decide) (by decide) (by decide) rfl rfl (by decide) (by decide) rfl) ?_
  obtain ⟨v1, e2⟩ : ∃ zz : Int, zz = (p) * (1) := ⟨_, rfl⟩
  have b3 : -10010 ≤ v1 ∧ v1 ≤ 10010 := by omega
  refine w_t (np := 56) (l2 := [some (eJ (zJ c)), none, some (eI (6)), some (eR 14), some (eI (4)), some (eI (0)), some (eI (0))]) (s2 := [eI (v1), eI (0)]) rfl (b_imul (by rw [← e2]; exact ev_w_in (by omega) (by omega))) rfl ?_
  obtain ⟨v4, e5⟩ : ∃ zz : Int, zz = (0) + (v1) := ⟨_, rfl⟩
  have b6 : -10010 ≤ v4 ∧ v4 ≤ 10010 := by omega
  refine w_t (np := 57) (l2 := [some (eJ (zJ c)), none, some (eI (6)), some (eR 14), some (eI (4)), some (eI (0)), some (eI (0))]) (s2 := [eI (v4)]) rfl (b_iadd (by rw [← e5]; exact ev_w_in (by omega) (by omega))) rfl ?_
  refine w_t (np := 59) (l2 := [some (eJ (zJ c)), none, some (eI (6)), some (eR 14), some (eI (4)), some (eI (v4)), some (eI (0))]) (s2 := []) rfl rfl rfl ?_
  refine w_t (np := 62) (l2 := [some (eJ (zJ c)), none, some (eI (6)), some (eR 14), some (eI (4)), some (eI (v4)), some (eI (1))]) (s2 := []) rfl (b_iinc rfl rfl rfl) rfl ?_
  refine w_go (t1 := 18) rfl rfl ?_
  refine w_t (np := 20) (l2 := [some (eJ (zJ c)), none, some (eI (6)), some (eR 14), some (eI (4)), some (eI (v4)), some (eI (1))]) (s2 := [eI (1)]) rfl rfl rfl ?_
  refine w_t (np := 21) (l2 := [some (eJ (zJ c)), none, some (eI (6)), some (eR 14), some (eI (4)), some (eI (v4)), some (eI (1))]) (s2 := [eI (4), eI (1)]) rfl rfl rfl ?_
  refine b_cge (t1 := 65) (t2 := 24) rfl rfl rfl rfl rfl (fun g => absurd g (by decide)) (fun g => ?_)
  clear g
  refine w_t (np := 26) (l2 := [some (eJ (zJ c)), none, some (eI (6)), some (eR 14), some (eI (4)), some (eI (v4)), some (eI (1))]) (s2 := [eI (4)]) rfl rfl rfl ?_
  refine w_t (np := 28) (l2 := [some (eJ (zJ c)), none, some (eI (6)), some (eR 14), some (eI (4)), some (eI (v4)), some (eI (1))]) (s2 := [eI (1), eI (4)]) rfl rfl rfl ?_
  refine w_t (np := 29) (l2 := [some (eJ (zJ c)), none, some (eI (6)), some (eR 14), some (eI (4)), some (eI (v4)), some (eI (1))]) (s2 := [eI (5)]) rfl (b_iadd rfl) rfl ?_
  refine w_t (np := 30) (l2 := [some (eJ (zJ c)), none, some (eI (6)), some (eR 14), some (eI (4)), some (eI (v4)), some (eI (1))]) (s2 := [eR 14, eI (5)]) rfl (s_an rfl (by decide)) rfl ?_
  refine v_ln (np := 31) (v := 13) (n := 13) rfl rfl ⟨rfl, zI_lit (by decide)⟩ ?_
  rw [show zI 13 = 13 by decide]
  refine b_cge (t1 := 65) (t2 := 34) rfl rfl rfl rfl rfl (fun g => absurd g (by decide)) (fun g => ?_)
  clear g
  refine w_t (np := 36) (l2 := [some (eJ (zJ c)), none, some (eI (6)), some (eR 14), some (eI (4)), some (eI (v4)), some (eI (1))]) (s2 := [eI (v4)]) rfl rfl rfl ?_
  refine w_t (np := 37) (l2 := [some (eJ (zJ c)), none, some (eI (6)), some (eR 14), some (eI (4)), some (eI (v4)), some (eI (1))]) (s2 := [eJ (zJ c), eI (v4)]) rfl rfl rfl ?_
  refine w_t (np := 39) (l2 := [some (eJ (zJ c)), none, some (eI (6)), some (eR 14), some (eI (4)), some (eI (v4)), some (eI (1))]) (s2 := [eI (48), eJ (zJ c), eI (v4)]) rfl rfl rfl ?_
  refine w_t (np := 41) (l2 := [some (eJ (zJ c)), none, some (eI (6)), some (eR 14), some (eI (4)), some (eI (v4)), some (eI (1))]) (s2 := [eI (16), eI (48), eJ (zJ c), eI (v4)]) rfl rfl rfl ?_
  refine w_t (np := 43) (l2 := [some (eJ (zJ c)), none, some (eI (6)), some (eR 14), some (eI (4)), some (eI (v4)), some (eI (1))]) (s2 := [eI (1), eI (16), eI (48), eJ (zJ c), eI (v4)]) rfl rfl rfl ?_
  refine w_t (np := 44) (l2 := [some (eJ (zJ c)), none, some (eI (6)), some (eR 14), some (eI (4)), some (eI (v4)), some (eI (1))]) (s2 := [eI (16), eI (48), eJ (zJ c), eI (v4)]) rfl (b_imul rfl) rfl ?_
  refine w_t (np := 45) (l2 := [some (eJ (zJ c)), none, some (eI (6)), some (eR 14), some (eI (4)), some (eI (v4)), some (eI (1))]) (s2 := [eI (32), eJ (zJ c), eI (v4)]) rfl (b_isub rfl) rfl ?_
  refine w_lane (np := 48) (k := 32) (v := q) rfl rfl rfl rfl (by decide) rfl l1 ?_
  refine w_t (np := 49) (l2 := [some (eJ (zJ c)), none, some (eI (6)), some (eR 14), some (eI (4)), some (eI (v4)), some (eI (1))]) (s2 := [eR 14, eI (q), eI (v4)]) rfl (s_an rfl (by decide)) rfl ?_
  refine w_t (np := 51) (l2 := [some (eJ (zJ c)), none, some (eI (6)), some (eR 14), some (eI (4)), some (eI (v4)), some (eI (1))]) (s2 := [eI (4), eR 14, eI (q), eI (v4)]) rfl rfl rfl ?_
  refine w_t (np := 53) (l2 := [some (eJ (zJ c)), none, some (eI (6)), some (eR 14), some (eI (4)), some (eI (v4)), some (eI (1))]) (s2 := [eI (1), eI (4), eR 14, eI (q), eI (v4)]) rfl rfl rfl ?_
  refine w_t (np := 54) (l2 := [some (eJ (zJ c)), none, some (eI (6)), some (eR 14), some (eI (4)), some (eI (v4)), some (eI (1))]) (s2 := [eI (5), eR 14, eI (q), eI (v4)]) rfl (b_iadd rfl) rfl ?_
  refine w_al (np := 55) (v := 0) rfl rfl (s_al (j := 5) (by decide) (by decide) (by decide) rfl rfl (by decide) (by decide) rfl) ?_
  obtain ⟨v7, e8⟩ : ∃ zz : Int, zz = (q) * (0) := ⟨_, rfl⟩
  have b9 : 0 ≤ v7 ∧ v7 ≤ 0 := by omega
  refine w_t (np := 56) (l2 := [some (eJ (zJ c)), none, some (eI (6)), some (eR 14), some (eI (4)), some (eI (v4)), some (eI (1))]) (s2 := [eI (v7), eI (v4)]) rfl (b_imul (by rw [← e8]; exact ev_w_in (by omega) (by omega))) rfl ?_
  obtain ⟨v10, e11⟩ : ∃ zz : Int, zz = (v4) + (v7) := ⟨_, rfl⟩
  have b12 : -10010 ≤ v10 ∧ v10 ≤ 10010 := by omega
  refine w_t (np := 57) (l2 := [some (eJ (zJ c)), none, some (eI (6)), some (eR 14), some (eI (4)), some (eI (v4)), some (eI (1))]) (s2 := [eI (v10)]) rfl (b_iadd (by rw [← e11]; exact ev_w_in (by omega) (by omega))) rfl ?_
  refine w_t (np := 59) (l2 := [some (eJ (zJ c)), none, some (eI (6)), some (eR 14), some (eI (4)), some (eI (v10)), some (eI (1))]) (s2 := []) rfl rfl rfl ?_
  refine w_t (np := 62) (l2 := [some (eJ (zJ c)), none, some (eI (6)), some (eR 14), some (eI (4)), some (eI (v10)), some (eI (2))]) (s2 := []) rfl (b_iinc rfl rfl rfl) rfl ?_
  refine w_go (t1 := 18) rfl rfl ?_
  refine w_t (np := 20) (l2 := [some (eJ (zJ c)), none, some (eI (6)), some (eR 14), some (eI (4)), some (eI (v10)), some (eI (2))]) (s2 := [eI (2)]) rfl rfl rfl ?_
  refine w_t (np := 21) (l2 := [some (eJ (zJ c)), none, some (eI (6)), some (eR 14), some (eI (4)), some (eI (v10)), some (eI (2))]) (s2 := [eI (4), eI (2)]) rfl rfl rfl ?_
  refine b_cge (t1 := 65) (t2 := 24) rfl rfl rfl rfl rfl (fun g => absurd g (by decide)) (fun g => ?_)
  clear g
  refine w_t (np := 26) (l2 := [some (eJ (zJ c)), none, some (eI (6)), some (eR 14), some (eI (4)), some (eI (v10)), some (eI (2))]) (s2 := [eI (4)]) rfl rfl rfl ?_
  refine w_t (np := 28) (l2 := [some (eJ (zJ c)), none, some (eI (6)), some (eR 14), some (eI (4)), some (eI (v10)), some (eI (2))]) (s2 := [eI (2), eI (4)]) rfl rfl rfl ?_
  refine w_t (np := 29) (l2 := [some (eJ (zJ c)), none, some (eI (6)), some (eR 14), some (eI (4)), some (eI (v10)), some (eI (2))]) (s2 := [eI (6)]) rfl (b_iadd rfl) rfl ?_
  refine w_t (np := 30) (l2 := [some (eJ (zJ c)), none, some (eI (6)), some (eR 14), some (eI (4)), some (eI (v10)), some (eI (2))]) (s2 := [eR 14, eI (6)]) rfl (s_an rfl (by decide)) rfl ?_
  refine v_ln (np := 31) (v := 13) (n := 13) rfl rfl ⟨rfl, zI_lit (by decide)⟩ ?_
  rw [show zI 13 = 13 by decide]
  refine b_cge (t1 := 65) (t2 := 34) rfl rfl rfl rfl rfl (fun g => absurd g (by decide)) (fun g => ?_)
  clear g
  refine w_t (np := 36) (l2 := [some (eJ (zJ c)), none, some (eI (6)), some (eR 14), some (eI (4)), some (eI (v10)), some (eI (2))]) (s2 := [eI (v10)]) rfl rfl rfl ?_
  refine w_t (np := 37) (l2 := [some (eJ (zJ c)), none, some (eI (6)), some (eR 14), some (eI (4)), some (eI (v10)), some (eI (2))]) (s2 := [eJ (zJ c), eI (v10)]) rfl rfl rfl ?_
  refine w_t (np := 39) (l2 := [some (eJ (zJ c)), none, some (eI (6)), some (eR 14), some (eI (4)), some (eI (v10)), some (eI (2))]) (s2 := [eI (48), eJ (zJ c), eI (v10)]) rfl rfl rfl ?_
  refine w_t (np := 41) (l2 := [some (eJ (zJ c)), none, some (eI (6)), some (eR 14), some (eI (4)), some (eI (v10)), some (eI (2))]) (s2 := [eI (16), eI (48), eJ (zJ c), eI (v10)]) rfl rfl rfl ?_
  refine w_t (np := 43) (l2 := [some (eJ (zJ c)), none, some (eI (6)), some (eR 14), some (eI (4)), some (eI (v10)), some (eI (2))]) (s2 := [eI (2), eI (16), eI (48), eJ (zJ c), eI (v10)]) rfl rfl rfl ?_
  refine w_t (np := 44) (l2 := [some (eJ (zJ c)), none, some (eI (6)), some (eR 14), some (eI (4)), some (eI (v10)), some (eI (2))]) (s2 := [eI (32), eI (48), eJ (zJ c), eI (v10)]) rfl (b_imul rfl) rfl ?_
  refine w_t (np := 45) (l2 := [some (eJ (zJ c)), none, some (eI (6)), some (eR 14), some (eI (4)), some (eI (v10)), some (eI (2))]) (s2 := [eI (16), eJ (zJ c), eI (v10)]) rfl (b_isub rfl) rfl ?_
  refine w_lane (np := 48) (k := 16) (v := r) rfl rfl rfl rfl (by decide) rfl l2 ?_
  refine w_t (np := 49) (l2 := [some (eJ (zJ c)), none, some (eI (6)), some (eR 14), some (eI (4)), some (eI (v10)), some (eI (2))]) (s2 := [eR 14, eI (r), eI (v10)]) rfl (s_an rfl (by decide)) rfl ?_
  refine w_t (np := 51) (l2 := [some (eJ (zJ c)), none, some (eI (6)), some (eR 14), some (eI (4)), some (eI (v10)), some (eI (2))]) (s2 := [eI (4), eR 14, eI (r), eI (v10)]) rfl rfl rfl ?_
  refine w_t (np := 53) (l2 := [some (eJ (zJ c)), none, some (eI (6)), some (eR 14), some (eI (4)), some (eI (v10)), some (eI (2))]) (s2 := [eI (2), eI (4), eR 14, eI (r), eI (v10)]) rfl rfl rfl ?_
  refine w_t (np := 54) (l2 := [some (eJ (zJ c)), none, some (eI (6)), some (eR 14), some (eI (4)), some (eI (v10)), some (eI (2))]) (s2 := [eI (6), eR 14, eI (r), eI (v10)]) rfl (b_iadd rfl) rfl ?_
  refine w_al (np := 55) (v := -1) rfl rfl (s_al (j := 6) (by decide) (by decide) (by decide) rfl rfl (by decide) (by decide) rfl) ?_
  obtain ⟨v13, e14⟩ : ∃ zz : Int, zz = (r) * (-1) := ⟨_, rfl⟩
  have b15 : -10010 ≤ v13 ∧ v13 ≤ 10010 := by omega
  refine w_t (np := 56) (l2 := [some (eJ (zJ c)), none, some (eI (6)), some (eR 14), some (eI (4)), some (eI (v10)), some (eI (2))]) (s2 := [eI (v13), eI (v10)]) rfl (b_imul (by rw [← e14]; exact ev_w_in (by omega) (by omega))) rfl ?_
  obtain ⟨v16, e17⟩ : ∃ zz : Int, zz = (v10) + (v13) := ⟨_, rfl⟩
  have b18 : -20020 ≤ v16 ∧ v16 ≤ 20020 := by omega
  refine w_t (np := 57) (l2 := [some (eJ (zJ c)), none, some (eI (6)), some (eR 14), some (eI (4)), some (eI (v10)), some (eI (2))]) (s2 := [eI (v16)]) rfl (b_iadd (by rw [← e17]; exact ev_w_in (by omega) (by omega))) rfl ?_
  refine w_t (np := 59) (l2 := [some (eJ (zJ c)), none, some (eI (6)), some (eR 14), some (eI (4)), some (eI (v16)), some (eI (2))]) (s2 := []) rfl rfl rfl ?_
  refine w_t (np := 62) (l2 := [some (eJ (zJ c)), none, some (eI (6)), some (eR 14), some (eI (4)), some (eI (v16)), some (eI (3))]) (s2 := []) rfl (b_iinc rfl rfl rfl) rfl ?_
  refine w_go (t1 := 18) rfl rfl ?_
  refine w_t (np := 20) (l2 := [some (eJ (zJ c)), none, some (eI (6)), some (eR 14), some (eI (4)), some (eI (v16)), some (eI (3))]) (s2 := [eI (3)]) rfl rfl rfl ?_
  refine w_t (np := 21) (l2 := [some (eJ (zJ c)), none, some (eI (6)), some (eR 14), some (eI (4)), some (eI (v16)), some (eI (3))]) (s2 := [eI (4), eI (3)]) rfl rfl rfl ?_
  refine b_cge (t1 := 65) (t2 := 24) rfl rfl rfl rfl rfl (fun g => absurd g (by decide)) (fun g => ?_)
  clear g
  refine w_t (np := 26) (l2 := [some (eJ (zJ c)), none, some (eI (6)), some (eR 14), some (eI (4)), some (eI (v16)), some (eI (3))]) (s2 := [eI (4)]) rfl rfl rfl ?_
  refine w_t (np := 28) (l2 := [some (eJ (zJ c)), none, some (eI (6)), some (eR 14), some (eI (4)), some (eI (v16)), some (eI (3))]) (s2 := [eI (3), eI (4)]) rfl rfl rfl ?_
  refine w_t (np := 29) (l2 := [some (eJ (zJ c)), none, some (eI (6)), some (eR 14), some (eI (4)), some (eI (v16)), some (eI (3))]) (s2 := [eI (7)]) rfl (b_iadd rfl) rfl ?_
  refine w_t (np := 30) (l2 := [some (eJ (zJ c)), none, some (eI (6)), some (eR 14), some (eI (4)), some (eI (v16)), some (eI (3))]) (s2 := [eR 14, eI (7)]) rfl (s_an rfl (by decide)) rfl ?_
  refine v_ln (np := 31) (v := 13) (n := 13) rfl rfl ⟨rfl, zI_lit (by decide)⟩ ?_
  rw [show zI 13 = 13 by decide]
  refine b_cge (t1 := 65) (t2 := 34) rfl rfl rfl rfl rfl (fun g => absurd g (by decide)) (fun g => ?_)
  clear g
  refine w_t (np := 36) (l2 := [some (eJ (zJ c)), none, some (eI (6)), some (eR 14), some (eI (4)), some (eI (v16)), some (eI (3))]) (s2 := [eI (v16)]) rfl rfl rfl ?_
  refine w_t (np := 37) (l2 := [some (eJ (zJ c)), none, some (eI (6)), some (eR 14), some (eI (4)), some (eI (v16)), some (eI (3))]) (s2 := [eJ (zJ c), eI (v16)]) rfl rfl rfl ?_
  refine w_t (np := 39) (l2 := [some (eJ (zJ c)), none, some (eI (6)), some (eR 14), some (eI (4)), some (eI (v16)), some (eI (3))]) (s2 := [eI (48), eJ (zJ c), eI (v16)]) rfl rfl rfl ?_
  refine w_t (np := 41) (l2 := [some (eJ (zJ c)), none, some (eI (6)), some (eR 14), some (eI (4)), some (eI (v16)), some (eI (3))]) (s2 := [eI (16), eI (48), eJ (zJ c), eI (v16)]) rfl rfl rfl ?_
  refine w_t (np := 43) (l2 := [some (eJ (zJ c)), none, some (eI (6)), some (eR 14), some (eI (4)), some (eI (v16)), some (eI (3))]) (s2 := [eI (3), eI (16), eI (48), eJ (zJ c), eI (v16)]) rfl rfl rfl ?_
  refine w_t (np := 44) (l2 := [some (eJ (zJ c)), none, some (eI (6)), some (eR 14), some (eI (4)), some (eI (v16)), some (eI (3))]) (s2 := [eI (48), eI (48), eJ (zJ c), eI (v16)]) rfl (b_imul rfl) rfl ?_
  refine w_t (np := 45) (l2 := [some (eJ (zJ c)), none, some (eI (6)), some (eR 14), some (eI (4)), some (eI (v16)), some (eI (3))]) (s2 := [eI (0), eJ (zJ c), eI (v16)]) rfl (b_isub rfl) rfl ?_
  refine w_lane (np := 48) (k := 0) (v := s) rfl rfl rfl rfl (by decide) rfl l3 ?_
  refine w_t (np := 49) (l2 := [some (eJ (zJ c)), none, some (eI (6)), some (eR 14), some (eI (4)), some (eI (v16)), some (eI (3))]) (s2 := [eR 14, eI (s), eI (v16)]) rfl (s_an rfl (by decide)) rfl ?_
  refine w_t (np := 51) (l2 := [some (eJ (zJ c)), none, some (eI (6)), some (eR 14), some (eI (4)), some (eI (v16)), some (eI (3))]) (s2 := [eI (4), eR 14, eI (s), eI (v16)]) rfl rfl rfl ?_
  refine w_t (np := 53) (l2 := [some (eJ (zJ c)), none, some (eI (6)), some (eR 14), some (eI (4)), some (eI (v16)), some (eI (3))]) (s2 := [eI (3), eI (4), eR 14, eI (s), eI (v16)]) rfl rfl rfl ?_
  refine w_t (np := 54) (l2 := [some (eJ (zJ c)), none, some (eI (6)), some (eR 14), some (eI (4)), some (eI (v16)), some (eI (3))]) (s2 := [eI (7), eR 14, eI (s), eI (v16)]) rfl (b_iadd rfl) rfl ?_
  refine w_al (np := 55) (v := 0) rfl rfl (s_al (j := 7) (by decide) (by decide) (by decide) rfl rfl (by decide) (by decide) rfl) ?_
  obtain ⟨v19, e20⟩ : ∃ zz : Int, zz = (s) * (0) := ⟨_, rfl⟩
  have b21 : 0 ≤ v19 ∧ v19 ≤ 0 := by omega
  refine w_t (np := 56) (l2 := [some (eJ (zJ c)), none, some (eI (6)), some (eR 14), some (eI (4)), some (eI (v16)), some (eI (3))]) (s2 := [eI (v19), eI (v16)]) rfl (b_imul (by rw [← e20]; exact ev_w_in (by omega) (by omega))) rfl ?_
  obtain ⟨v22, e23⟩ : ∃ zz : Int, zz = (v16) + (v19) := ⟨_, rfl⟩
  have b24 : -20020 ≤ v22 ∧ v22 ≤ 20020 := by omega
  refine w_t (np := 57) (l2 := [some (eJ (zJ c)), none, some (eI (6)), some (eR 14), some (eI (4)), some (eI (v16)), some (eI (3))]) (s2 := [eI (v22)]) rfl (b_iadd (by rw [← e23]; exact ev_w_in (by omega) (by omega))) rfl ?_
  refine w_t (np := 59) (l2 := [some (eJ (zJ c)), none, some (eI (6)), some (eR 14), some (eI (4)), some (eI (v22)), some (eI (3))]) (s2 := []) rfl rfl rfl ?_
  refine w_t (np := 62) (l2 := [some (eJ (zJ c)), none, some (eI (6)), some (eR 14), some (eI (4)), some (eI (v22)), some (eI (4))]) (s2 := []) rfl (b_iinc rfl rfl rfl) rfl ?_
  refine w_go (t1 := 18) rfl rfl ?_
  refine w_t (np := 20) (l2 := [some (eJ (zJ c)), none, some (eI (6)), some (eR 14), some (eI (4)), some (eI (v22)), some (eI (4))]) (s2 := [eI (4)]) rfl rfl rfl ?_
  refine w_t (np := 21) (l2 := [some (eJ (zJ c)), none, some (eI (6)), some (eR 14), some (eI (4)), some (eI (v22)), some (eI (4))]) (s2 := [eI (4), eI (4)]) rfl rfl rfl ?_
  refine b_cge (t1 := 65) (t2 := 24) rfl rfl rfl rfl rfl (fun g => ?_) (fun g => absurd g (by decide))
  clear g
  refine w_t (np := 67) (l2 := [some (eJ (zJ c)), none, some (eI (6)), some (eR 14), some (eI (4)), some (eI (v22)), some (eI (4))]) (s2 := [eI (v22)]) rfl rfl rfl ?_
  refine b_ri rfl rfl ?_
  have e9 : v22 = 1 * p + (-1) * r := by omega
  rw [e9]
  exact K
theorem t80_14_7 {L : Nat} {ρ : Nat → Int} {rc rs d : Nat} {f : eFr} {F : List eFr} {μ : eM} {c : Nat} {p q r s : Int} (l0 : zI (z_i2s (z_l2i (z_lshr c 48))) = p) (l1 : zI (z_i2s (z_l2i (z_lshr c 32))) = q) (l2 : zI (z_i2s (z_l2i (z_lshr c 16))) = r) (l3 : zI (z_i2s (z_l2i (z_lshr c 0))) = s) (hp : -10010 ≤ p ∧ p ≤ 10010) (hq : -10010 ≤ q ∧ q ≤ 10010) (hr : -10010 ≤ r ∧ r ≤ 10010) (hs : -10010 ≤ s ∧ s ≤ 10010) (K : ex_fine (dt_fg L ρ) rc rs (d + 1, (f.1, f.2.1, f.2.2.1, eI (1 * q + (-1) * s) :: f.2.2.2), F, μ)) : ex_fine (dt_fg L ρ) rc rs (d, (80, 0, [some (eJ (zJ c)), none, some (eI (7)), some (eR 14), none, none, none], []), f :: F, μ) := by
  refine w_t (np := 2) (l2 := [some (eJ (zJ c)), none, some (eI (7)), some (eR 14), none, none, none]) (s2 := [eI (10)]) rfl rfl rfl ?_
  refine w_t (np := 3) (l2 := [some (eJ (zJ c)), none, some (eI (7)), some (eR 14), none, none, none]) (s2 := [eI (7), eI (10)]) rfl rfl rfl ?_
  refine w_t (np := 5) (l2 := [some (eJ (zJ c)), none, some (eI (7)), some (eR 14), none, none, none]) (s2 := [eI (10), eI (7), eI (10)]) rfl rfl rfl ?_
  refine w_t (np := 6) (l2 := [some (eJ (zJ c)), none, some (eI (7)), some (eR 14), none, none, none]) (s2 := [eI (7), eI (10)]) rfl rfl rfl ?_
  refine w_t (np := 7) (l2 := [some (eJ (zJ c)), none, some (eI (7)), some (eR 14), none, none, none]) (s2 := [eI (3)]) rfl (b_isub rfl) rfl ?_
  refine w_t (np := 9) (l2 := [some (eJ (zJ c)), none, some (eI (7)), some (eR 14), none, none, none]) (s2 := [eI (10), eI (3)]) rfl rfl rfl ?_
  refine w_t (np := 10) (l2 := [some (eJ (zJ c)), none, some (eI (7)), some (eR 14), none, none, none]) (s2 := [eI (3)]) rfl rfl rfl ?_
  refine w_t (np := 12) (l2 := [some (eJ (zJ c)), none, some (eI (7)), some (eR 14), some (eI (3)), none, none]) (s2 := []) rfl rfl rfl ?_
  refine w_t (np := 13) (l2 := [some (eJ (zJ c)), none, some (eI (7)), some (eR 14), some (eI (3)), none, none]) (s2 := [eI (0)]) rfl rfl rfl ?_
  refine w_t (np := 15) (l2 := [some (eJ (zJ c)), none, some (eI (7)), some (eR 14), some (eI (3)), some (eI (0)), none]) (s2 := []) rfl rfl rfl ?_
  refine w_t (np := 16) (l2 := [some (eJ (zJ c)), none, some (eI (7)), some (eR 14), some (eI (3)), some (eI (0)), none]) (s2 := [eI (0)]) rfl rfl rfl ?_
  refine w_t (np := 18) (l2 := [some (eJ (zJ c)), none, some (eI (7)), some (eR 14), some (eI (3)), some (eI (0)), some (eI (0))]) (s2 := []) rfl rfl rfl ?_
  refine w_t (np := 20) (l2 := [some (eJ (zJ c)), none, some (eI (7)), some (eR 14), some (eI (3)), some (eI (0)), some (eI (0))]) (s2 := [eI (0)]) rfl rfl rfl ?_
  refine w_t (np := 21) (l2 := [some (eJ (zJ c)), none, some (eI (7)), some (eR 14), some (eI (3)), some (eI (0)), some (eI (0))]) (s2 := [eI (4), eI (0)]) rfl rfl rfl ?_
  refine b_cge (t1 := 65) (t2 := 24) rfl rfl rfl rfl rfl (fun g => absurd g (by decide)) (fun g => ?_)
  clear g
  refine w_t (np := 26) (l2 := [some (eJ (zJ c)), none, some (eI (7)), some (eR 14), some (eI (3)), some (eI (0)), some (eI (0))]) (s2 := [eI (3)]) rfl rfl rfl ?_
  refine w_t (np := 28) (l2 := [some (eJ (zJ c)), none, some (eI (7)), some (eR 14), some (eI (3)), some (eI (0)), some (eI (0))]) (s2 := [eI (0), eI (3)]) rfl rfl rfl ?_
  refine w_t (np := 29) (l2 := [some (eJ (zJ c)), none, some (eI (7)), some (eR 14), some (eI (3)), some (eI (0)), some (eI (0))]) (s2 := [eI (3)]) rfl (b_iadd rfl) rfl ?_
  refine w_t (np := 30) (l2 := [some (eJ (zJ c)), none, some (eI (7)), some (eR 14), some (eI (3)), some (eI (0)), some (eI (0))]) (s2 := [eR 14, eI (3)]) rfl (s_an rfl (by decide)) rfl ?_
  refine v_ln (np := 31) (v := 13) (n := 13) rfl rfl ⟨rfl, zI_lit (by decide)⟩ ?_
  rw [show zI 13 = 13 by decide]
  refine b_cge (t1 := 65) (t2 := 34) rfl rfl rfl rfl rfl (fun g => absurd g (by decide)) (fun g => ?_)
  clear g
  refine w_t (np := 36) (l2 := [some (eJ (zJ c)), none, some (eI (7)), some (eR 14), some (eI (3)), some (eI (0)), some (eI (0))]) (s2 := [eI (0)]) rfl rfl rfl ?_
  refine w_t (np := 37) (l2 := [some (eJ (zJ c)), none, some (eI (7)), some (eR 14), some (eI (3)), some (eI (0)), some (eI (0))]) (s2 := [eJ (zJ c), eI (0)]) rfl rfl rfl ?_
  refine w_t (np := 39) (l2 := [some (eJ (zJ c)), none, some (eI (7)), some (eR 14), some (eI (3)), some (eI (0)), some (eI (0))]) (s2 := [eI (48), eJ (zJ c), eI (0)]) rfl rfl rfl ?_
  refine w_t (np := 41) (l2 := [some (eJ (zJ c)), none, some (eI (7)), some (eR 14), some (eI (3)), some (eI (0)), some (eI (0))]) (s2 := [eI (16), eI (48), eJ (zJ c), eI (0)]) rfl rfl rfl ?_
  refine w_t (np := 43) (l2 := [some (eJ (zJ c)), none, some (eI (7)), some (eR 14), some (eI (3)), some (eI (0)), some (eI (0))]) (s2 := [eI (0), eI (16), eI (48), eJ (zJ c), eI (0)]) rfl rfl rfl ?_
  refine w_t (np := 44) (l2 := [some (eJ (zJ c)), none, some (eI (7)), some (eR 14), some (eI (3)), some (eI (0)), some (eI (0))]) (s2 := [eI (0), eI (48), eJ (zJ c), eI (0)]) rfl (b_imul rfl) rfl ?_
  refine w_t (np := 45) (l2 := [some (eJ (zJ c)), none, some (eI (7)), some (eR 14), some (eI (3)), some (eI (0)), some (eI (0))]) (s2 := [eI (48), eJ (zJ c), eI (0)]) rfl (b_isub rfl) rfl ?_
  refine w_lane (np := 48) (k := 48) (v := p) rfl rfl rfl rfl (by decide) rfl l0 ?_
  refine w_t (np := 49) (l2 := [some (eJ (zJ c)), none, some (eI (7)), some (eR 14), some (eI (3)), some (eI (0)), some (eI (0))]) (s2 := [eR 14, eI (p), eI (0)]) rfl (s_an rfl (by decide)) rfl ?_
  refine w_t (np := 51) (l2 := [some (eJ (zJ c)), none, some (eI (7)), some (eR 14), some (eI (3)), some (eI (0)), some (eI (0))]) (s2 := [eI (3), eR 14, eI (p), eI (0)]) rfl rfl rfl ?_
  refine w_t (np := 53) (l2 := [some (eJ (zJ c)), none, some (eI (7)), some (eR 14), some (eI (3)), some (eI (0)), some (eI (0))]) (s2 := [eI (0), eI (3), eR 14, eI (p), eI (0)]) rfl rfl rfl ?_
  refine w_t (np := 54) (l2 := [some (eJ (zJ c)), none, some (eI (7)), some (eR 14), some (eI (3)), some (eI (0)), some (eI (0))]) (s2 := [eI (3), eR 14, eI (p), eI (0)]) rfl (b_iadd rfl) rfl ?_
  refine w_al (np := 55) (v := 0) rfl rfl (s_al (j := 3) (by decide) (by decide) (by decide) rfl rfl (by decide) (by decide) rfl) ?_
  obtain ⟨v1, e2⟩ : ∃ zz : Int, zz = (p) * (0) := ⟨_, rfl⟩
  have b3 : 0 ≤ v1 ∧ v1 ≤ 0 := by omega
  refine w_t (np := 56) (l2 := [some (eJ (zJ c)), none, some (eI (7)), some (eR 14), some (eI (3)), some (eI (0)), some (eI (0))]) (s2 := [eI (v1), eI (0)]) rfl (b_imul (by rw [← e2]; exact ev_w_in (by omega) (by omega))) rfl ?_
  obtain ⟨v4, e5⟩ : ∃ zz : Int, zz = (0) + (v1) := ⟨_, rfl⟩
  have b6 : 0 ≤ v4 ∧ v4 ≤ 0 := by omega
  refine w_t (np := 57) (l2 := [some (eJ (zJ c)), none, some (eI (7)), some (eR 14), some (eI (3)), some (eI (0)), some (eI (0))]) (s2 := [eI (v4)]) rfl (b_iadd (by rw [← e5]; exact ev_w_in (by omega) (by omega))) rfl ?_
  refine w_t (np := 59) (l2 := [some (eJ (zJ c)), none, some (eI (7)), some (eR 14), some (eI (3)), some (eI (v4)), some (eI (0))]) (s2 := []) rfl rfl rfl ?_
  refine w_t (np := 62) (l2 := [some (eJ (zJ c)), none, some (eI (7)), some (eR 14), some (eI (3)), some (eI (v4)), some (eI (1))]) (s2 := []) rfl (b_iinc rfl rfl rfl) rfl ?_
  refine w_go (t1 := 18) rfl rfl ?_
  refine w_t (np := 20) (l2 := [some (eJ (zJ c)), none, some (eI (7)), some (eR 14), some (eI (3)), some (eI (v4)), some (eI (1))]) (s2 := [eI (1)]) rfl rfl rfl ?_
  refine w_t (np := 21) (l2 := [some (eJ (zJ c)), none, some (eI (7)), some (eR 14), some (eI (3)), some (eI (v4)), some (eI (1))]) (s2 := [eI (4), eI (1)]) rfl rfl rfl ?_
  refine b_cge (t1 := 65) (t2 := 24) rfl rfl rfl rfl rfl (fun g => absurd g (by decide)) (fun g => ?_)
  clear g
  refine w_t (np := 26) (l2 := [some (eJ (zJ c)), none, some (eI (7)), some (eR 14), some (eI (3)), some (eI (v4)), some (eI (1))]) (s2 := [eI (3)]) rfl rfl rfl ?_
  refine w_t (np := 28) (l2 := [some (eJ (zJ c)), none, some (eI (7)), some (eR 14), some (eI (3)), some (eI (v4)), some (eI (1))]) (s2 := [eI (1), eI (3)]) rfl rfl rfl ?_
  refine w_t (np := 29) (l2 := [some (eJ (zJ c)), none, some (eI (7)), some (eR 14), some (eI (3)), some (eI (v4)), some (eI (1))]) (s2 := [eI (4)]) rfl (b_iadd rfl) rfl ?_
  refine w_t (np := 30) (l2 := [some (eJ (zJ c)), none, some (eI (7)), some (eR 14), some (eI (3)), some (eI (v4)), some (eI (1))]) (s2 := [eR 14, eI (4)]) rfl (s_an rfl (by decide)) rfl ?_
  refine v_ln (np := 31) (v := 13) (n := 13) rfl rfl ⟨rfl, zI_lit (by decide)⟩ ?_
  rw [show zI 13 = 13 by decide]
  refine b_cge (t1 := 65) (t2 := 34) rfl rfl rfl rfl rfl (fun g => absurd g (by decide)) (fun g => ?_)
  clear g
  refine w_t (np := 36) (l2 := [some (eJ (zJ c)), none, some (eI (7)), some (eR 14), some (eI (3)), some (eI (v4)), some (eI (1))]) (s2 := [eI (v4)]) rfl rfl rfl ?_
  refine w_t (np := 37) (l2 := [some (eJ (zJ c)), none, some (eI (7)), some (eR 14), some (eI (3)), some (eI (v4)), some (eI (1))]) (s2 := [eJ (zJ c), eI (v4)]) rfl rfl rfl ?_
  refine w_t (np := 39) (l2 := [some (eJ (zJ c)), none, some (eI (7)), some (eR 14), some (eI (3)), some (eI (v4)), some (eI (1))]) (s2 := [eI (48), eJ (zJ c), eI (v4)]) rfl rfl rfl ?_
  refine w_t (np := 41) (l2 := [some (eJ (zJ c)), none, some (eI (7)), some (eR 14), some (eI (3)), some (eI (v4)), some (eI (1))]) (s2 := [eI (16), eI (48), eJ (zJ c), eI (v4)]) rfl rfl rfl ?_
  refine w_t (np := 43) (l2 := [some (eJ (zJ c)), none, some (eI (7)), some (eR 14), some (eI (3)), some (eI (v4)), some (eI (1))]) (s2 := [eI (1), eI (16), eI (48), eJ (zJ c), eI (v4)]) rfl rfl rfl ?_
  refine w_t (np := 44) (l2 := [some (eJ (zJ c)), none, some (eI (7)), some (eR 14), some (eI (3)), some (eI (v4)), some (eI (1))]) (s2 := [eI (16), eI (48), eJ (zJ c), eI (v4)]) rfl (b_imul rfl) rfl ?_
  refine w_t (np := 45) (l2 := [some (eJ (zJ c)), none, some (eI (7)), some (eR 14), some (eI (3)), some (eI (v4)), some (eI (1))]) (s2 := [eI (32), eJ (zJ c), eI (v4)]) rfl (b_isub rfl) rfl ?_
  refine w_lane (np := 48) (k := 32) (v := q) rfl rfl rfl rfl (by decide) rfl l1 ?_
  refine w_t (np := 49) (l2 := [some (eJ (zJ c)), none, some (eI (7)), some (eR 14), some (eI (3)), some (eI (v4)), some (eI (1))]) (s2 := [eR 14, eI (q), eI (v4)]) rfl (s_an rfl (by decide)) rfl ?_
  refine w_t (np := 51) (l2 := [some (eJ (zJ c)), none, some (eI (7)), some (eR 14), some (eI (3)), some (eI (v4)), some (eI (1))]) (s2 := [eI (3), eR 14, eI (q), eI (v4)]) rfl rfl rfl ?_
  refine w_t (np := 53) (l2 := [some (eJ (zJ c)), none, some (eI (7)), some (eR 14), some (eI (3)), some (eI (v4)), some (eI (1))]) (s2 := [eI (1), eI (3), eR 14, eI (q), eI (v4)]) rfl rfl rfl ?_
  refine w_t (np := 54) (l2 := [some (eJ (zJ c)), none, some (eI (7)), some (eR 14), some (eI (3)), some (eI (v4)), some (eI (1))]) (s2 := [eI (4), eR 14, eI (q), eI (v4)]) rfl (b_iadd rfl) rfl ?_
  refine w_al (np := 55) (v := 1) rfl rfl (s_al (j := 4) (by decide) (by decide) (by decide) rfl rfl (by decide) (by decide) rfl) ?_
  obtain ⟨v7, e8⟩ : ∃ zz : Int, zz = (q) * (1) := ⟨_, rfl⟩
  have b9 : -10010 ≤ v7 ∧ v7 ≤ 10010 := by omega
  refine w_t (np := 56) (l2 := [some (eJ (zJ c)), none, some (eI (7)), some (eR 14), some (eI (3)), some (eI (v4)), some (eI (1))]) (s2 := [eI (v7), eI (v4)]) rfl (b_imul (by rw [← e8]; exact ev_w_in (by omega) (by omega))) rfl ?_
  obtain ⟨v10, e11⟩ : ∃ zz : Int, zz = (v4) + (v7) := ⟨_, rfl⟩
  have b12 : -10010 ≤ v10 ∧ v10 ≤ 10010 := by omega
  refine w_t (np := 57) (l2 := [some (eJ (zJ c)), none, some (eI (7)), some (eR 14), some (eI (3)), some (eI (v4)), some (eI (1))]) (s2 := [eI (v10)]) rfl (b_iadd (by rw [← e11]; exact ev_w_in (by omega) (by omega))) rfl ?_
  refine w_t (np := 59) (l2 := [some (eJ (zJ c)), none, some (eI (7)), some (eR 14), some (eI (3)), some (eI (v10)), some (eI (1))]) (s2 := []) rfl rfl rfl ?_
  refine w_t (np := 62) (l2 := [some (eJ (zJ c)), none, some (eI (7)), some (eR 14), some (eI (3)), some (eI (v10)), some (eI (2))]) (s2 := []) rfl (b_iinc rfl rfl rfl) rfl ?_
  refine w_go (t1 := 18) rfl rfl ?_
  refine w_t (np := 20) (l2 := [some (eJ (zJ c)), none, some (eI (7)), some (eR 14), some (eI (3)), some (eI (v10)), some (eI (2))]) (s2 := [eI (2)]) rfl rfl rfl ?_
  refine w_t (np := 21) (l2 := [some (eJ (zJ c)), none, some (eI (7)), some (eR 14), some (eI (3)), some (eI (v10)), some (eI (2))]) (s2 := [eI (4), eI (2)]) rfl rfl rfl ?_
  refine b_cge (t1 := 65) (t2 := 24) rfl rfl rfl rfl rfl (fun g => absurd g (by decide)) (fun g => ?_)
  clear g
  refine w_t (np := 26) (l2 := [some (eJ (zJ c)), none, some (eI (7)), some (eR 14), some (eI (3)), some (eI (v10)), some (eI (2))]) (s2 := [eI (3)]) rfl rfl rfl ?_
  refine w_t (np := 28) (l2 := [some (eJ (zJ c)), none, some (eI (7)), some (eR 14), some (eI (3)), some (eI (v10)), some (eI (2))]) (s2 := [eI (2), eI (3)]) rfl rfl rfl ?_
  refine w_t (np := 29) (l2 := [some (eJ (zJ c)), none, some (eI (7)), some (eR 14), some (eI (3)), some (eI (v10)), some (eI (2))]) (s2 := [eI (5)]) rfl (b_iadd rfl) rfl ?_
  refine w_t (np := 30) (l2 := [some (eJ (zJ c)), none, some (eI (7)), some (eR 14), some (eI (3)), some (eI (v10)), some (eI (2))]) (s2 := [eR 14, eI (5)]) rfl (s_an rfl (by decide)) rfl ?_
  refine v_ln (np := 31) (v := 13) (n := 13) rfl rfl ⟨rfl, zI_lit (by decide)⟩ ?_
  rw [show zI 13 = 13 by decide]
  refine b_cge (t1 := 65) (t2 := 34) rfl rfl rfl rfl rfl (fun g => absurd g (by decide)) (fun g => ?_)
  clear g
  refine w_t (np := 36) (l2 := [some (eJ (zJ c)), none, some (eI (7)), some (eR 14), some (eI (3)), some (eI (v10)), some (eI (2))]) (s2 := [eI (v10)]) rfl rfl rfl ?_
  refine w_t (np := 37) (l2 := [some (eJ (zJ c)), none, some (eI (7)), some (eR 14), some (eI (3)), some (eI (v10)), some (eI (2))]) (s2 := [eJ (zJ c), eI (v10)]) rfl rfl rfl ?_
  refine w_t (np := 39) (l2 := [some (eJ (zJ c)), none, some (eI (7)), some (eR 14), some (eI (3)), some (eI (v10)), some (eI (2))]) (s2 := [eI (48), eJ (zJ c), eI (v10)]) rfl rfl rfl ?_
  refine w_t (np := 41) (l2 := [some (eJ (zJ c)), none, some (eI (7)), some (eR 14), some (eI (3)), some (eI (v10)), some (eI (2))]) (s2 := [eI (16), eI (48), eJ (zJ c), eI (v10)]) rfl rfl rfl ?_
  refine w_t (np := 43) (l2 := [some (eJ (zJ c)), none, some (eI (7)), some (eR 14), some (eI (3)), some (eI (v10)), some (eI (2))]) (s2 := [eI (2), eI (16), eI (48), eJ (zJ c), eI (v10)]) rfl rfl rfl ?_
  refine w_t (np := 44) (l2 := [some (eJ (zJ c)), none, some (eI (7)), some (eR 14), some (eI (3)), some (eI (v10)), some (eI (2))]) (s2 := [eI (32), eI (48), eJ (zJ c), eI (v10)]) rfl (b_imul rfl) rfl ?_
  refine w_t (np := 45) (l2 := [some (eJ (zJ c)), none, some (eI (7)), some (eR 14), some (eI (3)), some (eI (v10)), some (eI (2))]) (s2 := [eI (16), eJ (zJ c), eI (v10)]) rfl (b_isub rfl) rfl ?_
  refine w_lane (np := 48) (k := 16) (v := r) rfl rfl rfl rfl (by decide) rfl l2 ?_
  refine w_t (np := 49) (l2 := [some (eJ (zJ c)), none, some (eI (7)), some (eR 14), some (eI (3)), some (eI (v10)), some (eI (2))]) (s2 := [eR 14, eI (r), eI (v10)]) rfl (s_an rfl (by decide)) rfl ?_
  refine w_t (np := 51) (l2 := [some (eJ (zJ c)), none, some (eI (7)), some (eR 14), some (eI (3)), some (eI (v10)), some (eI (2))]) (s2 := [eI (3), eR 14, eI (r), eI (v10)]) rfl rfl rfl ?_
  refine w_t (np := 53) (l2 := [some (eJ (zJ c)), none, some (eI (7)), some (eR 14), some (eI (3)), some (eI (v10)), some (eI (2))]) (s2 := [eI (2), eI (3), eR 14, eI (r), eI (v10)]) rfl rfl rfl ?_
  refine w_t (np := 54) (l2 := [some (eJ (zJ c)), none, some (eI (7)), some (eR 14), some (eI (3)), some (eI (v10)), some (eI (2))]) (s2 := [eI (5), eR 14, eI (r), eI (v10)]) rfl (b_iadd rfl) rfl ?_
  refine w_al (np := 55) (v := 0) rfl rfl (s_al (j := 5) (by decide) (by decide) (by decide) rfl rfl (by decide) (by decide) rfl) ?_
  obtain ⟨v13, e14⟩ : ∃ zz : Int, zz = (r) * (0) := ⟨_, rfl⟩
  have b15 : 0 ≤ v13 ∧ v13 ≤ 0 := by omega
  refine w_t (np := 56) (l2 := [some (eJ (zJ c)), none, some (eI (7)), some (eR 14), some (eI (3)), some (eI (v10)), some (eI (2))]) (s2 := [eI (v13), eI (v10)]) rfl (b_imul (by rw [← e14]; exact ev_w_in (by omega) (by omega))) rfl ?_
  obtain ⟨v16, e17⟩ : ∃ zz : Int, zz = (v10) + (v13) := ⟨_, rfl⟩
  have b18 : -10010 ≤ v16 ∧ v16 ≤ 10010 := by omega
  refine w_t (np := 57) (l2 := [some (eJ (zJ c)), none, some (eI (7)), some (eR 14), some (eI (3)), some (eI (v10)), some (eI (2))]) (s2 := [eI (v16)]) rfl (b_iadd (by rw [← e17]; exact ev_w_in (by omega) (by omega))) rfl ?_
  refine w_t (np := 59) (l2 := [some (eJ (zJ c)), none, some (eI (7)), some (eR 14), some (eI (3)), some (eI (v16)), some (eI (2))]) (s2 := []) rfl rfl rfl ?_
  refine w_t (np := 62) (l2 := [some (eJ (zJ c)), none, some (eI (7)), some (eR 14), some (eI (3)), some (eI (v16)), some (eI (3))]) (s2 := []) rfl (b_iinc rfl rfl rfl) rfl ?_
  refine w_go (t1 := 18) rfl rfl ?_
  refine w_t (np := 20) (l2 := [some (eJ (zJ c)), none, some (eI (7)), some (eR 14), some (eI (3)), some (eI (v16)), some (eI (3))]) (s2 := [eI (3)]) rfl rfl rfl ?_
  refine w_t (np := 21) (l2 := [some (eJ (zJ c)), none, some (eI (7)), some (eR 14), some (eI (3)), some (eI (v16)), some (eI (3))]) (s2 := [eI (4), eI (3)]) rfl rfl rfl ?_
  refine b_cge (t1 := 65) (t2 := 24) rfl rfl rfl rfl rfl (fun g => absurd g (by decide)) (fun g => ?_)
  clear g
  refine w_t (np := 26) (l2 := [some (eJ (zJ c)), none, some (eI (7)), some (eR 14), some (eI (3)), some (eI (v16)), some (eI (3))]) (s2 := [eI (3)]) rfl rfl rfl ?_
  refine w_t (np := 28) (l2 := [some (eJ (zJ c)), none, some (eI (7)), some (eR 14), some (eI (3)), some (eI (v16)), some (eI (3))]) (s2 := [eI (3), eI (3)]) rfl rfl rfl ?_
  refine w_t (np := 29) (l2 := [some (eJ (zJ c)), none, some (eI (7)), some (eR 14), some (eI (3)), some (eI (v16)), some (eI (3))]) (s2 := [eI (6)]) rfl (b_iadd rfl) rfl ?_
  refine w_t (np := 30) (l2 := [some (eJ (zJ c)), none, some (eI (7)), some (eR 14), some (eI (3)), some (eI (v16)), some (eI (3))]) (s2 := [eR 14, eI (6)]) rfl (s_an rfl (by decide)) rfl ?_
  refine v_ln (np := 31) (v := 13) (n := 13) rfl rfl ⟨rfl, zI_lit (by decide)⟩ ?_
  rw [show zI 13 = 13 by decide]
  refine b_cge (t1 := 65) (t2 := 34) rfl rfl rfl rfl rfl (fun g => absurd g (by decide)) (fun g => ?_)
  clear g
  refine w_t (np := 36) (l2 := [some (eJ (zJ c)), none, some (eI (7)), some (eR 14), some (eI (3)), some (eI (v16)), some (eI (3))]) (s2 := [eI (v16)]) rfl rfl rfl ?_
  refine w_t (np := 37) (l2 := [some (eJ (zJ c)), none, some (eI (7)), some (eR 14), some (eI (3)), some (eI (v16)), some (eI (3))]) (s2 := [eJ (zJ c), eI (v16)]) rfl rfl rfl ?_
  refine w_t (np := 39) (l2 := [some (eJ (zJ c)), none, some (eI (7)), some (eR 14), some (eI (3)), some (eI (v16)), some (eI (3))]) (s2 := [eI (48), eJ (zJ c), eI (v16)]) rfl rfl rfl ?_
  refine w_t (np := 41) (l2 := [some (eJ (zJ c)), none, some (eI (7)), some (eR 14), some (eI (3)), some (eI (v16)), some (eI (3))]) (s2 := [eI (16), eI (48), eJ (zJ c), eI (v16)]) rfl rfl rfl ?_
  refine w_t (np := 43) (l2 := [some (eJ (zJ c)), none, some (eI (7)), some (eR 14), some (eI (3)), some (eI (v16)), some (eI (3))]) (s2 := [eI (3), eI (16), eI (48), eJ (zJ c), eI (v16)]) rfl rfl rfl ?_
  refine w_t (np := 44) (l2 := [some (eJ (zJ c)), none, some (eI (7)), some (eR 14), some (eI (3)), some (eI (v16)), some (eI (3))]) (s2 := [eI (48), eI (48), eJ (zJ c), eI (v16)]) rfl (b_imul rfl) rfl ?_
  refine w_t (np := 45) (l2 := [some (eJ (zJ c)), none, some (eI (7)), some (eR 14), some (eI (3)), some (eI (v16)), some (eI (3))]) (s2 := [eI (0), eJ (zJ c), eI (v16)]) rfl (b_isub rfl) rfl ?_
  refine w_lane (np := 48) (k := 0) (v := s) rfl rfl rfl rfl (by decide) rfl l3 ?_
  refine w_t (np := 49) (l2 := [some (eJ (zJ c)), none, some (eI (7)), some (eR 14), some (eI (3)), some (eI (v16)), some (eI (3))]) (s2 := [eR 14, eI (s), eI (v16)]) rfl (s_an rfl (by decide)) rfl ?_
  refine w_t (np := 51) (l2 := [some (eJ (zJ c)), none, some (eI (7)), some (eR 14), some (eI (3)), some (eI (v16)), some (eI (3))]) (s2 := [eI (3), eR 14, eI (s), eI (v16)]) rfl rfl rfl ?_
  refine w_t (np := 53) (l2 := [some (eJ (zJ c)), none, some (eI (7)), some (eR 14), some (eI (3)), some (eI (v16)), some (eI (3))]) (s2 := [eI (3), eI (3), eR 14, eI (s), eI (v16)]) rfl rfl rfl ?_
  refine w_t (np := 54) (l2 := [some (eJ (zJ c)), none, some (eI (7)), some (eR 14), some (eI (3)), some (eI (v16)), some (eI (3))]) (s2 := [eI (6), eR 14, eI (s), eI (v16)]) rfl (b_iadd rfl) rfl ?_
  refine w_al (np := 55) (v := -1) rfl rfl (s_al (j := 6) (by decide) (by decide) (by decide) rfl rfl (by decide) (by decide) rfl) ?_
  obtain ⟨v19, e20⟩ : ∃ zz : Int, zz = (s) * (-1) := ⟨_, rfl⟩
  have b21 : -10010 ≤ v19 ∧ v19 ≤ 10010 := by omega
  refine w_t (np := 56) (l2 := [some (eJ (zJ c)), none, some (eI (7)), some (eR 14), some (eI (3)), some (eI (v16)), some (eI (3))]) (s2 := [eI (v19), eI (v16)]) rfl (b_imul (by rw [← e20]; exact ev_w_in (by omega) (by omega))) rfl ?_
  obtain ⟨v22, e23⟩ : ∃ zz : Int, zz = (v16) + (v19) := ⟨_, rfl⟩
  have b24 : -20020 ≤ v22 ∧ v22 ≤ 20020 := by omega
  refine w_t (np := 57) (l2 := [some (eJ (zJ c)), none, some (eI (7)), some (eR 14), some (eI (3)), some (eI (v16)), some (eI (3))]) (s2 := [eI (v22)]) rfl (b_iadd (by rw [← e23]; exact ev_w_in (by omega) (by omega))) rfl ?_
  refine w_t (np := 59) (l2 := [some (eJ (zJ c)), none, some (eI (7)), some (eR 14), some (eI (3)), some (eI (v22)), some (eI (3))]) (s2 := []) rfl rfl rfl ?_
  refine w_t (np := 62) (l2 := [some (eJ (zJ c)), none, some (eI (7)), some (eR 14), some (eI (3)), some (eI (v22)), some (eI (4))]) (s2 := []) rfl (b_iinc rfl rfl rfl) rfl ?_
  refine w_go (t1 := 18) rfl rfl ?_
  refine w_t (np := 20) (l2 := [some (eJ (zJ c)), none, some (eI (7)), some (eR 14), some (eI (3)), some (eI (v22)), some (eI (4))]) (s2 := [eI (4)]) rfl rfl rfl ?_
  refine w_t (np := 21) (l2 := [some (eJ (zJ c)), none, some (eI (7)), some (eR 14), some (eI (3)), some (eI (v22)), some (eI (4))]) (s2 := [eI (4), eI (4)]) rfl rfl rfl ?_
  refine b_cge (t1 := 65) (t2 := 24) rfl rfl rfl rfl rfl (fun g => ?_) (fun g => absurd g (by decide))
  clear g
  refine w_t (np := 67) (l2 := [some (eJ (zJ c)), none, some (eI (7)), some (eR 14), some (eI (3)), some (eI (v22)), some (eI (4))]) (s2 := [eI (v22)]) rfl rfl rfl ?_
  refine b_ri rfl rfl ?_
  have e9 : v22 = 1 * q + (-1) * s := by omega
  rw [e9]
  exact K
theorem t80_14_8 {L : Nat} {ρ : Nat → Int} {rc rs d : Nat} {f : eFr} {F : List eFr} {μ : eM} {c : Nat} {p q r s : Int} (l0 : zI (z_i2s (z_l2i (z_lshr c 48))) = p) (l1 : zI (z_i2s (z_l2i (z_lshr c 32))) = q) (l2 : zI (z_i2s (z_l2i (z_lshr c 16))) = r) (l3 : zI (z_i2s (z_l2i (z_lshr c 0))) = s) (hp : -10010 ≤ p ∧ p ≤ 10010) (hq : -10010 ≤ q ∧ q ≤ 10010) (hr : -10010 ≤ r ∧ r ≤ 10010) (hs : -10010 ≤ s ∧ s ≤ 10010) (K : ex_fine (dt_fg L ρ) rc rs (d + 1, (f.1, f.2.1, f.2.2.1, eI (1 * r) :: f.2.2.2), F, μ)) : ex_fine (dt_fg L ρ) rc rs (d, (80, 0, [some (eJ (zJ c)), none, some (eI (8)), some (eR 14), none, none, none], []), f :: F, μ) := by
  refine w_t (np := 2) (l2 := [some (eJ (zJ c)), none, some (eI (8)), some (eR 14), none, none, none]) (s2 := [eI (10)]) rfl rfl rfl ?_
  refine w_t (np := 3) (l2 := [some (eJ (zJ c)), none, some (eI (8)), some (eR 14), none, none, none]) (s2 := [eI (8), eI (10)]) rfl rfl rfl ?_
  refine w_t (np := 5) (l2 := [some (eJ (zJ c)), none, some (eI (8)), some (eR 14), none, none, none]) (s2 := [eI (10), eI (8), eI (10)]) rfl rfl rfl ?_
  refine w_t (np := 6) (l2 := [some (eJ (zJ c)), none, some (eI (8)), some (eR 14), none, none, none]) (s2 := [eI (8), eI (10)]) rfl rfl rfl ?_
  refine w_t (np := 7) (l2 := [some (eJ (zJ c)), none, some (eI (8)), some (eR 14), none, none, none]) (s2 := [eI (2)]) rfl (b_isub rfl) rfl ?_
  refine w_t (np := 9) (l2 := [some (eJ (zJ c)), none, some (eI (8)), some (eR 14), none, none, none]) (s2 := [eI (10), eI (2)]) rfl rfl rfl ?_
  refine w_t (np := 10) (l2 := [some (eJ (zJ c)), none, some (eI (8)), some (eR 14), none, none, none]) (s2 := [eI (2)]) rfl rfl rfl ?_
  refine w_t (np := 12) (l2 := [some (eJ (zJ c)), none, some (eI (8)), some (eR 14), some (eI (2)), none, none]) (s2 := []) rfl rfl rfl ?_
  refine w_t (np := 13) (l2 := [some (eJ (zJ c)), none, some (eI (8)), some (eR 14), some (eI (2)), none, none]) (s2 := [eI (0)]) rfl rfl rfl ?_
  refine w_t (np := 15) (l2 := [some (eJ (zJ c)), none, some (eI (8)), some (eR 14), some (eI (2)), some (eI (0)), none]) (s2 := []) rfl rfl rfl ?_
  refine w_t (np := 16) (l2 := [some (eJ (zJ c)), none, some (eI (8)), some (eR 14), some (eI (2)), some (eI (0)), none]) (s2 := [eI (0)]) rfl rfl rfl ?_
  refine w_t (np := 18) (l2 := [some (eJ (zJ c)), none, some (eI (8)), some (eR 14), some (eI (2)), some (eI (0)), some (eI (0))]) (s2 := []) rfl rfl rfl ?_
  refine w_t (np := 20) (l2 := [some (eJ (zJ c)), none, some (eI (8)), some (eR 14), some (eI (2)), some (eI (0)), some (eI (0))]) (s2 := [eI (0)]) rfl rfl rfl ?_
  refine w_t (np := 21) (l2 := [some (eJ (zJ c)), none, some (eI (8)), some (eR 14), some (eI (2)), some (eI (0)), some (eI (0))]) (s2 := [eI (4), eI (0)]) rfl rfl rfl ?_
  refine b_cge (t1 := 65) (t2 := 24) rfl rfl rfl rfl rfl (fun g => absurd g (by decide)) (fun g => ?_)
  clear g
  refine w_t (np := 26) (l2 := [some (eJ (zJ c)), none, some (eI (8)), some (eR 14), some (eI (2)), some (eI (0)), some (eI (0))]) (s2 := [eI (2)]) rfl rfl rfl ?_
  refine w_t (np := 28) (l2 := [some (eJ (zJ c)), none, some (eI (8)), some (eR 14), some (eI (2)), some (eI (0)), some (eI (0))]) (s2 := [eI (0), eI (2)]) rfl rfl rfl ?_
  refine w_t (np := 29) (l2 := [some (eJ (zJ c)), none, some (eI (8)), some (eR 14), some (eI (2)), some (eI (0)), some (eI (0))]) (s2 := [eI (2)]) rfl (b_iadd rfl) rfl ?_
  refine w_t (np := 30) (l2 := [some (eJ (zJ c)), none, some (eI (8)), some (eR 14), some (eI (2)), some (eI (0)), some (eI (0))]) (s2 := [eR 14, eI (2)]) rfl (s_an rfl (by decide)) rfl ?_
  refine v_ln (np := 31) (v := 13) (n := 13) rfl rfl ⟨rfl, zI_lit (by decide)⟩ ?_
  rw [show zI 13 = 13 by decide]
  refine b_cge (t1 := 65) (t2 := 34) rfl rfl rfl rfl rfl (fun g => absurd g (by decide)) (fun g => ?_)
  clear g
  refine w_t (np := 36) (l2 := [some (eJ (zJ c)), none, some (eI (8)), some (eR 14), some (eI (2)), some (eI (0)), some (eI (0))]) (s2 := [eI (0)]) rfl rfl rfl ?_
  refine w_t (np := 37) (l2 := [some (eJ (zJ c)), none, some (eI (8)), some (eR 14), some (eI (2)), some (eI (0)), some (eI (0))]) (s2 := [eJ (zJ c), eI (0)]) rfl rfl rfl ?_
  refine w_t (np := 39) (l2 := [some (eJ (zJ c)), none, some (eI (8)), some (eR 14), some (eI (2)), some (eI (0)), some (eI (0))]) (s2 := [eI (48), eJ (zJ c), eI (0)]) rfl rfl rfl ?_
  refine w_t (np := 41) (l2 := [some (eJ (zJ c)), none, some (eI (8)), some (eR 14), some (eI (2)), some (eI (0)), some (eI (0))]) (s2 := [eI (16), eI (48), eJ (zJ c), eI (0)]) rfl rfl rfl ?_
  refine w_t (np := 43) (l2 := [some (eJ (zJ c)), none, some (eI (8)), some (eR 14), some (eI (2)), some (eI (0)), some (eI (0))]) (s2 := [eI (0), eI (16), eI (48), eJ (zJ c), eI (0)]) rfl rfl rfl ?_
  refine w_t (np := 44) (l2 := [some (eJ (zJ c)), none, some (eI (8)), some (eR 14), some (eI (2)), some (eI (0)), some (eI (0))]) (s2 := [eI (0), eI (48), eJ (zJ c), eI (0)]) rfl (b_imul rfl) rfl ?_
  refine w_t (np := 45) (l2 := [some (eJ (zJ c)), none, some (eI (8)), some (eR 14), some (eI (2)), some (eI (0)), some (eI (0))]) (s2 := [eI (48), eJ (zJ c), eI (0)]) rfl (b_isub rfl) rfl ?_
  refine w_lane (np := 48) (k := 48) (v := p) rfl rfl rfl rfl (by decide) rfl l0 ?_
  refine w_t (np := 49) (l2 := [some (eJ (zJ c)), none, some (eI (8)), some (eR 14), some (eI (2)), some (eI (0)), some (eI (0))]) (s2 := [eR 14, eI (p), eI (0)]) rfl (s_an rfl (by decide)) rfl ?_
  refine w_t (np := 51) (l2 := [some (eJ (zJ c)), none, some (eI (8)), some (eR 14), some (eI (2)), some (eI (0)), some (eI (0))]) (s2 := [eI (2), eR 14, eI (p), eI (0)]) rfl rfl rfl ?_
  refine w_t (np := 53) (l2 := [some (eJ (zJ c)), none, some (eI (8)), some (eR 14), some (eI (2)), some (eI (0)), some (eI (0))]) (s2 := [eI (0), eI (2), eR 14, eI (p), eI (0)]) rfl rfl rfl ?_
  refine w_t (np := 54) (l2 := [some (eJ (zJ c)), none, some (eI (8)), some (eR 14), some (eI (2)), some (eI (0)), some (eI (0))]) (s2 := [eI (2), eR 14, eI (p), eI (0)]) rfl (b_iadd rfl) rfl ?_
  refine w_al (np := 55) (v := 0) rfl rfl (s_al (j := 2) (by decide) (by decide) (by decide) rfl rfl (by decide) (by decide) rfl) ?_
  obtain ⟨v1, e2⟩ : ∃ zz : Int, zz = (p) * (0) := ⟨_, rfl⟩
  have b3 : 0 ≤ v1 ∧ v1 ≤ 0 := by omega
  refine w_t (np := 56) (l2 := [some (eJ (zJ c)), none, some (eI (8)), some (eR 14), some (eI (2)), some (eI (0)), some (eI (0))]) (s2 := [eI (v1), eI (0)]) rfl (b_imul (by rw [← e2]; exact ev_w_in (by omega) (by omega))) rfl ?_
  obtain ⟨v4, e5⟩ : ∃ zz : Int, zz = (0) + (v1) := ⟨_, rfl⟩
  have b6 : 0 ≤ v4 ∧ v4 ≤ 0 := by omega
  refine w_t (np := 57) (l2 := [some (eJ (zJ c)), none, some (eI (8)), some (eR 14), some (eI (2)), some (eI (0)), some (eI (0))]) (s2 := [eI (v4)]) rfl (b_iadd (by rw [← e5]; exact ev_w_in (by omega) (by omega))) rfl ?_
  refine w_t (np := 59) (l2 := [some (eJ (zJ c)), none, some (eI (8)), some (eR 14), some (eI (2)), some (eI (v4)), some (eI (0))]) (s2 := []) rfl rfl rfl ?_
  refine w_t (np := 62) (l2 := [some (eJ (zJ c)), none, some (eI (8)), some (eR 14), some (eI (2)), some (eI (v4)), some (eI (1))]) (s2 := []) rfl (b_iinc rfl rfl rfl) rfl ?_
  refine w_go (t1 := 18) rfl rfl ?_
  refine w_t (np := 20) (l2 := [some (eJ (zJ c)), none, some (eI (8)), some (eR 14), some (eI (2)), some (eI (v4)), some (eI (1))]) (s2 := [eI (1)]) rfl rfl rfl ?_
  refine w_t (np := 21) (l2 := [some (eJ (zJ c)), none, some (eI (8)), some (eR 14), some (eI (2)), some (eI (v4)), some (eI (1))]) (s2 := [eI (4), eI (1)]) rfl rfl rfl ?_
  refine b_cge (t1 := 65) (t2 := 24) rfl rfl rfl rfl rfl (fun g => absurd g (by decide)) (fun g => ?_)
  clear g
  refine w_t (np := 26) (l2 := [some (eJ (zJ c)), none, some (eI (8)), some (eR 14), some (eI (2)), some (eI (v4)), some (eI (1))]) (s2 := [eI (2)]) rfl rfl rfl ?_
  refine w_t (np := 28) (l2 := [some (eJ (zJ c)), none, some (eI (8)), some (eR 14), some (eI (2)), some (eI (v4)), some (eI (1))]) (s2 := [eI (1), eI (2)]) rfl rfl rfl ?_
  refine w_t (np := 29) (l2 := [some (eJ (zJ c)), none, some (eI (8)), some (eR 14), some (eI (2)), some (eI (v4)), some (eI (1))]) (s2 := [eI (3)]) rfl (b_iadd rfl) rfl ?_
  refine w_t (np := 30) (l2 := [some (eJ (zJ c)), none, some (eI (8)), some (eR 14), some (eI (2)), some (eI (v4)), some (eI (1))]) (s2 := [eR 14, eI (3)]) rfl (s_an rfl (by decide)) rfl ?_
  refine v_ln (np := 31) (v := 13) (n := 13) rfl rfl ⟨rfl, zI_lit (by decide)⟩ ?_
  rw [show zI 13 = 13 by decide]
  refine b_cge (t1 := 65) (t2 := 34) rfl rfl rfl rfl rfl (fun g => absurd g (by decide)) (fun g => ?_)
  clear g
  refine w_t (np := 36) (l2 := [some (eJ (zJ c)), none, some (eI (8)), some (eR 14), some (eI (2)), some (eI (v4)), some (eI (1))]) (s2 := [eI (v4)]) rfl rfl rfl ?_
  refine w_t (np := 37) (l2 := [some (eJ (zJ c)), none, some (eI (8)), some (eR 14), some (eI (2)), some (eI (v4)), some (eI (1))]) (s2 := [eJ (zJ c), eI (v4)]) rfl rfl rfl ?_
  refine w_t (np := 39) (l2 := [some (eJ (zJ c)), none, some (eI (8)), some (eR 14), some (eI (2)), some (eI (v4)), some (eI (1))]) (s2 := [eI (48), eJ (zJ c), eI (v4)]) rfl rfl rfl ?_
  refine w_t (np := 41) (l2 := [some (eJ (zJ c)), none, some (eI (8)), some (eR 14), some (eI (2)), some (eI (v4)), some (eI (1))]) (s2 := [eI (16), eI (48), eJ (zJ c), eI (v4)]) rfl rfl rfl ?_
  refine w_t (np := 43) (l2 := [some (eJ (zJ c)), none, some (eI (8)), some (eR 14), some (eI (2)), some (eI (v4)), some (eI (1))]) (s2 := [eI (1), eI (16), eI (48), eJ (zJ c), eI (v4)]) rfl rfl rfl ?_
  refine w_t (np := 44) (l2 := [some (eJ (zJ c)), none, some (eI (8)), some (eR 14), some (eI (2)), some (eI (v4)), some (eI (1))]) (s2 := [eI (16), eI (48), eJ (zJ c), eI (v4)]) rfl (b_imul rfl) rfl ?_
  refine w_t (np := 45) (l2 := [some (eJ (zJ c)), none, some (eI (8)), some (eR 14), some (eI (2)), some (eI (v4)), some (eI (1))]) (s2 := [eI (32), eJ (zJ c), eI (v4)]) rfl (b_isub rfl) rfl ?_
  refine w_lane (np := 48) (k := 32) (v := q) rfl rfl rfl rfl (by decide) rfl l1 ?_
  refine w_t (np := 49) (l2 := [some (eJ (zJ c)), none, some (eI (8)), some (eR 14), some (eI (2)), some (eI (v4)), some (eI (1))]) (s2 := [eR 14, eI (q), eI (v4)]) rfl (s_an rfl (by decide)) rfl ?_
  refine w_t (np := 51) (l2 := [some (eJ (zJ c)), none, some (eI (8)), some (eR 14), some (eI (2)), some (eI (v4)), some (eI (1))]) (s2 := [eI (2), eR 14, eI (q), eI (v4)]) rfl rfl rfl ?_
  refine w_t (np := 53) (l2 := [some (eJ (zJ c)), none, some (eI (8)), some (eR 14), some (eI (2)), some (eI (v4)), some (eI (1))]) (s2 := [eI (1), eI (2), eR 14, eI (q), eI (v4)]) rfl rfl rfl ?_
  refine w_t (np := 54) (l2 := [some (eJ (zJ c)), none, some (eI (8)), some (eR 14), some (eI (2)), some (eI (v4)), some (eI (1))]) (s2 := [eI (3), eR 14, eI (q), eI (v4)]) rfl (b_iadd rfl) rfl ?_
  refine w_al (np := 55) (v := 0) rfl rfl (s_al (j := 3) (by decide) (by decide) (by decide) rfl rfl (by decide) (by decide) rfl) ?_
  obtain ⟨v7, e8⟩ : ∃ zz : Int, zz = (q) * (0) := ⟨_, rfl⟩
  have b9 : 0 ≤ v7 ∧ v7 ≤ 0 := by omega
  refine w_t (np := 56) (l2 := [some (eJ (zJ c)), none, some (eI (8)), some (eR 14), some (eI (2)), some (eI (v4)), some (eI (1))]) (s2 := [eI (v7), eI (v4)]) rfl (b_imul (by rw [← e8]; exact ev_w_in (by omega) (by omega))) rfl ?_
  obtain ⟨v10, e11⟩ : ∃ zz : Int, zz = (v4) + (v7) := ⟨_, rfl⟩
  have b12 : 0 ≤ v10 ∧ v10 ≤ 0 := by omega
  refine w_t (np := 57) (l2 := [some (eJ (zJ c)), none, some (eI (8)), some (eR 14), some (eI (2)), some (eI (v4)), some (eI (1))]) (s2 := [eI (v10)]) rfl (b_iadd (by rw [← e11]; exact ev_w_in (by omega) (by omega))) rfl ?_
  refine w_t (np := 59) (l2 := [some (eJ (zJ c)), none, some (eI (8)), some (eR 14), some (eI (2)), some (eI (v10)), some (eI (1))]) (s2 := []) rfl rfl rfl ?_
  refine w_t (np := 62) (l2 := [some (eJ (zJ c)), none, some (eI (8)), some (eR 14), some (eI (2)), some (eI (v10)), some (eI (2))]) (s2 := []) rfl (b_iinc rfl rfl rfl) rfl ?_
  refine w_go (t1 := 18) rfl rfl ?_
  refine w_t (np := 20) (l2 := [some (eJ (zJ c)), none, some (eI (8)), some (eR 14), some (eI (2)), some (eI (v10)), some (eI (2))]) (s2 := [eI (2)]) rfl rfl rfl ?_
  refine w_t (np := 21) (l2 := [some (eJ (zJ c)), none, some (eI (8)), some (eR 14), some (eI (2)), some (eI (v10)), some (eI (2))]) (s2 := [eI (4), eI (2)]) rfl rfl rfl ?_
  refine b_cge (t1 := 65) (t2 := 24) rfl rfl rfl rfl rfl (fun g => absurd g (by decide)) (fun g => ?_)
  clear g
  refine w_t (np := 26) (l2 := [some (eJ (zJ c)), none, some (eI (8)), some (eR 14), some (eI (2)), some (eI (v10)), some (eI (2))]) (s2 := [eI (2)]) rfl rfl rfl ?_
  refine w_t (np := 28) (l2 := [some (eJ (zJ c)), none, some (eI (8)), some (eR 14), some (eI (2)), some (eI (v10)), some (eI (2))]) (s2 := [eI (2), eI (2)]) rfl rfl rfl ?_
  refine w_t (np := 29) (l2 := [some (eJ (zJ c)), none, some (eI (8)), some (eR 14), some (eI (2)), some (eI (v10)), some (eI (2))]) (s2 := [eI (4)]) rfl (b_iadd rfl) rfl ?_
  refine w_t (np := 30) (l2 := [some (eJ (zJ c)), none, some (eI (8)), some (eR 14), some (eI (2)), some (eI (v10)), some (eI (2))]) (s2 := [eR 14, eI (4)]) rfl (s_an rfl (by decide)) rfl ?_
  refine v_ln (np := 31) (v := 13) (n := 13) rfl rfl ⟨rfl, zI_lit (by decide)⟩ ?_
  rw [show zI 13 = 13 by decide]
  refine b_cge (t1 := 65) (t2 := 34) rfl rfl rfl rfl rfl (fun g => absurd g (by decide)) (fun g => ?_)
  clear g
  refine w_t (np := 36) (l2 := [some (eJ (zJ c)), none, some (eI (8)), some (eR 14), some (eI (2)), some (eI (v10)), some (eI (2))]) (s2 := [eI (v10)]) rfl rfl rfl ?_
  refine w_t (np := 37) (l2 := [some (eJ (zJ c)), none, some (eI (8)), some (eR 14), some (eI (2)), some (eI (v10)), some (eI (2))]) (s2 := [eJ (zJ c), eI (v10)]) rfl rfl rfl ?_
  refine w_t (np := 39) (l2 := [some (eJ (zJ c)), none, some (eI (8)), some (eR 14), some (eI (2)), some (eI (v10)), some (eI (2))]) (s2 := [eI (48), eJ (zJ c), eI (v10)]) rfl rfl rfl ?_
  refine w_t (np := 41) (l2 := [some (eJ (zJ c)), none, some (eI (8)), some (eR 14), some (eI (2)), some (eI (v10)), some (eI (2))]) (s2 := [eI (16), eI (48), eJ (zJ c), eI (v10)]) rfl rfl rfl ?_
  refine w_t (np := 43) (l2 := [some (eJ (zJ c)), none, some (eI (8)), some (eR 14), some (eI (2)), some (eI (v10)), some (eI (2))]) (s2 := [eI (2), eI (16), eI (48), eJ (zJ c), eI (v10)]) rfl rfl rfl ?_
  refine w_t (np := 44) (l2 := [some (eJ (zJ c)), none, some (eI (8)), some (eR 14), some (eI (2)), some (eI (v10)), some (eI (2))]) (s2 := [eI (32), eI (48), eJ (zJ c), eI (v10)]) rfl (b_imul rfl) rfl ?_
  refine w_t (np := 45) (l2 := [some (eJ (zJ c)), none, some (eI (8)), some (eR 14), some (eI (2)), some (eI (v10)), some (eI (2))]) (s2 := [eI (16), eJ (zJ c), eI (v10)]) rfl (b_isub rfl) rfl ?_
  refine w_lane (np := 48) (k := 16) (v := r) rfl rfl rfl rfl (by decide) rfl l2 ?_
  refine w_t (np := 49) (l2 := [some (eJ (zJ c)), none, some (eI (8)), some (eR 14), some (eI (2)), some (eI (v10)), some (eI (2))]) (s2 := [eR 14, eI (r), eI (v10)]) rfl (s_an rfl (by decide)) rfl ?_
  refine w_t (np := 51) (l2 := [some (eJ (zJ c)), none, some (eI (8)), some (eR 14), some (eI (2)), some (eI (v10)), some (eI (2))]) (s2 := [eI (2), eR 14, eI (r), eI (v10)]) rfl rfl rfl ?_
  refine w_t (np := 53) (l2 := [some (eJ (zJ c)), none, some (eI (8)), some (eR 14), some (eI (2)), some (eI (v10)), some (eI (2))]) (s2 := [eI (2), eI (2), eR 14, eI (r), eI (v10)]) rfl rfl rfl ?_
  refine w_t (np := 54) (l2 := [some (eJ (zJ c)), none, some (eI (8)), some (eR 14), some (eI (2)), some (eI (v10)), some (eI (2))]) (s2 := [eI (4), eR 14, eI (r), eI (v10)]) rfl (b_iadd rfl) rfl ?_
  refine w_al (np := 55) (v := 1) rfl rfl (s_al (j := 4) (by decide) (by decide) (by decide) rfl rfl (by decide) (by decide) rfl) ?_
  obtain ⟨v13, e14⟩ : ∃ zz : Int, zz = (r) * (1) := ⟨_, rfl⟩
  have b15 : -10010 ≤ v13 ∧ v13 ≤ 10010 := by omega
  refine w_t (np := 56) (l2 := [some (eJ (zJ c)), none, some (eI (8)), some (eR 14), some (eI (2)), some (eI (v10)), some (eI (2))]) (s2 := [eI (v13), eI (v10)]) rfl (b_imul (by rw [← e14]; exact ev_w_in (by omega) (by omega))) rfl ?_
  obtain ⟨v16, e17⟩ : ∃ zz : Int, zz = (v10) + (v13) := ⟨_, rfl⟩
  have b18 : -10010 ≤ v16 ∧ v16 ≤ 10010 := by omega
  refine w_t (np := 57) (l2 := [some (eJ (zJ c)), none, some (eI (8)), some (eR 14), some (eI (2)), some (eI (v10)), some (eI (2))]) (s2 := [eI (v16)]) rfl (b_iadd (by rw [← e17]; exact ev_w_in (by omega) (by omega))) rfl ?_
  refine w_t (np := 59) (l2 := [some (eJ (zJ c)), none, some (eI (8)), some (eR 14), some (eI (2)), some (eI (v16)), some (eI (2))]) (s2 := []) rfl rfl rfl ?_
  refine w_t (np := 62) (l2 := [some (eJ (zJ c)), none, some (eI (8)), some (eR 14), some (eI (2)), some (eI (v16)), some (eI (3))]) (s2 := []) rfl (b_iinc rfl rfl rfl) rfl ?_
  refine w_go (t1 := 18) rfl rfl ?_
  refine w_t (np := 20) (l2 := [some (eJ (zJ c)), none, some (eI (8)), some (eR 14), some (eI (2)), some (eI (v16)), some (eI (3))]) (s2 := [eI (3)]) rfl rfl rfl ?_
  refine w_t (np := 21) (l2 := [some (eJ (zJ c)), none, some (eI (8)), some (eR 14), some (eI (2)), some (eI (v16)), some (eI (3))]) (s2 := [eI (4), eI (3)]) rfl rfl rfl ?_
  refine b_cge (t1 := 65) (t2 := 24) rfl rfl rfl rfl rfl (fun g => absurd g (by decide)) (fun g => ?_)
  clear g
  refine w_t (np := 26) (l2 := [some (eJ (zJ c)), none, some (eI (8)), some (eR 14), some (eI (2)), some (eI (v16)), some (eI (3))]) (s2 := [eI (2)]) rfl rfl rfl ?_
  refine w_t (np := 28) (l2 := [some (eJ (zJ c)), none, some (eI (8)), some (eR 14), some (eI (2)), some (eI (v16)), some (eI (3))]) (s2 := [eI (3), eI (2)]) rfl rfl rfl ?_
  refine w_t (np := 29) (l2 := [some (eJ (zJ c)), none, some (eI (8)), some (eR 14), some (eI (2)), some (eI (v16)), some (eI (3))]) (s2 := [eI (5)]) rfl (b_iadd rfl) rfl ?_
  refine w_t (np := 30) (l2 := [some (eJ (zJ c)), none, some (eI (8)), some (eR 14), some (eI (2)), some (eI (v16)), some (eI (3))]) (s2 := [eR 14, eI (5)]) rfl (s_an rfl (by decide)) rfl ?_
  refine v_ln (np := 31) (v := 13) (n := 13) rfl rfl ⟨rfl, zI_lit (by decide)⟩ ?_
  rw [show zI 13 = 13 by decide]
  refine b_cge (t1 := 65) (t2 := 34) rfl rfl rfl rfl rfl (fun g => absurd g (by decide)) (fun g => ?_)
  clear g
  refine w_t (np := 36) (l2 := [some (eJ (zJ c)), none, some (eI (8)), some (eR 14), some (eI (2)), some (eI (v16)), some (eI (3))]) (s2 := [eI (v16)]) rfl rfl rfl ?_
  refine w_t (np := 37) (l2 := [some (eJ (zJ c)), none, some (eI (8)), some (eR 14), some (eI (2)), some (eI (v16)), some (eI (3))]) (s2 := [eJ (zJ c), eI (v16)]) rfl rfl rfl ?_
  refine w_t (np := 39) (l2 := [some (eJ (zJ c)), none, some (eI (8)), some (eR 14), some (eI (2)), some (eI (v16)), some (eI (3))]) (s2 := [eI (48), eJ (zJ c), eI (v16)]) rfl rfl rfl ?_
  refine w_t (np := 41) (l2 := [some (eJ (zJ c)), none, some (eI (8)), some (eR 14), some (eI (2)), some (eI (v16)), some (eI (3))]) (s2 := [eI (16), eI (48), eJ (zJ c), eI (v16)]) rfl rfl rfl ?_
  refine w_t (np := 43) (l2 := [some (eJ (zJ c)), none, some (eI (8)), some (eR 14), some (eI (2)), some (eI (v16)), some (eI (3))]) (s2 := [eI (3), eI (16), eI (48), eJ (zJ c), eI (v16)]) rfl rfl rfl ?_
  refine w_t (np := 44) (l2 := [some (eJ (zJ c)), none, some (eI (8)), some (eR 14), some (eI (2)), some (eI (v16)), some (eI (3))]) (s2 := [eI (48), eI (48), eJ (zJ c), eI (v16)]) rfl (b_imul rfl) rfl ?_
  refine w_t (np := 45) (l2 := [some (eJ (zJ c)), none, some (eI (8)), some (eR 14), some (eI (2)), some (eI (v16)), some (eI (3))]) (s2 := [eI (0), eJ (zJ c), eI (v16)]) rfl (b_isub rfl) rfl ?_
  refine w_lane (np := 48) (k := 0) (v := s) rfl rfl rfl rfl (by decide) rfl l3 ?_
  refine w_t (np := 49) (l2 := [some (eJ (zJ c)), none, some (eI (8)), some (eR 14), some (eI (2)), some (eI (v16)), some (eI (3))]) (s2 := [eR 14, eI (s), eI (v16)]) rfl (s_an rfl (by decide)) rfl ?_
  refine w_t (np := 51) (l2 := [some (eJ (zJ c)), none, some (eI (8)), some (eR 14), some (eI (2)), some (eI (v16)), some (eI (3))]) (s2 := [eI (2), eR 14, eI (s), eI (v16)]) rfl rfl rfl ?_
  refine w_t (np := 53) (l2 := [some (eJ (zJ c)), none, some (eI (8)), some (eR 14), some (eI (2)), some (eI (v16)), some (eI (3))]) (s2 := [eI (3), eI (2), eR 14, eI (s), eI (v16)]) rfl rfl rfl ?_
  refine w_t (np := 54) (l2 := [some (eJ (zJ c)), none, some (eI (8)), some (eR 14), some (eI (2)), some (eI (v16)), some (eI (3))]) (s2 := [eI (5), eR 14, eI (s), eI (v16)]) rfl (b_iadd rfl) rfl ?_
  refine w_al (np := 55) (v := 0) rfl rfl (s_al (j := 5) (by decide) (by decide) (by decide) rfl rfl (by decide) (by decide) rfl) ?_
  obtain ⟨v19, e20⟩ : ∃ zz : Int, zz = (s) * (0) := ⟨_, rfl⟩
  have b21 : 0 ≤ v19 ∧ v19 ≤ 0 := by omega
  refine w_t (np := 56) (l2 := [some (eJ (zJ c)), none, some (eI (8)), some (eR 14), some (eI (2)), some (eI (v16)), some (eI (3))]) (s2 := [eI (v19), eI (v16)]) rfl (b_imul (by rw [← e20]; exact ev_w_in (by omega) (by omega))) rfl ?_
  obtain ⟨v22, e23⟩ : ∃ zz : Int, zz = (v16) + (v19) := ⟨_, rfl⟩
  have b24 : -10010 ≤ v22 ∧ v22 ≤ 10010 := by omega
  refine w_t (np := 57) (l2 := [some (eJ (zJ c)), none, some (eI (8)), some (eR 14), some (eI (2)), some (eI (v16)), some (eI (3))]) (s2 := [eI (v22)]) rfl (b_iadd (by rw [← e23]; exact ev_w_in (by omega) (by omega))) rfl ?_
  refine w_t (np := 59) (l2 := [some (eJ (zJ c)), none, some (eI (8)), some (eR 14), some (eI (2)), some (eI (v22)), some (eI (3))]) (s2 := []) rfl rfl rfl ?_
  refine w_t (np := 62) (l2 := [some (eJ (zJ c)), none, some (eI (8)), some (eR 14), some (eI (2)), some (eI (v22)), some (eI (4))]) (s2 := []) rfl (b_iinc rfl rfl rfl) rfl ?_
  refine w_go (t1 := 18) rfl rfl ?_
  refine w_t (np := 20) (l2 := [some (eJ (zJ c)), none, some (eI (8)), some (eR 14), some (eI (2)), some (eI (v22)), some (eI (4))]) (s2 := [eI (4)]) rfl rfl rfl ?_
  refine w_t (np := 21) (l2 := [some (eJ (zJ c)), none, some (eI (8)), some (eR 14), some (eI (2)), some (eI (v22)), some (eI (4))]) (s2 := [eI (4), eI (4)]) rfl rfl rfl ?_
  refine b_cge (t1 := 65) (t2 := 24) rfl rfl rfl rfl rfl (fun g => ?_) (fun g => absurd g (by decide))
  clear g
  refine w_t (np := 67) (l2 := [some (eJ (zJ c)), none, some (eI (8)), some (eR 14), some (eI (2)), some (eI (v22)), some (eI (4))]) (s2 := [eI (v22)]) rfl rfl rfl ?_
  refine b_ri rfl rfl ?_
  have e9 : v22 = 1 * r := by omega
  rw [e9]
  exact K
theorem t80_14_9 {L : Nat} {ρ : Nat → Int} {rc rs d : Nat} {f : eFr} {F : List eFr} {μ : eM} {c : Nat} {p q r s : Int} (l0 : zI (z_i2s (z_l2i (z_lshr c 48))) = p) (l1 : zI (z_i2s (z_l2i (z_lshr c 32))) = q) (l2 : zI (z_i2s (z_l2i (z_lshr c 16))) = r) (l3 : zI (z_i2s (z_l2i (z_lshr c 0))) = s) (hp : -10010 ≤ p ∧ p ≤ 10010) (hq : -10010 ≤ q ∧ q ≤ 10010) (hr : -10010 ≤ r ∧ r ≤ 10010) (hs : -10010 ≤ s ∧ s ≤ 10010) (K : ex_fine (dt_fg L ρ) rc rs (d + 1, (f.1, f.2.1, f.2.2.1, eI (1 * p + 1 * s) :: f.2.2.2), F, μ)) : ex_fine (dt_fg L ρ) rc rs (d, (80, 0, [some (eJ (zJ c)), none, some (eI (9)), some (eR 14), none, none, none], []), f :: F, μ) := by
  refine w_t (np := 2) (l2 := [some (eJ (zJ c)), none, some (eI (9)), some (eR 14), none, none, none]) (s2 := [eI (10)]) rfl rfl rfl ?_
  refine w_t (np := 3) (l2 := [some (eJ (zJ c)), none, some (eI (9)), some (eR 14), none, none, none]) (s2 := [eI (9), eI (10)]) rfl rfl rfl ?_
  refine w_t (np := 5) (l2 := [some (eJ (zJ c)), none, some (eI (9)), some (eR 14), none, none, none]) (s2 := [eI (10), eI (9), eI (10)]) rfl rfl rfl ?_
  refine w_t (np := 6) (l2 := [some (eJ (zJ c)), none, some (eI (9)), some (eR 14), none, none, none]) (s2 := [eI (9), eI (10)]) rfl rfl rfl ?_
  refine w_t (np := 7) (l2 := [some (eJ (zJ c)), none, some (eI (9)), some (eR 14), none, none, none]) (s2 := [eI (1)]) rfl (b_isub rfl) rfl ?_
  refine w_t (np := 9) (l2 := [some (eJ (zJ c)), none, some (eI (9)), some (eR 14), none, none, none]) (s2 := [eI (10), eI (1)]) rfl rfl rfl ?_
  refine w_t (np := 10) (l2 := [some (eJ (zJ c)), none, some (eI (9)), some (eR 14), none, none, none]) (s2 := [eI (1)]) rfl rfl rfl ?_
  refine w_t (np := 12) (l2 := [some (eJ (zJ c)), none, some (eI (9)), some (eR 14), some (eI (1)), none, none]) (s2 := []) rfl rfl rfl ?_
  refine w_t (np := 13) (l2 := [some (eJ (zJ c)), none, some (eI (9)), some (eR 14), some (eI (1)), none, none]) (s2 := [eI (0)]) rfl rfl rfl ?_
  refine w_t (np := 15) (l2 := [some (eJ (zJ c)), none, some (eI (9)), some (eR 14), some (eI (1)), some (eI (0)), none]) (s2 := []) rfl rfl rfl ?_
  refine w_t (np := 16) (l2 := [some (eJ (zJ c)), none, some (eI (9)), some (eR 14), some (eI (1)), some (eI (0)), none]) (s2 := [eI (0)]) rfl rfl rfl ?_
  refine w_t (np := 18) (l2 := [some (eJ (zJ c)), none, some (eI (9)), some (eR 14), some (eI (1)), some (eI (0)), some (eI (0))]) (s2 := []) rfl rfl rfl ?_
  refine w_t (np := 20) (l2 := [some (eJ (zJ c)), none, some (eI (9)), some (eR 14), some (eI (1)), some (eI (0)), some (eI (0))]) (s2 := [eI (0)]) rfl rfl rfl ?_
  refine w_t (np := 21) (l2 := [some (eJ (zJ c)), none, some (eI (9)), some (eR 14), some (eI (1)), some (eI (0)), some (eI (0))]) (s2 := [eI (4), eI (0)]) rfl rfl rfl ?_
  refine b_cge (t1 := 65) (t2 := 24) rfl rfl rfl rfl rfl (fun g => absurd g (by decide)) (fun g => ?_)
  clear g
  refine w_t (np := 26) (l2 := [some (eJ (zJ c)), none, some (eI (9)), some (eR 14), some (eI (1)), some (eI (0)), some (eI (0))]) (s2 := [eI (1)]) rfl rfl rfl ?_
  refine w_t (np := 28) (l2 := [some (eJ (zJ c)), none, some (eI (9)), some (eR 14), some (eI (1)), some (eI (0)), some (eI (0))]) (s2 := [eI (0), eI (1)]) rfl rfl rfl ?_
  refine w_t (np := 29) (l2 := [some (eJ (zJ c)), none, some (eI (9)), some (eR 14), some (eI (1)), some (eI (0)), some (eI (0))]) (s2 := [eI (1)]) rfl (b_iadd rfl) rfl ?_
  refine w_t (np := 30) (l2 := [some (eJ (zJ c)), none, some (eI (9)), some (eR 14), some (eI (1)), some (eI (0)), some (eI (0))]) (s2 := [eR 14, eI (1)]) rfl (s_an rfl (by decide)) rfl ?_
  refine v_ln (np := 31) (v := 13) (n := 13) rfl rfl ⟨rfl, zI_lit (by decide)⟩ ?_
  rw [show zI 13 = 13 by decide]
  refine b_cge (t1 := 65) (t2 := 34) rfl rfl rfl rfl rfl (fun g => absurd g (by decide)) (fun g => ?_)
  clear g
  refine w_t (np := 36) (l2 := [some (eJ (zJ c)), none, some (eI (9)), some (eR 14), some (eI (1)), some (eI (0)), some (eI (0))]) (s2 := [eI (0)]) rfl rfl rfl ?_
  refine w_t (np := 37) (l2 := [some (eJ (zJ c)), none, some (eI (9)), some (eR 14), some (eI (1)), some (eI (0)), some (eI (0))]) (s2 := [eJ (zJ c), eI (0)]) rfl rfl rfl ?_
  refine w_t (np := 39) (l2 := [some (eJ (zJ c)), none, some (eI (9)), some (eR 14), some (eI (1)), some (eI (0)), some (eI (0))]) (s2 := [eI (48), eJ (zJ c), eI (0)]) rfl rfl rfl ?_
  refine w_t (np := 41) (l2 := [some (eJ (zJ c)), none, some (eI (9)), some (eR 14), some (eI (1)), some (eI (0)), some (eI (0))]) (s2 := [eI (16), eI (48), eJ (zJ c), eI (0)]) rfl rfl rfl ?_
  refine w_t (np := 43) (l2 := [some (eJ (zJ c)), none, some (eI (9)), some (eR 14), some (eI (1)), some (eI (0)), some (eI (0))]) (s2 := [eI (0), eI (16), eI (48), eJ (zJ c), eI (0)]) rfl rfl rfl ?_
  refine w_t (np := 44) (l2 := [some (eJ (zJ c)), none, some (eI (9)), some (eR 14), some (eI (1)), some (eI (0)), some (eI (0))]) (s2 := [eI (0), eI (48), eJ (zJ c), eI (0)]) rfl (b_imul rfl) rfl ?_
  refine w_t (np := 45) (l2 := [some (eJ (zJ c)), none, some (eI (9)), some (eR 14), some (eI (1)), some (eI (0)), some (eI (0))]) (s2 := [eI (48), eJ (zJ c), eI (0)]) rfl (b_isub rfl) rfl ?_
  refine w_lane (np := 48) (k := 48) (v := p) rfl rfl rfl rfl (by decide) rfl l0 ?_
  refine w_t (np := 49) (l2 := [some (eJ (zJ c)), none, some (eI (9)), some (eR 14), some (eI (1)), some (eI (0)), some (eI (0))]) (s2 := [eR 14, eI (p), eI (0)]) rfl (s_an rfl (by decide)) rfl ?_
  refine w_t (np := 51) (l2 := [some (eJ (zJ c)), none, some (eI (9)), some (eR 14), some (eI (1)), some (eI (0)), some (eI (0))]) (s2 := [eI (1), eR 14, eI (p), eI (0)]) rfl rfl rfl ?_
  refine w_t (np := 53) (l2 := [some (eJ (zJ c)), none, some (eI (9)), some (eR 14), some (eI (1)), some (eI (0)), some (eI (0))]) (s2 := [eI (0), eI (1), eR 14, eI (p), eI (0)]) rfl rfl rfl ?_
  refine w_t (np := 54) (l2 := [some (eJ (zJ c)), none, some (eI (9)), some (eR 14), some (eI (1)), some (eI (0)), some (eI (0))]) (s2 := [eI (1), eR 14, eI (p), eI (0)]) rfl (b_iadd rfl) rfl ?_
  refine w_al (np := 55) (v := 1) rfl rfl (s_al (j := 1) (by decide) (by decide) (by decide) rfl rfl (by decide) (by decide) rfl) ?_
  obtain ⟨v1, e2⟩ : ∃ zz : Int, zz = (p) * (1) := ⟨_, rfl⟩
  have b3 : -10010 ≤ v1 ∧ v1 ≤ 10010 := by omega
  refine w_t (np := 56) (l2 := [some (eJ (zJ c)), none, some (eI (9)), some (eR 14), some (eI (1)), some (eI (0)), some (eI (0))]) (s2 := [eI (v1), eI (0)]) rfl (b_imul (by rw [← e2]; exact ev_w_in (by omega) (by omega))) rfl ?_
  obtain ⟨v4, e5⟩ : ∃ zz : Int, zz = (0) + (v1) := ⟨_, rfl⟩
  have b6 : -10010 ≤ v4 ∧ v4 ≤ 10010 := by omega
  refine w_t (np := 57) (l2 := [some (eJ (zJ c)), none, some (eI (9)), some (eR 14), some (eI (1)), some (eI (0)), some (eI (0))]) (s2 := [eI (v4)]) rfl (b_iadd (by rw [← e5]; exact ev_w_in (by omega) (by omega))) rfl ?_
  refine w_t (np := 59) (l2 := [some (eJ (zJ c)), none, some (eI (9)), some (eR 14), some (eI (1)), some (eI (v4)), some (eI (0))]) (s2 := []) rfl rfl rfl ?_
  refine w_t (np := 62) (l2 := [some (eJ (zJ c)), none, some (eI (9)), some (eR 14), some (eI (1)), some (eI (v4)), some (eI (1))]) (s2 := []) rfl (b_iinc rfl rfl rfl) rfl ?_
  refine w_go (t1 := 18) rfl rfl ?_
  refine w_t (np := 20) (l2 := [some (eJ (zJ c)), none, some (eI (9)), some (eR 14), some (eI (1)), some (eI (v4)), some (eI (1))]) (s2 := [eI (1)]) rfl rfl rfl ?_
  refine w_t (np := 21) (l2 := [some (eJ (zJ c)), none, some (eI (9)), some (eR 14), some (eI (1)), some (eI (v4)), some (eI (1))]) (s2 := [eI (4), eI (1)]) rfl rfl rfl ?_
  refine b_cge (t1 := 65) (t2 := 24) rfl rfl rfl rfl rfl (fun g => absurd g (by decide)) (fun g => ?_)
  clear g
  refine w_t (np := 26) (l2 := [some (eJ (zJ c)), none, some (eI (9)), some (eR 14), some (eI (1)), some (eI (v4)), some (eI (1))]) (s2 := [eI (1)]) rfl rfl rfl ?_
  refine w_t (np := 28) (l2 := [some (eJ (zJ c)), none, some (eI (9)), some (eR 14), some (eI (1)), some (eI (v4)), some (eI (1))]) (s2 := [eI (1), eI (1)]) rfl rfl rfl ?_
  refine w_t (np := 29) (l2 := [some (eJ (zJ c)), none, some (eI (9)), some (eR 14), some (eI (1)), some (eI (v4)), some (eI (1))]) (s2 := [eI (2)]) rfl (b_iadd rfl) rfl ?_
  refine w_t (np := 30) (l2 := [some (eJ (zJ c)), none, some (eI (9)), some (eR 14), some (eI (1)), some (eI (v4)), some (eI (1))]) (s2 := [eR 14, eI (2)]) rfl (s_an rfl (by decide)) rfl ?_
  refine v_ln (np := 31) (v := 13) (n := 13) rfl rfl ⟨rfl, zI_lit (by decide)⟩ ?_
  rw [show zI 13 = 13 by decide]
  refine b_cge (t1 := 65) (t2 := 34) rfl rfl rfl rfl rfl (fun g => absurd g (by decide)) (fun g => ?_)
  clear g
  refine w_t (np := 36) (l2 := [some (eJ (zJ c)), none, some (eI (9)), some (eR 14), some (eI (1)), some (eI (v4)), some (eI (1))]) (s2 := [eI (v4)]) rfl rfl rfl ?_
  refine w_t (np := 37) (l2 := [some (eJ (zJ c)), none, some (eI (9)), some (eR 14), some (eI (1)), some (eI (v4)), some (eI (1))]) (s2 := [eJ (zJ c), eI (v4)]) rfl rfl rfl ?_
  refine w_t (np := 39) (l2 := [some (eJ (zJ c)), none, some (eI (9)), some (eR 14), some (eI (1)), some (eI (v4)), some (eI (1))]) (s2 := [eI (48), eJ (zJ c), eI (v4)]) rfl rfl rfl ?_
  refine w_t (np := 41) (l2 := [some (eJ (zJ c)), none, some (eI (9)), some (eR 14), some (eI (1)), some (eI (v4)), some (eI (1))]) (s2 := [eI (16), eI (48), eJ (zJ c), eI (v4)]) rfl rfl rfl ?_
  refine w_t (np := 43) (l2 := [some (eJ (zJ c)), none, some (eI (9)), some (eR 14), some (eI (1)), some (eI (v4)), some (eI (1))]) (s2 := [eI (1), eI (16), eI (48), eJ (zJ c), eI (v4)]) rfl rfl rfl ?_
  refine w_t (np := 44) (l2 := [some (eJ (zJ c)), none, some (eI (9)), some (eR 14), some (eI (1)), some (eI (v4)), some (eI (1))]) (s2 := [eI (16), eI (48), eJ (zJ c), eI (v4)]) rfl (b_imul rfl) rfl ?_
  refine w_t (np := 45) (l2 := [some (eJ (zJ c)), none, some (eI (9)), some (eR 14), some (eI (1)), some (eI (v4)), some (eI (1))]) (s2 := [eI (32), eJ (zJ c), eI (v4)]) rfl (b_isub rfl) rfl ?_
  refine w_lane (np := 48) (k := 32) (v := q) rfl rfl rfl rfl (by decide) rfl l1 ?_
  refine w_t (np := 49) (l2 := [some (eJ (zJ c)), none, some (eI (9)), some (eR 14), some (eI (1)), some (eI (v4)), some (eI (1))]) (s2 := [eR 14, eI (q), eI (v4)]) rfl (s_an rfl (by decide)) rfl ?_
  refine w_t (np := 51) (l2 := [some (eJ (zJ c)), none, some (eI (9)), some (eR 14), some (eI (1)), some (eI (v4)), some (eI (1))]) (s2 := [eI (1), eR 14, eI (q), eI (v4)]) rfl rfl rfl ?_
  refine w_t (np := 53) (l2 := [some (eJ (zJ c)), none, some (eI (9)), some (eR 14), some (eI (1)), some (eI (v4)), some (eI (1))]) (s2 := [eI (1), eI (1), eR 14, eI (q), eI (v4)]) rfl rfl rfl ?_
  refine w_t (np := 54) (l2 := [some (eJ (zJ c)), none, some (eI (9)), some (eR 14), some (eI (1)), some (eI (v4)), some (eI (1))]) (s2 := [eI (2), eR 14, eI (q), eI (v4)]) rfl (b_iadd rfl) rfl ?_
  refine w_al (np := 55) (v := 0) rfl rfl (s_al (j := 2) (by decide) (by decide) (by decide) rfl rfl (by decide) (by decide) rfl) ?_
  obtain ⟨v7, e8⟩ : ∃ zz : Int, zz = (q) * (0) := ⟨_, rfl⟩
  have b9 : 0 ≤ v7 ∧ v7 ≤ 0 := by omega
  refine w_t (np := 56) (l2 := [some (eJ (zJ c)), none, some (eI (9)), some (eR 14), some (eI (1)), some (eI (v4)), some (eI (1))]) (s2 := [eI (v7), eI (v4)]) rfl (b_imul (by rw [← e8]; exact ev_w_in (by omega) (by omega))) rfl ?_
  obtain ⟨v10, e11⟩ : ∃ zz : Int, zz = (v4) + (v7) := ⟨_, rfl⟩
  have b12 : -10010 ≤ v10 ∧ v10 ≤ 10010 := by omega
  refine w_t (np := 57) (l2 := [some (eJ (zJ c)), none, some (eI (9)), some (eR 14), some (eI (1)), some (eI (v4)), some (eI (1))]) (s2 := [eI (v10)]) rfl (b_iadd (by rw [← e11]; exact ev_w_in (by omega) (by omega))) rfl ?_
  refine w_t (np := 59) (l2 := [some (eJ (zJ c)), none, some (eI (9)), some (eR 14), some (eI (1)), some (eI (v10)), some (eI (1))]) (s2 := []) rfl rfl rfl ?_
  refine w_t (np := 62) (l2 := [some (eJ (zJ c)), none, some (eI (9)), some (eR 14), some (eI (1)), some (eI (v10)), some (eI (2))]) (s2 := []) rfl (b_iinc rfl rfl rfl) rfl ?_
  refine w_go (t1 := 18) rfl rfl ?_
  refine w_t (np := 20) (l2 := [some (eJ (zJ c)), none, some (eI (9)), some (eR 14), some (eI (1)), some (eI (v10)), some (eI (2))]) (s2 := [eI (2)]) rfl rfl rfl ?_
  refine w_t (np := 21) (l2 := [some (eJ (zJ c)), none, some (eI (9)), some (eR 14), some (eI (1)), some (eI (v10)), some (eI (2))]) (s2 := [eI (4), eI (2)]) rfl rfl rfl ?_
  refine b_cge (t1 := 65) (t2 := 24) rfl rfl rfl rfl rfl (fun g => absurd g (by decide)) (fun g => ?_)
  clear g
  refine w_t (np := 26) (l2 := [some (eJ (zJ c)), none, some (eI (9)), some (eR 14), some (eI (1)), some (eI (v10)), some (eI (2))]) (s2 := [eI (1)]) rfl rfl rfl ?_
  refine w_t (np := 28) (l2 := [some (eJ (zJ c)), none, some (eI (9)), some (eR 14), some (eI (1)), some (eI (v10)), some (eI (2))]) (s2 := [eI (2), eI (1)]) rfl rfl rfl ?_
  refine w_t (np := 29) (l2 := [some (eJ (zJ c)), none, some (eI (9)), some (eR 14), some (eI (1)), some (eI (v10)), some (eI (2))]) (s2 := [eI (3)]) rfl (b_iadd rfl) rfl ?_
  refine w_t (np := 30) (l2 := [some (eJ (zJ c)), none, some (eI (9)), some (eR 14), some (eI (1)), some (eI (v10)), some (eI (2))]) (s2 := [eR 14, eI (3)]) rfl (s_an rfl (by decide)) rfl ?_
  refine v_ln (np := 31) (v := 13) (n := 13) rfl rfl ⟨rfl, zI_lit (by decide)⟩ ?_
  rw [show zI 13 = 13 by decide]
  refine b_cge (t1 := 65) (t2 := 34) rfl rfl rfl rfl rfl (fun g => absurd g (by decide)) (fun g => ?_)
  clear g
  refine w_t (np := 36) (l2 := [some (eJ (zJ c)), none, some (eI (9)), some (eR 14), some (eI (1)), some (eI (v10)), some (eI (2))]) (s2 := [eI (v10)]) rfl rfl rfl ?_
  refine w_t (np := 37) (l2 := [some (eJ (zJ c)), none, some (eI (9)), some (eR 14), some (eI (1)), some (eI (v10)), some (eI (2))]) (s2 := [eJ (zJ c), eI (v10)]) rfl rfl rfl ?_
  refine w_t (np := 39) (l2 := [some (eJ (zJ c)), none, some (eI (9)), some (eR 14), some (eI (1)), some (eI (v10)), some (eI (2))]) (s2 := [eI (48), eJ (zJ c), eI (v10)]) rfl rfl rfl ?_
  refine w_t (np := 41) (l2 := [some (eJ (zJ c)), none, some (eI (9)), some (eR 14), some (eI (1)), some (eI (v10)), some (eI (2))]) (s2 := [eI (16), eI (48), eJ (zJ c), eI (v10)]) rfl rfl rfl ?_
  refine w_t (np := 43) (l2 := [some (eJ (zJ c)), none, some (eI (9)), some (eR 14), some (eI (1)), some (eI (v10)), some (eI (2))]) (s2 := [eI (2), eI (16), eI (48), eJ (zJ c), eI (v10)]) rfl rfl rfl ?_
  refine w_t (np := 44) (l2 := [some (eJ (zJ c)), none, some (eI (9)), some (eR 14), some (eI (1)), some (eI (v10)), some (eI (2))]) (s2 := [eI (32), eI (48), eJ (zJ c), eI (v10)]) rfl (b_imul rfl) rfl ?_
  refine w_t (np := 45) (l2 := [some (eJ (zJ c)), none, some (eI (9)), some (eR 14), some (eI (1)), some (eI (v10)), some (eI (2))]) (s2 := [eI (16), eJ (zJ c), eI (v10)]) rfl (b_isub rfl) rfl ?_
  refine w_lane (np := 48) (k := 16) (v := r) rfl rfl rfl rfl (by decide) rfl l2 ?_
  refine w_t (np := 49) (l2 := [some (eJ (zJ c)), none, some (eI (9)), some (eR 14), some (eI (1)), some (eI (v10)), some (eI (2))]) (s2 := [eR 14, eI (r), eI (v10)]) rfl (s_an rfl (by decide)) rfl ?_
  refine w_t (np := 51) (l2 := [some (eJ (zJ c)), none, some (eI (9)), some (eR 14), some (eI (1)), some (eI (v10)), some (eI (2))]) (s2 := [eI (1), eR 14, eI (r), eI (v10)]) rfl rfl rfl ?_
  refine w_t (np := 53) (l2 := [some (eJ (zJ c)), none, some (eI (9)), some (eR 14), some (eI (1)), some (eI (v10)), some (eI (2))]) (s2 := [eI (2), eI (1), eR 14, eI (r), eI (v10)]) rfl rfl rfl ?_
  refine w_t (np := 54) (l2 := [some (eJ (zJ c)), none, some (eI (9)), some (eR 14), some (eI (1)), some (eI (v10)), some (eI (2))]) (s2 := [eI (3), eR 14, eI (r), eI (v10)]) rfl (b_iadd rfl) rfl ?_
  refine w_al (np := 55) (v := 0) rfl rfl (s_al (j := 3) (by decide) (by decide) (by decide) rfl rfl (by decide) (by decide) rfl) ?_
  obtain ⟨v13, e14⟩ : ∃ zz : Int, zz = (r) * (0) := ⟨_, rfl⟩
  have b15 : 0 ≤ v13 ∧ v13 ≤ 0 := by omega
  refine w_t (np := 56) (l2 := [some (eJ (zJ c)), none, some (eI (9)), some (eR 14), some (eI (1)), some (eI (v10)), some (eI (2))]) (s2 := [eI (v13), eI (v10)]) rfl (b_imul (by rw [← e14]; exact ev_w_in (by omega) (by omega))) rfl ?_
  obtain ⟨v16, e17⟩ : ∃ zz : Int, zz = (v10) + (v13) := ⟨_, rfl⟩
  have b18 : -10010 ≤ v16 ∧ v16 ≤ 10010 := by omega
  refine w_t (np := 57) (l2 := [some (eJ (zJ c)), none, some (eI (9)), some (eR 14), some (eI (1)), some (eI (v10)), some (eI (2))]) (s2 := [eI (v16)]) rfl (b_iadd (by rw [← e17]; exact ev_w_in (by omega) (by omega))) rfl ?_
  refine w_t (np := 59) (l2 := [some (eJ (zJ c)), none, some (eI (9)), some (eR 14), some (eI (1)), some (eI (v16)), some (eI (2))]) (s2 := []) rfl rfl rfl ?_
  refine w_t (np := 62) (l2 := [some (eJ (zJ c)), none, some (eI (9)), some (eR 14), some (eI (1)), some (eI (v16)), some (eI (3))]) (s2 := []) rfl (b_iinc rfl rfl rfl) rfl ?_
  refine w_go (t1 := 18) rfl rfl ?_
  refine w_t (np := 20) (l2 := [some (eJ (zJ c)), none, some (eI (9)), some (eR 14), some (eI (1)), some (eI (v16)), some (eI (3))]) (s2 := [eI (3)]) rfl rfl rfl ?_
  refine w_t (np := 21) (l2 := [some (eJ (zJ c)), none, some (eI (9)), some (eR 14), some (eI (1)), some (eI (v16)), some (eI (3))]) (s2 := [eI (4), eI (3)]) rfl rfl rfl ?_
  refine b_cge (t1 := 65) (t2 := 24) rfl rfl rfl rfl rfl (fun g => absurd g (by decide)) (fun g => ?_)
  clear g
  refine w_t (np := 26) (l2 := [some (eJ (zJ c)), none, some (eI (9)), some (eR 14), some (eI (1)), some (eI (v16)), some (eI (3))]) (s2 := [eI (1)]) rfl rfl rfl ?_
  refine w_t (np := 28) (l2 := [some (eJ (zJ c)), none, some (eI (9)), some (eR 14), some (eI (1)), some (eI (v16)), some (eI (3))]) (s2 := [eI (3), eI (1)]) rfl rfl rfl ?_
  refine w_t (np := 29) (l2 := [some (eJ (zJ c)), none, some (eI (9)), some (eR 14), some (eI (1)), some (eI (v16)), some (eI (3))]) (s2 := [eI (4)]) rfl (b_iadd rfl) rfl ?_
  refine w_t (np := 30) (l2 := [some (eJ (zJ c)), none, some (eI (9)), some (eR 14), some (eI (1)), some (eI (v16)), some (eI (3))]) (s2 := [eR 14, eI (4)]) rfl (s_an rfl (by decide)) rfl ?_
  refine v_ln (np := 31) (v := 13) (n := 13) rfl rfl ⟨rfl, zI_lit (by decide)⟩ ?_
  rw [show zI 13 = 13 by decide]
  refine b_cge (t1 := 65) (t2 := 34) rfl rfl rfl rfl rfl (fun g => absurd g (by decide)) (fun g => ?_)
  clear g
  refine w_t (np := 36) (l2 := [some (eJ (zJ c)), none, some (eI (9)), some (eR 14), some (eI (1)), some (eI (v16)), some (eI (3))]) (s2 := [eI (v16)]) rfl rfl rfl ?_
  refine w_t (np := 37) (l2 := [some (eJ (zJ c)), none, some (eI (9)), some (eR 14), some (eI (1)), some (eI (v16)), some (eI (3))]) (s2 := [eJ (zJ c), eI (v16)]) rfl rfl rfl ?_
  refine w_t (np := 39) (l2 := [some (eJ (zJ c)), none, some (eI (9)), some (eR 14), some (eI (1)), some (eI (v16)), some (eI (3))]) (s2 := [eI (48), eJ (zJ c), eI (v16)]) rfl rfl rfl ?_
  refine w_t (np := 41) (l2 := [some (eJ (zJ c)), none, some (eI (9)), some (eR 14), some (eI (1)), some (eI (v16)), some (eI (3))]) (s2 := [eI (16), eI (48), eJ (zJ c), eI (v16)]) rfl rfl rfl ?_
  refine w_t (np := 43) (l2 := [some (eJ (zJ c)), none, some (eI (9)), some (eR 14), some (eI (1)), some (eI (v16)), some (eI (3))]) (s2 := [eI (3), eI (16), eI (48), eJ (zJ c), eI (v16)]) rfl rfl rfl ?_
  refine w_t (np := 44) (l2 := [some (eJ (zJ c)), none, some (eI (9)), some (eR 14), some (eI (1)), some (eI (v16)), some (eI (3))]) (s2 := [eI (48), eI (48), eJ (zJ c), eI (v16)]) rfl (b_imul rfl) rfl ?_
  refine w_t (np := 45) (l2 := [some (eJ (zJ c)), none, some (eI (9)), some (eR 14), some (eI (1)), some (eI (v16)), some (eI (3))]) (s2 := [eI (0), eJ (zJ c), eI (v16)]) rfl (b_isub rfl) rfl ?_
  refine w_lane (np := 48) (k := 0) (v := s) rfl rfl rfl rfl (by decide) rfl l3 ?_
  refine w_t (np := 49) (l2 := [some (eJ (zJ c)), none, some (eI (9)), some (eR 14), some (eI (1)), some (eI (v16)), some (eI (3))]) (s2 := [eR 14, eI (s), eI (v16)]) rfl (s_an rfl (by decide)) rfl ?_
  refine w_t (np := 51) (l2 := [some (eJ (zJ c)), none, some (eI (9)), some (eR 14), some (eI (1)), some (eI (v16)), some (eI (3))]) (s2 := [eI (1), eR 14, eI (s), eI (v16)]) rfl rfl rfl ?_
  refine w_t (np := 53) (l2 := [some (eJ (zJ c)), none, some (eI (9)), some (eR 14), some (eI (1)), some (eI (v16)), some (eI (3))]) (s2 := [eI (3), eI (1), eR 14, eI (s), eI (v16)]) rfl rfl rfl ?_
  refine w_t (np := 54) (l2 := [some (eJ (zJ c)), none, some (eI (9)), some (eR 14), some (eI (1)), some (eI (v16)), some (eI (3))]) (s2 := [eI (4), eR 14, eI (s), eI (v16)]) rfl (b_iadd rfl) rfl ?_
  refine w_al (np := 55) (v := 1) rfl rfl (s_al (j := 4) (by decide) (by decide) (by decide) rfl rfl (by decide) (by decide) rfl) ?_
  obtain ⟨v19, e20⟩ : ∃ zz : Int, zz = (s) * (1) := ⟨_, rfl⟩
  have b21 : -10010 ≤ v19 ∧ v19 ≤ 10010 := by omega
  refine w_t (np := 56) (l2 := [some (eJ (zJ c)), none, some (eI (9)), some (eR 14), some (eI (1)), some (eI (v16)), some (eI (3))]) (s2 := [eI (v19), eI (v16)]) rfl (b_imul (by rw [← e20]; exact ev_w_in (by omega) (by omega))) rfl ?_
  obtain ⟨v22, e23⟩ : ∃ zz : Int, zz = (v16) + (v19) := ⟨_, rfl⟩
  have b24 : -20020 ≤ v22 ∧ v22 ≤ 20020 := by omega
  refine w_t (np := 57) (l2 := [some (eJ (zJ c)), none, some (eI (9)), some (eR 14), some (eI (1)), some (eI (v16)), some (eI (3))]) (s2 := [eI (v22)]) rfl (b_iadd (by rw [← e23]; exact ev_w_in (by omega) (by omega))) rfl ?_
  refine w_t (np := 59) (l2 := [some (eJ (zJ c)), none, some (eI (9)), some (eR 14), some (eI (1)), some (eI (v22)), some (eI (3))]) (s2 := []) rfl rfl rfl ?_
  refine w_t (np := 62) (l2 := [some (eJ (zJ c)), none, some (eI (9)), some (eR 14), some (eI (1)), some (eI (v22)), some (eI (4))]) (s2 := []) rfl (b_iinc rfl rfl rfl) rfl ?_
  refine w_go (t1 := 18) rfl rfl ?_
  refine w_t (np := 20) (l2 := [some (eJ (zJ c)), none, some (eI (9)), some (eR 14), some (eI (1)), some (eI (v22)), some (eI (4))]) (s2 := [eI (4)]) rfl rfl rfl ?_
  refine w_t (np := 21) (l2 := [some (eJ (zJ c)), none, some (eI (9)), some (eR 14), some (eI (1)), some (eI (v22)), some (eI (4))]) (s2 := [eI (4), eI (4)]) rfl rfl rfl ?_
  refine b_cge (t1 := 65) (t2 := 24) rfl rfl rfl rfl rfl (fun g => ?_) (fun g => absurd g (by decide))
  clear g
  refine w_t (np := 67) (l2 := [some (eJ (zJ c)), none, some (eI (9)), some (eR 14), some (eI (1)), some (eI (v22)), some (eI (4))]) (s2 := [eI (v22)]) rfl rfl rfl ?_
  refine b_ri rfl rfl ?_
  have e9 : v22 = 1 * p + 1 * s := by omega
  rw [e9]
  exact K
theorem t80_15_0 {L : Nat} {ρ : Nat → Int} {rc rs d : Nat} {f : eFr} {F : List eFr} {μ : eM} {c : Nat} {p q r s : Int} (l0 : zI (z_i2s (z_l2i (z_lshr c 48))) = p) (l1 : zI (z_i2s (z_l2i (z_lshr c 32))) = q) (l2 : zI (z_i2s (z_l2i (z_lshr c 16))) = r) (l3 : zI (z_i2s (z_l2i (z_lshr c 0))) = s) (hp : -10010 ≤ p ∧ p ≤ 10010) (hq : -10010 ≤ q ∧ q ≤ 10010) (hr : -10010 ≤ r ∧ r ≤ 10010) (hs : -10010 ≤ s ∧ s ≤ 10010) (K : ex_fine (dt_fg L ρ) rc rs (d + 1, (f.1, f.2.1, f.2.2.1, eI (1 * r + 1 * s) :: f.2.2.2), F, μ)) : ex_fine (dt_fg L ρ) rc rs (d, (80, 0, [some (eJ (zJ c)), none, some (eI (0)), some (eR 15), none, none, none], []), f :: F, μ) := by
  refine w_t (np := 2) (l2 := [some (eJ (zJ c)), none, some (eI (0)), some (eR 15), none, none, none]) (s2 := [eI (10)]) rfl rfl rfl ?_
  refine w_t (np := 3) (l2 := [some (eJ (zJ c)), none, some (eI (0)), some (eR 15), none, none, none]) (s2 := [eI (0), eI (10)]) rfl rfl rfl ?_
  refine w_t (np := 5) (l2 := [some (eJ (zJ c)), none, some (eI (0)), some (eR 15), none, none, none]) (s2 := [eI (10), eI (0), eI (10)]) rfl rfl rfl ?_
  refine w_t (np := 6) (l2 := [some (eJ (zJ c)), none, some (eI (0)), some (eR 15), none, none, none]) (s2 := [eI (0), eI (10)]) rfl rfl rfl ?_
  refine w_t (np := 7) (l2 := [some (eJ (zJ c)), none, some (eI (0)), some (eR 15), none, none, none]) (s2 := [eI (10)]) rfl (b_isub rfl) rfl ?_
  refine w_t (np := 9) (l2 := [some (eJ (zJ c)), none, some (eI (0)), some (eR 15), none, none, none]) (s2 := [eI (10), eI (10)]) rfl rfl rfl ?_
  refine w_t (np := 10) (l2 := [some (eJ (zJ c)), none, some (eI (0)), some (eR 15), none, none, none]) (s2 := [eI (0)]) rfl rfl rfl ?_
  refine w_t (np := 12) (l2 := [some (eJ (zJ c)), none, some (eI (0)), some (eR 15), some (eI (0)), none, none]) (s2 := []) rfl rfl rfl ?_
  refine w_t (np := 13) (l2 := [some (eJ (zJ c)), none, some (eI (0)), some (eR 15), some (eI (0)), none, none]) (s2 := [eI (0)]) rfl rfl rfl ?_
  refine w_t (np := 15) (l2 := [some (eJ (zJ c)), none, some (eI (0)), some (eR 15), some (eI (0)), some (eI (0)), none]) (s2 := []) rfl rfl rfl ?_
  refine w_t (np := 16) (l2 := [some (eJ (zJ c)), none, some (eI (0)), some (eR 15), some (eI (0)), some (eI (0)), none]) (s2 := [eI (0)]) rfl rfl rfl ?_
  refine w_t (np := 18) (l2 := [some (eJ (zJ c)), none, some (eI (0)), some (eR 15), some (eI (0)), some (eI (0)), some (eI (0))]) (s2 := []) rfl rfl rfl ?_
  refine w_t (np := 20) (l2 := [some (eJ (zJ c)), none, some (eI (0)), some (eR 15), some (eI (0)), some (eI (0)), some (eI (0))]) (s2 := [eI (0)]) rfl rfl rfl ?_
  refine w_t (np := 21) (l2 := [some (eJ (zJ c)), none, some (eI (0)), some (eR 15), some (eI (0)), some (eI (0)), some (eI (0))]) (s2 := [eI (4), eI (0)]) rfl rfl rfl ?_
  refine b_cge (t1 := 65) (t2 := 24) rfl rfl rfl rfl rfl (fun g => absurd g (by decide)) (fun g => ?_)
  clear g
  refine w_t (np := 26) (l2 := [some (eJ (zJ c)), none, some (eI (0)), some (eR 15), some (eI (0)), some (eI (0)), some (eI (0))]) (s2 := [eI (0)]) rfl rfl rfl ?_
  refine w_t (np := 28) (l2 := [some (eJ (zJ c)), none, some (eI (0)), some (eR 15), some (eI (0)), some (eI (0)), some (eI (0))]) (s2 := [eI (0), eI (0)]) rfl rfl rfl ?_
  refine w_t (np := 29) (l2 := [some (eJ (zJ c)), none, some (eI (0)), some (eR 15), some (eI (0)), some (eI (0)), some (eI (0))]) (s2 := [eI (0)]) rfl (b_iadd rfl) rfl ?_
  refine w_t (np := 30) (l2 := [some (eJ (zJ c)), none, some (eI (0)), some (eR 15), some (eI (0)), some (eI (0)), some (eI (0))]) (s2 := [eR 15, eI (0)]) rfl (s_an rfl (by decide)) rfl ?_
  refine v_ln (np := 31) (v := 13) (n := 13) rfl rfl ⟨rfl, zI_lit (by decide)⟩ ?_
  rw [show zI 13 = 13 by decide]
  refine b_cge (t1 := 65) (t2 := 34) rfl rfl rfl rfl rfl (fun g => absurd g (by decide)) (fun g => ?_)
  clear g
  refine w_t (np := 36) (l2 := [some (eJ (zJ c)), none, some (eI (0)), some (eR 15), some (eI (0)), some (eI (0)), some (eI (0))]) (s2 := [eI (0)]) rfl rfl rfl ?_
  refine w_t (np := 37) (l2 := [some (eJ (zJ c)), none, some (eI (0)), some (eR 15), some (eI (0)), some (eI (0)), some (eI (0))]) (s2 := [eJ (zJ c), eI (0)]) rfl rfl rfl ?_
  refine w_t (np := 39) (l2 := [some (eJ (zJ c)), none, some (eI (0)), some (eR 15), some (eI (0)), some (eI (0)), some (eI (0))]) (s2 := [eI (48), eJ (zJ c), eI (0)]) rfl rfl rfl ?_
  refine w_t (np := 41) (l2 := [some (eJ (zJ c)), none, some (eI (0)), some (eR 15), some (eI (0)), some (eI (0)), some (eI (0))]) (s2 := [eI (16), eI (48), eJ (zJ c), eI (0)]) rfl rfl rfl ?_
  refine w_t (np := 43) (l2 := [some (eJ (zJ c)), none, some (eI (0)), some (eR 15), some (eI (0)), some (eI (0)), some (eI (0))]) (s2 := [eI (0), eI (16), eI (48), eJ (zJ c), eI (0)]) rfl rfl rfl ?_
  refine w_t (np := 44) (l2 := [some (eJ (zJ c)), none, some (eI (0)), some (eR 15), some (eI (0)), some (eI (0)), some (eI (0))]) (s2 := [eI (0), eI (48), eJ (zJ c), eI (0)]) rfl (b_imul rfl) rfl ?_
  refine w_t (np := 45) (l2 := [some (eJ (zJ c)), none, some (eI (0)), some (eR 15), some (eI (0)), some (eI (0)), some (eI (0))]) (s2 := [eI (48), eJ (zJ c), eI (0)]) rfl (b_isub rfl) rfl ?_
  refine w_lane (np := 48) (k := 48) (v := p) rfl rfl rfl rfl (by decide) rfl l0 ?_
  refine w_t (np := 49) (l2 := [some (eJ (zJ c)), none, some (eI (0)), some (eR 15), some (eI (0)), some (eI (0)), some (eI (0))]) (s2 := [eR 15, eI (p), eI (0)]) rfl (s_an rfl (by decide)) rfl ?_
  refine w_t (np := 51) (l2 := [some (eJ (zJ c)), none, some (eI (0)), some (eR 15), some (eI (0)), some (eI (0)), some (eI (0))]) (s2 := [eI (0), eR 15, eI (p), eI (0)]) rfl rfl rfl ?_
  refine w_t (np := 53) (l2 := [some (eJ (zJ c)), none, some (eI (0)), some (eR 15), some (eI (0)), some (eI (0)), some (eI (0))]) (s2 := [eI (0), eI (0), eR 15, eI (p), eI (0)]) rfl rfl rfl ?_
  refine w_t (np := 54) (l2 := [some (eJ (zJ c)), none, some (eI (0)), some (eR 15), some (eI (0)), some (eI (0)), some (eI (0))]) (s2 := [eI (0), eR 15, eI (p), eI (0)]) rfl (b_iadd rfl) rfl ?_
  refine w_al (np := 55) (v := 0) rfl rfl (s_al (j := 0) (by decide) (by decide) (by decide) rfl rfl (by decide) (by decide) rfl) ?_
  obtain ⟨v1, e2⟩ : ∃ zz : Int, zz = (p) * (0) := ⟨_, rfl⟩
  have b3 : 0 ≤ v1 ∧ v1 ≤ 0 := by omega
  refine w_t (np := 56) (l2 := [some (eJ (zJ c)), none, some (eI (0)), some (eR 15), some (eI (0)), some (eI (0)), some (eI (0))]) (s2 := [eI (v1), eI (0)]) rfl (b_imul (by rw [← e2]; exact ev_w_in (by omega) (by omega))) rfl ?_
  obtain ⟨v4, e5⟩ : ∃ zz : Int, zz = (0) + (v1) := ⟨_, rfl⟩
  have b6 : 0 ≤ v4 ∧ v4 ≤ 0 := by omega
  refine w_t (np := 57) (l2 := [some (eJ (zJ c)), none, some (eI (0)), some (eR 15), some (eI (0)), some (eI (0)), some (eI (0))]) (s2 := [eI (v4)]) rfl (b_iadd (by rw [← e5]; exact ev_w_in (by omega) (by omega))) rfl ?_
  refine w_t (np := 59) (l2 := [some (eJ (zJ c)), none, some (eI (0)), some (eR 15), some (eI (0)), some (eI (v4)), some (eI (0))]) (s2 := []) rfl rfl rfl ?_
  refine w_t (np := 62) (l2 := [some (eJ (zJ c)), none, some (eI (0)), some (eR 15), some (eI (0)), some (eI (v4)), some (eI (1))]) (s2 := []) rfl (b_iinc rfl rfl rfl) rfl ?_
  refine w_go (t1 := 18) rfl rfl ?_
  refine w_t (np := 20) (l2 := [some (eJ (zJ c)), none, some (eI (0)), some (eR 15), some (eI (0)), some (eI (v4)), some (eI (1))]) (s2 := [eI (1)]) rfl rfl rfl ?_
  refine w_t (np := 21) (l2 := [some (eJ (zJ c)), none, some (eI (0)), some (eR 15), some (eI (0)), some (eI (v4)), some (eI (1))]) (s2 := [eI (4), eI (1)]) rfl rfl rfl ?_
  refine b_cge (t1 := 65) (t2 := 24) rfl rfl rfl rfl rfl (fun g => absurd g (by decide)) (fun g => ?_)
  clear g
  refine w_t (np := 26) (l2 := [some (eJ (zJ c)), none, some (eI (0)), some (eR 15), some (eI (0)), some (eI (v4)), some (eI (1))]) (s2 := [eI (0)]) rfl rfl rfl ?_
  refine w_t (np := 28) (l2 := [some (eJ (zJ c)), none, some (eI (0)), some (eR 15), some (eI (0)), some (eI (v4)), some (eI (1))]) (s2 := [eI (1), eI (0)]) rfl rfl rfl ?_
  refine w_t (np := 29) (l2 := [some (eJ (zJ c)), none, some (eI (0)), some (eR 15), some (eI (0)), some (eI (v4)), some (eI (1))]) (s2 := [eI (1)]) rfl (b_iadd rfl) rfl ?_
  refine w_t (np := 30) (l2 := [some (eJ (zJ c)), none, some (eI (0)), some (eR 15), some (eI (0)), some (eI (v4)), some (eI (1))]) (s2 := [eR 15, eI (1)]) rfl (s_an rfl (by decide)) rfl ?_
  refine v_ln (np := 31) (v := 13) (n := 13) rfl rfl ⟨rfl, zI_lit (by decide)⟩ ?_
  rw [show zI 13 = 13 by decide]
  refine b_cge (t1 := 65) (t2 := 34) rfl rfl rfl rfl rfl (fun g => absurd g (by decide)) (fun g => ?_)
  clear g
  refine w_t (np := 36) (l2 := [some (eJ (zJ c)), none, some (eI (0)), some (eR 15), some (eI (0)), some (eI (v4)), some (eI (1))]) (s2 := [eI (v4)]) rfl rfl rfl ?_
  refine w_t (np := 37) (l2 := [some (eJ (zJ c)), none, some (eI (0)), some (eR 15), some (eI (0)), some (eI (v4)), some (eI (1))]) (s2 := [eJ (zJ c), eI (v4)]) rfl rfl rfl ?_
  refine w_t (np := 39) (l2 := [some (eJ (zJ c)), none, some (eI (0)), some (eR 15), some (eI (0)), some (eI (v4)), some (eI (1))]) (s2 := [eI (48), eJ (zJ c), eI (v4)]) rfl rfl rfl ?_
  refine w_t (np := 41) (l2 := [some (eJ (zJ c)), none, some (eI (0)), some (eR 15), some (eI (0)), some (eI (v4)), some (eI (1))]) (s2 := [eI (16), eI (48), eJ (zJ c), eI (v4)]) rfl rfl rfl ?_
  refine w_t (np := 43) (l2 := [some (eJ (zJ c)), none, some (eI (0)), some (eR 15), some (eI (0)), some (eI (v4)), some (eI (1))]) (s2 := [eI (1), eI (16), eI (48), eJ (zJ c), eI (v4)]) rfl rfl rfl ?_
  refine w_t (np := 44) (l2 := [some (eJ (zJ c)), none, some (eI (0)), some (eR 15), some (eI (0)), some (eI (v4)), some (eI (1))]) (s2 := [eI (16), eI (48), eJ (zJ c), eI (v4)]) rfl (b_imul rfl) rfl ?_
  refine w_t (np := 45) (l2 := [some (eJ (zJ c)), none, some (eI (0)), some (eR 15), some (eI (0)), some (eI (v4)), some (eI (1))]) (s2 := [eI (32), eJ (zJ c), eI (v4)]) rfl (b_isub rfl) rfl ?_
  refine w_lane (np := 48) (k := 32) (v := q) rfl rfl rfl rfl (by decide) rfl l1 ?_
  refine w_t (np := 49) (l2 := [some (eJ (zJ c)), none, some (eI (0)), some (eR 15), some (eI (0)), some (eI (v4)), some (eI (1))]) (s2 := [eR 15, eI (q), eI (v4)]) rfl (s_an rfl (by decide)) rfl ?_
  refine w_t (np := 51) (l2 := [some (eJ (zJ c)), none, some (eI (0)), some (eR 15), some (eI (0)), some (eI (v4)), some (eI (1))]) (s2 := [eI (0), eR 15, eI (q), eI (v4)]) rfl rfl rfl ?_
  refine w_t (np := 53) (l2 := [some (eJ (zJ c)), none, some (eI (0)), some (eR 15), some (eI (0)), some (eI (v4)), some (eI (1))]) (s2 := [eI (1), eI (0), eR 15, eI (q), eI (v4)]) rfl rfl rfl ?_
  refine w_t (np := 54) (l2 := [some (eJ (zJ c)), none, some (eI (0)), some (eR 15), some (eI (0)), some (eI (v4)), some (eI (1))]) (s2 := [eI (1), eR 15, eI (q), eI (v4)]) rfl (b_iadd rfl) rfl ?_
  refine w_al (np := 55) (v := 0) rfl rfl (s_al (j := 1) (by decide) (by decide) (by decide) rfl rfl (by decide) (by decide) rfl) ?_
  obtain ⟨v7, e8⟩ : ∃ zz : Int, zz = (q) * (0) := ⟨_, rfl⟩
  have b9 : 0 ≤ v7 ∧ v7 ≤ 0 := by omega
  refine w_t (np := 56) (l2 := [some (eJ (zJ c)), none, some (eI (0)), some (eR 15), some (eI (0)), some (eI (v4)), some (eI (1))]) (s2 := [eI (v7), eI (v4)]) rfl (b_imul (by rw [← e8]; exact ev_w_in (by omega) (by omega))) rfl ?_
  obtain ⟨v10, e11⟩ : ∃ zz : Int, zz = (v4) + (v7) := ⟨_, rfl⟩
  have b12 : 0 ≤ v10 ∧ v10 ≤ 0 := by omega
  refine w_t (np := 57) (l2 := [some (eJ (zJ c)), none, some (eI (0)), some (eR 15), some (eI (0)), some (eI (v4)), some (eI (1))]) (s2 := [eI (v10)]) rfl (b_iadd (by rw [← e11]; exact ev_w_in (by omega) (by omega))) rfl ?_
  refine w_t (np := 59) (l2 := [some (eJ (zJ c)), none, some (eI (0)), some (eR 15), some (eI (0)), some (eI (v10)), some (eI (1))]) (s2 := []) rfl rfl rfl ?_
  refine w_t (np := 62) (l2 := [some (eJ (zJ c)), none, some (eI (0)), some (eR 15), some (eI (0)), some (eI (v10)), some (eI (2))]) (s2 := []) rfl (b_iinc rfl rfl rfl) rfl ?_
  refine w_go (t1 := 18) rfl rfl ?_
  refine w_t (np := 20) (l2 := [some (eJ (zJ c)), none, some (eI (0)), some (eR 15), some (eI (0)), some (eI (v10)), some (eI (2))]) (s2 := [eI (2)]) rfl rfl rfl ?_
  refine w_t (np := 21) (l2 := [some (eJ (zJ c)), none, some (eI (0)), some (eR 15), some (eI (0)), some (eI (v10)), some (eI (2))]) (s2 := [eI (4), eI (2)]) rfl rfl rfl ?_
  refine b_cge (t1 := 65) (t2 := 24) rfl rfl rfl rfl rfl (fun g => absurd g (by decide)) (fun g => ?_)
  clear g
  refine w_t (np := 26) (l2 := [some (eJ (zJ c)), none, some (eI (0)), some (eR 15), some (eI (0)), some (eI (v10)), some (eI (2))]) (s2 := [eI (0)]) rfl rfl rfl ?_
  refine w_t (np := 28) (l2 := [some (eJ (zJ c)), none, some (eI (0)), some (eR 15), some (eI (0)), some (eI (v10)), some (eI (2))]) (s2 := [eI (2), eI (0)]) rfl rfl rfl ?_
  refine w_t (np := 29) (l2 := [some (eJ (zJ c)), none, some (eI (0)), some (eR 15), some (eI (0)), some (eI (v10)), some (eI (2))]) (s2 := [eI (2)]) rfl (b_iadd rfl) rfl ?_
  refine w_t (np := 30) (l2 := [some (eJ (zJ c)), none, some (eI (0)), some (eR 15), some (eI (0)), some (eI (v10)), some (eI (2))]) (s2 := [eR 15, eI (2)]) rfl (s_an rfl (by decide)) rfl ?_
  refine v_ln (np := 31) (v := 13) (n := 13) rfl rfl ⟨rfl, zI_lit (by decide)⟩ ?_
  rw [show zI 13 = 13 by decide]
  refine b_cge (t1 := 65) (t2 := 34) rfl rfl rfl rfl rfl (fun g => absurd g (by decide)) (fun g => ?_)
  clear g
  refine w_t (np := 36) (l2 := [some (eJ (zJ c)), none, some (eI (0)), some (eR 15), some (eI (0)), some (eI (v10)), some (eI (2))]) (s2 := [eI (v10)]) rfl rfl rfl ?_
  refine w_t (np := 37) (l2 := [some (eJ (zJ c)), none, some (eI (0)), some (eR 15), some (eI (0)), some (eI (v10)), some (eI (2))]) (s2 := [eJ (zJ c), eI (v10)]) rfl rfl rfl ?_
  refine w_t (np := 39) (l2 := [some (eJ (zJ c)), none, some (eI (0)), some (eR 15), some (eI (0)), some (eI (v10)), some (eI (2))]) (s2 := [eI (48), eJ (zJ c), eI (v10)]) rfl rfl rfl ?_
  refine w_t (np := 41) (l2 := [some (eJ (zJ c)), none, some (eI (0)), some (eR 15), some (eI (0)), some (eI (v10)), some (eI (2))]) (s2 := [eI (16), eI (48), eJ (zJ c), eI (v10)]) rfl rfl rfl ?_
  refine w_t (np := 43) (l2 := [some (eJ (zJ c)), none, some (eI (0)), some (eR 15), some (eI (0)), some (eI (v10)), some (eI (2))]) (s2 := [eI (2), eI (16), eI (48), eJ (zJ c), eI (v10)]) rfl rfl rfl ?_
  refine w_t (np := 44) (l2 := [some (eJ (zJ c)), none, some (eI (0)), some (eR 15), some (eI (0)), some (eI (v10)), some (eI (2))]) (s2 := [eI (32), eI (48), eJ (zJ c), eI (v10)]) rfl (b_imul rfl) rfl ?_
  refine w_t (np := 45) (l2 := [some (eJ (zJ c)), none, some (eI (0)), some (eR 15), some (eI (0)), some (eI (v10)), some (eI (2))]) (s2 := [eI (16), eJ (zJ c), eI (v10)]) rfl (b_isub rfl) rfl ?_
  refine w_lane (np := 48) (k := 16) (v := r) rfl rfl rfl rfl (by decide) rfl l2 ?_
  refine w_t (np := 49) (l2 := [some (eJ (zJ c)), none, some (eI (0)), some (eR 15), some (eI (0)), some (eI (v10)), some (eI (2))]) (s2 := [eR 15, eI (r), eI (v10)]) rfl (s_an rfl (by decide)) rfl ?_
  refine w_t (np := 51) (l2 := [some (eJ (zJ c)), none, some (eI (0)), some (eR 15), some (eI (0)), some (eI (v10)), some (eI (2))]) (s2 := [eI (0), eR 15, eI (r), eI (v10)]) rfl rfl rfl ?_
  refine w_t (np := 53) (l2 := [some (eJ (zJ c)), none, some (eI (0)), some (eR 15), some (eI (0)), some (eI (v10)), some (eI (2))]) (s2 := [eI (2), eI (0), eR 15, eI (r), eI (v10)]) rfl rfl rfl ?_
  refine w_t (np := 54) (l2 := [some (eJ (zJ c)), none, some (eI (0)), some (eR 15), some (eI (0)), some (eI (v10)), some (eI (2))]) (s2 := [eI (2), eR 15, eI (r), eI (v10)]) rfl (b_iadd rfl) rfl ?_
  refine w_al (np := 55) (v := 1) rfl rfl (s_al (j := 2) (by decide) (by decide) (by decide) rfl rfl (by decide) (by decide) rfl) ?_
  obtain ⟨v13, e14⟩ : ∃ zz : Int, zz = (r) * (1) := ⟨_, rfl⟩
  have b15 : -10010 ≤ v13 ∧ v13 ≤ 10010 := by omega
  refine w_t (np := 56) (l2 := [some (eJ (zJ c)), none, some (eI (0)), some (eR 15), some (eI (0)), some (eI (v10)), some (eI (2))]) (s2 := [eI (v13), eI (v10)]) rfl (b_imul (by rw [← e14]; exact ev_w_in (by omega) (by omega))) rfl ?_
  obtain ⟨v16, e17⟩ : ∃ zz : Int, zz = (v10) + (v13) := ⟨_, rfl⟩
  have b18 : -10010 ≤ v16 ∧ v16 ≤ 10010 := by omega
  refine w_t (np := 57) (l2 := [some (eJ (zJ c)), none, some (eI (0)), some (eR 15), some (eI (0)), some (eI (v10)), some (eI (2))]) (s2 := [eI (v16)]) rfl (b_iadd (by rw [← e17]; exact ev_w_in (by omega) (by omega))) rfl ?_
  refine w_t (np := 59) (l2 := [some (eJ (zJ c)), none, some (eI (0)), some (eR 15), some (eI (0)), some (eI (v16)), some (eI (2))]) (s2 := []) rfl rfl rfl ?_
  refine w_t (np := 62) (l2 := [some (eJ (zJ c)), none, some (eI (0)), some (eR 15), some (eI (0)), some (eI (v16)), some (eI (3))]) (s2 := []) rfl (b_iinc rfl rfl rfl) rfl ?_
  refine w_go (t1 := 18) rfl rfl ?_
  refine w_t (np := 20) (l2 := [some (eJ (zJ c)), none, some (eI (0)), some (eR 15), some (eI (0)), some (eI (v16)), some (eI (3))]) (s2 := [eI (3)]) rfl rfl rfl ?_
  refine w_t (np := 21) (l2 := [some (eJ (zJ c)), none, some (eI (0)), some (eR 15), some (eI (0)), some (eI (v16)), some (eI (3))]) (s2 := [eI (4), eI (3)]) rfl rfl rfl ?_
  refine b_cge (t1 := 65) (t2 := 24) rfl rfl rfl rfl rfl (fun g => absurd g (by decide)) (fun g => ?_)
  clear g
  refine w_t (np := 26) (l2 := [some (eJ (zJ c)), none, some (eI (0)), some (eR 15), some (eI (0)), some (eI (v16)), some (eI (3))]) (s2 := [eI (0)]) rfl rfl rfl ?_
  refine w_t (np := 28) (l2 := [some (eJ (zJ c)), none, some (eI (0)), some (eR 15), some (eI (0)), some (eI (v16)), some (eI (3))]) (s2 := [eI (3), eI (0)]) rfl rfl rfl ?_
  refine w_t (np := 29) (l2 := [some (eJ (zJ c)), none, some (eI (0)), some (eR 15), some (eI (0)), some (eI (v16)), some (eI (3))]) (s2 := [eI (3)]) rfl (b_iadd rfl) rfl ?_
  refine w_t (np := 30) (l2 := [some (eJ (zJ c)), none, some (eI (0)), some (eR 15), some (eI (0)), some (eI (v16)), some (eI (3))]) (s2 := [eR 15, eI (3)]) rfl (s_an rfl (by decide)) rfl ?_
  refine v_ln (np := 31) (v := 13) (n := 13) rfl rfl ⟨rfl, zI_lit (by decide)⟩ ?_
  rw [show zI 13 = 13 by decide]
  refine b_cge (t1 := 65) (t2 := 34) rfl rfl rfl rfl rfl (fun g => absurd g (by decide)) (fun g => ?_)
  clear g
  refine w_t (np := 36) (l2 := [some (eJ (zJ c)), none, some (eI (0)), some (eR 15), some (eI (0)), some (eI (v16)), some (eI (3))]) (s2 := [eI (v16)]) rfl rfl rfl ?_
  refine w_t (np := 37) (l2 := [some (eJ (zJ c)), none, some (eI (0)), some (eR 15), some (eI (0)), some (eI (v16)), some (eI (3))]) (s2 := [eJ (zJ c), eI (v16)]) rfl rfl rfl ?_
  refine w_t (np := 39) (l2 := [some (eJ (zJ c)), none, some (eI (0)), some (eR 15), some (eI (0)), some (eI (v16)), some (eI (3))]) (s2 := [eI (48), eJ (zJ c), eI (v16)]) rfl rfl rfl ?_
  refine w_t (np := 41) (l2 := [some (eJ (zJ c)), none, some (eI (0)), some (eR 15), some (eI (0)), some (eI (v16)), some (eI (3))]) (s2 := [eI (16), eI (48), eJ (zJ c), eI (v16)]) rfl rfl rfl ?_
  refine w_t (np := 43) (l2 := [some (eJ (zJ c)), none, some (eI (0)), some (eR 15), some (eI (0)), some (eI (v16)), some (eI (3))]) (s2 := [eI (3), eI (16), eI (48), eJ (zJ c), eI (v16)]) rfl rfl rfl ?_
  refine w_t (np := 44) (l2 := [some (eJ (zJ c)), none, some (eI (0)), some (eR 15), some (eI (0)), some (eI (v16)), some (eI (3))]) (s2 := [eI (48), eI (48), eJ (zJ c), eI (v16)]) rfl (b_imul rfl) rfl ?_
  refine w_t (np := 45) (l2 := [some (eJ (zJ c)), none, some (eI (0)), some (eR 15), some (eI (0)), some (eI (v16)), some (eI (3))]) (s2 := [eI (0), eJ (zJ c), eI (v16)]) rfl (b_isub rfl) rfl ?_
  refine w_lane (np := 48) (k := 0) (v := s) rfl rfl rfl rfl (by decide) rfl l3 ?_
  refine w_t (np := 49) (l2 := [some (eJ (zJ c)), none, some (eI (0)), some (eR 15), some (eI (0)), some (eI (v16)), some (eI (3))]) (s2 := [eR 15, eI (s), eI (v16)]) rfl (s_an rfl (by decide)) rfl ?_
  refine w_t (np := 51) (l2 := [some (eJ (zJ c)), none, some (eI (0)), some (eR 15), some (eI (0)), some (eI (v16)), some (eI (3))]) (s2 := [eI (0), eR 15, eI (s), eI (v16)]) rfl rfl rfl ?_
  refine w_t (np := 53) (l2 := [some (eJ (zJ c)), none, some (eI (0)), some (eR 15), some (eI (0)), some (eI (v16)), some (eI (3))]) (s2 := [eI (3), eI (0), eR 15, eI (s), eI (v16)]) rfl rfl rfl ?_
  refine w_t (np := 54) (l2 := [some (eJ (zJ c)), none, some (eI (0)), some (eR 15), some (eI (0)), some (eI (v16)), some (eI (3))]) (s2 := [eI (3), eR 15, eI (s), eI (v16)]) rfl (b_iadd rfl) rfl ?_
  refine w_al (np := 55) (v := 1) rfl rfl (s_al (j := 3) (by decide) (by decide) (by decide) rfl rfl (by decide) (by decide) rfl) ?_
  obtain ⟨v19, e20⟩ : ∃ zz : Int, zz = (s) * (1) := ⟨_, rfl⟩
  have b21 : -10010 ≤ v19 ∧ v19 ≤ 10010 := by omega
  refine w_t (np := 56) (l2 := [some (eJ (zJ c)), none, some (eI (0)), some (eR 15), some (eI (0)), some (eI (v16)), some (eI (3))]) (s2 := [eI (v19), eI (v16)]) rfl (b_imul (by rw [← e20]; exact ev_w_in (by omega) (by omega))) rfl ?_
  obtain ⟨v22, e23⟩ : ∃ zz : Int, zz = (v16) + (v19) := ⟨_, rfl⟩
  have b24 : -20020 ≤ v22 ∧ v22 ≤ 20020 := by omega
  refine w_t (np := 57) (l2 := [some (eJ (zJ c)), none, some (eI (0)), some (eR 15), some (eI (0)), some (eI (v16)), some (eI (3))]) (s2 := [eI (v22)]) rfl (b_iadd (by rw [← e23]; exact ev_w_in (by omega) (by omega))) rfl ?_
  refine w_t (np := 59) (l2 := [some (eJ (zJ c)), none, some (eI (0)), some (eR 15), some (eI (0)), some (eI (v22)), some (eI (3))]) (s2 := []) rfl rfl rfl ?_
  refine w_t (np := 62) (l2 := [some (eJ (zJ c)), none, some (eI (0)), some (eR 15), some (eI (0)), some (eI (v22)), some (eI (4))]) (s2 := []) rfl (b_iinc rfl rfl rfl) rfl ?_
  refine w_go (t1 := 18) rfl rfl ?_
  refine w_t (np := 20) (l2 := [some (eJ (zJ c)), none, some (eI (0)), some (eR 15), some (eI (0)), some (eI (v22)), some (eI (4))]) (s2 := [eI (4)]) rfl rfl rfl ?_
  refine w_t (np := 21) (l2 := [some (eJ (zJ c)), none, some (eI (0)), some (eR 15), some (eI (0)), some (eI (v22)), some (eI (4))]) (s2 := [eI (4), eI (4)]) rfl rfl rfl ?_
  refine b_cge (t1 := 65) (t2 := 24) rfl rfl rfl rfl rfl (fun g => ?_) (fun g => absurd g (by decide))
  clear g
  refine w_t (np := 67) (l2 := [some (eJ (zJ c)), none, some (eI (0)), some (eR 15), some (eI (0)), some (eI (v22)), some (eI (4))]) (s2 := [eI (v22)]) rfl rfl rfl ?_
  refine b_ri rfl rfl ?_
  have e9 : v22 = 1 * r + 1 * s := by omega
  rw [e9]
  exact K
theorem t80_15_1 {L : Nat} {ρ : Nat → Int} {rc rs d : Nat} {f : eFr} {F : List eFr} {μ : eM} {c : Nat} {p q r s : Int} (l0 : zI (z_i2s (z_l2i (z_lshr c 48))) = p) (l1 : zI (z_i2s (z_l2i (z_lshr c 32))) = q) (l2 : zI (z_i2s (z_l2i (z_lshr c 16))) = r) (l3 : zI (z_i2s (z_l2i (z_lshr c 0))) = s) (hp : -10010 ≤ p ∧ p ≤ 10010) (hq : -10010 ≤ q ∧ q ≤ 10010) (hr : -10010 ≤ r ∧ r ≤ 10010) (hs : -10010 ≤ s ∧ s ≤ 10010) (K : ex_fine (dt_fg L ρ) rc rs (d + 1, (f.1, f.2.1, f.2.2.1, eI (1 * s) :: f.2.2.2), F, μ)) : ex_fine (dt_fg L ρ) rc rs (d, (80, 0, [some (eJ (zJ c)), none, some (eI (1)), some (eR 15), none, none, none], []), f :: F, μ) := by
  refine w_t (np := 2) (l2 := [some (eJ (zJ c)), none, some (eI (1)), some (eR 15), none, none, none]) (s2 := [eI (10)]) rfl rfl rfl ?_
  refine w_t (np := 3) (l2 := [some (eJ (zJ c)), none, some (eI (1)), some (eR 15), none, none, none]) (s2 := [eI (1), eI (10)]) rfl rfl rfl ?_
  refine w_t (np := 5) (l2 := [some (eJ (zJ c)), none, some (eI (1)), some (eR 15), none, none, none]) (s2 := [eI (10), eI (1), eI (10)]) rfl rfl rfl ?_
  refine w_t (np := 6) (l2 := [some (eJ (zJ c)), none, some (eI (1)), some (eR 15), none, none, none]) (s2 := [eI (1), eI (10)]) rfl rfl rfl ?_
  refine w_t (np := 7) (l2 := [some (eJ (zJ c)), none, some (eI (1)), some (eR 15), none, none, none]) (s2 := [eI (9)]) rfl (b_isub rfl) rfl ?_
  refine w_t (np := 9) (l2 := [some (eJ (zJ c)), none, some (eI (1)), some (eR 15), none, none, none]) (s2 := [eI (10), eI (9)]) rfl rfl rfl ?_
  refine w_t (np := 10) (l2 := [some (eJ (zJ c)), none, some (eI (1)), some (eR 15), none, none, none]) (s2 := [eI (9)]) rfl rfl rfl ?_
  refine w_t (np := 12) (l2 := [some (eJ (zJ c)), none, some (eI (1)), some (eR 15), some (eI (9)), none, none]) (s2 := []) rfl rfl rfl ?_
  refine w_t (np := 13) (l2 := [some (eJ (zJ c)), none, some (eI (1)), some (eR 15), some (eI (9)), none, none]) (s2 := [eI (0)]) rfl rfl rfl ?_
  refine w_t (np := 15) (l2 := [some (eJ (zJ c)), none, some (eI (1)), some (eR 15), some (eI (9)), some (eI (0)), none]) (s2 := []) rfl rfl rfl ?_
  refine w_t (np := 16) (l2 := [some (eJ (zJ c)), none, some (eI (1)), some (eR 15), some (eI (9)), some (eI (0)), none]) (s2 := [eI (0)]) rfl rfl rfl ?_
  refine w_t (np := 18) (l2 := [some (eJ (zJ c)), none, some (eI (1)), some (eR 15), some (eI (9)), some (eI (0)), some (eI (0))]) (s2 := []) rfl rfl rfl ?_
  refine w_t (np := 20) (l2 := [some (eJ (zJ c)), none, some (eI (1)), some (eR 15), some (eI (9)), some (eI (0)), some (eI (0))]) (s2 := [eI (0)]) rfl rfl rfl ?_
  refine w_t (np := 21) (l2 := [some (eJ (zJ c)), none, some (eI (1)), some (eR 15), some (eI (9)), some (eI (0)), some (eI (0))]) (s2 := [eI (4), eI (0)]) rfl rfl rfl ?_
  refine b_cge (t1 := 65) (t2 := 24) rfl rfl rfl rfl rfl (fun g => absurd g (by decide)) (fun g => ?_)
  clear g
  refine w_t (np := 26) (l2 := [some (eJ (zJ c)), none, some (eI (1)), some (eR 15), some (eI (9)), some (eI (0)), some (eI (0))]) (s2 := [eI (9)]) rfl rfl rfl ?_
  refine w_t (np := 28) (l2 := [some (eJ (zJ c)), none, some (eI (1)), some (eR 15), some (eI (9)), some (eI (0)), some (eI (0))]) (s2 := [eI (0), eI (9)]) rfl rfl rfl ?_
  refine w_t (np := 29) (l2 := [some (eJ (zJ c)), none, some (eI (1)), some (eR 15), some (eI (9)), some (eI (0)), some (eI (0))]) (s2 := [eI (9)]) rfl (b_iadd rfl) rfl ?_
  refine w_t (np := 30) (l2 := [some (eJ (zJ c)), none, some (eI (1)), some (eR 15), some (eI (9)), some (eI (0)), some (eI (0))]) (s2 := [eR 15, eI (9)]) rfl (s_an rfl (by decide)) rfl ?_
  refine v_ln (np := 31) (v := 13) (n := 13) rfl rfl ⟨rfl, zI_lit (by decide)⟩ ?_
  rw [show zI 13 = 13 by decide]
  refine b_cge (t1 := 65) (t2 := 34) rfl rfl rfl rfl rfl (fun g => absurd g (by decide)) (fun g => ?_)
  clear g
  refine w_t (np := 36) (l2 := [some (eJ (zJ c)), none, some (eI (1)), some (eR 15), some (eI (9)), some (eI (0)), some (eI (0))]) (s2 := [eI (0)]) rfl rfl rfl ?_
  refine w_t (np := 37) (l2 := [some (eJ (zJ c)), none, some (eI (1)), some (eR 15), some (eI (9)), some (eI (0)), some (eI (0))]) (s2 := [eJ (zJ c), eI (0)]) rfl rfl rfl ?_
  refine w_t (np := 39) (l2 := [some (eJ (zJ c)), none, some (eI (1)), some (eR 15), some (eI (9)), some (eI (0)), some (eI (0))]) (s2 := [eI (48), eJ (zJ c), eI (0)]) rfl rfl rfl ?_
  refine w_t (np := 41) (l2 := [some (eJ (zJ c)), none, some (eI (1)), some (eR 15), some (eI (9)), some (eI (0)), some (eI (0))]) (s2 := [eI (16), eI (48), eJ (zJ c), eI (0)]) rfl rfl rfl ?_
  refine w_t (np := 43) (l2 := [some (eJ (zJ c)), none, some (eI (1)), some (eR 15), some (eI (9)), some (eI (0)), some (eI (0))]) (s2 := [eI (0), eI (16), eI (48), eJ (zJ c), eI (0)]) rfl rfl rfl ?_
  refine w_t (np := 44) (l2 := [some (eJ (zJ c)), none, some (eI (1)), some (eR 15), some (eI (9)), some (eI (0)), some (eI (0))]) (s2 := [eI (0), eI (48), eJ (zJ c), eI (0)]) rfl (b_imul rfl) rfl ?_
  refine w_t (np := 45) (l2 := [some (eJ (zJ c)), none, some (eI (1)), some (eR 15), some (eI (9)), some (eI (0)), some (eI (0))]) (s2 := [eI (48), eJ (zJ c), eI (0)]) rfl (b_isub rfl) rfl ?_
  refine w_lane (np := 48) (k := 48) (v := p) rfl rfl rfl rfl (by decide) rfl l0 ?_
  refine w_t (np := 49) (l2 := [some (eJ (zJ c)), none, some (eI (1)), some (eR 15), some (eI (9)), some (eI (0)), some (eI (0))]) (s2 := [eR 15, eI (p), eI (0)]) rfl (s_an rfl (by decide)) rfl ?_
  refine w_t (np := 51) (l2 := [some (eJ (zJ c)), none, some (eI (1)), some (eR 15), some (eI (9)), some (eI (0)), some (eI (0))]) (s2 := [eI (9), eR 15, eI (p), eI (0)]) rfl rfl rfl ?_
  refine w_t (np := 53) (l2 := [some (eJ (zJ c)), none, some (eI (1)), some (eR 15), some (eI (9)), some (eI (0)), some (eI (0))]) (s2 := [eI (0), eI (9), eR 15, eI (p), eI (0)]) rfl rfl rfl ?_
  refine w_t (np := 54) (l2 := [some (eJ (zJ c)), none, some (eI (1)), some (eR 15), some (eI (9)), some (eI (0)), some (eI (0))]) (s2 := [eI (9), eR 15, eI (p), eI (0)]) rfl (b_iadd rfl) rfl ?_
  refine w_al (np := 55) (v := 0) rfl rfl (s_al (j := 9) (by decide) (by decide) (by decide) rfl rfl (by decide) (by decide) rfl) ?_
  obtain ⟨v1, e2⟩ : ∃ zz : Int, zz = (p) * (0) := ⟨_, rfl⟩
  have b3 : 0 ≤ v1 ∧ v1 ≤ 0 := by omega
  refine w_t (np := 56) (l2 := [some (eJ (zJ c)), none, some (eI (1)), some (eR 15), some (eI (9)), some (eI (0)), some (eI (0))]) (s2 := [eI (v1), eI (0)]) rfl (b_imul (by rw [← e2]; exact ev_w_in (by omega) (by omega))) rfl ?_
  obtain ⟨v4, e5⟩ : ∃ zz : Int, zz = (0) + (v1) := ⟨_, rfl⟩
  have b6 : 0 ≤ v4 ∧ v4 ≤ 0 := by omega
  refine w_t (np := 57) (l2 := [some (eJ (zJ c)), none, some (eI (1)), some (eR 15), some (eI (9)), some (eI (0)), some (eI (0))]) (s2 := [eI (v4)]) rfl (b_iadd (by rw [← e5]; exact ev_w_in (by omega) (by omega))) rfl ?_
  refine w_t (np := 59) (l2 := [some (eJ (zJ c)), none, some (eI (1)), some (eR 15), some (eI (9)), some (eI (v4)), some (eI (0))]) (s2 := []) rfl rfl rfl ?_
  refine w_t (np := 62) (l2 := [some (eJ (zJ c)), none, some (eI (1)), some (eR 15), some (eI (9)), some (eI (v4)), some (eI (1))]) (s2 := []) rfl (b_iinc rfl rfl rfl) rfl ?_
  refine w_go (t1 := 18) rfl rfl ?_
  refine w_t (np := 20) (l2 := [some (eJ (zJ c)), none, some (eI (1)), some (eR 15), some (eI (9)), some (eI (v4)), some (eI (1))]) (s2 := [eI (1)]) rfl rfl rfl ?_
  refine w_t (np := 21) (l2 := [some (eJ (zJ c)), none, some (eI (1)), some (eR 15), some (eI (9)), some (eI (v4)), some (eI (1))]) (s2 := [eI (4), eI (1)]) rfl rfl rfl ?_
  refine b_cge (t1 := 65) (t2 := 24) rfl rfl rfl rfl rfl (fun g => absurd g (by decide)) (fun g => ?_)
  clear g
  refine w_t (np := 26) (l2 := [some (eJ (zJ c)), none, some (eI (1)), some (eR 15), some (eI (9)), some (eI (v4)), some (eI (1))]) (s2 := [eI (9)]) rfl rfl rfl ?_
  refine w_t (np := 28) (l2 := [some (eJ (zJ c)), none, some (eI (1)), some (eR 15), some (eI (9)), some (eI (v4)), some (eI (1))]) (s2 := [eI (1), eI (9)]) rfl rfl rfl ?_
  refine w_t (np := 29) (l2 := [some (eJ (zJ c)), none, some (eI (1)), some (eR 15), some (eI (9)), some (eI (v4)), some (eI (1))]) (s2 := [eI (10)]) rfl (b_iadd rfl) rfl ?_
  refine w_t (np := 30) (l2 := [some (eJ (zJ c)), none, some (eI (1)), some (eR 15), some (eI (9)), some (eI (v4)), some (eI (1))]) (s2 := [eR 15, eI (10)]) rfl (s_an rfl (by decide)) rfl ?_
  refine v_ln (np := 31) (v := 13) (n := 13) rfl rfl ⟨rfl, zI_lit (by decide)⟩ ?_
  rw [show zI 13 = 13 by decide]
  refine b_cge (t1 := 65) (t2 := 34) rfl rfl rfl rfl rfl (fun g => absurd g (by decide)) (fun g => ?_)
  clear g
  refine w_t (np := 36) (l2 := [some (eJ (zJ c)), none, some (eI (1)), some (eR 15), some (eI (9)), some (eI (v4)), some (eI (1))]) (s2 := [eI (v4)]) rfl rfl rfl ?_
  refine w_t (np := 37) (l2 := [some (eJ (zJ c)), none, some (eI (1)), some (eR 15), some (eI (9)), some (eI (v4)), some (eI (1))]) (s2 := [eJ (zJ c), eI (v4)]) rfl rfl rfl ?_
  refine w_t (np := 39) (l2 := [some (eJ (zJ c)), none, some (eI (1)), some (eR 15), some (eI (9)), some (eI (v4)), some (eI (1))]) (s2 := [eI (48), eJ (zJ c), eI (v4)]) rfl rfl rfl ?_
  refine w_t (np := 41) (l2 := [some (eJ (zJ c)), none, some (eI (1)), some (eR 15), some (eI (9)), some (eI (v4)), some (eI (1))]) (s2 := [eI (16), eI (48), eJ (zJ c), eI (v4)]) rfl rfl rfl ?_
  refine w_t (np := 43) (l2 := [some (eJ (zJ c)), none, some (eI (1)), some (eR 15), some (eI (9)), some (eI (v4)), some (eI (1))]) (s2 := [eI (1), eI (16), eI (48), eJ (zJ c), eI (v4)]) rfl rfl rfl ?_
  refine w_t (np := 44) (l2 := [some (eJ (zJ c)), none, some (eI (1)), some (eR 15), some (eI (9)), some (eI (v4)), some (eI (1))]) (s2 := [eI (16), eI (48), eJ (zJ c), eI (v4)]) rfl (b_imul rfl) rfl ?_
  refine w_t (np := 45) (l2 := [some (eJ (zJ c)), none, some (eI (1)), some (eR 15), some (eI (9)), some (eI (v4)), some (eI (1))]) (s2 := [eI (32), eJ (zJ c), eI (v4)]) rfl (b_isub rfl) rfl ?_
  refine w_lane (np := 48) (k := 32) (v := q) rfl rfl rfl rfl (by decide) rfl l1 ?_
  refine w_t (np := 49) (l2 := [some (eJ (zJ c)), none, some (eI (1)), some (eR 15), some (eI (9)), some (eI (v4)), some (eI (1))]) (s2 := [eR 15, eI (q), eI (v4)]) rfl (s_an rfl (by decide)) rfl ?_
  refine w_t (np := 51) (l2 := [some (eJ (zJ c)), none, some (eI (1)), some (eR 15), some (eI (9)), some (eI (v4)), some (eI (1))]) (s2 := [eI (9), eR 15, eI (q), eI (v4)]) rfl rfl rfl ?_
  refine w_t (np := 53) (l2 := [some (eJ (zJ c)), none, some (eI (1)), some (eR 15), some (eI (9)), some (eI (v4)), some (eI (1))]) (s2 := [eI (1), eI (9), eR 15, eI (q), eI (v4)]) rfl rfl rfl ?_
  refine w_t (np := 54) (l2 := [some (eJ (zJ c)), none, some (eI (1)), some (eR 15), some (eI (9)), some (eI (v4)), some (eI (1))]) (s2 := [eI (10), eR 15, eI (q), eI (v4)]) rfl (b_iadd rfl) rfl ?_
  refine w_al (np := 55) (v := 0) rfl rfl (s_al (j := 10) (by decide) (by decide) (by decide) rfl rfl (by decide) (by decide) rfl) ?_
  obtain ⟨v7, e8⟩ : ∃ zz : Int, zz = (q) * (0) := ⟨_, rfl⟩
  have b9 : 0 ≤ v7 ∧ v7 ≤ 0 := by omega
  refine w_t (np := 56) (l2 := [some (eJ (zJ c)), none, some (eI (1)), some (eR 15), some (eI (9)), some (eI (v4)), some (eI (1))]) (s2 := [eI (v7), eI (v4)]) rfl (b_imul (by rw [← e8]; exact ev_w_in (by omega) (by omega))) rfl ?_
  obtain ⟨v10, e11⟩ : ∃ zz : Int, zz = (v4) + (v7) := ⟨_, rfl⟩
  have b12 : 0 ≤ v10 ∧ v10 ≤ 0 := by omega
  refine w_t (np := 57) (l2 := [some (eJ (zJ c)), none, some (eI (1)), some (eR 15), some (eI (9)), some (eI (v4)), some (eI (1))]) (s2 := [eI (v10)]) rfl (b_iadd (by rw [← e11]; exact ev_w_in (by omega) (by omega))) rfl ?_
  refine w_t (np := 59) (l2 := [some (eJ (zJ c)), none, some (eI (1)), some (eR 15), some (eI (9)), some (eI (v10)), some (eI (1))]) (s2 := []) rfl rfl rfl ?_
  refine w_t (np := 62) (l2 := [some (eJ (zJ c)), none, some (eI (1)), some (eR 15), some (eI (9)), some (eI (v10)), some (eI (2))]) (s2 := []) rfl (b_iinc rfl rfl rfl) rfl ?_
  refine w_go (t1 := 18) rfl rfl ?_
  refine w_t (np := 20) (l2 := [some (eJ (zJ c)), none, some (eI (1)), some (eR 15), some (eI (9)), some (eI (v10)), some (eI (2))]) (s2 := [eI (2)]) rfl rfl rfl ?_
  refine w_t (np := 21) (l2 := [some (eJ (zJ c)), none, some (eI (1)), some (eR 15), some (eI (9)), some (eI (v10)), some (eI (2))]) (s2 := [eI (4), eI (2)]) rfl rfl rfl ?_
  refine b_cge (t1 := 65) (t2 := 24) rfl rfl rfl rfl rfl (fun g => absurd g (by decide)) (fun g => ?_)
  clear g
  refine w_t (np := 26) (l2 := [some (eJ (zJ c)), none, some (eI (1)), some (eR 15), some (eI (9)), some (eI (v10)), some (eI (2))]) (s2 := [eI (9)]) rfl rfl rfl ?_
  refine w_t (np := 28) (l2 := [some (eJ (zJ c)), none, some (eI (1)), some (eR 15), some (eI (9)), some (eI (v10)), some (eI (2))]) (s2 := [eI (2), eI (9)]) rfl rfl rfl ?_
  refine w_t (np := 29) (l2 := [some (eJ (zJ c)), none, some (eI (1)), some (eR 15), some (eI (9)), some (eI (v10)), some (eI (2))]) (s2 := [eI (11)]) rfl (b_iadd rfl) rfl ?_
  refine w_t (np := 30) (l2 := [some (eJ (zJ c)), none, some (eI (1)), some (eR 15), some (eI (9)), some (eI (v10)), some (eI (2))]) (s2 := [eR 15, eI (11)]) rfl (s_an rfl (by decide)) rfl ?_
  refine v_ln (np := 31) (v := 13) (n := 13) rfl rfl ⟨rfl, zI_lit (by decide)⟩ ?_
  rw [show zI 13 = 13 by decide]
  refine b_cge (t1 := 65) (t2 := 34) rfl rfl rfl rfl rfl (fun g => absurd g (by decide)) (fun g => ?_)
  clear g
  refine w_t (np := 36) (l2 := [some (eJ (zJ c)), none, some (eI (1)), some (eR 15), some (eI (9)), some (eI (v10)), some (eI (2))]) (s2 := [eI (v10)]) rfl rfl rfl ?_
  refine w_t (np := 37) (l2 := [some (eJ (zJ c)), none, some (eI (1)), some (eR 15), some (eI (9)), some (eI (v10)), some (eI (2))]) (s2 := [eJ (zJ c), eI (v10)]) rfl rfl rfl ?_
  refine w_t (np := 39) (l2 := [some (eJ (zJ c)), none, some (eI (1)), some (eR 15), some (eI (9)), some (eI (v10)), some (eI (2))]) (s2 := [eI (48), eJ (zJ c), eI (v10)]) rfl rfl rfl ?_
  refine w_t (np := 41) (l2 := [some (eJ (zJ c)), none, some (eI (1)), some (eR 15), some (eI (9)), some (eI (v10)), some (eI (2))]) (s2 := [eI (16), eI (48), eJ (zJ c), eI (v10)]) rfl rfl rfl ?_
  refine w_t (np := 43) (l2 := [some (eJ (zJ c)), none, some (eI (1)), some (eR 15), some (eI (9)), some (eI (v10)), some (eI (2))]) (s2 := [eI (2), eI (16), eI (48), eJ (zJ c), eI (v10)]) rfl rfl rfl ?_
  refine w_t (np := 44) (l2 := [some (eJ (zJ c)), none, some (eI (1)), some (eR 15), some (eI (9)), some (eI (v10)), some (eI (2))]) (s2 := [eI (32), eI (48), eJ (zJ c), eI (v10)]) rfl (b_imul rfl) rfl ?_
  refine w_t (np := 45) (l2 := [some (eJ (zJ c)), none, some (eI (1)), some (eR 15), some (eI (9)), some (eI (v10)), some (eI (2))]) (s2 := [eI (16), eJ (zJ c), eI (v10)]) rfl (b_isub rfl) rfl ?_
  refine w_lane (np := 48) (k := 16) (v := r) rfl rfl rfl rfl (by decide) rfl l2 ?_
  refine w_t (np := 49) (l2 := [some (eJ (zJ c)), none, some (eI (1)), some (eR 15), some (eI (9)), some (eI (v10)), some (eI (2))]) (s2 := [eR 15, eI (r), eI (v10)]) rfl (s_an rfl (by decide)) rfl ?_
  refine w_t (np := 51) (l2 := [some (eJ (zJ c)), none, some (eI (1)), some (eR 15), some (eI (9)), some (eI (v10)), some (eI (2))]) (s2 := [eI (9), eR 15, eI (r), eI (v10)]) rfl rfl rfl ?_
  refine w_t (np := 53) (l2 := [some (eJ (zJ c)), none, some (eI (1)), some (eR 15), some (eI (9)), some (eI (v10)), some (eI (2))]) (s2 := [eI (2), eI (9), eR 15, eI (r), eI (v10)]) rfl rfl rfl ?_
  refine w_t (np := 54) (l2 := [some (eJ (zJ c)), none, some (eI (1)), some (eR 15), some (eI (9)), some (eI (v10)), some (eI (2))]) (s2 := [eI (11), eR 15, eI (r), eI (v10)]) rfl (b_iadd rfl) rfl ?_
  refine w_al (np := 55) (v := 0) rfl rfl (s_al (j := 11) (by decide) (by decide) (by decide) rfl rfl (by decide) (by decide) rfl) ?_
  obtain ⟨v13, e14⟩ : ∃ zz : Int, zz = (r) * (0) := ⟨_, rfl⟩
  have b15 : 0 ≤ v13 ∧ v13 ≤ 0 := by omega
  refine w_t (np := 56) (l2 := [some (eJ (zJ c)), none, some (eI (1)), some (eR 15), some (eI (9)), some (eI (v10)), some (eI (2))]) (s2 := [eI (v13), eI (v10)]) rfl (b_imul (by rw [← e14]; exact ev_w_in (by omega) (by omega))) rfl ?_
  obtain ⟨v16, e17⟩ : ∃ zz : Int, zz = (v10) + (v13) := ⟨_, rfl⟩
  have b18 : 0 ≤ v16 ∧ v16 ≤ 0 := by omega
  refine w_t (np := 57) (l2 := [some (eJ (zJ c)), none, some (eI (1)), some (eR 15), some (eI (9)), some (eI (v10)), some (eI (2))]) (s2 := [eI (v16)]) rfl (b_iadd (by rw [← e17]; exact ev_w_in (by omega) (by omega))) rfl ?_
  refine w_t (np := 59) (l2 := [some (eJ (zJ c)), none, some (eI (1)), some (eR 15), some (eI (9)), some (eI (v16)), some (eI (2))]) (s2 := []) rfl rfl rfl ?_
  refine w_t (np := 62) (l2 := [some (eJ (zJ c)), none, some (eI (1)), some (eR 15), some (eI (9)), some (eI (v16)), some (eI (3))]) (s2 := []) rfl (b_iinc rfl rfl rfl) rfl ?_
  refine w_go (t1 := 18) rfl rfl ?_
  refine w_t (np := 20) (l2 := [some (eJ (zJ c)), none, some (eI (1)), some (eR 15), some (eI (9)), some (eI (v16)), some (eI (3))]) (s2 := [eI (3)]) rfl rfl rfl ?_
  refine w_t (np := 21) (l2 := [some (eJ (zJ c)), none, some (eI (1)), some (eR 15), some (eI (9)), some (eI (v16)), some (eI (3))]) (s2 := [eI (4), eI (3)]) rfl rfl rfl ?_
  refine b_cge (t1 := 65) (t2 := 24) rfl rfl rfl rfl rfl (fun g => absurd g (by decide)) (fun g => ?_)
  clear g
  refine w_t (np := 26) (l2 := [some (eJ (zJ c)), none, some (eI (1)), some (eR 15), some (eI (9)), some (eI (v16)), some (eI (3))]) (s2 := [eI (9)]) rfl rfl rfl ?_
  refine w_t (np := 28) (l2 := [some (eJ (zJ c)), none, some (eI (1)), some (eR 15), some (eI (9)), some (eI (v16)), some (eI (3))]) (s2 := [eI (3), eI (9)]) rfl rfl rfl ?_
  refine w_t (np := 29) (l2 := [some (eJ (zJ c)), none, some (eI (1)), some (eR 15), some (eI (9)), some (eI (v16)), some (eI (3))]) (s2 := [eI (12)]) rfl (b_iadd rfl) rfl ?_
  refine w_t (np := 30) (l2 := [some (eJ (zJ c)), none, some (eI (1)), some (eR 15), some (eI (9)), some (eI (v16)), some (eI (3))]) (s2 := [eR 15, eI (12)]) rfl (s_an rfl (by decide)) rfl ?_
  refine v_ln (np := 31) (v := 13) (n := 13) rfl rfl ⟨rfl, zI_lit (by decide)⟩ ?_
  rw [show zI 13 = 13 by decide]
  refine b_cge (t1 := 65) (t2 := 34) rfl rfl rfl rfl rfl (fun g => absurd g (by decide)) (fun g => ?_)
  clear g
  refine w_t (np := 36) (l2 := [some (eJ (zJ c)), none, some (eI (1)), some (eR 15), some (eI (9)), some (eI (v16)), some (eI (3))]) (s2 := [eI (v16)]) rfl rfl rfl ?_
  refine w_t (np := 37) (l2 := [some (eJ (zJ c)), none, some (eI (1)), some (eR 15), some (eI (9)), some (eI (v16)), some (eI (3))]) (s2 := [eJ (zJ c), eI (v16)]) rfl rfl rfl ?_
  refine w_t (np := 39) (l2 := [some (eJ (zJ c)), none, some (eI (1)), some (eR 15), some (eI (9)), some (eI (v16)), some (eI (3))]) (s2 := [eI (48), eJ (zJ c), eI (v16)]) rfl rfl rfl ?_
  refine w_t (np := 41) (l2 := [some (eJ (zJ c)), none, some (eI (1)), some (eR 15), some (eI (9)), some (eI (v16)), some (eI (3))]) (s2 := [eI (16), eI (48), eJ (zJ c), eI (v16)]) rfl rfl rfl ?_
  refine w_t (np := 43) (l2 := [some (eJ (zJ c)), none, some (eI (1)), some (eR 15), some (eI (9)), some (eI (v16)), some (eI (3))]) (s2 := [eI (3), eI (16), eI (48), eJ (zJ c), eI (v16)]) rfl rfl rfl ?_
  refine w_t (np := 44) (l2 := [some (eJ (zJ c)), none, some (eI (1)), some (eR 15), some (eI (9)), some (eI (v16)), some (eI (3))]) (s2 := [eI (48), eI (48), eJ (zJ c), eI (v16)]) rfl (b_imul rfl) rfl ?_
  refine w_t (np := 45) (l2 := [some (eJ (zJ c)), none, some (eI (1)), some (eR 15), some (eI (9)), some (eI (v16)), some (eI (3))]) (s2 := [eI (0), eJ (zJ c), eI (v16)]) rfl (b_isub rfl) rfl ?_
  refine w_lane (np := 48) (k := 0) (v := s) rfl rfl rfl rfl (by decide) rfl l3 ?_
  refine w_t (np := 49) (l2 := [some (eJ (zJ c)), none, some (eI (1)), some (eR 15), some (eI (9)), some (eI (v16)), some (eI (3))]) (s2 := [eR 15, eI (s), eI (v16)]) rfl (s_an rfl (by decide)) rfl ?_
  refine w_t (np := 51) (l2 := [some (eJ (zJ c)), none, some (eI (1)), some (eR 15), some (eI (9)), some (eI (v16)), some (eI (3))]) (s2 := [eI (9), eR 15, eI (s), eI (v16)]) rfl rfl rfl ?_
  refine w_t (np := 53) (l2 := [some (eJ (zJ c)), none, some (eI (1)), some (eR 15), some (eI (9)), some (eI (v16)), some (eI (3))]) (s2 := [eI (3), eI (9), eR 15, eI (s), eI (v16)]) rfl rfl rfl ?_
  refine w_t (np := 54) (l2 := [some (eJ (zJ c)), none, some (eI (1)), some (eR 15), some (eI (9)), some (eI (v16)), some (eI (3))]) (s2 := [eI (12), eR 15, eI (s), eI (v16)]) rfl (b_iadd rfl) rfl ?_
  refine w_al (np := 55) (v := 1) rfl rfl (s_al (j := 12) (by decide) (by decide) (by decide) rfl rfl (by decide) (by decide) rfl) ?_
  obtain ⟨v19, e20⟩ : ∃ zz : Int, zz = (s) * (1) := ⟨_, rfl⟩
  have b21 : -10010 ≤ v19 ∧ v19 ≤ 10010 := by omega
  refine w_t (np := 56) (l2 := [some (eJ (zJ c)), none, some (eI (1)), some (eR 15), some (eI (9)), some (eI (v16)), some (eI (3))]) (s2 := [eI (v19), eI (v16)]) rfl (b_imul (by rw [← e20]; exact ev_w_in (by omega) (by omega))) rfl ?_
  obtain ⟨v22, e23⟩ : ∃ zz : Int, zz = (v16) + (v19) := ⟨_, rfl⟩
  have b24 : -10010 ≤ v22 ∧ v22 ≤ 10010 := by omega
  refine w_t (np := 57) (l2 := [some (eJ (zJ c)), none, some (eI (1)), some (eR 15), some (eI (9)), some (eI (v16)), some (eI (3))]) (s2 := [eI (v22)]) rfl (b_iadd (by rw [← e23]; exact ev_w_in (by omega) (by omega))) rfl ?_
  refine w_t (np := 59) (l2 := [some (eJ (zJ c)), none, some (eI (1)), some (eR 15), some (eI (9)), some (eI (v22)), some (eI (3))]) (s2 := []) rfl rfl rfl ?_
  refine w_t (np := 62) (l2 := [some (eJ (zJ c)), none, some (eI (1)), some (eR 15), some (eI (9)), some (eI (v22)), some (eI (4))]) (s2 := []) rfl (b_iinc rfl rfl rfl) rfl ?_
  refine w_go (t1 := 18) rfl rfl ?_
  refine w_t (np := 20) (l2 := [some (eJ (zJ c)), none, some (eI (1)), some (eR 15), some (eI (9)), some (eI (v22)), some (eI (4))]) (s2 := [eI (4)]) rfl rfl rfl ?_
  refine w_t (np := 21) (l2 := [some (eJ (zJ c)), none, some (eI (1)), some (eR 15), some (eI (9)), some (eI (v22)), some (eI (4))]) (s2 := [eI (4), eI (4)]) rfl rfl rfl ?_
  refine b_cge (t1 := 65) (t2 := 24) rfl rfl rfl rfl rfl (fun g => ?_) (fun g => absurd g (by decide))
  clear g
  refine w_t (np := 67) (l2 := [some (eJ (zJ c)), none, some (eI (1)), some (eR 15), some (eI (9)), some (eI (v22)), some (eI (4))]) (s2 := [eI (v22)]) rfl rfl rfl ?_
  refine b_ri rfl rfl ?_
  have e9 : v22 = 1 * s := by omega
  rw [e9]
  exact K
theorem t80_15_2 {L : Nat} {ρ : Nat → Int} {rc rs d : Nat} {f : eFr} {F : List eFr} {μ : eM} {c : Nat} {p q r s : Int} (l0 : zI (z_i2s (z_l2i (z_lshr c 48))) = p) (l1 : zI (z_i2s (z_l2i (z_lshr c 32))) = q) (l2 : zI (z_i2s (z_l2i (z_lshr c 16))) = r) (l3 : zI (z_i2s (z_l2i (z_lshr c 0))) = s) (hp : -10010 ≤ p ∧ p ≤ 10010) (hq : -10010 ≤ q ∧ q ≤ 10010) (hr : -10010 ≤ r ∧ r ≤ 10010) (hs : -10010 ≤ s ∧ s ≤ 10010) (K : ex_fine (dt_fg L ρ) rc rs (d + 1, (f.1, f.2.1, f.2.2.1, eI ((-1) * p) :: f.2.2.2), F, μ)) : ex_fine (dt_fg L ρ) rc rs (d, (80, 0, [some (eJ (zJ c)), none, some (eI (2)), some (eR 15), none, none, none], []), f :: F, μ) := by
  refine w_t (np := 2) (l2 := [some (eJ (zJ c)), none, some (eI (2)), some (eR 15), none, none, none]) (s2 := [eI (10)]) rfl rfl rfl ?_
  refine w_t (np := 3) (l2 := [some (eJ (zJ c)), none, some (eI (2)), some (eR 15), none, none, none]) (s2 := [eI (2), eI (10)]) rfl rfl rfl ?_
  refine w_t (np := 5) (l2 := [some (eJ (zJ c)), none, some (eI (2)), some (eR 15), none, none, none]) (s2 := [eI (10), eI (2), eI (10)]) rfl rfl rfl ?_
  refine w_t (np := 6) (l2 := [some (eJ (zJ c)), none, some (eI (2)), some (eR 15), none, none, none]) (s2 := [eI (2), eI (10)]) rfl rfl rfl ?_
  refine w_t (np := 7) (l2 := [some (eJ (zJ c)), none, some (eI (2)), some (eR 15), none, none, none]) (s2 := [eI (8)]) rfl (b_isub rfl) rfl ?_
  refine w_t (np := 9) (l2 := [some (eJ (zJ c)), none, some (eI (2)), some (eR 15), none, none, none]) (s2 := [eI (10), eI (8)]) rfl rfl rfl ?_
  refine w_t (np := 10) (l2 := [some (eJ (zJ c)), none, some (eI (2)), some (eR 15), none, none, none]) (s2 := [eI (8)]) rfl rfl rfl ?_
  refine w_t (np := 12) (l2 := [some (eJ (zJ c)), none, some (eI (2)), some (eR 15), some (eI (8)), none, none]) (s2 := []) rfl rfl rfl ?_
  refine w_t (np := 13) (l2 := [some (eJ (zJ c)), none, some (eI (2)), some (eR 15), some (eI (8)), none, none]) (s2 := [eI (0)]) rfl rfl rfl ?_
  refine w_t (np := 15) (l2 := [some (eJ (zJ c)), none, some (eI (2)), some (eR 15), some (eI (8)), some (eI (0)), none]) (s2 := []) rfl rfl rfl ?_
  refine w_t (np := 16) (l2 := [some (eJ (zJ c)), none, some (eI (2)), some (eR 15), some (eI (8)), some (eI (0)), none]) (s2 := [eI (0)]) rfl rfl rfl ?_
  refine w_t (np := 18) (l2 := [some (eJ (zJ c)), none, some (eI (2)), some (eR 15), some (eI (8)), some (eI (0)), some (eI (0))]) (s2 := []) rfl rfl rfl ?_
  refine w_t (np := 20) (l2 := [some (eJ (zJ c)), none, some (eI (2)), some (eR 15), some (eI (8)), some (eI (0)), some (eI (0))]) (s2 := [eI (0)]) rfl rfl rfl ?_
  refine w_t (np := 21) (l2 := [some (eJ (zJ c)), none, some (eI (2)), some (eR 15), some (eI (8)), some (eI (0)), some (eI (0))]) (s2 := [eI (4), eI (0)]) rfl rfl rfl ?_
  refine b_cge (t1 := 65) (t2 := 24) rfl rfl rfl rfl rfl (fun g => absurd g (by decide)) (fun g => ?_)
  clear g
  refine w_t (np := 26) (l2 := [some (eJ (zJ c)), none, some (eI (2)), some (eR 15), some (eI (8)), some (eI (0)), some (eI (0))]) (s2 := [eI (8)]) rfl rfl rfl ?_
  refine w_t (np := 28) (l2 := [some (eJ (zJ c)), none, some (eI (2)), some (eR 15), some (eI (8)), some (eI (0)), some (eI (0))]) (s2 := [eI (0), eI (8)]) rfl rfl rfl ?_
  refine w_t (np := 29) (l2 := [some (eJ (zJ c)), none, some (eI (2)), some (eR 15), some (eI (8)), some (eI (0)), some (eI (0))]) (s2 := [eI (8)]) rfl (b_iadd rfl) rfl ?_
  refine w_t (np := 30) (l2 := [some (eJ (zJ c)), none, some (eI (2)), some (eR 15), some (eI (8)), some (eI (0)), some (eI (0))]) (s2 := [eR 15, eI (8)]) rfl (s_an rfl (by decide)) rfl ?_
  refine v_ln (np := 31) (v := 13) (n := 13) rfl rfl ⟨rfl, zI_lit (by decide)⟩ ?_
  rw [show zI 13 = 13 by decide]
  refine b_cge (t1 := 65) (t2 := 34) rfl rfl rfl rfl rfl (fun g => absurd g (by decide)) (fun g => ?_)
  clear g
  refine w_t (np := 36) (l2 := [some (eJ (zJ c)), none, some (eI (2)), some (eR 15), some (eI (8)), some (eI (0)), some (eI (0))]) (s2 := [eI (0)]) rfl rfl rfl ?_
  refine w_t (np := 37) (l2 := [some (eJ (zJ c)), none, some (eI (2)), some (eR 15), some (eI (8)), some (eI (0)), some (eI (0))]) (s2 := [eJ (zJ c), eI (0)]) rfl rfl rfl ?_
  refine w_t (np := 39) (l2 := [some (eJ (zJ c)), none, some (eI (2)), some (eR 15), some (eI (8)), some (eI (0)), some (eI (0))]) (s2 := [eI (48), eJ (zJ c), eI (0)]) rfl rfl rfl ?_
  refine w_t (np := 41) (l2 := [some (eJ (zJ c)), none, some (eI (2)), some (eR 15), some (eI (8)), some (eI (0)), some (eI (0))]) (s2 := [eI (16), eI (48), eJ (zJ c), eI (0)]) rfl rfl rfl ?_
  refine w_t (np := 43) (l2 := [some (eJ (zJ c)), none, some (eI (2)), some (eR 15), some (eI (8)), some (eI (0)), some (eI (0))]) (s2 := [eI (0), eI (16), eI (48), eJ (zJ c), eI (0)]) rfl rfl rfl ?_
  refine w_t (np := 44) (l2 := [some (eJ (zJ c)), none, some (eI (2)), some (eR 15), some (eI (8)), some (eI (0)), some (eI (0))]) (s2 := [eI (0), eI (48), eJ (zJ c), eI (0)]) rfl (b_imul rfl) rfl ?_
  refine w_t (np := 45) (l2 := [some (eJ (zJ c)), none, some (eI (2)), some (eR 15), some (eI (8)), some (eI (0)), some (eI (0))]) (s2 := [eI (48), eJ (zJ c), eI (0)]) rfl (b_isub rfl) rfl ?_
  refine w_lane (np := 48) (k := 48) (v := p) rfl rfl rfl rfl (by decide) rfl l0 ?_
  refine w_t (np := 49) (l2 := [some (eJ (zJ c)), none, some (eI (2)), some (eR 15), some (eI (8)), some (eI (0)), some (eI (0))]) (s2 := [eR 15, eI (p), eI (0)]) rfl (s_an rfl (by decide)) rfl ?_
  refine w_t (np := 51) (l2 := [some (eJ (zJ c)), none, some (eI (2)), some (eR 15), some (eI (8)), some (eI (0)), some (eI (0))]) (s2 := [eI (8), eR 15, eI (p), eI (0)]) rfl rfl rfl ?_
  refine w_t (np := 53) (l2 := [some (eJ (zJ c)), none, some (eI (2)), some (eR 15), some (eI (8)), some (eI (0)), some (eI (0))]) (s2 := [eI (0), eI (8), eR 15, eI (p), eI (0)]) rfl rfl rfl ?_
  refine w_t (np := 54) (l2 := [some (eJ (zJ c)), none, some (eI (2)), some (eR 15), some (eI (8)), some (eI (0)), some (eI (0))]) (s2 := [eI (8), eR 15, eI (p), eI (0)]) rfl (b_iadd rfl) rfl ?_
  refine w_al (np := 55) (v := -1) rfl rfl (s_al (j := 8) (by decide) (by decide) (by decide) rfl rfl (by decide) (by decide) rfl) ?_
  obtain ⟨v1, e2⟩ : ∃ zz : Int, zz = (p) * (-1) := ⟨_, rfl⟩
  have b3 : -10010 ≤ v1 ∧ v1 ≤ 10010 := by omega
  refine w_t (np := 56) (l2 := [some (eJ (zJ c)), none, some (eI (2)), some (eR 15), some (eI (8)), some (eI (0)), some (eI (0))]) (s2 := [eI (v1), eI (0)]) rfl (b_imul (by rw [← e2]; exact ev_w_in (by omega) (by omega))) rfl ?_
  obtain ⟨v4, e5⟩ : ∃ zz : Int, zz = (0) + (v1) := ⟨_, rfl⟩
  have b6 : -10010 ≤ v4 ∧ v4 ≤ 10010 := by omega
  refine w_t (np := 57) (l2 := [some (eJ (zJ c)), none, some (eI (2)), some (eR 15), some (eI (8)), some (eI (0)), some (eI (0))]) (s2 := [eI (v4)]) rfl (b_iadd (by rw [← e5]; exact ev_w_in (by omega) (by omega))) rfl ?_
  refine w_t (np := 59) (l2 := [some (eJ (zJ c)), none, some (eI (2)), some (eR 15), some (eI (8)), some (eI (v4)), some (eI (0))]) (s2 := []) rfl rfl rfl ?_
  refine w_t (np := 62) (l2 := [some (eJ (zJ c)), none, some (eI (2)), some (eR 15), some (eI (8)), some (eI (v4)), some (eI (1))]) (s2 := []) rfl (b_iinc rfl rfl rfl) rfl ?_
  refine w_go (t1 := 18) rfl rfl ?_
  refine w_t (np := 20) (l2 := [some (eJ (zJ c)), none, some (eI (2)), some (eR 15), some (eI (8)), some (eI (v4)), some (eI (1))]) (s2 := [eI (1)]) rfl rfl rfl ?_
  refine w_t (np := 21) (l2 := [some (eJ (zJ c)), none, some (eI (2)), some (eR 15), some (eI (8)), some (eI (v4)), some (eI (1))]) (s2 := [eI (4), eI (1)]) rfl rfl rfl ?_
  refine b_cge (t1 := 65) (t2 := 24) rfl rfl rfl rfl rfl (fun g => absurd g (by decide)) (fun g => ?_)
  clear g
  refine w_t (np := 26) (l2 := [some (eJ (zJ c)), none, some (eI (2)), some (eR 15), some (eI (8)), some (eI (v4)), some (eI (1))]) (s2 := [eI (8)]) rfl rfl rfl ?_
  refine w_t (np := 28) (l2 := [some (eJ (zJ c)), none, some (eI (2)), some (eR 15), some (eI (8)), some (eI (v4)), some (eI (1))]) (s2 := [eI (1), eI (8)]) rfl rfl rfl ?_
  refine w_t (np := 29) (l2 := [some (eJ (zJ c)), none, some (eI (2)), some (eR 15), some (eI (8)), some (eI (v4)), some (eI (1))]) (s2 := [eI (9)]) rfl (b_iadd rfl) rfl ?_
  refine w_t (np := 30) (l2 := [some (eJ (zJ c)), none, some (eI (2)), some (eR 15), some (eI (8)), some (eI (v4)), some (eI (1))]) (s2 := [eR 15, eI (9)]) rfl (s_an rfl (by decide)) rfl ?_
  refine v_ln (np := 31) (v := 13) (n := 13) rfl rfl ⟨rfl, zI_lit (by decide)⟩ ?_
  rw [show zI 13 = 13 by decide]
  refine b_cge (t1 := 65) (t2 := 34) rfl rfl rfl rfl rfl (fun g => absurd g (by decide)) (fun g => ?_)
  clear g
  refine w_t (np := 36) (l2 := [some (eJ (zJ c)), none, some (eI (2)), some (eR 15), some (eI (8)), some (eI (v4)), some (eI (1))]) (s2 := [eI (v4)]) rfl rfl rfl ?_
  refine w_t (np := 37) (l2 := [some (eJ (zJ c)), none, some (eI (2)), some (eR 15), some (eI (8)), some (eI (v4)), some (eI (1))]) (s2 := [eJ (zJ c), eI (v4)]) rfl rfl rfl ?_
  refine w_t (np := 39) (l2 := [some (eJ (zJ c)), none, some (eI (2)), some (eR 15), some (eI (8)), some (eI (v4)), some (eI (1))]) (s2 := [eI (48), eJ (zJ c), eI (v4)]) rfl rfl rfl ?_
  refine w_t (np := 41) (l2 := [some (eJ (zJ c)), none, some (eI (2)), some (eR 15), some (eI (8)), some (eI (v4)), some (eI (1))]) (s2 := [eI (16), eI (48), eJ (zJ c), eI (v4)]) rfl rfl rfl ?_
  refine w_t (np := 43) (l2 := [some (eJ (zJ c)), none, some (eI (2)), some (eR 15), some (eI (8)), some (eI (v4)), some (eI (1))]) (s2 := [eI (1), eI (16), eI (48), eJ (zJ c), eI (v4)]) rfl rfl rfl ?_
  refine w_t (np := 44) (l2 := [some (eJ (zJ c)), none, some (eI (2)), some (eR 15), some (eI (8)), some (eI (v4)), some (eI (1))]) (s2 := [eI (16), eI (48), eJ (zJ c), eI (v4)]) rfl (b_imul rfl) rfl ?_
  refine w_t (np := 45) (l2 := [some (eJ (zJ c)), none, some (eI (2)), some (eR 15), some (eI (8)), some (eI (v4)), some (eI (1))]) (s2 := [eI (32), eJ (zJ c), eI (v4)]) rfl (b_isub rfl) rfl ?_
  refine w_lane (np := 48) (k := 32) (v := q) rfl rfl rfl rfl (by decide) rfl l1 ?_
  refine w_t (np := 49) (l2 := [some (eJ (zJ c)), none, some (eI (2)), some (eR 15), some (eI (8)), some (eI (v4)), some (eI (1))]) (s2 := [eR 15, eI (q), eI (v4)]) rfl (s_an rfl (by decide)) rfl ?_
  refine w_t (np := 51) (l2 := [some (eJ (zJ c)), none, some (eI (2)), some (eR 15), some (eI (8)), some (eI (v4)), some (eI (1))]) (s2 := [eI (8), eR 15, eI (q), eI (v4)]) rfl rfl rfl ?_
  refine w_t (np := 53) (l2 := [some (eJ (zJ c)), none, some (eI (2)), some (eR 15), some (eI (8)), some (eI (v4)), some (eI (1))]) (s2 := [eI (1), eI (8), eR 15, eI (q), eI (v4)]) rfl rfl rfl ?_
  refine w_t (np := 54) (l2 := [some (eJ (zJ c)), none, some (eI (2)), some (eR 15), some (eI (8)), some (eI (v4)), some (eI (1))]) (s2 := [eI (9), eR 15, eI (q), eI (v4)]) rfl (b_iadd rfl) rfl ?_
  refine w_al (np := 55) (v := 0) rfl rfl (s_al (j := 9) (by decide) (by decide) (by decide) rfl rfl (by decide) (by decide) rfl) ?_
  obtain ⟨v7, e8⟩ : ∃ zz : Int, zz = (q) * (0) := ⟨_, rfl⟩
  have b9 : 0 ≤ v7 ∧ v7 ≤ 0 := by omega
  refine w_t (np := 56) (l2 := [some (eJ (zJ c)), none, some (eI (2)), some (eR 15), some (eI (8)), some (eI (v4)), some (eI (1))]) (s2 := [eI (v7), eI (v4)]) rfl (b_imul (by rw [← e8]; exact ev_w_in (by omega) (by omega))) rfl ?_
  obtain ⟨v10, e11⟩ : ∃ zz : Int, zz = (v4) + (v7) := ⟨_, rfl⟩
  have b12 : -10010 ≤ v10 ∧ v10 ≤ 10010 := by omega
  refine w_t (np := 57) (l2 := [some (eJ (zJ c)), none, some (eI (2)), some (eR 15), some (eI (8)), some (eI (v4)), some (eI (1))]) (s2 := [eI (v10)]) rfl (b_iadd (by rw [← e11]; exact ev_w_in (by omega) (by omega))) rfl ?_
  refine w_t (np := 59) (l2 := [some (eJ (zJ c)), none, some (eI (2)), some (eR 15), some (eI (8)), some (eI (v10)), some (eI (1))]) (s2 := []) rfl rfl rfl ?_
  refine w_t (np := 62) (l2 := [some (eJ (zJ c)), none, some (eI (2)), some (eR 15), some (eI (8)), some (eI (v10)), some (eI (2))]) (s2 := []) rfl (b_iinc rfl rfl rfl) rfl ?_
  refine w_go (t1 := 18) rfl rfl ?_
  refine w_t (np := 20) (l2 := [some (eJ (zJ c)), none, some (eI (2)), some (eR 15), some (eI (8)), some (eI (v10)), some (eI (2))]) (s2 := [eI (2)]) rfl rfl rfl ?_
  refine w_t (np := 21) (l2 := [some (eJ (zJ c)), none, some (eI (2)), some (eR 15), some (eI (8)), some (eI (v10)), some (eI (2))]) (s2 := [eI (4), eI (2)]) rfl rfl rfl ?_
  refine b_cge (t1 := 65) (t2 := 24) rfl rfl rfl rfl rfl (fun g => absurd g (by decide)) (fun g => ?_)
  clear g
  refine w_t (np := 26) (l2 := [some (eJ (zJ c)), none, some (eI (2)), some (eR 15), some (eI (8)), some (eI (v10)), some (eI (2))]) (s2 := [eI (8)]) rfl rfl rfl ?_
  refine w_t (np := 28) (l2 := [some (eJ (zJ c)), none, some (eI (2)), some (eR 15), some (eI (8)), some (eI (v10)), some (eI (2))]) (s2 := [eI (2), eI (8)]) rfl rfl rfl ?_
  refine w_t (np := 29) (l2 := [some (eJ (zJ c)), none, some (eI (2)), some (eR 15), some (eI (8)), some (eI (v10)), some (eI (2))]) (s2 := [eI (10)]) rfl (b_iadd rfl) rfl ?_
  refine w_t (np := 30) (l2 := [some (eJ (zJ c)), none, some (eI (2)), some (eR 15), some (eI (8)), some (eI (v10)), some (eI (2))]) (s2 := [eR 15, eI (10)]) rfl (s_an rfl (by decide)) rfl ?_
  refine v_ln (np := 31) (v := 13) (n := 13) rfl rfl ⟨rfl, zI_lit (by decide)⟩ ?_
  rw [show zI 13 = 13 by decide]
  refine b_cge (t1 := 65) (t2 := 34) rfl rfl rfl rfl rfl (fun g => absurd g (by decide)) (fun g => ?_)
  clear g
  refine w_t (np := 36) (l2 := [some (eJ (zJ c)), none, some (eI (2)), some (eR 15), some (eI (8)), some (eI (v10)), some (eI (2))]) (s2 := [eI (v10)]) rfl rfl rfl ?_
  refine w_t (np := 37) (l2 := [some (eJ (zJ c)), none, some (eI (2)), some (eR 15), some (eI (8)), some (eI (v10)), some (eI (2))]) (s2 := [eJ (zJ c), eI (v10)]) rfl rfl rfl ?_
  refine w_t (np := 39) (l2 := [some (eJ (zJ c)), none, some (eI (2)), some (eR 15), some (eI (8)), some (eI (v10)), some (eI (2))]) (s2 := [eI (48), eJ (zJ c), eI (v10)]) rfl rfl rfl ?_
  refine w_t (np := 41) (l2 := [some (eJ (zJ c)), none, some (eI (2)), some (eR 15), some (eI (8)), some (eI (v10)), some (eI (2))]) (s2 := [eI (16), eI (48), eJ (zJ c), eI (v10)]) rfl rfl rfl ?_
  refine w_t (np := 43) (l2 := [some (eJ (zJ c)), none, some (eI (2)), some (eR 15), some (eI (8)), some (eI (v10)), some (eI (2))]) (s2 := [eI (2), eI (16), eI (48), eJ (zJ c), eI (v10)]) rfl rfl rfl ?_
  refine w_t (np := 44) (l2 := [some (eJ (zJ c)), none, some (eI (2)), some (eR 15), some (eI (8)), some (eI (v10)), some (eI (2))]) (s2 := [eI (32), eI (48), eJ (zJ c), eI (v10)]) rfl (b_imul rfl) rfl ?_
  refine w_t (np := 45) (l2 := [some (eJ (zJ c)), none, some (eI (2)), some (eR 15), some (eI (8)), some (eI (v10)), some (eI (2))]) (s2 := [eI (16), eJ (zJ c), eI (v10)]) rfl (b_isub rfl) rfl ?_
  refine w_lane (np := 48) (k := 16) (v := r) rfl rfl rfl rfl (by decide) rfl l2 ?_
  refine w_t (np := 49) (l2 := [some (eJ (zJ c)), none, some (eI (2)), some (eR 15), some (eI (8)), some (eI (v10)), some (eI (2))]) (s2 := [eR 15, eI (r), eI (v10)]) rfl (s_an rfl (by decide)) rfl ?_
  refine w_t (np := 51) (l2 := [some (eJ (zJ c)), none, some (eI (2)), some (eR 15), some (eI (8)), some (eI (v10)), some (eI (2))]) (s2 := [eI (8), eR 15, eI (r), eI (v10)]) rfl rfl rfl ?_
  refine w_t (np := 53) (l2 := [some (eJ (zJ c)), none, some (eI (2)), some (eR 15), some (eI (8)), some (eI (v10)), some (eI (2))]) (s2 := [eI (2), eI (8), eR 15, eI (r), eI (v10)]) rfl rfl rfl ?_
  refine w_t (np := 54) (l2 := [some (eJ (zJ c)), none, some (eI (2)), some (eR 15), some (eI (8)), some (eI (v10)), some (eI (2))]) (s2 := [eI (10), eR 15, eI (r), eI (v10)]) rfl (b_iadd rfl) rfl ?_
  refine w_al (np := 55) (v := 0) rfl rfl (s_al (j := 10) (by decide) (by decide) (by decide) rfl rfl (by decide) (by decide) rfl) ?_
  obtain ⟨v13, e14⟩ : ∃ zz : Int, zz = (r) * (0) := ⟨_, rfl⟩
  have b15 : 0 ≤ v13 ∧ v13 ≤ 0 := by omega
  refine w_t (np := 56) (l2 := [some (eJ (zJ c)), none, some (eI (2)), some (eR 15), some (eI (8)), some (eI (v10)), some (eI (2))]) (s2 := [eI (v13), eI (v10)]) rfl (b_imul (by rw [← e14]; exact ev_w_in (by omega) (by omega))) rfl ?_
  obtain ⟨v16, e17⟩ : ∃ zz : Int, zz = (v10) + (v13) := ⟨_, rfl⟩
  have b18 : -10010 ≤ v16 ∧ v16 ≤ 10010 := by omega
  refine w_t (np := 57) (l2 := [some (eJ (zJ c)), none, some (eI (2)), some (eR 15), some (eI (8)), some (eI (v10)), some (eI (2))]) (s2 := [eI (v16)]) rfl (b_iadd (by rw [← e17]; exact ev_w_in (by omega) (by omega))) rfl ?_
  refine w_t (np := 59) (l2 := [some (eJ (zJ c)), none, some (eI (2)), some (eR 15), some (eI (8)), some (eI (v16)), some (eI (2))]) (s2 := []) rfl rfl rfl ?_
  refine w_t (np := 62) (l2 := [some (eJ (zJ c)), none, some (eI (2)), some (eR 15), some (eI (8)), some (eI (v16)), some (eI (3))]) (s2 := []) rfl (b_iinc rfl rfl rfl) rfl ?_
  refine w_go (t1 := 18) rfl rfl ?_
  refine w_t (np := 20) (l2 := [some (eJ (zJ c)), none, some (eI (2)), some (eR 15), some (eI (8)), some (eI (v16)), some (eI (3))]) (s2 := [eI (3)]) rfl rfl rfl ?_
  refine w_t (np := 21) (l2 := [some (eJ (zJ c)), none, some (eI (2)), some (eR 15), some (eI (8)), some (eI (v16)), some (eI (3))]) (s2 := [eI (4), eI (3)]) rfl rfl rfl ?_
  refine b_cge (t1 := 65) (t2 := 24) rfl rfl rfl rfl rfl (fun g => absurd g (by decide)) (fun g => ?_)
  clear g
  refine w_t (np := 26) (l2 := [some (eJ (zJ c)), none, some (eI (2)), some (eR 15), some (eI (8)), some (eI (v16)), some (eI (3))]) (s2 := [eI (8)]) rfl rfl rfl ?_
  refine w_t (np := 28) (l2 := [some (eJ (zJ c)), none, some (eI (2)), some (eR 15), some (eI (8)), some (eI (v16)), some (eI (3))]) (s2 := [eI (3), eI (8)]) rfl rfl rfl ?_
  refine w_t (np := 29) (l2 := [some (eJ (zJ c)), none, some (eI (2)), some (eR 15), some (eI (8)), some (eI (v16)), some (eI (3))]) (s2 := [eI (11)]) rfl (b_iadd rfl) rfl ?_
  refine w_t (np := 30) (l2 := [some (eJ (zJ c)), none, some (eI (2)), some (eR 15), some (eI (8)), some (eI (v16)), some (eI (3))]) (s2 := [eR 15, eI (11)]) rfl (s_an rfl (by decide)) rfl ?_
  refine v_ln (np := 31) (v := 13) (n := 13) rfl rfl ⟨rfl, zI_lit (by decide)⟩ ?_
  rw [show zI 13 = 13 by decide]
  refine b_cge (t1 := 65) (t2 := 34) rfl rfl rfl rfl rfl (fun g => absurd g (by decide)) (fun g => ?_)
  clear g
  refine w_t (np := 36) (l2 := [some (eJ (zJ c)), none, some (eI (2)), some (eR 15), some (eI (8)), some (eI (v16)), some (eI (3))]) (s2 := [eI (v16)]) rfl rfl rfl ?_
  refine w_t (np := 37) (l2 := [some (eJ (zJ c)), none, some (eI (2)), some (eR 15), some (eI (8)), some (eI (v16)), some (eI (3))]) (s2 := [eJ (zJ c), eI (v16)]) rfl rfl rfl ?_
  refine w_t (np := 39) (l2 := [some (eJ (zJ c)), none, some (eI (2)), some (eR 15), some (eI (8)), some (eI (v16)), some (eI (3))]) (s2 := [eI (48), eJ (zJ c), eI (v16)]) rfl rfl rfl ?_
  refine w_t (np := 41) (l2 := [some (eJ (zJ c)), none, some (eI (2)), some (eR 15), some (eI (8)), some (eI (v16)), some (eI (3))]) (s2 := [eI (16), eI (48), eJ (zJ c), eI (v16)]) rfl rfl rfl ?_
  refine w_t (np := 43) (l2 := [some (eJ (zJ c)), none, some (eI (2)), some (eR 15), some (eI (8)), some (eI (v16)), some (eI (3))]) (s2 := [eI (3), eI (16), eI (48), eJ (zJ c), eI (v16)]) rfl rfl rfl ?_
  refine w_t (np := 44) (l2 := [some (eJ (zJ c)), none, some (eI (2)), some (eR 15), some (eI (8)), some (eI (v16)), some (eI (3))]) (s2 := [eI (48), eI (48), eJ (zJ c), eI (v16)]) rfl (b_imul rfl) rfl ?_
  refine w_t (np := 45) (l2 := [some (eJ (zJ c)), none, some (eI (2)), some (eR 15), some (eI (8)), some (eI (v16)), some (eI (3))]) (s2 := [eI (0), eJ (zJ c), eI (v16)]) rfl (b_isub rfl) rfl ?_
  refine w_lane (np := 48) (k := 0) (v := s) rfl rfl rfl rfl (by decide) rfl l3 ?_
  refine w_t (np := 49) (l2 := [some (eJ (zJ c)), none, some (eI (2)), some (eR 15), some (eI (8)), some (eI (v16)), some (eI (3))]) (s2 := [eR 15, eI (s), eI (v16)]) rfl (s_an rfl (by decide)) rfl ?_
  refine w_t (np := 51) (l2 := [some (eJ (zJ c)), none, some (eI (2)), some (eR 15), some (eI (8)), some (eI (v16)), some (eI (3))]) (s2 := [eI (8), eR 15, eI (s), eI (v16)]) rfl rfl rfl ?_
  refine w_t (np := 53) (l2 := [some (eJ (zJ c)), none, some (eI (2)), some (eR 15), some (eI (8)), some (eI (v16)), some (eI (3))]) (s2 := [eI (3), eI (8), eR 15, eI (s), eI (v16)]) rfl rfl rfl ?_
  refine w_t (np := 54) (l2 := [some (eJ (zJ c)), none, some (eI (2)), some (eR 15), some (eI (8)), some (eI (v16)), some (eI (3))]) (s2 := [eI (11), eR 15, eI (s), eI (v16)]) rfl (b_iadd rfl) rfl ?_
  refine w_al (np := 55) (v := 0) rfl rfl (s_al (j := 11) (by decide) (by decide) (by decide) rfl rfl (by decide) (by decide) rfl) ?_
  obtain ⟨v19, e20⟩ : ∃ zz : Int, zz = (s) * (0) := ⟨_, rfl⟩
  have b21 : 0 ≤ v19 ∧ v19 ≤ 0 := by omega
  refine w_t (np := 56) (l2 := [some (eJ (zJ c)), none, some (eI (2)), some (eR 15), some (eI (8)), some (eI (v16)), some (eI (3))]) (s2 := [eI (v19), eI (v16)]) rfl (b_imul (by rw [← e20]; exact ev_w_in (by omega) (by omega))) rfl ?_
  obtain ⟨v22, e23⟩ : ∃ zz : Int, zz = (v16) + (v19) := ⟨_, rfl⟩
  have b24 : -10010 ≤ v22 ∧ v22 ≤ 10010 := by omega
  refine w_t (np := 57) (l2 := [some (eJ (zJ c)), none, some (eI (2)), some (eR 15), some (eI (8)), some (eI (v16)), some (eI (3))]) (s2 := [eI (v22)]) rfl (b_iadd (by rw [← e23]; exact ev_w_in (by omega) (by omega))) rfl ?_
  refine w_t (np := 59) (l2 := [some (eJ (zJ c)), none, some (eI (2)), some (eR 15), some (eI (8)), some (eI (v22)), some (eI (3))]) (s2 := []) rfl rfl rfl ?_
  refine w_t (np := 62) (l2 := [some (eJ (zJ c)), none, some (eI (2)), some (eR 15), some (eI (8)), some (eI (v22)), some (eI (4))]) (s2 := []) rfl (b_iinc rfl rfl rfl) rfl ?_
  refine w_go (t1 := 18) rfl rfl ?_
  refine w_t (np := 20) (l2 := [some (eJ (zJ c)), none, some (eI (2)), some (eR 15), some (eI (8)), some (eI (v22)), some (eI (4))]) (s2 := [eI (4)]) rfl rfl rfl ?_
  refine w_t (np := 21) (l2 := [some (eJ (zJ c)), none, some (eI (2)), some (eR 15), some (eI (8)), some (eI (v22)), some (eI (4))]) (s2 := [eI (4), eI (4)]) rfl rfl rfl ?_
  refine b_cge (t1 := 65) (t2 := 24) rfl rfl rfl rfl rfl (fun g => ?_) (fun g => absurd g (by decide))
  clear g
  refine w_t (np := 67) (l2 := [some (eJ (zJ c)), none, some (eI (2)), some (eR 15), some (eI (8)), some (eI (v22)), some (eI (4))]) (s2 := [eI (v22)]) rfl rfl rfl ?_
  refine b_ri rfl rfl ?_
  have e9 : v22 = (-1) * p := by omega
  rw [e9]
  exact K
theorem t80_15_3 {L : Nat} {ρ : Nat → Int} {rc rs d : Nat} {f : eFr} {F : List eFr} {μ : eM} {c : Nat} {p q r s : Int} (l0 : zI (z_i2s (z_l2i (z_lshr c 48))) = p) (l1 : zI (z_i2s (z_l2i (z_lshr c 32))) = q) (l2 : zI (z_i2s (z_l2i (z_lshr c 16))) = r) (l3 : zI (z_i2s (z_l2i (z_lshr c 0))) = s) (hp : -10010 ≤ p ∧ p ≤ 10010) (hq : -10010 ≤ q ∧ q ≤ 10010) (hr : -10010 ≤ r ∧ r ≤ 10010) (hs : -10010 ≤ s ∧ s ≤ 10010) (K : ex_fine (dt_fg L ρ) rc rs (d + 1, (f.1, f.2.1, f.2.2.1, eI ((-1) * p + (-1) * q) :: f.2.2.2), F, μ)) : ex_fine (dt_fg L ρ) rc rs (d, (80, 0, [some (eJ (zJ c)), none, some (eI (3)), some (eR 15), none, none, none], []), f :: F, μ) := by
  refine w_t (np := 2) (l2 := [some (eJ (zJ c)), none, some (eI (3)), some (eR 15), none, none, none]) (s2 := [eI (10)]) rfl rfl rfl ?_
  refine w_t (np := 3) (l2 := [some (eJ (zJ c)), none, some (eI (3)), some (eR 15), none, none, none]) (s2 := [eI (3), eI (10)]) rfl rfl rfl ?_
  refine w_t (np := 5) (l2 := [some (eJ (zJ c)), none, some (eI (3)), some (eR 15), none, none, none]) (s2 := [eI (10), eI (3), eI (10)]) rfl rfl rfl ?_
  refine w_t (np := 6) (l2 := [some (eJ (zJ c)), none, some (eI (3)), some (eR 15), none, none, none]) (s2 := [eI (3), eI (10)]) rfl rfl rfl ?_
  refine w_t (np := 7) (l2 := [some (eJ (zJ c)), none, some (eI (3)), some (eR 15), none, none, none]) (s2 := [eI (7)]) rfl (b_isub rfl) rfl ?_
  refine w_t (np := 9) (l2 := [some (eJ (zJ c)), none, some (eI (3)), some (eR 15), none, none, none]) (s2 := [eI (10), eI (7)]) rfl rfl rfl ?_
  refine w_t (np := 10) (l2 := [some (eJ (zJ c)), none, some (eI (3)), some (eR 15), none, none, none]) (s2 := [eI (7)]) rfl rfl rfl ?_
  refine w_t (np := 12) (l2 := [some (eJ (zJ c)), none, some (eI (3)), some (eR 15), some (eI (7)), none, none]) (s2 := []) rfl rfl rfl ?_
  refine w_t (np := 13) (l2 := [some (eJ (zJ c)), none, some (eI (3)), some (eR 15), some (eI (7)), none, none]) (s2 := [eI (0)]) rfl rfl rfl ?_
  refine w_t (np := 15) (l2 := [some (eJ (zJ c)), none, some (eI (3)), some (eR 15), some (eI (7)), some (eI (0)), none]) (s2 := []) rfl rfl rfl ?_
  refine w_t (np := 16) (l2 := [some (eJ (zJ c)), none, some (eI (3)), some (eR 15), some (eI (7)), some (eI (0)), none]) (s2 := [eI (0)]) rfl rfl rfl ?_
  refine w_t (np := 18) (l2 := [some (eJ (zJ c)), none, some (eI (3)), some (eR 15), some (eI (7)), some (eI (0)), some (eI (0))]) (s2 := []) rfl rfl rfl ?_
  refine w_t (np := 20) (l2 := [some (eJ (zJ c)), none, some (eI (3)), some (eR 15), some (eI (7)), some (eI (0)), some (eI (0))]) (s2 := [eI (0)]) rfl rfl rfl ?_
  refine w_t (np := 21) (l2 := [some (eJ (zJ c)), none, some (eI (3)), some (eR 15), some (eI (7)), some (eI (0)), some (eI (0))]) (s2 := [eI (4), eI (0)]) rfl rfl rfl ?_
  refine b_cge (t1 := 65) (t2 := 24) rfl rfl rfl rfl rfl (fun g => absurd g (by decide)) (fun g => ?_)
  clear g
  refine w_t (np := 26) (l2 := [some (eJ (zJ c)), none, some (eI (3)), some (eR 15), some (eI (7)), some (eI (0)), some (eI (0))]) (s2 := [eI (7)]) rfl rfl rfl ?_
  refine w_t (np := 28) (l2 := [some (eJ (zJ c)), none, some (eI (3)), some (eR 15), some (eI (7)), some (eI (0)), some (eI (0))]) (s2 := [eI (0), eI (7)]) rfl rfl rfl ?_
  refine w_t (np := 29) (l2 := [some (eJ (zJ c)), none, some (eI (3)), some (eR 15), some (eI (7)), some (eI (0)), some (eI (0))]) (s2 := [eI (7)]) rfl (b_iadd rfl) rfl ?_
  refine w_t (np := 30) (l2 := [some (eJ (zJ c)), none, some (eI (3)), some (eR 15), some (eI (7)), some (eI (0)), some (eI (0))]) (s2 := [eR 15, eI (7)]) rfl (s_an rfl (by decide)) rfl ?_
  refine v_ln (np := 31) (v := 13) (n := 13) rfl rfl ⟨rfl, zI_lit (by decide)⟩ ?_
  rw [show zI 13 = 13 by decide]
  refine b_cge (t1 := 65) (t2 := 34) rfl rfl rfl rfl rfl (fun g => absurd g (by decide)) (fun g => ?_)
  clear g
  refine w_t (np := 36) (l2 := [some (eJ (zJ c)), none, some (eI (3)), some (eR 15), some (eI (7)), some (eI (0)), some (eI (0))]) (s2 := [eI (0)]) rfl rfl rfl ?_
  refine w_t (np := 37) (l2 := [some (eJ (zJ c)), none, some (eI (3)), some (eR 15), some (eI (7)), some (eI (0)), some (eI (0))]) (s2 := [eJ (zJ c), eI (0)]) rfl rfl rfl ?_
  refine w_t (np := 39) (l2 := [some (eJ (zJ c)), none, some (eI (3)), some (eR 15), some (eI (7)), some (eI (0)), some (eI (0))]) (s2 := [eI (48), eJ (zJ c), eI (0)]) rfl rfl rfl ?_
  refine w_t (np := 41) (l2 := [some (eJ (zJ c)), none, some (eI (3)), some (eR 15), some (eI (7)), some (eI (0)), some (eI (0))]) (s2 := [eI (16), eI (48), eJ (zJ c), eI (0)]) rfl rfl rfl ?_
  refine w_t (np := 43) (l2 := [some (eJ (zJ c)), none, some (eI (3)), some (eR 15), some (eI (7)), some (eI (0)), some (eI (0))]) (s2 := [eI (0), eI (16), eI (48), eJ (zJ c), eI (0)]) rfl rfl rfl ?_
  refine w_t (np := 44) (l2 := [some (eJ (zJ c)), none, some (eI (3)), some (eR 15), some (eI (7)), some (eI (0)), some (eI (0))]) (s2 := [eI (0), eI (48), eJ (zJ c), eI (0)]) rfl (b_imul rfl) rfl ?_
  refine w_t (np := 45) (l2 := [some (eJ (zJ c)), none, some (eI (3)), some (eR 15), some (eI (7)), some (eI (0)), some (eI (0))]) (s2 := [eI (48), eJ (zJ c), eI (0)]) rfl (b_isub rfl) rfl ?_
  refine w_lane (np := 48) (k := 48) (v := p) rfl rfl rfl rfl (by decide) rfl l0 ?_
  refine w_t (np := 49) (l2 := [some (eJ (zJ c)), none, some (eI (3)), some (eR 15), some (eI (7)), some (eI (0)), some (eI (0))]) (s2 := [eR 15, eI (p), eI (0)]) rfl (s_an rfl (by decide)) rfl ?_
  refine w_t (np := 51) (l2 := [some (eJ (zJ c)), none, some (eI (3)), some (eR 15), some (eI (7)), some (eI (0)), some (eI (0))]) (s2 := [eI (7), eR 15, eI (p), eI (0)]) rfl rfl rfl ?_
  refine w_t (np := 53) (l2 := [some (eJ (zJ c)), none, some (eI (3)), some (eR 15), some (eI (7)), some (eI (0)), some (eI (0))]) (s2 := [eI (0), eI (7), eR 15, eI (p), eI (0)]) rfl rfl rfl ?_
  refine w_t (np := 54) (l2 := [some (eJ (zJ c)), none, some (eI (3)), some (eR 15), some (eI (7)), some (eI (0)), some (eI (0))]) (s2 := [eI (7), eR 15, eI (p), eI (0)]) rfl (b_iadd rfl) rfl ?_
  refine w_al (np := 55) (v := -1) rfl rfl (s_al (j := 7) (by decide) (by decide) (by decide) rfl rfl (by decide) (by decide) rfl) ?_
  obtain ⟨v1, e2⟩ : ∃ zz : Int, zz = (p) * (-1) := ⟨_, rfl⟩
  have b3 : -10010 ≤ v1 ∧ v1 ≤ 10010 := by omega
  refine w_t (np := 56) (l2 := [some (eJ (zJ c)), none, some (eI (3)), some (eR 15), some (eI (7)), some (eI (0)), some (eI (0))]) (s2 := [eI (v1), eI (0)]) rfl (b_imul (by rw [← e2]; exact ev_w_in (by omega) (by omega))) rfl ?_
  obtain ⟨v4, e5⟩ : ∃ zz : Int, zz = (0) + (v1) := ⟨_, rfl⟩
  have b6 : -10010 ≤ v4 ∧ v4 ≤ 10010 := by omega
  refine w_t (np := 57) (l2 := [some (eJ (zJ c)), none, some (eI (3)), some (eR 15), some (eI (7)), some (eI (0)), some (eI (0))]) (s2 := [eI (v4)]) rfl (b_iadd (by rw [← e5]; exact ev_w_in (by omega) (by omega))) rfl ?_
  refine w_t (np := 59) (l2 := [some (eJ (zJ c)), none, some (eI (3)), some (eR 15), some (eI (7)), some (eI (v4)), some (eI (0))]) (s2 := []) rfl rfl rfl ?_
  refine w_t (np := 62) (l2 := [some (eJ (zJ c)), none, some (eI (3)), some (eR 15), some (eI (7)), some (eI (v4)), some (eI (1))]) (s2 := []) rfl (b_iinc rfl rfl rfl) rfl ?_
  refine w_go (t1 := 18) rfl rfl ?_
  refine w_t (np := 20) (l2 := [some (eJ (zJ c)), none, some (eI (3)), some (eR 15), some (eI (7)), some (eI (v4)), some (eI (1))]) (s2 := [eI (1)]) rfl rfl rfl ?_
  refine w_t (np := 21) (l2 := [some (eJ (zJ c)), none, some (eI (3)), some (eR 15), some (eI (7)), some (eI (v4)), some (eI (1))]) (s2 := [eI (4), eI (1)]) rfl rfl rfl ?_
  refine b_cge (t1 := 65) (t2 := 24) rfl rfl rfl rfl rfl (fun g => absurd g (by decide)) (fun g => ?_)
  clear g
  refine w_t (np := 26) (l2 := [some (eJ (zJ c)), none, some (eI (3)), some (eR 15), some (eI (7)), some (eI (v4)), some (eI (1))]) (s2 := [eI (7)]) rfl rfl rfl ?_
  refine w_t (np := 28) (l2 := [some (eJ (zJ c)), none, some (eI (3)), some (eR 15), some (eI (7)), some (eI (v4)), some (eI (1))]) (s2 := [eI (1), eI (7)]) rfl rfl rfl ?_
  refine w_t (np := 29) (l2 := [some (eJ (zJ c)), none, some (eI (3)), some (eR 15), some (eI (7)), some (eI (v4)), some (eI (1))]) (s2 := [eI (8)]) rfl (b_iadd rfl) rfl ?_
  refine w_t (np := 30) (l2 := [some (eJ (zJ c)), none, some (eI (3)), some (eR 15), some (eI (7)), some (eI (v4)), some (eI (1))]) (s2 := [eR 15, eI (8)]) rfl (s_an rfl (by decide)) rfl ?_
  refine v_ln (np := 31) (v := 13) (n := 13) rfl rfl ⟨rfl, zI_lit (by decide)⟩ ?_
  rw [show zI 13 = 13 by decide]
  refine b_cge (t1 := 65) (t2 := 34) rfl rfl rfl rfl rfl (fun g => absurd g (by decide)) (fun g => ?_)
  clear g
  refine w_t (np := 36) (l2 := [some (eJ (zJ c)), none, some (eI (3)), some (eR 15), some (eI (7)), some (eI (v4)), some (eI (1))]) (s2 := [eI (v4)]) rfl rfl rfl ?_
  refine w_t (np := 37) (l2 := [some (eJ (zJ c)), none, some (eI (3)), some (eR 15), some (eI (7)), some (eI (v4)), some (eI (1))]) (s2 := [eJ (zJ c), eI (v4)]) rfl rfl rfl ?_
  refine w_t (np := 39) (l2 := [some (eJ (zJ c)), none, some (eI (3)), some (eR 15), some (eI (7)), some (eI (v4)), some (eI (1))]) (s2 := [eI (48), eJ (zJ c), eI (v4)]) rfl rfl rfl ?_
  refine w_t (np := 41) (l2 := [some (eJ (zJ c)), none, some (eI (3)), some (eR 15), some (eI (7)), some (eI (v4)), some (eI (1))]) (s2 := [eI (16), eI (48), eJ (zJ c), eI (v4)]) rfl rfl rfl ?_
  refine w_t (np := 43) (l2 := [some (eJ (zJ c)), none, some (eI (3)), some (eR 15), some (eI (7)), some (eI (v4)), some (eI (1))]) (s2 := [eI (1), eI (16), eI (48), eJ (zJ c), eI (v4)]) rfl rfl rfl ?_
  refine w_t (np := 44) (l2 := [some (eJ (zJ c)), none, some (eI (3)), some (eR 15), some (eI (7)), some (eI (v4)), some (eI (1))]) (s2 := [eI (16), eI (48), eJ (zJ c), eI (v4)]) rfl (b_imul rfl) rfl ?_
  refine w_t (np := 45) (l2 := [some (eJ (zJ c)), none, some (eI (3)), some (eR 15), some (eI (7)), some (eI (v4)), some (eI (1))]) (s2 := [eI (32), eJ (zJ c), eI (v4)]) rfl (b_isub rfl) rfl ?_
  refine w_lane (np := 48) (k := 32) (v := q) rfl rfl rfl rfl (by decide) rfl l1 ?_
  refine w_t (np := 49) (l2 := [some (eJ (zJ c)), none, some (eI (3)), some (eR 15), some (eI (7)), some (eI (v4)), some (eI (1))]) (s2 := [eR 15, eI (q), eI (v4)]) rfl (s_an rfl (by decide)) rfl ?_
  refine w_t (np := 51) (l2 := [some (eJ (zJ c)), none, some (eI (3)), some (eR 15), some (eI (7)), some (eI (v4)), some (eI (1))]) (s2 := [eI (7), eR 15, eI (q), eI (v4)]) rfl rfl rfl ?_
  refine w_t (np := 53) (l2 := [some (eJ (zJ c)), none, some (eI (3)), some (eR 15), some (eI (7)), some (eI (v4)), some (eI (1))]) (s2 := [eI (1), eI (7), eR 15, eI (q), eI (v4)]) rfl rfl rfl ?_
  refine w_t (np := 54) (l2 := [some (eJ (zJ c)), none, some (eI (3)), some (eR 15), some (eI (7)), some (eI (v4)), some (eI (1))]) (s2 := [eI (8), eR 15, eI (q), eI (v4)]) rfl (b_iadd rfl) rfl ?_
  refine w_al (np := 55) (v := -1) rfl rfl (s_al (j := 8) (by decide) (by decide) (by decide) rfl rfl (by decide) (by decide) rfl) ?_
  obtain ⟨v7, e8⟩ : ∃ zz : Int, zz = (q) * (-1) := ⟨_, rfl⟩
  have b9 : -10010 ≤ v7 ∧ v7 ≤ 10010 := by omega
  refine w_t (np := 56) (l2 := [some (eJ (zJ c)), none, some (eI (3)), some (eR 15), some (eI (7)), some (eI (v4)), some (eI (1))]) (s2 := [eI (v7), eI (v4)]) rfl (b_imul (by rw [← e8]; exact ev_w_in (by omega) (by omega))) rfl ?_
  obtain ⟨v10, e11⟩ : ∃ zz : Int, zz = (v4) + (v7) := ⟨_, rfl⟩
  have b12 : -20020 ≤ v10 ∧ v10 ≤ 20020 := by omega
  refine w_t (np := 57) (l2 := [some (eJ (zJ c)), none, some (eI (3)), some (eR 15), some (eI (7)), some (eI (v4)), some (eI (1))]) (s2 := [eI (v10)]) rfl (b_iadd (by rw [← e11]; exact ev_w_in (by omega) (by omega))) rfl ?_
  refine w_t (np := 59) (l2 := [some (eJ (zJ c)), none, some (eI (3)), some (eR 15), some (eI (7)), some (eI (v10)), some (eI (1))]) (s2 := []) rfl rfl rfl ?_
  refine w_t (np := 62) (l2 := [some (eJ (zJ c)), none, some (eI (3)), some (eR 15), some (eI (7)), some (eI (v10)), some (eI (2))]) (s2 := []) rfl (b_iinc rfl rfl rfl) rfl ?_
  refine w_go (t1 := 18) rfl rfl ?_
  refine w_t (np := 20) (l2 := [some (eJ (zJ c)), none, some (eI (3)), some (eR 15), some (eI (7)), some (eI (v10)), some (eI (2))]) (s2 := [eI (2)]) rfl rfl rfl ?_
  refine w_t (np := 21) (l2 := [some (eJ (zJ c)), none, some (eI (3)), some (eR 15), some (eI (7)), some (eI (v10)), some (eI (2))]) (s2 := [eI (4), eI (2)]) rfl rfl rfl ?_
  refine b_cge (t1 := 65) (t2 := 24) rfl rfl rfl rfl rfl (fun g => absurd g (by decide)) (fun g => ?_)
  clear g
  refine w_t (np := 26) (l2 := [some (eJ (zJ c)), none, some (eI (3)), some (eR 15), some (eI (7)), some (eI (v10)), some (eI (2))]) (s2 := [eI (7)]) rfl rfl rfl ?_
  refine w_t (np := 28) (l2 := [some (eJ (zJ c)), none, some (eI (3)), some (eR 15), some (eI (7)), some (eI (v10)), some (eI (2))]) (s2 := [eI (2), eI (7)]) rfl rfl rfl ?_
  refine w_t (np := 29) (l2 := [some (eJ (zJ c)), none, some (eI (3)), some (eR 15), some (eI (7)), some (eI (v10)), some (eI (2))]) (s2 := [eI (9)]) rfl (b_iadd rfl) rfl ?_
  refine w_t (np := 30) (l2 := [some (eJ (zJ c)), none, some (eI (3)), some (eR 15), some (eI (7)), some (eI (v10)), some (eI (2))]) (s2 := [eR 15, eI (9)]) rfl (s_an rfl (by decide)) rfl ?_
  refine v_ln (np := 31) (v := 13) (n := 13) rfl rfl ⟨rfl, zI_lit (by decide)⟩ ?_
  rw [show zI 13 = 13 by decide]
  refine b_cge (t1 := 65) (t2 := 34) rfl rfl rfl rfl rfl (fun g => absurd g (by decide)) (fun g => ?_)
  clear g
  refine w_t (np := 36) (l2 := [some (eJ (zJ c)), none, some (eI (3)), some (eR 15), some (eI (7)), some (eI (v10)), some (eI (2))]) (s2 := [eI (v10)]) rfl rfl rfl ?_
  refine w_t (np := 37) (l2 := [some (eJ (zJ c)), none, some (eI (3)), some (eR 15), some (eI (7)), some (eI (v10)), some (eI (2))]) (s2 := [eJ (zJ c), eI (v10)]) rfl rfl rfl ?_
  refine w_t (np := 39) (l2 := [some (eJ (zJ c)), none, some (eI (3)), some (eR 15), some (eI (7)), some (eI (v10)), some (eI (2))]) (s2 := [eI (48), eJ (zJ c), eI (v10)]) rfl rfl rfl ?_
  refine w_t (np := 41) (l2 := [some (eJ (zJ c)), none, some (eI (3)), some (eR 15), some (eI (7)), some (eI (v10)), some (eI (2))]) (s2 := [eI (16), eI (48), eJ (zJ c), eI (v10)]) rfl rfl rfl ?_
  refine w_t (np := 43) (l2 := [some (eJ (zJ c)), none, some (eI (3)), some (eR 15), some (eI (7)), some (eI (v10)), some (eI (2))]) (s2 := [eI (2), eI (16), eI (48), eJ (zJ c), eI (v10)]) rfl rfl rfl ?_
  refine w_t (np := 44) (l2 := [some (eJ (zJ c)), none, some (eI (3)), some (eR 15), some (eI (7)), some (eI (v10)), some (eI (2))]) (s2 := [eI (32), eI (48), eJ (zJ c), eI (v10)]) rfl (b_imul rfl) rfl ?_
  refine w_t (np := 45) (l2 := [some (eJ (zJ c)), none, some (eI (3)), some (eR 15), some (eI (7)), some (eI (v10)), some (eI (2))]) (s2 := [eI (16), eJ (zJ c), eI (v10)]) rfl (b_isub rfl) rfl ?_
  refine w_lane (np := 48) (k := 16) (v := r) rfl rfl rfl rfl (by decide) rfl l2 ?_
  refine w_t (np := 49) (l2 := [some (eJ (zJ c)), none, some (eI (3)), some (eR 15), some (eI (7)), some (eI (v10)), some (eI (2))]) (s2 := [eR 15, eI (r), eI (v10)]) rfl (s_an rfl (by decide)) rfl ?_
  refine w_t (np := 51) (l2 := [some (eJ (zJ c)), none, some (eI (3)), some (eR 15), some (eI (7)), some (eI (v10)), some (eI (2))]) (s2 := [eI (7), eR 15, eI (r), eI (v10)]) rfl rfl rfl ?_
  refine w_t (np := 53) (l2 := [some (eJ (zJ c)), none, some (eI (3)), some (eR 15), some (eI (7)), some (eI (v10)), some (eI (2))]) (s2 := [eI (2), eI (7), eR 15, eI (r), eI (v10)]) rfl rfl rfl ?_
  refine w_t (np := 54) (l2 := [some (eJ (zJ c)), none, some (eI (3)), some (eR 15), some (eI (7)), some (eI (v10)), some (eI (2))]) (s2 := [eI (9), eR 15, eI (r), eI (v10)]) rfl (b_iadd rfl) rfl ?_
  refine w_al (np := 55) (v := 0) rfl rfl (s_al (j := 9) (by decide) (by decide) (by decide) rfl rfl (by decide) (by decide) rfl) ?_
  obtain ⟨v13, e14⟩ : ∃ zz : Int, zz = (r) * (0) := ⟨_, rfl⟩
  have b15 : 0 ≤ v13 ∧ v13 ≤ 0 := by omega
  refine w_t (np := 56) (l2 := [some (eJ (zJ c)), none, some (eI (3)), some (eR 15), some (eI (7)), some (eI (v10)), some (eI (2))]) (s2 := [eI (v13), eI (v10)]) rfl (b_imul (by rw [← e14]; exact ev_w_in (by omega) (by omega))) rfl ?_
  obtain ⟨v16, e17⟩ : ∃ zz : Int, zz = (v10) + (v13) := ⟨_, rfl⟩
  have b18 : -20020 ≤ v16 ∧ v16 ≤ 20020 := by omega
  refine w_t (np := 57) (l2 := [some (eJ (zJ c)), none, some (eI (3)), some (eR 15), some (eI (7)), some (eI (v10)), some (eI (2))]) (s2 := [eI (v16)]) rfl (b_iadd (by rw [← e17]; exact ev_w_in (by omega) (by omega))) rfl ?_
  refine w_t (np := 59) (l2 := [some (eJ (zJ c)), none, some (eI (3)), some (eR 15), some (eI (7)), some (eI (v16)), some (eI (2))]) (s2 := []) rfl rfl rfl ?_
  refine w_t (np := 62) (l2 := [some (eJ (zJ c)), none, some (eI (3)), some (eR 15), some (eI (7)), some (eI (v16)), some (eI (3))]) (s2 := []) rfl (b_iinc rfl rfl rfl) rfl ?_
  refine w_go (t1 := 18) rfl rfl ?_
  refine w_t (np := 20) (l2 := [some (eJ (zJ c)), none, some (eI (3)), some (eR 15), some (eI (7)), some (eI (v16)), some (eI (3))]) (s2 := [eI (3)]) rfl rfl rfl ?_
  refine w_t (np := 21) (l2 := [some (eJ (zJ c)), none, some (eI (3)), some (eR 15), some (eI (7)), some (eI (v16)), some (eI (3))]) (s2 := [eI (4), eI (3)]) rfl rfl rfl ?_
  refine b_cge (t1 := 65) (t2 := 24) rfl rfl rfl rfl rfl (fun g => absurd g (by decide)) (fun g => ?_)
  clear g
  refine w_t (np := 26) (l2 := [some (eJ (zJ c)), none, some (eI (3)), some (eR 15), some (eI (7)), some (eI (v16)), some (eI (3))]) (s2 := [eI (7)]) rfl rfl rfl ?_
  refine w_t (np := 28) (l2 := [some (eJ (zJ c)), none, some (eI (3)), some (eR 15), some (eI (7)), some (eI (v16)), some (eI (3))]) (s2 := [eI (3), eI (7)]) rfl rfl rfl ?_
  refine w_t (np := 29) (l2 := [some (eJ (zJ c)), none, some (eI (3)), some (eR 15), some (eI (7)), some (eI (v16)), some (eI (3))]) (s2 := [eI (10)]) rfl (b_iadd rfl) rfl ?_
  refine w_t (np := 30) (l2 := [some (eJ (zJ c)), none, some (eI (3)), some (eR 15), some (eI (7)), some (eI (v16)), some (eI (3))]) (s2 := [eR 15, eI (10)]) rfl (s_an rfl (by decide)) rfl ?_
  refine v_ln (np := 31) (v := 13) (n := 13) rfl rfl ⟨rfl, zI_lit (by decide)⟩ ?_
  rw [show zI 13 = 13 by decide]
  refine b_cge (t1 := 65) (t2 := 34) rfl rfl rfl rfl rfl (fun g => absurd g (by decide)) (fun g => ?_)
  clear g
  refine w_t (np := 36) (l2 := [some (eJ (zJ c)), none, some (eI (3)), some (eR 15), some (eI (7)), some (eI (v16)), some (eI (3))]) (s2 := [eI (v16)]) rfl rfl rfl ?_
  refine w_t (np := 37) (l2 := [some (eJ (zJ c)), none, some (eI (3)), some (eR 15), some (eI (7)), some (eI (v16)), some (eI (3))]) (s2 := [eJ (zJ c), eI (v16)]) rfl rfl rfl ?_
  refine w_t (np := 39) (l2 := [some (eJ (zJ c)), none, some (eI (3)), some (eR 15), some (eI (7)), some (eI (v16)), some (eI (3))]) (s2 := [eI (48), eJ (zJ c), eI (v16)]) rfl rfl rfl ?_
  refine w_t (np := 41) (l2 := [some (eJ (zJ c)), none, some (eI (3)), some (eR 15), some (eI (7)), some (eI (v16)), some (eI (3))]) (s2 := [eI (16), eI (48), eJ (zJ c), eI (v16)]) rfl rfl rfl ?_
  refine w_t (np := 43) (l2 := [some (eJ (zJ c)), none, some (eI (3)), some (eR 15), some (eI (7)), some (eI (v16)), some (eI (3))]) (s2 := [eI (3), eI (16), eI (48), eJ (zJ c), eI (v16)]) rfl rfl rfl ?_
  refine w_t (np := 44) (l2 := [some (eJ (zJ c)), none, some (eI (3)), some (eR 15), some (eI (7)), some (eI (v16)), some (eI (3))]) (s2 := [eI (48), eI (48), eJ (zJ c), eI (v16)]) rfl (b_imul rfl) rfl ?_
  refine w_t (np := 45) (l2 := [some (eJ (zJ c)), none, some (eI (3)), some (eR 15), some (eI (7)), some (eI (v16)), some (eI (3))]) (s2 := [eI (0), eJ (zJ c), eI (v16)]) rfl (b_isub rfl) rfl ?_
  refine w_lane (np := 48) (k := 0) (v := s) rfl rfl rfl rfl (by decide) rfl l3 ?_
  refine w_t (np := 49) (l2 := [some (eJ (zJ c)), none, some (eI (3)), some (eR 15), some (eI (7)), some (eI (v16)), some (eI (3))]) (s2 := [eR 15, eI (s), eI (v16)]) rfl (s_an rfl (by decide)) rfl ?_
  refine w_t (np := 51) (l2 := [some (eJ (zJ c)), none, some (eI (3)), some (eR 15), some (eI (7)), some (eI (v16)), some (eI (3))]) (s2 := [eI (7), eR 15, eI (s), eI (v16)]) rfl rfl rfl ?_
  refine w_t (np := 53) (l2 := [some (eJ (zJ c)), none, some (eI (3)), some (eR 15), some (eI (7)), some (eI (v16)), some (eI (3))]) (s2 := [eI (3), eI (7), eR 15, eI (s), eI (v16)]) rfl rfl rfl ?_
  refine w_t (np := 54) (l2 := [some (eJ (zJ c)), none, some (eI (3)), some (eR 15), some (eI (7)), some (eI (v16)), some (eI (3))]) (s2 := [eI (10), eR 15, eI (s), eI (v16)]) rfl (b_iadd rfl) rfl ?_
  refine w_al (np := 55) (v := 0) rfl rfl (s_al (j := 10) (by decide) (by decide) (by decide) rfl rfl (by decide) (by decide) rfl) ?_
  obtain ⟨v19, e20⟩ : ∃ zz : Int, zz = (s) * (0) := ⟨_, rfl⟩
  have b21 : 0 ≤ v19 ∧ v19 ≤ 0 := by omega
  refine w_t (np := 56) (l2 := [some (eJ (zJ c)), none, some (eI (3)), some (eR 15), some (eI (7)), some (eI (v16)), some (eI (3))]) (s2 := [eI (v19), eI (v16)]) rfl (b_imul (by rw [← e20]; exact ev_w_in (by omega) (by omega))) rfl ?_
  obtain ⟨v22, e23⟩ : ∃ zz : Int, zz = (v16) + (v19) := ⟨_, rfl⟩
  have b24 : -20020 ≤ v22 ∧ v22 ≤ 20020 := by omega
  refine w_t (np := 57) (l2 := [some (eJ (zJ c)), none, some (eI (3)), some (eR 15), some (eI (7)), some (eI (v16)), some (eI (3))]) (s2 := [eI (v22)]) rfl (b_iadd (by rw [← e23]; exact ev_w_in (by omega) (by omega))) rfl ?_
  refine w_t (np := 59) (l2 := [some (eJ (zJ c)), none, some (eI (3)), some (eR 15), some (eI (7)), some (eI (v22)), some (eI (3))]) (s2 := []) rfl rfl rfl ?_
  refine w_t (np := 62) (l2 := [some (eJ (zJ c)), none, some (eI (3)), some (eR 15), some (eI (7)), some (eI (v22)), some (eI (4))]) (s2 := []) rfl (b_iinc rfl rfl rfl) rfl ?_
  refine w_go (t1 := 18) rfl rfl ?_
  refine w_t (np := 20) (l2 := [some (eJ (zJ c)), none, some (eI (3)), some (eR 15), some (eI (7)), some (eI (v22)), some (eI (4))]) (s2 := [eI (4)]) rfl rfl rfl ?_
  refine w_t (np := 21) (l2 := [some (eJ (zJ c)), none, some (eI (3)), some (eR 15), some (eI (7)), some (eI (v22)), some (eI (4))]) (s2 := [eI (4), eI (4)]) rfl rfl rfl ?_
  refine b_cge (t1 := 65) (t2 := 24) rfl rfl rfl rfl rfl (fun g => ?_) (fun g => absurd g (by decide))
  clear g
  refine w_t (np := 67) (l2 := [some (eJ (zJ c)), none, some (eI (3)), some (eR 15), some (eI (7)), some (eI (v22)), some (eI (4))]) (s2 := [eI (v22)]) rfl rfl rfl ?_
  refine b_ri rfl rfl ?_
  have e9 : v22 = (-1) * p + (-1) * q := by omega
  rw [e9]
  exact K
theorem t80_15_4 {L : Nat} {ρ : Nat → Int} {rc rs d : Nat} {f : eFr} {F : List eFr} {μ : eM} {c : Nat} {p q r s : Int} (l0 : zI (z_i2s (z_l2i (z_lshr c 48))) = p) (l1 : zI (z_i2s (z_l2i (z_lshr c 32))) = q) (l2 : zI (z_i2s (z_l2i (z_lshr c 16))) = r) (l3 : zI (z_i2s (z_l2i (z_lshr c 0))) = s) (hp : -10010 ≤ p ∧ p ≤ 10010) (hq : -10010 ≤ q ∧ q ≤ 10010) (hr : -10010 ≤ r ∧ r ≤ 10010) (hs : -10010 ≤ s ∧ s ≤ 10010) (K : ex_fine (dt_fg L ρ) rc rs (d + 1, (f.1, f.2.1, f.2.2.1, eI ((-1) * q + (-1) * r) :: f.2.2.2), F, μ)) : ex_fine (dt_fg L ρ) rc rs (d, (80, 0, [some (eJ (zJ c)), none, some (eI (4)), some (eR 15), none, none, none], []), f :: F, μ) := by
  refine w_t (np := 2) (l2 := [some (eJ (zJ c)), none, some (eI (4)), some (eR 15), none, none, none]) (s2 := [eI (10)]) rfl rfl rfl ?_
  refine w_t (np := 3) (l2 := [some (eJ (zJ c)), none, some (eI (4)), some (eR 15), none, none, none]) (s2 := [eI (4), eI (10)]) rfl rfl rfl ?_
  refine w_t (np := 5) (l2 := [some (eJ (zJ c)), none, some (eI (4)), some (eR 15), none, none, none]) (s2 := [eI (10), eI (4), eI (10)]) rfl rfl rfl ?_
  refine w_t (np := 6) (l2 := [some (eJ (zJ c)), none, some (eI (4)), some (eR 15), none, none, none]) (s2 := [eI (4), eI (10)]) rfl rfl rfl ?_
  refine w_t (np := 7) (l2 := [some (eJ (zJ c)), none, some (eI (4)), some (eR 15), none, none, none]) (s2 := [eI (6)]) rfl (b_isub rfl) rfl ?_
  refine w_t (np := 9) (l2 := [some (eJ (zJ c)), none, some (eI (4)), some (eR 15), none, none, none]) (s2 := [eI (10), eI (6)]) rfl rfl rfl ?_
  refine w_t (np := 10) (l2 := [some (eJ (zJ c)), none, some (eI (4)), some (eR 15), none, none, none]) (s2 := [eI (6)]) rfl rfl rfl ?_
  refine w_t (np := 12) (l2 := [some (eJ (zJ c)), none, some (eI (4)), some (eR 15), some (eI (6)), none, none]) (s2 := []) rfl rfl rfl ?_
  refine w_t (np := 13) (l2 := [some (eJ (zJ c)), none, some (eI (4)), some (eR 15), some (eI (6)), none, none]) (s2 := [eI (0)]) rfl rfl rfl ?_
  refine w_t (np := 15) (l2 := [some (eJ (zJ c)), none, some (eI (4)), some (eR 15), some (eI (6)), some (eI (0)), none]) (s2 := []) rfl rfl rfl ?_
  refine w_t (np := 16) (l2 := [some (eJ (zJ c)), none, some (eI (4)), some (eR 15), some (eI (6)), some (eI (0)), none]) (s2 := [eI (0)]) rfl rfl rfl ?_
  refine w_t (np := 18) (l2 := [some (eJ (zJ c)), none, some (eI (4)), some (eR 15), some (eI (6)), some (eI (0)), some (eI (0))]) (s2 := []) rfl rfl rfl ?_
  refine w_t (np := 20) (l2 := [some (eJ (zJ c)), none, some (eI (4)), some (eR 15), some (eI (6)), some (eI (0)), some (eI (0))]) (s2 := [eI (0)]) rfl rfl rfl ?_
  refine w_t (np := 21) (l2 := [some (eJ (zJ c)), none, some (eI (4)), some (eR 15), some (eI (6)), some (eI (0)), some (eI (0))]) (s2 := [eI (4), eI (0)]) rfl rfl rfl ?_
  refine b_cge (t1 := 65) (t2 := 24) rfl rfl rfl rfl rfl (fun g => absurd g (by decide)) (fun g => ?_)
  clear g
  refine w_t (np := 26) (l2 := [some (eJ (zJ c)), none, some (eI (4)), some (eR 15), some (eI (6)), some (eI (0)), some (eI (0))]) (s2 := [eI (6)]) rfl rfl rfl ?_
  refine w_t (np := 28) (l2 := [some (eJ (zJ c)), none, some (eI (4)), some (eR 15), some (eI (6)), some (eI (0)), some (eI (0))]) (s2 := [eI (0), eI (6)]) rfl rfl rfl ?_
  refine w_t (np := 29) (l2 := [some (eJ (zJ c)), none, some (eI (4)), some (eR 15), some (eI (6)), some (eI (0)), some (eI (0))]) (s2 := [eI (6)]) rfl (b_iadd rfl) rfl ?_
  refine w_t (np := 30) (l2 := [some (eJ (zJ c)), none, some (eI (4)), some (eR 15), some (eI (6)), some (eI (0)), some (eI (0))]) (s2 := [eR 15, eI (6)]) rfl (s_an rfl (by decide)) rfl ?_
  refine v_ln (np := 31) (v := 13) (n := 13) rfl rfl ⟨rfl, zI_lit (by decide)⟩ ?_
  rw [show zI 13 = 13 by decide]
  refine b_cge (t1 := 65) (t2 := 34) rfl rfl rfl rfl rfl (fun g => absurd g (by decide)) (fun g => ?_)
  clear g
  refine w_t (np := 36) (l2 := [some (eJ (zJ c)), none, some (eI (4)), some (eR 15), some (eI (6)), some (eI (0)), some (eI (0))]) (s2 := [eI (0)]) rfl rfl rfl ?_
  refine w_t (np := 37) (l2 := [some (eJ (zJ c)), none, some (eI (4)), some (eR 15), some (eI (6)), some (eI (0)), some (eI (0))]) (s2 := [eJ (zJ c), eI (0)]) rfl rfl rfl ?_
  refine w_t (np := 39) (l2 := [some (eJ (zJ c)), none, some (eI (4)), some (eR 15), some (eI (6)), some (eI (0)), some (eI (0))]) (s2 := [eI (48), eJ (zJ c), eI (0)]) rfl rfl rfl ?_
  refine w_t (np := 41) (l2 := [some (eJ (zJ c)), none, some (eI (4)), some (eR 15), some (eI (6)), some (eI (0)), some (eI (0))]) (s2 := [eI (16), eI (48), eJ (zJ c), eI (0)]) rfl rfl rfl ?_
  refine w_t (np := 43) (l2 := [some (eJ (zJ c)), none, some (eI (4)), some (eR 15), some (eI (6)), some (eI (0)), some (eI (0))]) (s2 := [eI (0), eI (16), eI (48), eJ (zJ c), eI (0)]) rfl rfl rfl ?_
  refine w_t (np := 44) (l2 := [some (eJ (zJ c)), none, some (eI (4)), some (eR 15), some (eI (6)), some (eI (0)), some (eI (0))]) (s2 := [eI (0), eI (48), eJ (zJ c), eI (0)]) rfl (b_imul rfl) rfl ?_
  refine w_t (np := 45) (l2 := [some (eJ (zJ c)), none, some (eI (4)), some (eR 15), some (eI (6)), some (eI (0)), some (eI (0))]) (s2 := [eI (48), eJ (zJ c), eI (0)]) rfl (b_isub rfl) rfl ?_
  refine w_lane (np := 48) (k := 48) (v := p) rfl rfl rfl rfl (by decide) rfl l0 ?_
  refine w_t (np := 49) (l2 := [some (eJ (zJ c)), none, some (eI (4)), some (eR 15), some (eI (6)), some (eI (0)), some (eI (0))]) (s2 := [eR 15, eI (p), eI (0)]) rfl (s_an rfl (by decide)) rfl ?_
  refine w_t (np := 51) (l2 := [some (eJ (zJ c)), none, some (eI (4)), some (eR 15), some (eI (6)), some (eI (0)), some (eI (0))]) (s2 := [eI (6), eR 15, eI (p), eI (0)]) rfl rfl rfl ?_
  refine w_t (np := 53) (l2 := [some (eJ (zJ c)), none, some (eI (4)), some (eR 15), some (eI (6)), some (eI (0)), some (eI (0))]) (s2 := [eI (0), eI (6), eR 15, eI (p), eI (0)]) rfl rfl rfl ?_
  refine w_t (np := 54) (l2 := [some (eJ (zJ c)), none, some (eI (4)), some (eR 15), some (eI (6)), some (eI (0)), some (eI (0))]) (s2 := [eI (6), eR 15, eI (p), eI (0)]) rfl (b_iadd rfl) rfl ?_
  refine w_al (np := 55) (v := 0) rfl rfl (s_al (j := 6) (by decide) (by decide) (by decide) rfl rfl (by decide) (by decide) rfl) ?_
  obtain ⟨v1, e2⟩ : ∃ zz : Int, zz = (p) * (0) := ⟨_, rfl⟩
  have b3 : 0 ≤ v1 ∧ v1 ≤ 0 := by omega
  refine w_t (np := 56) (l2 := [some (eJ (zJ c)), none, some (eI (4)), some (eR 15), some (eI (6)), some (eI (0)), some (eI (0))]) (s2 := [eI (v1), eI (0)]) rfl (b_imul (by rw [← e2]; exact ev_w_in (by omega) (by omega))) rfl ?_
  obtain ⟨v4, e5⟩ : ∃ zz : Int, zz = (0) + (v1) := ⟨_, rfl⟩
  have b6 : 0 ≤ v4 ∧ v4 ≤ 0 := by omega
  refine w_t (np := 57) (l2 := [some (eJ (zJ c)), none, some (eI (4)), some (eR 15), some (eI (6)), some (eI (0)), some (eI (0))]) (s2 := [eI (v4)]) rfl (b_iadd (by rw [← e5]; exact ev_w_in (by omega) (by omega))) rfl ?_
  refine w_t (np := 59) (l2 := [some (eJ (zJ c)), none, some (eI (4)), some (eR 15), some (eI (6)), some (eI (v4)), some (eI (0))]) (s2 := []) rfl rfl rfl ?_
  refine w_t (np := 62) (l2 := [some (eJ (zJ c)), none, some (eI (4)), some (eR 15), some (eI (6)), some (eI (v4)), some (eI (1))]) (s2 := []) rfl (b_iinc rfl rfl rfl) rfl ?_
  refine w_go (t1 := 18) rfl rfl ?_
  refine w_t (np := 20) (l2 := [some (eJ (zJ c)), none, some (eI (4)), some (eR 15), some (eI (6)), some (eI (v4)), some (eI (1))]) (s2 := [eI (1)]) rfl rfl rfl ?_
  refine w_t (np := 21) (l2 := [some (eJ (zJ c)), none, some (eI (4)), some (eR 15), some (eI (6)), some (eI (v4)), some (eI (1))]) (s2 := [eI (4), eI (1)]) rfl rfl rfl ?_
  refine b_cge (t1 := 65) (t2 := 24) rfl rfl rfl rfl rfl (fun g => absurd g (by decide)) (fun g => ?_)
  clear g
  refine w_t (np := 26) (l2 := [some (eJ (zJ c)), none, some (eI (4)), some (eR 15), some (eI (6)), some (eI (v4)), some (eI (1))]) (s2 := [eI (6)]) rfl rfl rfl ?_
  refine w_t (np := 28) (l2 := [some (eJ (zJ c)), none, some (eI (4)), some (eR 15), some (eI (6)), some (eI (v4)), some (eI (1))]) (s2 := [eI (1), eI (6)]) rfl rfl rfl ?_
  refine w_t (np := 29) (l2 := [some (eJ (zJ c)), none, some (eI (4)), some (eR 15), some (eI (6)), some (eI (v4)), some (eI (1))]) (s2 := [eI (7)]) rfl (b_iadd rfl) rfl ?_
  refine w_t (np := 30) (l2 := [some (eJ (zJ c)), none, some (eI (4)), some (eR 15), some (eI (6)), some (eI (v4)), some (eI (1))]) (s2 := [eR 15, eI (7)]) rfl (s_an rfl (by decide)) rfl ?_
  refine v_ln (np := 31) (v := 13) (n := 13) rfl rfl ⟨rfl, zI_lit (by decide)⟩ ?_
  rw [show zI 13 = 13 by decide]
  refine b_cge (t1 := 65) (t2 := 34) rfl rfl rfl rfl rfl (fun g => absurd g (by decide)) (fun g => ?_)
  clear g
  refine w_t (np := 36) (l2 := [some (eJ (zJ c)), none, some (eI (4)), some (eR 15), some (eI (6)), some (eI (v4)), some (eI (1))]) (s2 := [eI (v4)]) rfl rfl rfl ?_
  refine w_t (np := 37) (l2 := [some (eJ (zJ c)), none, some (eI (4)), some (eR 15), some (eI (6)), some (eI (v4)), some (eI (1))]) (s2 := [eJ (zJ c), eI (v4)]) rfl rfl rfl ?_
  refine w_t (np := 39) (l2 := [some (eJ (zJ c)), none, some (eI (4)), some (eR 15), some (eI (6)), some (eI (v4)), some (eI (1))]) (s2 := [eI (48), eJ (zJ c), eI (v4)]) rfl rfl rfl ?_
  refine w_t (np := 41) (l2 := [some (eJ (zJ c)), none, some (eI (4)), some (eR 15), some (eI (6)), some (eI (v4)), some (eI (1))]) (s2 := [eI (16), eI (48), eJ (zJ c), eI (v4)]) rfl rfl rfl ?_
  refine w_t (np := 43) (l2 := [some (eJ (zJ c)), none, some (eI (4)), some (eR 15), some (eI (6)), some (eI (v4)), some (eI (1))]) (s2 := [eI (1), eI (16), eI (48), eJ (zJ c), eI (v4)]) rfl rfl rfl ?_
  refine w_t (np := 44) (l2 := [some (eJ (zJ c)), none, some (eI (4)), some (eR 15), some (eI (6)), some (eI (v4)), some (eI (1))]) (s2 := [eI (16), eI (48), eJ (zJ c), eI (v4)]) rfl (b_imul rfl) rfl ?_
  refine w_t (np := 45) (l2 := [some (eJ (zJ c)), none, some (eI (4)), some (eR 15), some (eI (6)), some (eI (v4)), some (eI (1))]) (s2 := [eI (32), eJ (zJ c), eI (v4)]) rfl (b_isub rfl) rfl ?_
  refine w_lane (np := 48) (k := 32) (v := q) rfl rfl rfl rfl (by decide) rfl l1 ?_
  refine w_t (np := 49) (l2 := [some (eJ (zJ c)), none, some (eI (4)), some (eR 15), some (eI (6)), some (eI (v4)), some (eI (1))]) (s2 := [eR 15, eI (q), eI (v4)]) rfl (s_an rfl (by decide)) rfl ?_
  refine w_t (np := 51) (l2 := [some (eJ (zJ c)), none, some (eI (4)), some (eR 15), some (eI (6)), some (eI (v4)), some (eI (1))]) (s2 := [eI (6), eR 15, eI (q), eI (v4)]) rfl rfl rfl ?_
  refine w_t (np := 53) (l2 := [some (eJ (zJ c)), none, some (eI (4)), some (eR 15), some (eI (6)), some (eI (v4)), some (eI (1))]) (s2 := [eI (1), eI (6), eR 15, eI (q), eI (v4)]) rfl rfl rfl ?_
  refine w_t (np := 54) (l2 := [some (eJ (zJ c)), none, some (eI (4)), some (eR 15), some (eI (6)), some (eI (v4)), some (eI (1))]) (s2 := [eI (7), eR 15, eI (q), eI (v4)]) rfl (b_iadd rfl) rfl ?_
  refine w_al (np := 55) (v := -1) rfl rfl (s_al (j := 7) (by decide) (by decide) (by decide) rfl rfl (by decide) (by decide) rfl) ?_
  obtain ⟨v7, e8⟩ : ∃ zz : Int, zz = (q) * (-1) := ⟨_, rfl⟩
  have b9 : -10010 ≤ v7 ∧ v7 ≤ 10010 := by omega
  refine w_t (np := 56) (l2 := [some (eJ (zJ c)), none, some (eI (4)), some (eR 15), some (eI (6)), some (eI (v4)), some (eI (1))]) (s2 := [eI (v7), eI (v4)]) rfl (b_imul (by rw [← e8]; exact ev_w_in (by omega) (by omega))) rfl ?_
  obtain ⟨v10, e11⟩ : ∃ zz : Int, zz = (v4) + (v7) := ⟨_, rfl⟩
  have b12 : -10010 ≤ v10 ∧ v10 ≤ 10010 := by omega
  refine w_t (np := 57) (l2 := [some (eJ (zJ c)), none, some (eI (4)), some (eR 15), some (eI (6)), some (eI (v4)), some (eI (1))]) (s2 := [eI (v10)]) rfl (b_iadd (by rw [← e11]; exact ev_w_in (by omega) (by omega))) rfl ?_
  refine w_t (np := 59) (l2 := [some (eJ (zJ c)), none, some (eI (4)), some (eR 15), some (eI (6)), some (eI (v10)), some (eI (1))]) (s2 := []) rfl rfl rfl ?_
  refine w_t (np := 62) (l2 := [some (eJ (zJ c)), none, some (eI (4)), some (eR 15), some (eI (6)), some (eI (v10)), some (eI (2))]) (s2 := []) rfl (b_iinc rfl rfl rfl) rfl ?_
  refine w_go (t1 := 18) rfl rfl ?_
  refine w_t (np := 20) (l2 := [some (eJ (zJ c)), none, some (eI (4)), some (eR 15), some (eI (6)), some (eI (v10)), some (eI (2))]) (s2 := [eI (2)]) rfl rfl rfl ?_
  refine w_t (np := 21) (l2 := [some (eJ (zJ c)), none, some (eI (4)), some (eR 15), some (eI (6)), some (eI (v10)), some (eI (2))]) (s2 := [eI (4), eI (2)]) rfl rfl rfl ?_
  refine b_cge (t1 := 65) (t2 := 24) rfl rfl rfl rfl rfl (fun g => absurd g (by decide)) (fun g => ?_)
  clear g
  refine w_t (np := 26) (l2 := [some (eJ (zJ c)), none, some (eI (4)), some (eR 15), some (eI (6)), some (eI (v10)), some (eI (2))]) (s2 := [eI (6)]) rfl rfl rfl ?_
  refine w_t (np := 28) (l2 := [some (eJ (zJ c)), none, some (eI (4)), some (eR 15), some (eI (6)), some (eI (v10)), some (eI (2))]) (s2 := [eI (2), eI (6)]) rfl rfl rfl ?_
  refine w_t (np := 29) (l2 := [some (eJ (zJ c)), none, some (eI (4)), some (eR 15), some (eI (6)), some (eI (v10)), some (eI (2))]) (s2 := [eI (8)]) rfl (b_iadd rfl) rfl ?_
  refine w_t (np := 30) (l2 := [some (eJ (zJ c)), none, some (eI (4)), some (eR 15), some (eI (6)), some (eI (v10)), some (eI (2))]) (s2 := [eR 15, eI (8)]) rfl (s_an rfl (by decide)) rfl ?_
  refine v_ln (np := 31) (v := 13) (n := 13) rfl rfl ⟨rfl, zI_lit (by decide)⟩ ?_
  rw [show zI 13 = 13 by decide]
  refine b_cge (t1 := 65) (t2 := 34) rfl rfl rfl rfl rfl (fun g => absurd g (by decide)) (fun g => ?_)
  clear g
  refine w_t (np := 36) (l2 := [some (eJ (zJ c)), none, some (eI (4)), some (eR 15), some (eI (6)), some (eI (v10)), some (eI (2))]) (s2 := [eI (v10)]) rfl rfl rfl ?_
  refine w_t (np := 37) (l2 := [some (eJ (zJ c)), none, some (eI (4)), some (eR 15), some (eI (6)), some (eI (v10)), some (eI (2))]) (s2 := [eJ (zJ c), eI (v10)]) rfl rfl rfl ?_
  refine w_t (np := 39) (l2 := [some (eJ (zJ c)), none, some (eI (4)), some (eR 15), some (eI (6)), some (eI (v10)), some (eI (2))]) (s2 := [eI (48), eJ (zJ c), eI (v10)]) rfl rfl rfl ?_
  refine w_t (np := 41) (l2 := [some (eJ (zJ c)), none, some (eI (4)), some (eR 15), some (eI (6)), some (eI (v10)), some (eI (2))]) (s2 := [eI (16), eI (48), eJ (zJ c), eI (v10)]) rfl rfl rfl ?_
  refine w_t (np := 43) (l2 := [some (eJ (zJ c)), none, some (eI (4)), some (eR 15), some (eI (6)), some (eI (v10)), some (eI (2))]) (s2 := [eI (2), eI (16), eI (48), eJ (zJ c), eI (v10)]) rfl rfl rfl ?_
  refine w_t (np := 44) (l2 := [some (eJ (zJ c)), none, some (eI (4)), some (eR 15), some (eI (6)), some (eI (v10)), some (eI (2))]) (s2 := [eI (32), eI (48), eJ (zJ c), eI (v10)]) rfl (b_imul rfl) rfl ?_
  refine w_t (np := 45) (l2 := [some (eJ (zJ c)), none, some (eI (4)), some (eR 15), some (eI (6)), some (eI (v10)), some (eI (2))]) (s2 := [eI (16), eJ (zJ c), eI (v10)]) rfl (b_isub rfl) rfl ?_
  refine w_lane (np := 48) (k := 16) (v := r) rfl rfl rfl rfl (by decide) rfl l2 ?_
  refine w_t (np := 49) (l2 := [some (eJ (zJ c)), none, some (eI (4)), some (eR 15), some (eI (6)), some (eI (v10)), some (eI (2))]) (s2 := [eR 15, eI (r), eI (v10)]) rfl (s_an rfl (by decide)) rfl ?_
  refine w_t (np := 51) (l2 := [some (eJ (zJ c)), none, some (eI (4)), some (eR 15), some (eI (6)), some (eI (v10)), some (eI (2))]) (s2 := [eI (6), eR 15, eI (r), eI (v10)]) rfl rfl rfl ?_
  refine w_t (np := 53) (l2 := [some (eJ (zJ c)), none, some (eI (4)), some (eR 15), some (eI (6)), some (eI (v10)), some (eI (2))]) (s2 := [eI (2), eI (6), eR 15, eI (r), eI (v10)]) rfl rfl rfl ?_
  refine w_t (np := 54) (l2 := [some (eJ (zJ c)), none, some (eI (4)), some (eR 15), some (eI (6)), some (eI (v10)), some (eI (2))]) (s2 := [eI (8), eR 15, eI (r), eI (v10)]) rfl (b_iadd rfl) rfl ?_
  refine w_al (np := 55) (v := -1) rfl rfl (s_al (j := 8) (by decide) (by decide) (by decide) rfl rfl (by decide) (by decide) rfl) ?_
  obtain ⟨v13, e14⟩ : ∃ zz : Int, zz = (r) * (-1) := ⟨_, rfl⟩
  have b15 : -10010 ≤ v13 ∧ v13 ≤ 10010 := by omega
  refine w_t (np := 56) (l2 := [some (eJ (zJ c)), none, some (eI (4)), some (eR 15), some (eI (6)), some (eI (v10)), some (eI (2))]) (s2 := [eI (v13), eI (v10)]) rfl (b_imul (by rw [← e14]; exact ev_w_in (by omega) (by omega))) rfl ?_
  obtain ⟨v16, e17⟩ : ∃ zz : Int, zz = (v10) + (v13) := ⟨_, rfl⟩
  have b18 : -20020 ≤ v16 ∧ v16 ≤ 20020 := by omega
  refine w_t (np := 57) (l2 := [some (eJ (zJ c)), none, some (eI (4)), some (eR 15), some (eI (6)), some (eI (v10)), some (eI (2))]) (s2 := [eI (v16)]) rfl (b_iadd (by rw [← e17]; exact ev_w_in (by omega) (by omega))) rfl ?_
  refine w_t (np := 59) (l2 := [some (eJ (zJ c)), none, some (eI (4)), some (eR 15), some (eI (6)), some (eI (v16)), some (eI (2))]) (s2 := []) rfl rfl rfl ?_
  refine w_t (np := 62) (l2 := [some (eJ (zJ c)), none, some (eI (4)), some (eR 15), some (eI (6)), some (eI (v16)), some (eI (3))]) (s2 := []) rfl (b_iinc rfl rfl rfl) rfl ?_
  refine w_go (t1 := 18) rfl rfl ?_
  refine w_t (np := 20) (l2 := [some (eJ (zJ c)), none, some (eI (4)), some (eR 15), some (eI (6)), some (eI (v16)), some (eI (3))]) (s2 := [eI (3)]) rfl rfl rfl ?_
  refine w_t (np := 21) (l2 := [some (eJ (zJ c)), none, some (eI (4)), some (eR 15), some (eI (6)), some (eI (v16)), some (eI (3))]) (s2 := [eI (4), eI (3)]) rfl rfl rfl ?_
  refine b_cge (t1 := 65) (t2 := 24) rfl rfl rfl rfl rfl (fun g => absurd g (by decide)) (fun g => ?_)
  clear g
  refine w_t (np := 26) (l2 := [some (eJ (zJ c)), none, some (eI (4)), some (eR 15), some (eI (6)), some (eI (v16)), some (eI (3))]) (s2 := [eI (6)]) rfl rfl rfl ?_
  refine w_t (np := 28) (l2 := [some (eJ (zJ c)), none, some (eI (4)), some (eR 15), some (eI (6)), some (eI (v16)), some (eI (3))]) (s2 := [eI (3), eI (6)]) rfl rfl rfl ?_
  refine w_t (np := 29) (l2 := [some (eJ (zJ c)), none, some (eI (4)), some (eR 15), some (eI (6)), some (eI (v16)), some (eI (3))]) (s2 := [eI (9)]) rfl (b_iadd rfl) rfl ?_
  refine w_t (np := 30) (l2 := [some (eJ (zJ c)), none, some (eI (4)), some (eR 15), some (eI (6)), some (eI (v16)), some (eI (3))]) (s2 := [eR 15, eI (9)]) rfl (s_an rfl (by decide)) rfl ?_
  refine v_ln (np := 31) (v := 13) (n := 13) rfl rfl ⟨rfl, zI_lit (by decide)⟩ ?_
  rw [show zI 13 = 13 by decide]
  refine b_cge (t1 := 65) (t2 := 34) rfl rfl rfl rfl rfl (fun g => absurd g (by decide)) (fun g => ?_)
  clear g
  refine w_t (np := 36) (l2 := [some (eJ (zJ c)), none, some (eI (4)), some (eR 15), some (eI (6)), some (eI (v16)), some (eI (3))]) (s2 := [eI (v16)]) rfl rfl rfl ?_
  refine w_t (np := 37) (l2 := [some (eJ (zJ c)), none, some (eI (4)), some (eR 15), some (eI (6)), some (eI (v16)), some (eI (3))]) (s2 := [eJ (zJ c), eI (v16)]) rfl rfl rfl ?_
  refine w_t (np := 39) (l2 := [some (eJ (zJ c)), none, some (eI (4)), some (eR 15), some (eI (6)), some (eI (v16)), some (eI (3))]) (s2 := [eI (48), eJ (zJ c), eI (v16)]) rfl rfl rfl ?_
  refine w_t (np := 41) (l2 := [some (eJ (zJ c)), none, some (eI (4)), some (eR 15), some (eI (6)), some (eI (v16)), some (eI (3))]) (s2 := [eI (16), eI (48), eJ (zJ c), eI (v16)]) rfl rfl rfl ?_
  refine w_t (np := 43) (l2 := [some (eJ (zJ c)), none, some (eI (4)), some (eR 15), some (eI (6)), some (eI (v16)), some (eI (3))]) (s2 := [eI (3), eI (16), eI (48), eJ (zJ c), eI (v16)]) rfl rfl rfl ?_
  refine w_t (np := 44) (l2 := [some (eJ (zJ c)), none, some (eI (4)), some (eR 15), some (eI (6)), some (eI (v16)), some (eI (3))]) (s2 := [eI (48), eI (48), eJ (zJ c), eI (v16)]) rfl (b_imul rfl) rfl ?_
  refine w_t (np := 45) (l2 := [some (eJ (zJ c)), none, some (eI (4)), some (eR 15), some (eI (6)), some (eI (v16)), some (eI (3))]) (s2 := [eI (0), eJ (zJ c), eI (v16)]) rfl (b_isub rfl) rfl ?_
  refine w_lane (np := 48) (k := 0) (v := s) rfl rfl rfl rfl (by decide) rfl l3 ?_
  refine w_t (np := 49) (l2 := [some (eJ (zJ c)), none, some (eI (4)), some (eR 15), some (eI (6)), some (eI (v16)), some (eI (3))]) (s2 := [eR 15, eI (s), eI (v16)]) rfl (s_an rfl (by decide)) rfl ?_
  refine w_t (np := 51) (l2 := [some (eJ (zJ c)), none, some (eI (4)), some (eR 15), some (eI (6)), some (eI (v16)), some (eI (3))]) (s2 := [eI (6), eR 15, eI (s), eI (v16)]) rfl rfl rfl ?_
  refine w_t (np := 53) (l2 := [some (eJ (zJ c)), none, some (eI (4)), some (eR 15), some (eI (6)), some (eI (v16)), some (eI (3))]) (s2 := [eI (3), eI (6), eR 15, eI (s), eI (v16)]) rfl rfl rfl ?_
  refine w_t (np := 54) (l2 := [some (eJ (zJ c)), none, some (eI (4)), some (eR 15), some (eI (6)), some (eI (v16)), some (eI (3))]) (s2 := [eI (9), eR 15, eI (s), eI (v16)]) rfl (b_iadd rfl) rfl ?_
  refine w_al (np := 55) (v := 0) rfl rfl (s_al (j := 9) (by decide) (by decide) (by decide) rfl rfl (by decide) (by decide) rfl) ?_
  obtain ⟨v19, e20⟩ : ∃ zz : Int, zz = (s) * (0) := ⟨_, rfl⟩
  have b21 : 0 ≤ v19 ∧ v19 ≤ 0 := by omega
  refine w_t (np := 56) (l2 := [some (eJ (zJ c)), none, some (eI (4)), some (eR 15), some (eI (6)), some (eI (v16)), some (eI (3))]) (s2 := [eI (v19), eI (v16)]) rfl (b_imul (by rw [← e20]; exact ev_w_in (by omega) (by omega))) rfl ?_
  obtain ⟨v22, e23⟩ : ∃ zz : Int, zz = (v16) + (v19) := ⟨_, rfl⟩
  have b24 : -20020 ≤ v22 ∧ v22 ≤ 20020 := by omega
  refine w_t (np := 57) (l2 := [some (eJ (zJ c)), none, some (eI (4)), some (eR 15), some (eI (6)), some (eI (v16)), some (eI (3))]) (s2 := [eI (v22)]) rfl (b_iadd (by rw [← e23]; exact ev_w_in (by omega) (by omega))) rfl ?_
  refine w_t (np := 59) (l2 := [some (eJ (zJ c)), none, some (eI (4)), some (eR 15), some (eI (6)), some (eI (v22)), some (eI (3))]) (s2 := []) rfl rfl rfl ?_
  refine w_t (np := 62) (l2 := [some (eJ (zJ c)), none, some (eI (4)), some (eR 15), some (eI (6)), some (eI (v22)), some (eI (4))]) (s2 := []) rfl (b_iinc rfl rfl rfl) rfl ?_
  refine w_go (t1 := 18) rfl rfl ?_
  refine w_t (np := 20) (l2 := [some (eJ (zJ c)), none, some (eI (4)), some (eR 15), some (eI (6)), some (eI (v22)), some (eI (4))]) (s2 := [eI (4)]) rfl rfl rfl ?_
  refine w_t (np := 21) (l2 := [some (eJ (zJ c)), none, some (eI (4)), some (eR 15), some (eI (6)), some (eI (v22)), some (eI (4))]) (s2 := [eI (4), eI (4)]) rfl rfl rfl ?_
  refine b_cge (t1 := 65) (t2 := 24) rfl rfl rfl rfl rfl (fun g => ?_) (fun g => absurd g (by decide))
  clear g
  refine w_t (np := 67) (l2 := [some (eJ (zJ c)), none, some (eI (4)), some (eR 15), some (eI (6)), some (eI (v22)), some (eI (4))]) (s2 := [eI (v22)]) rfl rfl rfl ?_
  refine b_ri rfl rfl ?_
  have e9 : v22 = (-1) * q + (-1) * r := by omega
  rw [e9]
  exact K
theorem t80_15_5 {L : Nat} {ρ : Nat → Int} {rc rs d : Nat} {f : eFr} {F : List eFr} {μ : eM} {c : Nat} {p q r s : Int} (l0 : zI (z_i2s (z_l2i (z_lshr c 48))) = p) (l1 : zI (z_i2s (z_l2i (z_lshr c 32))) = q) (l2 : zI (z_i2s (z_l2i (z_lshr c 16))) = r) (l3 : zI (z_i2s (z_l2i (z_lshr c 0))) = s) (hp : -10010 ≤ p ∧ p ≤ 10010) (hq : -10010 ≤ q ∧ q ≤ 10010) (hr : -10010 ≤ r ∧ r ≤ 10010) (hs : -10010 ≤ s ∧ s ≤ 10010) (K : ex_fine (dt_fg L ρ) rc rs (d + 1, (f.1, f.2.1, f.2.2.1, eI ((-1) * r + (-1) * s) :: f.2.2.2), F, μ)) : ex_fine (dt_fg L ρ) rc rs (d, (80, 0, [some (eJ (zJ c)), none, some (eI (5)), some (eR 15), none, none, none], []), f :: F, μ) := by
  refine w_t (np := 2) (l2 := [some (eJ (zJ c)), none, some (eI (5)), some (eR 15), none, none, none]) (s2 := [eI (10)]) rfl rfl rfl ?_
  refine w_t (np := 3) (l2 := [some (eJ (zJ c)), none, some (eI (5)), some (eR 15), none, none, none]) (s2 := [eI (5), eI (10)]) rfl rfl rfl ?_
  refine w_t (np := 5) (l2 := [some (eJ (zJ c)), none, some (eI (5)), some (eR 15), none, none, none]) (s2 := [eI (10), eI (5), eI (10)]) rfl rfl rfl ?_
  refine w_t (np := 6) (l2 := [some (eJ (zJ c)), none, some (eI (5)), some (eR 15), none, none, none]) (s2 := [eI (5), eI (10)]) rfl rfl rfl ?_
  refine w_t (np := 7) (l2 := [some (eJ (zJ c)), none, some (eI (5)), some (eR 15), none, none, none]) (s2 := [eI (5)]) rfl (b_isub rfl) rfl ?_
  refine w_t (np := 9) (l2 := [some (eJ (zJ c)), none, some (eI (5)), some (eR 15), none, none, none]) (s2 := [eI (10), eI (5)]) rfl rfl rfl ?_
  refine w_t (np := 10) (l2 := [some (eJ (zJ c)), none, some (eI (5)), some (eR 15), none, none, none]) (s2 := [eI (5)]) rfl rfl rfl ?_
  refine w_t (np := 12) (l2 := [some (eJ (zJ c)), none, some (eI (5)), some (eR 15), some (eI (5)), none, none]) (s2 := []) rfl rfl rfl ?_
  refine w_t (np := 13) (l2 := [some (eJ (zJ c)), none, some (eI (5)), some (eR 15), some (eI (5)), none, none]) (s2 := [eI (0)]) rfl rfl rfl ?_
  refine w_t (np := 15) (l2 := [some (eJ (zJ c)), none, some (eI (5)), some (eR 15), some (eI (5)), some (eI (0)), none]) (s2 := []) rfl rfl rfl ?_
  refine w_t (np := 16) (l2 := [some (eJ (zJ c)), none, some (eI (5)), some (eR 15), some (eI (5)), some (eI (0)), none]) (s2 := [eI (0)]) rfl rfl rfl ?_
  refine w_t (np := 18) (l2 := [some (eJ (zJ c)), none, some (eI (5)), some (eR 15), some (eI (5)), some (eI (0)), some (eI (0))]) (s2 := []) rfl rfl rfl ?_
  refine w_t (np := 20) (l2 := [some (eJ (zJ c)), none, some (eI (5)), some (eR 15), some (eI (5)), some (eI (0)), some (eI (0))]) (s2 := [eI (0)]) rfl rfl rfl ?_
  refine w_t (np := 21) (l2 := [some (eJ (zJ c)), none, some (eI (5)), some (eR 15), some (eI (5)), some (eI (0)), some (eI (0))]) (s2 := [eI (4), eI (0)]) rfl rfl rfl ?_
  refine b_cge (t1 := 65) (t2 := 24) rfl rfl rfl rfl rfl (fun g => absurd g (by decide)) (fun g => ?_)
  clear g
  refine w_t (np := 26) (l2 := [some (eJ (zJ c)), none, some (eI (5)), some (eR 15), some (eI (5)), some (eI (0)), some (eI (0))]) (s2 := [eI (5)]) rfl rfl rfl ?_
  refine w_t (np := 28) (l2 := [some (eJ (zJ c)), none, some (eI (5)), some (eR 15), some (eI (5)), some (eI (0)), some (eI (0))]) (s2 := [eI (0), eI (5)]) rfl rfl rfl ?_
  refine w_t (np := 29) (l2 := [some (eJ (zJ c)), none, some (eI (5)), some (eR 15), some (eI (5)), some (eI (0)), some (eI (0))]) (s2 := [eI (5)]) rfl (b_iadd rfl) rfl ?_
  refine w_t (np := 30) (l2 := [some (eJ (zJ c)), none, some (eI (5)), some (eR 15), some (eI (5)), some (eI (0)), some (eI (0))]) (s2 := [eR 15, eI (5)]) rfl (s_an rfl (by decide)) rfl ?_
  refine v_ln (np := 31) (v := 13) (n := 13) rfl rfl ⟨rfl, zI_lit (by decide)⟩ ?_
  rw [show zI 13 = 13 by decide]
  refine b_cge (t1 := 65) (t2 := 34) rfl rfl rfl rfl rfl (fun g => absurd g (by decide)) (fun g => ?_)
  clear g
  refine w_t (np := 36) (l2 := [some (eJ (zJ c)), none, some (eI (5)), some (eR 15), some (eI (5)), some (eI (0)), some (eI (0))]) (s2 := [eI (0)]) rfl rfl rfl ?_
  refine w_t (np := 37) (l2 := [some (eJ (zJ c)), none, some (eI (5)), some (eR 15), some (eI (5)), some (eI (0)), some (eI (0))]) (s2 := [eJ (zJ c), eI (0)]) rfl rfl rfl ?_
  refine w_t (np := 39) (l2 := [some (eJ (zJ c)), none, some (eI (5)), some (eR 15), some (eI (5)), some (eI (0)), some (eI (0))]) (s2 := [eI (48), eJ (zJ c), eI (0)]) rfl rfl rfl ?_
  refine w_t (np := 41) (l2 := [some (eJ (zJ c)), none, some (eI (5)), some (eR 15), some (eI (5)), some (eI (0)), some (eI (0))]) (s2 := [eI (16), eI (48), eJ (zJ c), eI (0)]) rfl rfl rfl ?_
  refine w_t (np := 43) (l2 := [some (eJ (zJ c)), none, some (eI (5)), some (eR 15), some (eI (5)), some (eI (0)), some (eI (0))]) (s2 := [eI (0), eI (16), eI (48), eJ (zJ c), eI (0)]) rfl rfl rfl ?_
  refine w_t (np := 44) (l2 := [some (eJ (zJ c)), none, some (eI (5)), some (eR 15), some (eI (5)), some (eI (0)), some (eI (0))]) (s2 := [eI (0), eI (48), eJ (zJ c), eI (0)]) rfl (b_imul rfl) rfl ?_
  refine w_t (np := 45) (l2 := [some (eJ (zJ c)), none, some (eI (5)), some (eR 15), some (eI (5)), some (eI (0)), some (eI (0))]) (s2 := [eI (48), eJ (zJ c), eI (0)]) rfl (b_isub rfl) rfl ?_
  refine w_lane (np := 48) (k := 48) (v := p) rfl rfl rfl rfl (by decide) rfl l0 ?_
  refine w_t (np := 49) (l2 := [some (eJ (zJ c)), none, some (eI (5)), some (eR 15), some (eI (5)), some (eI (0)), some (eI (0))]) (s2 := [eR 15, eI (p), eI (0)]) rfl (s_an rfl (by decide)) rfl ?_
  refine w_t (np := 51) (l2 := [some (eJ (zJ c)), none, some (eI (5)), some (eR 15), some (eI (5)), some (eI (0)), some (eI (0))]) (s2 := [eI (5), eR 15, eI (p), eI (0)]) rfl rfl rfl ?_
  refine w_t (np := 53) (l2 := [some (eJ (zJ c)), none, some (eI (5)), some (eR 15), some (eI (5)), some (eI (0)), some (eI (0))]) (s2 := [eI (0), eI (5), eR 15, eI (p), eI (0)]) rfl rfl rfl ?_
  refine w_t (np := 54) (l2 := [some (eJ (zJ c)), none, some (eI (5)), some (eR 15), some (eI (5)), some (eI (0)), some (eI (0))]) (s2 := [eI (5), eR 15, eI (p), eI (0)]) rfl (b_iadd rfl) rfl ?_
  refine w_al (np := 55) (v := 0) rfl rfl (s_al (j := 5) (by decide) (by decide) (by decide) rfl rfl (by decide) (by decide) rfl) ?_
  obtain ⟨v1, e2⟩ : ∃ zz : Int, zz = (p) * (0) := ⟨_, rfl⟩
  have b3 : 0 ≤ v1 ∧ v1 ≤ 0 := by omega
  refine w_t (np := 56) (l2 := [some (eJ (zJ c)), none, some (eI (5)), some (eR 15), some (eI (5)), some (eI (0)), some (eI (0))]) (s2 := [eI (v1), eI (0)]) rfl (b_imul (by rw [← e2]; exact ev_w_in (by omega) (by omega))) rfl ?_
  obtain ⟨v4, e5⟩ : ∃ zz : Int, zz = (0) + (v1) := ⟨_, rfl⟩
  have b6 : 0 ≤ v4 ∧ v4 ≤ 0 := by omega
  refine w_t (np := 57) (l2 := [some (eJ (zJ c)), none, some (eI (5)), some (eR 15), some (eI (5)), some (eI (0)), some (eI (0))]) (s2 := [eI (v4)]) rfl (b_iadd (by rw [← e5]; exact ev_w_in (by omega) (by omega))) rfl ?_
  refine w_t (np := 59) (l2 := [some (eJ (zJ c)), none, some (eI (5)), some (eR 15), some (eI (5)), some (eI (v4)), some (eI (0))]) (s2 := []) rfl rfl rfl ?_
  refine w_t (np := 62) (l2 := [some (eJ (zJ c)), none, some (eI (5)), some (eR 15), some (eI (5)), some (eI (v4)), some (eI (1))]) (s2 := []) rfl (b_iinc rfl rfl rfl) rfl ?_
  refine w_go (t1 := 18) rfl rfl ?_
  refine w_t (np := 20) (l2 := [some (eJ (zJ c)), none, some (eI (5)), some (eR 15), some (eI (5)), some (eI (v4)), some (eI (1))]) (s2 := [eI (1)]) rfl rfl rfl ?_
  refine w_t (np := 21) (l2 := [some (eJ (zJ c)), none, some (eI (5)), some (eR 15), some (eI (5)), some (eI (v4)), some (eI (1))]) (s2 := [eI (4), eI (1)]) rfl rfl rfl ?_
  refine b_cge (t1 := 65) (t2 := 24) rfl rfl rfl rfl rfl (fun g => absurd g (by decide)) (fun g => ?_)
  clear g
  refine w_t (np := 26) (l2 := [some (eJ (zJ c)), none, some (eI (5)), some (eR 15), some (eI (5)), some (eI (v4)), some (eI (1))]) (s2 := [eI (5)]) rfl rfl rfl ?_
  refine w_t (np := 28) (l2 := [some (eJ (zJ c)), none, some (eI (5)), some (eR 15), some (eI (5)), some (eI (v4)), some (eI (1))]) (s2 := [eI (1), eI (5)]) rfl rfl rfl ?_
  refine w_t (np := 29) (l2 := [some (eJ (zJ c)), none, some (eI (5)), some (eR 15), some (eI (5)), some (eI (v4)), some (eI (1))]) (s2 := [eI (6)]) rfl (b_iadd rfl) rfl ?_
  refine w_t (np := 30) (l2 := [some (eJ (zJ c)), none, some (eI (5)), some (eR 15), some (eI (5)), some (eI (v4)), some (eI (1))]) (s2 := [eR 15, eI (6)]) rfl (s_an rfl (by decide)) rfl ?_
  refine v_ln (np := 31) (v := 13) (n := 13) rfl rfl ⟨rfl, zI_lit (by decide)⟩ ?_
  rw [show zI 13 = 13 by decide]
  refine b_cge (t1 := 65) (t2 := 34) rfl rfl rfl rfl rfl (fun g => absurd g (by decide)) (fun g => ?_)
  clear g
  refine w_t (np := 36) (l2 := [some (eJ (zJ c)), none, some (eI (5)), some (eR 15), some (eI (5)), some (eI (v4)), some (eI (1))]) (s2 := [eI (v4)]) rfl rfl rfl ?_
  refine w_t (np := 37) (l2 := [some (eJ (zJ c)), none, some (eI (5)), some (eR 15), some (eI (5)), some (eI (v4)), some (eI (1))]) (s2 := [eJ (zJ c), eI (v4)]) rfl rfl rfl ?_
  refine w_t (np := 39) (l2 := [some (eJ (zJ c)), none, some (eI (5)), some (eR 15), some (eI (5)), some (eI (v4)), some (eI (1))]) (s2 := [eI (48), eJ (zJ c), eI (v4)]) rfl rfl rfl ?_
  refine w_t (np := 41) (l2 := [some (eJ (zJ c)), none, some (eI (5)), some (eR 15), some (eI (5)), some (eI (v4)), some (eI (1))]) (s2 := [eI (16), eI (48), eJ (zJ c), eI (v4)]) rfl rfl rfl ?_
  refine w_t (np := 43) (l2 := [some (eJ (zJ c)), none, some (eI (5)), some (eR 15), some (eI (5)), some (eI (v4)), some (eI (1))]) (s2 := [eI (1), eI (16), eI (48), eJ (zJ c), eI (v4)]) rfl rfl rfl ?_
  refine w_t (np := 44) (l2 := [some (eJ (zJ c)), none, some (eI (5)), some (eR 15), some (eI (5)), some (eI (v4)), some (eI (1))]) (s2 := [eI (16), eI (48), eJ (zJ c), eI (v4)]) rfl (b_imul rfl) rfl ?_
  refine w_t (np := 45) (l2 := [some (eJ (zJ c)), none, some (eI (5)), some (eR 15), some (eI (5)), some (eI (v4)), some (eI (1))]) (s2 := [eI (32), eJ (zJ c), eI (v4)]) rfl (b_isub rfl) rfl ?_
  refine w_lane (np := 48) (k := 32) (v := q) rfl rfl rfl rfl (by decide) rfl l1 ?_
  refine w_t (np := 49) (l2 := [some (eJ (zJ c)), none, some (eI (5)), some (eR 15), some (eI (5)), some (eI (v4)), some (eI (1))]) (s2 := [eR 15, eI (q), eI (v4)]) rfl (s_an rfl (by decide)) rfl ?_
  refine w_t (np := 51) (l2 := [some (eJ (zJ c)), none, some (eI (5)), some (eR 15), some (eI (5)), some (eI (v4)), some (eI (1))]) (s2 := [eI (5), eR 15, eI (q), eI (v4)]) rfl rfl rfl ?_
  refine w_t (np := 53) (l2 := [some (eJ (zJ c)), none, some (eI (5)), some (eR 15), some (eI (5)), some (eI (v4)), some (eI (1))]) (s2 := [eI (1), eI (5), eR 15, eI (q), eI (v4)]) rfl rfl rfl ?_
  refine w_t (np := 54) (l2 := [some (eJ (zJ c)), none, some (eI (5)), some (eR 15), some (eI (5)), some (eI (v4)), some (eI (1))]) (s2 := [eI (6), eR 15, eI (q), eI (v4)]) rfl (b_iadd rfl) rfl ?_
  refine w_al (np := 55) (v := 0) rfl rfl (s_al (j := 6) (by decide) (by decide) (by decide) rfl rfl (by decide) (by decide) rfl) ?_
  obtain ⟨v7, e8⟩ : ∃ zz : Int, zz = (q) * (0) := ⟨_, rfl⟩
  have b9 : 0 ≤ v7 ∧ v7 ≤ 0 := by omega
  refine w_t (np := 56) (l2 := [some (eJ (zJ c)), none, some (eI (5)), some (eR 15), some (eI (5)), some (eI (v4)), some (eI (1))]) (s2 := [eI (v7), eI (v4)]) rfl (b_imul (by rw [← e8]; exact ev_w_in (by omega) (by omega))) rfl ?_
  obtain ⟨v10, e11⟩ : ∃ zz : Int, zz = (v4) + (v7) := ⟨_, rfl⟩
  have b12 : 0 ≤ v10 ∧ v10 ≤ 0 := by omega
  refine w_t (np := 57) (l2 := [some (eJ (zJ c)), none, some (eI (5)), some (eR 15), some (eI (5)), some (eI (v4)), some (eI (1))]) (s2 := [eI (v10)]) rfl (b_iadd (by rw [← e11]; exact ev_w_in (by omega) (by omega))) rfl ?_
  refine w_t (np := 59) (l2 := [some (eJ (zJ c)), none, some (eI (5)), some (eR 15), some (eI (5)), some (eI (v10)), some (eI (1))]) (s2 := []) rfl rfl rfl ?_
  refine w_t (np := 62) (l2 := [some (eJ (zJ c)), none, some (eI (5)), some (eR 15), some (eI (5)), some (eI (v10)), some (eI (2))]) (s2 := []) rfl (b_iinc rfl rfl rfl) rfl ?_
  refine w_go (t1 := 18) rfl rfl ?_
  refine w_t (np := 20) (l2 := [some (eJ (zJ c)), none, some (eI (5)), some (eR 15), some (eI (5)), some (eI (v10)), some (eI (2))]) (s2 := [eI (2)]) rfl rfl rfl ?_
  refine w_t (np := 21) (l2 := [some (eJ (zJ c)), none, some (eI (5)), some (eR 15), some (eI (5)), some (eI (v10)), some (eI (2))]) (s2 := [eI (4), eI (2)]) rfl rfl rfl ?_
  refine b_cge (t1 := 65) (t2 := 24) rfl rfl rfl rfl rfl (fun g => absurd g (by decide)) (fun g => ?_)
  clear g
  refine w_t (np := 26) (l2 := [some (eJ (zJ c)), none, some (eI (5)), some (eR 15), some (eI (5)), some (eI (v10)), some (eI (2))]) (s2 := [eI (5)]) rfl rfl rfl ?_
  refine w_t (np := 28) (l2 := [some (eJ (zJ c)), none, some (eI (5)), some (eR 15), some (eI (5)), some (eI (v10)), some (eI (2))]) (s2 := [eI (2), eI (5)]) rfl rfl rfl ?_
  refine w_t (np := 29) (l2 := [some (eJ (zJ c)), none, some (eI (5)), some (eR 15), some (eI (5)), some (eI (v10)), some (eI (2))]) (s2 := [eI (7)]) rfl (b_iadd rfl) rfl ?_
  refine w_t (np := 30) (l2 := [some (eJ (zJ c)), none, some (eI (5)), some (eR 15), some (eI (5)), some (eI (v10)), some (eI (2))]) (s2 := [eR 15, eI (7)]) rfl (s_an rfl (by decide)) rfl ?_
  refine v_ln (np := 31) (v := 13) (n := 13) rfl rfl ⟨rfl, zI_lit (by decide)⟩ ?_
  rw [show zI 13 = 13 by decide]
  refine b_cge (t1 := 65) (t2 := 34) rfl rfl rfl rfl rfl (fun g => absurd g (by decide)) (fun g => ?_)
  clear g
  refine w_t (np := 36) (l2 := [some (eJ (zJ c)), none, some (eI (5)), some (eR 15), some (eI (5)), some (eI (v10)), some (eI (2))]) (s2 := [eI (v10)]) rfl rfl rfl ?_
  refine w_t (np := 37) (l2 := [some (eJ (zJ c)), none, some (eI (5)), some (eR 15), some (eI (5)), some (eI (v10)), some (eI (2))]) (s2 := [eJ (zJ c), eI (v10)]) rfl rfl rfl ?_
  refine w_t (np := 39) (l2 := [some (eJ (zJ c)), none, some (eI (5)), some (eR 15), some (eI (5)), some (eI (v10)), some (eI (2))]) (s2 := [eI (48), eJ (zJ c), eI (v10)]) rfl rfl rfl ?_
  refine w_t (np := 41) (l2 := [some (eJ (zJ c)), none, some (eI (5)), some (eR 15), some (eI (5)), some (eI (v10)), some (eI (2))]) (s2 := [eI (16), eI (48), eJ (zJ c), eI (v10)]) rfl rfl rfl ?_
  refine w_t (np := 43) (l2 := [some (eJ (zJ c)), none, some (eI (5)), some (eR 15), some (eI (5)), some (eI (v10)), some (eI (2))]) (s2 := [eI (2), eI (16), eI (48), eJ (zJ c), eI (v10)]) rfl rfl rfl ?_
  refine w_t (np := 44) (l2 := [some (eJ (zJ c)), none, some (eI (5)), some (eR 15), some (eI (5)), some (eI (v10)), some (eI (2))]) (s2 := [eI (32), eI (48), eJ (zJ c), eI (v10)]) rfl (b_imul rfl) rfl ?_
  refine w_t (np := 45) (l2 := [some (eJ (zJ c)), none, some (eI (5)), some (eR 15), some (eI (5)), some (eI (v10)), some (eI (2))]) (s2 := [eI (16), eJ (zJ c), eI (v10)]) rfl (b_isub rfl) rfl ?_
  refine w_lane (np := 48) (k := 16) (v := r) rfl rfl rfl rfl (by decide) rfl l2 ?_
  refine w_t (np := 49) (l2 := [some (eJ (zJ c)), none, some (eI (5)), some (eR 15), some (eI (5)), some (eI (v10)), some (eI (2))]) (s2 := [eR 15, eI (r), eI (v10)]) rfl (s_an rfl (by decide)) rfl ?_
  refine w_t (np := 51) (l2 := [some (eJ (zJ c)), none, some (eI (5)), some (eR 15), some (eI (5)), some (eI (v10)), some (eI (2))]) (s2 := [eI (5), eR 15, eI (r), eI (v10)]) rfl rfl rfl ?_
  refine w_t (np := 53) (l2 := [some (eJ (zJ c)), none, some (eI (5)), some (eR 15), some (eI (5)), some (eI (v10)), some (eI (2))]) (s2 := [eI (2), eI (5), eR 15, eI (r), eI (v10)]) rfl rfl rfl ?_
  refine w_t (np := 54) (l2 := [some (eJ (zJ c)), none, some (eI (5)), some (eR 15), some (eI (5)), some (eI (v10)), some (eI (2))]) (s2 := [eI (7), eR 15, eI (r), eI (v10)]) rfl (b_iadd rfl) rfl ?_
  refine w_al (np := 55) (v := -1) rfl rfl (s_al (j := 7) (by decide) (by decide) (by decide) rfl rfl (by decide) (by decide) rfl) ?_
  obtain ⟨v13, e14⟩ : ∃ zz : Int, zz = (r) * (-1) := ⟨_, rfl⟩
  have b15 : -10010 ≤ v13 ∧ v13 ≤ 10010 := by omega
  refine w_t (np := 56) (l2 := [some (eJ (zJ c)), none, some (eI (5)), some (eR 15), some (eI (5)), some (eI (v10)), some (eI (2))]) (s2 := [eI (v13), eI (v10)]) rfl (b_imul (by rw [← e14]; exact ev_w_in (by omega) (by omega))) rfl ?_
  obtain ⟨v16, e17⟩ : ∃ zz : Int, zz = (v10) + (v13) := ⟨_, rfl⟩
  have b18 : -10010 ≤ v16 ∧ v16 ≤ 10010 := by omega
  refine w_t (np := 57) (l2 := [some (eJ (zJ c)), none, some (eI (5)), some (eR 15), some (eI (5)), some (eI (v10)), some (eI (2))]) (s2 := [eI (v16)]) rfl (b_iadd (by rw [← e17]; exact ev_w_in (by omega) (by omega))) rfl ?_
  refine w_t (np := 59) (l2 := [some (eJ (zJ c)), none, some (eI (5)), some (eR 15), some (eI (5)), some (eI (v16)), some (eI (2))]) (s2 := []) rfl rfl rfl ?_
  refine w_t (np := 62) (l2 := [some (eJ (zJ c)), none, some (eI (5)), some (eR 15), some (eI (5)), some (eI (v16)), some (eI (3))]) (s2 := []) rfl (b_iinc rfl rfl rfl) rfl ?_
  refine w_go (t1 := 18) rfl rfl ?_
  refine w_t (np := 20) (l2 := [some (eJ (zJ c)), none, some (eI (5)), some (eR 15), some (eI (5)), some (eI (v16)), some (eI (3))]) (s2 := [eI (3)]) rfl rfl rfl ?_
  refine w_t (np := 21) (l2 := [some (eJ (zJ c)), none, some (eI (5)), some (eR 15), some (eI (5)), some (eI (v16)), some (eI (3))]) (s2 := [eI (4), eI (3)]) rfl rfl rfl ?_
  refine b_cge (t1 := 65) (t2 := 24) rfl rfl rfl rfl rfl (fun g => absurd g (by decide)) (fun g => ?_)
  clear g
  refine w_t (np := 26) (l2 := [some (eJ (zJ c)), none, some (eI (5)), some (eR 15), some (eI (5)), some (eI (v16)), some (eI (3))]) (s2 := [eI (5)]) rfl rfl rfl ?_
  refine w_t (np := 28) (l2 := [some (eJ (zJ c)), none, some (eI (5)), some (eR 15), some (eI (5)), some (eI (v16)), some (eI (3))]) (s2 := [eI (3), eI (5)]) rfl rfl rfl ?_
  refine w_t (np := 29) (l2 := [some (eJ (zJ c)), none, some (eI (5)), some (eR 15), some (eI (5)), some (eI (v16)), some (eI (3))]) (s2 := [eI (8)]) rfl (b_iadd rfl) rfl ?_
  refine w_t (np := 30) (l2 := [some (eJ (zJ c)), none, some (eI (5)), some (eR 15), some (eI (5)), some (eI (v16)), some (eI (3))]) (s2 := [eR 15, eI (8)]) rfl (s_an rfl (by decide)) rfl ?_
  refine v_ln (np := 31) (v := 13) (n := 13) rfl rfl ⟨rfl, zI_lit (by decide)⟩ ?_
  rw [show zI 13 = 13 by decide]
  refine b_cge (t1 := 65) (t2 := 34) rfl rfl rfl rfl rfl (fun g => absurd g (by decide)) (fun g => ?_)
  clear g
  refine w_t (np := 36) (l2 := [some (eJ (zJ c)), none, some (eI (5)), some (eR 15), some (eI (5)), some (eI (v16)), some (eI (3))]) (s2 := [eI (v16)]) rfl rfl rfl ?_
  refine w_t (np := 37) (l2 := [some (eJ (zJ c)), none, some (eI (5)), some (eR 15), some (eI (5)), some (eI (v16)), some (eI (3))]) (s2 := [eJ (zJ c), eI (v16)]) rfl rfl rfl ?_
  refine w_t (np := 39) (l2 := [some (eJ (zJ c)), none, some (eI (5)), some (eR 15), some (eI (5)), some (eI (v16)), some (eI (3))]) (s2 := [eI (48), eJ (zJ c), eI (v16)]) rfl rfl rfl ?_
  refine w_t (np := 41) (l2 := [some (eJ (zJ c)), none, some (eI (5)), some (eR 15), some (eI (5)), some (eI (v16)), some (eI (3))]) (s2 := [eI (16), eI (48), eJ (zJ c), eI (v16)]) rfl rfl rfl ?_
  refine w_t (np := 43) (l2 := [some (eJ (zJ c)), none, some (eI (5)), some (eR 15), some (eI (5)), some (eI (v16)), some (eI (3))]) (s2 := [eI (3), eI (16), eI (48), eJ (zJ c), eI (v16)]) rfl rfl rfl ?_
  refine w_t (np := 44) (l2 := [some (eJ (zJ c)), none, some (eI (5)), some (eR 15), some (eI (5)), some (eI (v16)), some (eI (3))]) (s2 := [eI (48), eI (48), eJ (zJ c), eI (v16)]) rfl (b_imul rfl) rfl ?_
  refine w_t (np := 45) (l2 := [some (eJ (zJ c)), none, some (eI (5)), some (eR 15), some (eI (5)), some (eI (v16)), some (eI (3))]) (s2 := [eI (0), eJ (zJ c), eI (v16)]) rfl (b_isub rfl) rfl ?_
  refine w_lane (np := 48) (k := 0) (v := s) rfl rfl rfl rfl (by decide) rfl l3 ?_
  refine w_t (np := 49) (l2 := [some (eJ (zJ c)), none, some (eI (5)), some (eR 15), some (eI (5)), some (eI (v16)), some (eI (3))]) (s2 := [eR 15, eI (s), eI (v16)]) rfl (s_an rfl (by decide)) rfl ?_
  refine w_t (np := 51) (l2 := [some (eJ (zJ c)), none, some (eI (5)), some (eR 15), some (eI (5)), some (eI (v16)), some (eI (3))]) (s2 := [eI (5), eR 15, eI (s), eI (v16)]) rfl rfl rfl ?_
  refine w_t (np := 53) (l2 := [some (eJ (zJ c)), none, some (eI (5)), some (eR 15), some (eI (5)), some (eI (v16)), some (eI (3))]) (s2 := [eI (3), eI (5), eR 15, eI (s), eI (v16)]) rfl rfl rfl ?_
  refine w_t (np := 54) (l2 := [some (eJ (zJ c)), none, some (eI (5)), some (eR 15), some (eI (5)), some (eI (v16)), some (eI (3))]) (s2 := [eI (8), eR 15, eI (s), eI (v16)]) rfl (b_iadd rfl) rfl ?_
  refine w_al (np := 55) (v := -1) rfl rfl (s_al (j := 8) (by decide) (by decide) (by decide) rfl rfl (by decide) (by decide) rfl) ?_
  obtain ⟨v19, e20⟩ : ∃ zz : Int, zz = (s) * (-1) := ⟨_, rfl⟩
  have b21 : -10010 ≤ v19 ∧ v19 ≤ 10010 := by omega
  refine w_t (np := 56) (l2 := [some (eJ (zJ c)), none, some (eI (5)), some (eR 15), some (eI (5)), some (eI (v16)), some (eI (3))]) (s2 := [eI (v19), eI (v16)]) rfl (b_imul (by rw [← e20]; exact ev_w_in (by omega) (by omega))) rfl ?_
  obtain ⟨v22, e23⟩ : ∃ zz : Int, zz = (v16) + (v19) := ⟨_, rfl⟩
  have b24 : -20020 ≤ v22 ∧ v22 ≤ 20020 := by omega
  refine w_t (np := 57) (l2 := [some (eJ (zJ c)), none, some (eI (5)), some (eR 15), some (eI (5)), some (eI (v16)), some (eI (3))]) (s2 := [eI (v22)]) rfl (b_iadd (by rw [← e23]; exact ev_w_in (by omega) (by omega))) rfl ?_
  refine w_t (np := 59) (l2 := [some (eJ (zJ c)), none, some (eI (5)), some (eR 15), some (eI (5)), some (eI (v22)), some (eI (3))]) (s2 := []) rfl rfl rfl ?_
  refine w_t (np := 62) (l2 := [some (eJ (zJ c)), none, some (eI (5)), some (eR 15), some (eI (5)), some (eI (v22)), some (eI (4))]) (s2 := []) rfl (b_iinc rfl rfl rfl) rfl ?_
  refine w_go (t1 := 18) rfl rfl ?_
  refine w_t (np := 20) (l2 := [some (eJ (zJ c)), none, some (eI (5)), some (eR 15), some (eI (5)), some (eI (v22)), some (eI (4))]) (s2 := [eI (4)]) rfl rfl rfl ?_
  refine w_t (np := 21) (l2 := [some (eJ (zJ c)), none, some (eI (5)), some (eR 15), some (eI (5)), some (eI (v22)), some (eI (4))]) (s2 := [eI (4), eI (4)]) rfl rfl rfl ?_
  refine b_cge (t1 := 65) (t2 := 24) rfl rfl rfl rfl rfl (fun g => ?_) (fun g => absurd g (by decide))
  clear g
  refine w_t (np := 67) (l2 := [some (eJ (zJ c)), none, some (eI (5)), some (eR 15), some (eI (5)), some (eI (v22)), some (eI (4))]) (s2 := [eI (v22)]) rfl rfl rfl ?_
  refine b_ri rfl rfl ?_
  have e9 : v22 = (-1) * r + (-1) * s := by omega
  rw [e9]
  exact K
theorem t80_15_6 {L : Nat} {ρ : Nat → Int} {rc rs d : Nat} {f : eFr} {F : List eFr} {μ : eM} {c : Nat} {p q r s : Int} (l0 : zI (z_i2s (z_l2i (z_lshr c 48))) = p) (l1 : zI (z_i2s (z_l2i (z_lshr c 32))) = q) (l2 : zI (z_i2s (z_l2i (z_lshr c 16))) = r) (l3 : zI (z_i2s (z_l2i (z_lshr c 0))) = s) (hp : -10010 ≤ p ∧ p ≤ 10010) (hq : -10010 ≤ q ∧ q ≤ 10010) (hr : -10010 ≤ r ∧ r ≤ 10010) (hs : -10010 ≤ s ∧ s ≤ 10010) (K : ex_fine (dt_fg L ρ) rc rs (d + 1, (f.1, f.2.1, f.2.2.1, eI ((-1) * s) :: f.2.2.2), F, μ)) : ex_fine (dt_fg L ρ) rc rs (d, (80, 0, [some (eJ (zJ c)), none, some (eI (6)), some (eR 15), none, none, none], []), f :: F, μ) := by
  refine w_t (np := 2) (l2 := [some (eJ (zJ c)), none, some (eI (6)), some (eR 15), none, none, none]) (s2 := [eI (10)]) rfl rfl rfl ?_
  refine w_t (np := 3) (l2 := [some (eJ (zJ c)), none, some (eI (6)), some (eR 15), none, none, none]) (s2 := [eI (6), eI (10)]) rfl rfl rfl ?_
  refine w_t (np := 5) (l2 := [some (eJ (zJ c)), none, some (eI (6)), some (eR 15), none, none, none]) (s2 := [eI (10), eI (6), eI (10)]) rfl rfl rfl ?_
  refine w_t (np := 6) (l2 := [some (eJ (zJ c)), none, some (eI (6)), some (eR 15), none, none, none]) (s2 := [eI (6), eI (10)]) rfl rfl rfl ?_
  refine w_t (np := 7) (l2 := [some (eJ (zJ c)), none, some (eI (6)), some (eR 15), none, none, none]) (s2 := [eI (4)]) rfl (b_isub rfl) rfl ?_
  refine w_t (np := 9) (l2 := [some (eJ (zJ c)), none, some (eI (6)), some (eR 15), none, none, none]) (s2 := [eI (10), eI (4)]) rfl rfl rfl ?_
  refine w_t (np := 10) (l2 := [some (eJ (zJ c)), none, some (eI (6)), some (eR 15), none, none, none]) (s2 := [eI (4)]) rfl rfl rfl ?_
  refine w_t (np := 12) (l2 := [some (eJ (zJ c)), none, some (eI (6)), some (eR 15), some (eI (4)), none, none]) (s2 := []) rfl rfl rfl ?_
  refine w_t (np := 13) (l2 := [some (eJ (zJ c)), none, some (eI (6)), some (eR 15), some (eI (4)), none, none]) (s2 := [eI (0)]) rfl rfl rfl ?_
  refine w_t (np := 15) (l2 := [some (eJ (zJ c)), none, some (eI (6)), some (eR 15), some (eI (4)), some (eI (0)), none]) (s2 := []) rfl rfl rfl ?_
  refine w_t (np := 16) (l2 := [some (eJ (zJ c)), none, some (eI (6)), some (eR 15), some (eI (4)), some (eI (0)), none]) (s2 := [eI (0)]) rfl rfl rfl ?_
  refine w_t (np := 18) (l2 := [some (eJ (zJ c)), none, some (eI (6)), some (eR 15), some (eI (4)), some (eI (0)), some (eI (0))]) (s2 := []) rfl rfl rfl ?_
  refine w_t (np := 20) (l2 := [some (eJ (zJ c)), none, some (eI (6)), some (eR 15), some (eI (4)), some (eI (0)), some (eI (0))]) (s2 := [eI (0)]) rfl rfl rfl ?_
  refine w_t (np := 21) (l2 := [some (eJ (zJ c)), none, some (eI (6)), some (eR 15), some (eI (4)), some (eI (0)), some (eI (0))]) (s2 := [eI (4), eI (0)]) rfl rfl rfl ?_
  refine b_cge (t1 := 65) (t2 := 24) rfl rfl rfl rfl rfl (fun g => absurd g (by decide)) (fun g => ?_)
  clear g
  refine w_t (np := 26) (l2 := [some (eJ (zJ c)), none, some (eI (6)), some (eR 15), some (eI (4)), some (eI (0)), some (eI (0))]) (s2 := [eI (4)]) rfl rfl rfl ?_
  refine w_t (np := 28) (l2 := [some (eJ (zJ c)), none, some (eI (6)), some (eR 15), some (eI (4)), some (eI (0)), some (eI (0))]) (s2 := [eI (0), eI (4)]) rfl rfl rfl ?_
  refine w_t (np := 29) (l2 := [some (eJ (zJ c)), none, some (eI (6)), some (eR 15), some (eI (4)), some (eI (0)), some (eI (0))]) (s2 := [eI (4)]) rfl (b_iadd rfl) rfl ?_
  refine w_t (np := 30) (l2 := [some (eJ (zJ c)), none, some (eI (6)), some (eR 15), some (eI (4)), some (eI (0)), some (eI (0))]) (s2 := [eR 15, eI (4)]) rfl (s_an rfl (by decide)) rfl ?_
  refine v_ln (np := 31) (v := 13) (n := 13) rfl rfl ⟨rfl, zI_lit (by decide)⟩ ?_
  rw [show zI 13 = 13 by decide]
  refine b_cge (t1 := 65) (t2 := 34) rfl rfl rfl rfl rfl (fun g => absurd g (by decide)) (fun g => ?_)
  clear g
  refine w_t (np := 36) (l2 := [some (eJ (zJ c)), none, some (eI (6)), some (eR 15), some (eI (4)), some (eI (0)), some (eI (0))]) (s2 := [eI (0)]) rfl rfl rfl ?_
  refine w_t (np := 37) (l2 := [some (eJ (zJ c)), none, some (eI (6)), some (eR 15), some (eI (4)), some (eI (0)), some (eI (0))]) (s2 := [eJ (zJ c), eI (0)]) rfl rfl rfl ?_
  refine w_t (np := 39) (l2 := [some (eJ (zJ c)), none, some (eI (6)), some (eR 15), some (eI (4)), some (eI (0)), some (eI (0))]) (s2 := [eI (48), eJ (zJ c), eI (0)]) rfl rfl rfl ?_
  refine w_t (np := 41) (l2 := [some (eJ (zJ c)), none, some (eI (6)), some (eR 15), some (eI (4)), some (eI (0)), some (eI (0))]) (s2 := [eI (16), eI (48), eJ (zJ c), eI (0)]) rfl rfl rfl ?_
  refine w_t (np := 43) (l2 := [some (eJ (zJ c)), none, some (eI (6)), some (eR 15), some (eI (4)), some (eI (0)), some (eI (0))]) (s2 := [eI (0), eI (16), eI (48), eJ (zJ c), eI (0)]) rfl rfl rfl ?_
  refine w_t (np := 44) (l2 := [some (eJ (zJ c)), none, some (eI (6)), some (eR 15), some (eI (4)), some (eI (0)), some (eI (0))]) (s2 := [eI (0), eI (48), eJ (zJ c), eI (0)]) rfl (b_imul rfl) rfl ?_
  refine w_t (np := 45) (l2 := [some (eJ (zJ c)), none, some (eI (6)), some (eR 15), some (eI (4)), some (eI (0)), some (eI (0))]) (s2 := [eI (48), eJ (zJ c), eI (0)]) rfl (b_isub rfl) rfl ?_
  refine w_lane (np := 48) (k := 48) (v := p) rfl rfl rfl rfl (by decide) rfl l0 ?_
  refine w_t (np := 49) (l2 := [some (eJ (zJ c)), none, some (eI (6)), some (eR 15), some (eI (4)), some (eI (0)), some (eI (0))]) (s2 := [eR 15, eI (p), eI (0)]) rfl (s_an rfl (by decide)) rfl ?_
  refine w_t (np := 51) (l2 := [some (eJ (zJ c)), none, some (eI (6)), some (eR 15), some (eI (4)), some (eI (0)), some (eI (0))]) (s2 := [eI (4), eR 15, eI (p), eI (0)]) rfl rfl rfl ?_
  refine w_t (np := 53) (l2 := [some (eJ (zJ c)), none, some (eI (6)), some (eR 15), some (eI (4)), some (eI (0)), some (eI (0))]) (s2 := [eI (0), eI (4), eR 15, eI (p), eI (0)]) rfl rfl rfl ?_
  refine w_t (np := 54) (l2 := [some (eJ (zJ c)), none, some (eI (6)), some (eR 15), some (eI (4)), some (eI (0)), some (eI (0))]) (s2 := [eI (4), eR 15, eI (p), eI (0)]) rfl (b_iadd rfl) rfl ?_
  refine w_al (np := 55) (v := 0) rfl rfl (s_al (j := 4) (by decide) (by decide) (by decide) rfl rfl (by decide) (by decide) rfl) ?_
  obtain ⟨v1, e2⟩ : ∃ zz : Int, zz = (p) * (0) := ⟨_, rfl⟩
  have b3 : 0 ≤ v1 ∧ v1 ≤ 0 := by omega
  refine w_t (np := 56) (l2 := [some (eJ (zJ c)), none, some (eI (6)), some (eR 15), some (eI (4)), some (eI (0)), some (eI (0))]) (s2 := [eI (v1), eI (0)]) rfl (b_imul (by rw [← e2]; exact ev_w_in (by omega) (by omega))) rfl ?_
  obtain ⟨v4, e5⟩ : ∃ zz : Int, zz = (0) + (v1) := ⟨_, rfl⟩
  have b6 : 0 ≤ v4 ∧ v4 ≤ 0 := by omega
  refine w_t (np := 57) (l2 := [some (eJ (zJ c)), none, some (eI (6)), some (eR 15), some (eI (4)), some (eI (0)), some (eI (0))]) (s2 := [eI (v4)]) rfl (b_iadd (by rw [← e5]; exact ev_w_in (by omega) (by omega))) rfl ?_
  refine w_t (np := 59) (l2 := [some (eJ (zJ c)), none, some (eI (6)), some (eR 15), some (eI (4)), some (eI (v4)), some (eI (0))]) (s2 := []) rfl rfl rfl ?_
  refine w_t (np := 62) (l2 := [some (eJ (zJ c)), none, some (eI (6)), some (eR 15), some (eI (4)), some (eI (v4)), some (eI (1))]) (s2 := []) rfl (b_iinc rfl rfl rfl) rfl ?_
  refine w_go (t1 := 18) rfl rfl ?_
  refine w_t (np := 20) (l2 := [some (eJ (zJ c)), none, some (eI (6)), some (eR 15), some (eI (4)), some (eI (v4)), some (eI (1))]) (s2 := [eI (1)]) rfl rfl rfl ?_
  refine w_t (np := 21) (l2 := [some (eJ (zJ c)), none, some (eI (6)), some (eR 15), some (eI (4)), some (eI (v4)), some (eI (1))]) (s2 := [eI (4), eI (1)]) rfl rfl rfl ?_
  refine b_cge (t1 := 65) (t2 := 24) rfl rfl rfl rfl rfl (fun g => absurd g (by decide)) (fun g => ?_)
  clear g
  refine w_t (np := 26) (l2 := [some (eJ (zJ c)), none, some (eI (6)), some (eR 15), some (eI (4)), some (eI (v4)), some (eI (1))]) (s2 := [eI (4)]) rfl rfl rfl ?_
  refine w_t (np := 28) (l2 := [some (eJ (zJ c)), none, some (eI (6)), some (eR 15), some (eI (4)), some (eI (v4)), some (eI (1))]) (s2 := [eI (1), eI (4)]) rfl rfl rfl ?_
  refine w_t (np := 29) (l2 := [some (eJ (zJ c)), none, some (eI (6)), some (eR 15), some (eI (4)), some (eI (v4)), some (eI (1))]) (s2 := [eI (5)]) rfl (b_iadd rfl) rfl ?_
  refine w_t (np := 30) (l2 := [some (eJ (zJ c)), none, some (eI (6)), some (eR 15), some (eI (4)), some (eI (v4)), some (eI (1))]) (s2 := [eR 15, eI (5)]) rfl (s_an rfl (by decide)) rfl ?_
  refine v_ln (np := 31) (v := 13) (n := 13) rfl rfl ⟨rfl, zI_lit (by decide)⟩ ?_
  rw [show zI 13 = 13 by decide]
  refine b_cge (t1 := 65) (t2 := 34) rfl rfl rfl rfl rfl (fun g => absurd g (by decide)) (fun g => ?_)
  clear g
  refine w_t (np := 36) (l2 := [some (eJ (zJ c)), none, some (eI (6)), some (eR 15), some (eI (4)), some (eI (v4)), some (eI (1))]) (s2 := [eI (v4)]) rfl rfl rfl ?_
  refine w_t (np := 37) (l2 := [some (eJ (zJ c)), none, some (eI (6)), some (eR 15), some (eI (4)), some (eI (v4)), some (eI (1))]) (s2 := [eJ (zJ c), eI (v4)]) rfl rfl rfl ?_
  refine w_t (np := 39) (l2 := [some (eJ (zJ c)), none, some (eI (6)), some (eR 15), some (eI (4)), some (eI (v4)), some (eI (1))]) (s2 := [eI (48), eJ (zJ c), eI (v4)]) rfl rfl rfl ?_
  refine w_t (np := 41) (l2 := [some (eJ (zJ c)), none, some (eI (6)), some (eR 15), some (eI (4)), some (eI (v4)), some (eI (1))]) (s2 := [eI (16), eI (48), eJ (zJ c), eI (v4)]) rfl rfl rfl ?_
  refine w_t (np := 43) (l2 := [some (eJ (zJ c)), none, some (eI (6)), some (eR 15), some (eI (4)), some (eI (v4)), some (eI (1))]) (s2 := [eI (1), eI (16), eI (48), eJ (zJ c), eI (v4)]) rfl rfl rfl ?_
  refine w_t (np := 44) (l2 := [some (eJ (zJ c)), none, some (eI (6)), some (eR 15), some (eI (4)), some (eI (v4)), some (eI (1))]) (s2 := [eI (16), eI (48), eJ (zJ c), eI (v4)]) rfl (b_imul rfl) rfl ?_
  refine w_t (np := 45) (l2 := [some (eJ (zJ c)), none, some (eI (6)), some (eR 15), some (eI (4)), some (eI (v4)), some (eI (1))]) (s2 := [eI (32), eJ (zJ c), eI (v4)]) rfl (b_isub rfl) rfl ?_
  refine w_lane (np := 48) (k := 32) (v := q) rfl rfl rfl rfl (by decide) rfl l1 ?_
  refine w_t (np := 49) (l2 := [some (eJ (zJ c)), none, some (eI (6)), some (eR 15), some (eI (4)), some (eI (v4)), some (eI (1))]) (s2 := [eR 15, eI (q), eI (v4)]) rfl (s_an rfl (by decide)) rfl ?_
  refine w_t (np := 51) (l2 := [some (eJ (zJ c)), none, some (eI (6)), some (eR 15), some (eI (4)), some (eI (v4)), some (eI (1))]) (s2 := [eI (4), eR 15, eI (q), eI (v4)]) rfl rfl rfl ?_
  refine w_t (np := 53) (l2 := [some (eJ (zJ c)), none, some (eI (6)), some (eR 15), some (eI (4)), some (eI (v4)), some (eI (1))]) (s2 := [eI (1), eI (4), eR 15, eI (q), eI (v4)]) rfl rfl rfl ?_
  refine w_t (np := 54) (l2 := [some (eJ (zJ c)), none, some (eI (6)), some (eR 15), some (eI (4)), some (eI (v4)), some (eI (1))]) (s2 := [eI (5), eR 15, eI (q), eI (v4)]) rfl (b_iadd rfl) rfl ?_
  refine w_al (np := 55) (v := 0) rfl rfl (s_al (j := 5) (by decide) (by decide) (by decide) rfl rfl (by decide) (by decide) rfl) ?_
  obtain ⟨v7, e8⟩ : ∃ zz : Int, zz = (q) * (0) := ⟨_, rfl⟩
  have b9 : 0 ≤ v7 ∧ v7 ≤ 0 := by omega
  refine w_t (np := 56) (l2 := [some (eJ (zJ c)), none, some (eI (6)), some (eR 15), some (eI (4)), some (eI (v4)), some (eI (1))]) (s2 := [eI (v7), eI (v4)]) rfl (b_imul (by rw [← e8]; exact ev_w_in (by omega) (by omega))) rfl ?_
  obtain ⟨v10, e11⟩ : ∃ zz : Int, zz = (v4) + (v7) := ⟨_, rfl⟩
  have b12 : 0 ≤ v10 ∧ v10 ≤ 0 := by omega
  refine w_t (np := 57) (l2 := [some (eJ (zJ c)), none, some (eI (6)), some (eR 15), some (eI (4)), some (eI (v4)), some (eI (1))]) (s2 := [eI (v10)]) rfl (b_iadd (by rw [← e11]; exact ev_w_in (by omega) (by omega))) rfl ?_
  refine w_t (np := 59) (l2 := [some (eJ (zJ c)), none, some (eI (6)), some (eR 15), some (eI (4)), some (eI (v10)), some (eI (1))]) (s2 := []) rfl rfl rfl ?_
  refine w_t (np := 62) (l2 := [some (eJ (zJ c)), none, some (eI (6)), some (eR 15), some (eI (4)), some (eI (v10)), some (eI (2))]) (s2 := []) rfl (b_iinc rfl rfl rfl) rfl ?_
  refine w_go (t1 := 18) rfl rfl ?_
  refine w_t (np := 20) (l2 := [some (eJ (zJ c)), none, some (eI (6)), some (eR 15), some (eI (4)), some (eI (v10)), some (eI (2))]) (s2 := [eI (2)]) rfl rfl rfl ?_
  refine w_t (np := 21) (l2 := [some (eJ (zJ c)), none, some (eI (6)), some (eR 15), some (eI (4)), some (eI (v10)), some (eI (2))]) (s2 := [eI (4), eI (2)]) rfl rfl rfl ?_
  refine b_cge (t1 := 65) (t2 := 24) rfl rfl rfl rfl rfl (fun g => absurd g (by decide)) (fun g => ?_)
  clear g
  refine w_t (np := 26) (l2 := [some (eJ (zJ c)), none, some (eI (6)), some (eR 15), some (eI (4)), some (eI (v10)), some (eI (2))]) (s2 := [eI (4)]) rfl rfl rfl ?_
  refine w_t (np := 28) (l2 := [some (eJ (zJ c)), none, some (eI (6)), some (eR 15), some (eI (4)), some (eI (v10)), some (eI (2))]) (s2 := [eI (2), eI (4)]) rfl rfl rfl ?_
  refine w_t (np := 29) (l2 := [some (eJ (zJ c)), none, some (eI (6)), some (eR 15), some (eI (4)), some (eI (v10)), some (eI (2))]) (s2 := [eI (6)]) rfl (b_iadd rfl) rfl ?_
  refine w_t (np := 30) (l2 := [some (eJ (zJ c)), none, some (eI (6)), some (eR 15), some (eI (4)), some (eI (v10)), some (eI (2))]) (s2 := [eR 15, eI (6)]) rfl (s_an rfl (by decide)) rfl ?_
  refine v_ln (np := 31) (v := 13) (n := 13) rfl rfl ⟨rfl, zI_lit (by decide)⟩ ?_
  rw [show zI 13 = 13 by decide]
  refine b_cge (t1 := 65) (t2 := 34) rfl rfl rfl rfl rfl (fun g => absurd g (by decide)) (fun g => ?_)
  clear g
  refine w_t (np := 36) (l2 := [some (eJ (zJ c)), none, some (eI (6)), some (eR 15), some (eI (4)), some (eI (v10)), some (eI (2))]) (s2 := [eI (v10)]) rfl rfl rfl ?_
  refine w_t (np := 37) (l2 := [some (eJ (zJ c)), none, some (eI (6)), some (eR 15), some (eI (4)), some (eI (v10)), some (eI (2))]) (s2 := [eJ (zJ c), eI (v10)]) rfl rfl rfl ?_
  refine w_t (np := 39) (l2 := [some (eJ (zJ c)), none, some (eI (6)), some (eR 15), some (eI (4)), some (eI (v10)), some (eI (2))]) (s2 := [eI (48), eJ (zJ c), eI (v10)]) rfl rfl rfl ?_
  refine w_t (np := 41) (l2 := [some (eJ (zJ c)), none, some (eI (6)), some (eR 15), some (eI (4)), some (eI (v10)), some (eI (2))]) (s2 := [eI (16), eI (48), eJ (zJ c), eI (v10)]) rfl rfl rfl ?_
  refine w_t (np := 43) (l2 := [some (eJ (zJ c)), none, some (eI (6)), some (eR 15), some (eI (4)), some (eI (v10)), some (eI (2))]) (s2 := [eI (2), eI (16), eI (48), eJ (zJ c), eI (v10)]) rfl rfl rfl ?_
  refine w_t (np := 44) (l2 := [some (eJ (zJ c)), none, some (eI (6)), some (eR 15), some (eI (4)), some (eI (v10)), some (eI (2))]) (s2 := [eI (32), eI (48), eJ (zJ c), eI (v10)]) rfl (b_imul rfl) rfl ?_
  refine w_t (np := 45) (l2 := [some (eJ (zJ c)), none, some (eI (6)), some (eR 15), some (eI (4)), some (eI (v10)), some (eI (2))]) (s2 := [eI (16), eJ (zJ c), eI (v10)]) rfl (b_isub rfl) rfl ?_
  refine w_lane (np := 48) (k := 16) (v := r) rfl rfl rfl rfl (by decide) rfl l2 ?_
  refine w_t (np := 49) (l2 := [some (eJ (zJ c)), none, some (eI (6)), some (eR 15), some (eI (4)), some (eI (v10)), some (eI (2))]) (s2 := [eR 15, eI (r), eI (v10)]) rfl (s_an rfl (by decide)) rfl ?_
  refine w_t (np := 51) (l2 := [some (eJ (zJ c)), none, some (eI (6)), some (eR 15), some (eI (4)), some (eI (v10)), some (eI (2))]) (s2 := [eI (4), eR 15, eI (r), eI (v10)]) rfl rfl rfl ?_
  refine w_t (np := 53) (l2 := [some (eJ (zJ c)), none, some (eI (6)), some (eR 15), some (eI (4)), some (eI (v10)), some (eI (2))]) (s2 := [eI (2), eI (4), eR 15, eI (r), eI (v10)]) rfl rfl rfl ?_
  refine w_t (np := 54) (l2 := [some (eJ (zJ c)), none, some (eI (6)), some (eR 15), some (eI (4)), some (eI (v10)), some (eI (2))]) (s2 := [eI (6), eR 15, eI (r), eI (v10)]) rfl (b_iadd rfl) rfl ?_
  refine w_al (np := 55) (v := 0) rfl rfl (s_al (j := 6) (by decide) (by decide) (by decide) rfl rfl (by decide) (by decide) rfl) ?_
  obtain ⟨v13, e14⟩ : ∃ zz : Int, zz = (r) * (0) := ⟨_, rfl⟩
  have b15 : 0 ≤ v13 ∧ v13 ≤ 0 := by omega
  refine w_t (np := 56) (l2 := [some (eJ (zJ c)), none, some (eI (6)), some (eR 15), some (eI (4)), some (eI (v10)), some (eI (2))]) (s2 := [eI (v13), eI (v10)]) rfl (b_imul (by rw [← e14]; exact ev_w_in (by omega) (by omega))) rfl ?_
  obtain ⟨v16, e17⟩ : ∃ zz : Int, zz = (v10) + (v13) := ⟨_, rfl⟩
  have b18 : 0 ≤ v16 ∧ v16 ≤ 0 := by omega
  refine w_t (np := 57) (l2 := [some (eJ (zJ c)), none, some (eI (6)), some (eR 15), some (eI (4)), some (eI (v10)), some (eI (2))]) (s2 := [eI (v16)]) rfl (b_iadd (by rw [← e17]; exact ev_w_in (by omega) (by omega))) rfl ?_
  refine w_t (np := 59) (l2 := [some (eJ (zJ c)), none, some (eI (6)), some (eR 15), some (eI (4)), some (eI (v16)), some (eI (2))]) (s2 := []) rfl rfl rfl ?_
  refine w_t (np := 62) (l2 := [some (eJ (zJ c)), none, some (eI (6)), some (eR 15), some (eI (4)), some (eI (v16)), some (eI (3))]) (s2 := []) rfl (b_iinc rfl rfl rfl) rfl ?_
  refine w_go (t1 := 18) rfl rfl ?_
  refine w_t (np := 20) (l2 := [some (eJ (zJ c)), none, some (eI (6)), some (eR 15), some (eI (4)), some (eI (v16)), some (eI (3))]) (s2 := [eI (3)]) rfl rfl rfl ?_
  refine w_t (np := 21) (l2 := [some (eJ (zJ c)), none, some (eI (6)), some (eR 15), some (eI (4)), some (eI (v16)), some (eI (3))]) (s2 := [eI (4), eI (3)]) rfl rfl rfl ?_
  refine b_cge (t1 := 65) (t2 := 24) rfl rfl rfl rfl rfl (fun g => absurd g (by decide)) (fun g => ?_)
  clear g
  refine w_t (np := 26) (l2 := [some (eJ (zJ c)), none, some (eI (6)), some (eR 15), some (eI (4)), some (eI (v16)), some (eI (3))]) (s2 := [eI (4)]) rfl rfl rfl ?_
  refine w_t (np := 28) (l2 := [some (eJ (zJ c)), none, some (eI (6)), some (eR 15), some (eI (4)), some (eI (v16)), some (eI (3))]) (s2 := [eI (3), eI (4)]) rfl rfl rfl ?_
  refine w_t (np := 29) (l2 := [some (eJ (zJ c)), none, some (eI (6)), some (eR 15), some (eI (4)), some (eI (v16)), some (eI (3))]) (s2 := [eI (7)]) rfl (b_iadd rfl) rfl ?_
  refine w_t (np := 30) (l2 := [some (eJ (zJ c)), none, some (eI (6)), some (eR 15), some (eI (4)), some (eI (v16)), some (eI (3))]) (s2 := [eR 15, eI (7)]) rfl (s_an rfl (by decide)) rfl ?_
  refine v_ln (np := 31) (v := 13) (n := 13) rfl rfl ⟨rfl, zI_lit (by decide)⟩ ?_
  rw [show zI 13 = 13 by decide]
  refine b_cge (t1 := 65) (t2 := 34) rfl rfl rfl rfl rfl (fun g => absurd g (by decide)) (fun g => ?_)
  clear g
  refine w_t (np := 36) (l2 := [some (eJ (zJ c)), none, some (eI (6)), some (eR 15), some (eI (4)), some (eI (v16)), some (eI (3))]) (s2 := [eI (v16)]) rfl rfl rfl ?_
  refine w_t (np := 37) (l2 := [some (eJ (zJ c)), none, some (eI (6)), some (eR 15), some (eI (4)), some (eI (v16)), some (eI (3))]) (s2 := [eJ (zJ c), eI (v16)]) rfl rfl rfl ?_
  refine w_t (np := 39) (l2 := [some (eJ (zJ c)), none, some (eI (6)), some (eR 15), some (eI (4)), some (eI (v16)), some (eI (3))]) (s2 := [eI (48), eJ (zJ c), eI (v16)]) rfl rfl rfl ?_
  refine w_t (np := 41) (l2 := [some (eJ (zJ c)), none, some (eI (6)), some (eR 15), some (eI (4)), some (eI (v16)), some (eI (3))]) (s2 := [eI (16), eI (48), eJ (zJ c), eI (v16)]) rfl rfl rfl ?_
  refine w_t (np := 43) (l2 := [some (eJ (zJ c)), none, some (eI (6)), some (eR 15), some (eI (4)), some (eI (v16)), some (eI (3))]) (s2 := [eI (3), eI (16), eI (48), eJ (zJ c), eI (v16)]) rfl rfl rfl ?_
  refine w_t (np := 44) (l2 := [some (eJ (zJ c)), none, some (eI (6)), some (eR 15), some (eI (4)), some (eI (v16)), some (eI (3))]) (s2 := [eI (48), eI (48), eJ (zJ c), eI (v16)]) rfl (b_imul rfl) rfl ?_
  refine w_t (np := 45) (l2 := [some (eJ (zJ c)), none, some (eI (6)), some (eR 15), some (eI (4)), some (eI (v16)), some (eI (3))]) (s2 := [eI (0), eJ (zJ c), eI (v16)]) rfl (b_isub rfl) rfl ?_
  refine w_lane (np := 48) (k := 0) (v := s) rfl rfl rfl rfl (by decide) rfl l3 ?_
  refine w_t (np := 49) (l2 := [some (eJ (zJ c)), none, some (eI (6)), some (eR 15), some (eI (4)), some (eI (v16)), some (eI (3))]) (s2 := [eR 15, eI (s), eI (v16)]) rfl (s_an rfl (by decide)) rfl ?_
  refine w_t (np := 51) (l2 := [some (eJ (zJ c)), none, some (eI (6)), some (eR 15), some (eI (4)), some (eI (v16)), some (eI (3))]) (s2 := [eI (4), eR 15, eI (s), eI (v16)]) rfl rfl rfl ?_
  refine w_t (np := 53) (l2 := [some (eJ (zJ c)), none, some (eI (6)), some (eR 15), some (eI (4)), some (eI (v16)), some (eI (3))]) (s2 := [eI (3), eI (4), eR 15, eI (s), eI (v16)]) rfl rfl rfl ?_
  refine w_t (np := 54) (l2 := [some (eJ (zJ c)), none, some (eI (6)), some (eR 15), some (eI (4)), some (eI (v16)), some (eI (3))]) (s2 := [eI (7), eR 15, eI (s), eI (v16)]) rfl (b_iadd rfl) rfl ?_
  refine w_al (np := 55) (v := -1) rfl rfl (s_al (j := 7) (by decide) (by decide) (by decide) rfl rfl (by decide) (by decide) rfl) ?_
  obtain ⟨v19, e20⟩ : ∃ zz : Int, zz = (s) * (-1) := ⟨_, rfl⟩
  have b21 : -10010 ≤ v19 ∧ v19 ≤ 10010 := by omega
  refine w_t (np := 56) (l2 := [some (eJ (zJ c)), none, some (eI (6)), some (eR 15), some (eI (4)), some (eI (v16)), some (eI (3))]) (s2 := [eI (v19), eI (v16)]) rfl (b_imul (by rw [← e20]; exact ev_w_in (by omega) (by omega))) rfl ?_
  obtain ⟨v22, e23⟩ : ∃ zz : Int, zz = (v16) + (v19) := ⟨_, rfl⟩
  have b24 : -10010 ≤ v22 ∧ v22 ≤ 10010 := by omega
  refine w_t (np := 57) (l2 := [some (eJ (zJ c)), none, some (eI (6)), some (eR 15), some (eI (4)), some (eI (v16)), some (eI (3))]) (s2 := [eI (v22)]) rfl (b_iadd (by rw [← e23]; exact ev_w_in (by omega) (by omega))) rfl ?_
  refine w_t (np := 59) (l2 := [some (eJ (zJ c)), none, some (eI (6)), some (eR 15), some (eI (4)), some (eI (v22)), some (eI (3))]) (s2 := []) rfl rfl rfl ?_
  refine w_t (np := 62) (l2 := [some (eJ (zJ c)), none, some (eI (6)), some (eR 15), some (eI (4)), some (eI (v22)), some (eI (4))]) (s2 := []) rfl (b_iinc rfl rfl rfl) rfl ?_
  refine w_go (t1 := 18) rfl rfl ?_
  refine w_t (np := 20) (l2 := [some (eJ (zJ c)), none, some (eI (6)), some (eR 15), some (eI (4)), some (eI (v22)), some (eI (4))]) (s2 := [eI (4)]) rfl rfl rfl ?_
  refine w_t (np := 21) (l2 := [some (eJ (zJ c)), none, some (eI (6)), some (eR 15), some (eI (4)), some (eI (v22)), some (eI (4))]) (s2 := [eI (4), eI (4)]) rfl rfl rfl ?_
  refine b_cge (t1 := 65) (t2 := 24) rfl rfl rfl rfl rfl (fun g => ?_) (fun g => absurd g (by decide))
  clear g
  refine w_t (np := 67) (l2 := [some (eJ (zJ c)), none, some (eI (6)), some (eR 15), some (eI (4)), some (eI (v22)), some (eI (4))]) (s2 := [eI (v22)]) rfl rfl rfl ?_
  refine b_ri rfl rfl ?_
  have e9 : v22 = (-1) * s := by omega
  rw [e9]
  exact K
theorem t80_15_7 {L : Nat} {ρ : Nat → Int} {rc rs d : Nat} {f : eFr} {F : List eFr} {μ : eM} {c : Nat} {p q r s : Int} (l0 : zI (z_i2s (z_l2i (z_lshr c 48))) = p) (l1 : zI (z_i2s (z_l2i (z_lshr c 32))) = q) (l2 : zI (z_i2s (z_l2i (z_lshr c 16))) = r) (l3 : zI (z_i2s (z_l2i (z_lshr c 0))) = s) (hp : -10010 ≤ p ∧ p ≤ 10010) (hq : -10010 ≤ q ∧ q ≤ 10010) (hr : -10010 ≤ r ∧ r ≤ 10010) (hs : -10010 ≤ s ∧ s ≤ 10010) (K : ex_fine (dt_fg L ρ) rc rs (d + 1, (f.1, f.2.1, f.2.2.1, eI (1 * p) :: f.2.2.2), F, μ)) : ex_fine (dt_fg L ρ) rc rs (d, (80, 0, [some (eJ (zJ c)), none, some (eI (7)), some (eR 15), none, none, none], []), f :: F, μ) := by
  refine w_t (np := 2) (l2 := [some (eJ (zJ c)), none, some (eI (7)), some (eR 15), none, none, none]) (s2 := [eI (10)]) rfl rfl rfl ?_
  refine w_t (np := 3) (l2 := [some (eJ (zJ c)), none, some (eI (7)), some (eR 15), none, none, none]) (s2 := [eI (7), eI (10)]) rfl rfl rfl ?_
  refine w_t (np := 5) (l2 := [some (eJ (zJ c)), none, some (eI (7)), some (eR 15), none, none, none]) (s2 := [eI (10), eI (7), eI (10)]) rfl rfl rfl ?_
  refine w_t (np := 6) (l2 := [some (eJ (zJ c)), none, some (eI (7)), some (eR 15), none, none, none]) (s2 := [eI (7), eI (10)]) rfl rfl rfl ?_
  refine w_t (np := 7) (l2 := [some (eJ (zJ c)), none, some (eI (7)), some (eR 15), none, none, none]) (s2 := [eI (3)]) rfl (b_isub rfl) rfl ?_
  refine w_t (np := 9) (l2 := [some (eJ (zJ c)), none, some (eI (7)), some (eR 15), none, none, none]) (s2 := [eI (10), eI (3)]) rfl rfl rfl ?_
  refine w_t (np := 10) (l2 := [some (eJ (zJ c)), none, some (eI (7)), some (eR 15), none, none, none]) (s2 := [eI (3)]) rfl rfl rfl ?_
  refine w_t (np := 12) (l2 := [some (eJ (zJ c)), none, some (eI (7)), some (eR 15), some (eI (3)), none, none]) (s2 := []) rfl rfl rfl ?_
  refine w_t (np := 13) (l2 := [some (eJ (zJ c)), none, some (eI (7)), some (eR 15), some (eI (3)), none, none]) (s2 := [eI (0)]) rfl rfl rfl ?_
  refine w_t (np := 15) (l2 := [some (eJ (zJ c)), none, some (eI (7)), some (eR 15), some (eI (3)), some (eI (0)), none]) (s2 := []) rfl rfl rfl ?_
  refine w_t (np := 16) (l2 := [some (eJ (zJ c)), none, some (eI (7)), some (eR 15), some (eI (3)), some (eI (0)), none]) (s2 := [eI (0)]) rfl rfl rfl ?_
  refine w_t (np := 18) (l2 := [some (eJ (zJ c)), none, some (eI (7)), some (eR 15), some (eI (3)), some (eI (0)), some (eI (0))]) (s2 := []) rfl rfl rfl ?_
  refine w_t (np := 20) (l2 := [some (eJ (zJ c)), none, some (eI (7)), some (eR 15), some (eI (3)), some (eI (0)), some (eI (0))]) (s2 := [eI (0)]) rfl rfl rfl ?_
  refine w_t (np := 21) (l2 := [some (eJ (zJ c)), none, some (eI (7)), some (eR 15), some (eI (3)), some (eI (0)), some (eI (0))]) (s2 := [eI (4), eI (0)]) rfl rfl rfl ?_
  refine b_cge (t1 := 65) (t2 := 24) rfl rfl rfl rfl rfl (fun g => absurd g (by decide)) (fun g => ?_)
  clear g
  refine w_t (np := 26) (l2 := [some (eJ (zJ c)), none, some (eI (7)), some (eR 15), some (eI (3)), some (eI (0)), some (eI (0))]) (s2 := [eI (3)]) rfl rfl rfl ?_
  refine w_t (np := 28) (l2 := [some (eJ (zJ c)), none, some (eI (7)), some (eR 15), some (eI (3)), some (eI (0)), some (eI (0))]) (s2 := [eI (0), eI (3)]) rfl rfl rfl ?_
  refine w_t (np := 29) (l2 := [some (eJ (zJ c)), none, some (eI (7)), some (eR 15), some (eI (3)), some (eI (0)), some (eI (0))]) (s2 := [eI (3)]) rfl (b_iadd rfl) rfl ?_
  refine w_t (np := 30) (l2 := [some (eJ (zJ c)), none, some (eI (7)), some (eR 15), some (eI (3)), some (eI (0)), some (eI (0))]) (s2 := [eR 15, eI (3)]) rfl (s_an rfl (by decide)) rfl ?_
  refine v_ln (np := 31) (v := 13) (n := 13) rfl rfl ⟨rfl, zI_lit (by decide)⟩ ?_
  rw [show zI 13 = 13 by decide]
  refine b_cge (t1 := 65) (t2 := 34) rfl rfl rfl rfl rfl (fun g => absurd g (by decide)) (fun g => ?_)
  clear g
  refine w_t (np := 36) (l2 := [some (eJ (zJ c)), none, some (eI (7)), some (eR 15), some (eI (3)), some (eI (0)), some (eI (0))]) (s2 := [eI (0)]) rfl rfl rfl ?_
  refine w_t (np := 37) (l2 := [some (eJ (zJ c)), none, some (eI (7)), some (eR 15), some (eI (3)), some (eI (0)), some (eI (0))]) (s2 := [eJ (zJ c), eI (0)]) rfl rfl rfl ?_
  refine w_t (np := 39) (l2 := [some (eJ (zJ c)), none, some (eI (7)), some (eR 15), some (eI (3)), some (eI (0)), some (eI (0))]) (s2 := [eI (48), eJ (zJ c), eI (0)]) rfl rfl rfl ?_
  refine w_t (np := 41) (l2 := [some (eJ (zJ c)), none, some (eI (7)), some (eR 15), some (eI (3)), some (eI (0)), some (eI (0))]) (s2 := [eI (16), eI (48), eJ (zJ c), eI (0)]) rfl rfl rfl ?_
  refine w_t (np := 43) (l2 := [some (eJ (zJ c)), none, some (eI (7)), some (eR 15), some (eI (3)), some (eI (0)), some (eI (0))]) (s2 := [eI (0), eI (16), eI (48), eJ (zJ c), eI (0)]) rfl rfl rfl ?_
  refine w_t (np := 44) (l2 := [some (eJ (zJ c)), none, some (eI (7)), some (eR 15), some (eI (3)), some (eI (0)), some (eI (0))]) (s2 := [eI (0), eI (48), eJ (zJ c), eI (0)]) rfl (b_imul rfl) rfl ?_
  refine w_t (np := 45) (l2 := [some (eJ (zJ c)), none, some (eI (7)), some (eR 15), some (eI (3)), some (eI (0)), some (eI (0))]) (s2 := [eI (48), eJ (zJ c), eI (0)]) rfl (b_isub rfl) rfl ?_
  refine w_lane (np := 48) (k := 48) (v := p) rfl rfl rfl rfl (by decide) rfl l0 ?_
  refine w_t (np := 49) (l2 := [some (eJ (zJ c)), none, some (eI (7)), some (eR 15), some (eI (3)), some (eI (0)), some (eI (0))]) (s2 := [eR 15, eI (p), eI (0)]) rfl (s_an rfl (by decide)) rfl ?_
  refine w_t (np := 51) (l2 := [some (eJ (zJ c)), none, some (eI (7)), some (eR 15), some (eI (3)), some (eI (0)), some (eI (0))]) (s2 := [eI (3), eR 15, eI (p), eI (0)]) rfl rfl rfl ?_
  refine w_t (np := 53) (l2 := [some (eJ (zJ c)), none, some (eI (7)), some (eR 15), some (eI (3)), some (eI (0)), some (eI (0))]) (s2 := [eI (0), eI (3), eR 15, eI (p), eI (0)]) rfl rfl rfl ?_
  refine w_t (np := 54) (l2 := [some (eJ (zJ c)), none, some (eI (7)), some (eR 15), some (eI (3)), some (eI (0)), some (eI (0))]) (s2 := [eI (3), eR 15, eI (p), eI (0)]) rfl (b_iadd rfl) rfl ?_
  refine w_al (np := 55) (v := 1) rfl rfl (s_al (j := 3) (by decide) (by decide) (by decide) rfl rfl (by decide) (by decide) rfl) ?_
  obtain ⟨v1, e2⟩ : ∃ zz : Int, zz = (p) * (1) := ⟨_, rfl⟩
  have b3 : -10010 ≤ v1 ∧ v1 ≤ 10010 := by omega
  refine w_t (np := 56) (l2 := [some (eJ (zJ c)), none, some (eI (7)), some (eR 15), some (eI (3)), some (eI (0)), some (eI (0))]) (s2 := [eI (v1), eI (0)]) rfl (b_imul (by rw [← e2]; exact ev_w_in (by omega) (by omega))) rfl ?_
  obtain ⟨v4, e5⟩ : ∃ zz : Int, zz = (0) + (v1) := ⟨_, rfl⟩
  have b6 : -10010 ≤ v4 ∧ v4 ≤ 10010 := by omega
  refine w_t (np := 57) (l2 := [some (eJ (zJ c)), none, some (eI (7)), some (eR 15), some (eI (3)), some (eI (0)), some (eI (0))]) (s2 := [eI (v4)]) rfl (b_iadd (by rw [← e5]; exact ev_w_in (by omega) (by omega))) rfl ?_
  refine w_t (np := 59) (l2 := [some (eJ (zJ c)), none, some (eI (7)), some (eR 15), some (eI (3)), some (eI (v4)), some (eI (0))]) (s2 := []) rfl rfl rfl ?_
  refine w_t (np := 62) (l2 := [some (eJ (zJ c)), none, some (eI (7)), some (eR 15), some (eI (3)), some (eI (v4)), some (eI (1))]) (s2 := []) rfl (b_iinc rfl rfl rfl) rfl ?_
  refine w_go (t1 := 18) rfl rfl ?_
  refine w_t (np := 20) (l2 := [some (eJ (zJ c)), none, some (eI (7)), some (eR 15), some (eI (3)), some (eI (v4)), some (eI (1))]) (s2 := [eI (1)]) rfl rfl rfl ?_
  refine w_t (np := 21) (l2 := [some (eJ (zJ c)), none, some (eI (7)), some (eR 15), some (eI (3)), some (eI (v4)), some (eI (1))]) (s2 := [eI (4), eI (1)]) rfl rfl rfl ?_
  refine b_cge (t1 := 65) (t2 := 24) rfl rfl rfl rfl rfl (fun g => absurd g (by decide)) (fun g => ?_)
  clear g
  refine w_t (np := 26) (l2 := [some (eJ (zJ c)), none, some (eI (7)), some (eR 15), some (eI (3)), some (eI (v4)), some (eI (1))]) (s2 := [eI (3)]) rfl rfl rfl ?_
  refine w_t (np := 28) (l2 := [some (eJ (zJ c)), none, some (eI (7)), some (eR 15), some (eI (3)), some (eI (v4)), some (eI (1))]) (s2 := [eI (1), eI (3)]) rfl rfl rfl ?_
  refine w_t (np := 29) (l2 := [some (eJ (zJ c)), none, some (eI (7)), some (eR 15), some (eI (3)), some (eI (v4)), some (eI (1))]) (s2 := [eI (4)]) rfl (b_iadd rfl) rfl ?_
  refine w_t (np := 30) (l2 := [some (eJ (zJ c)), none, some (eI (7)), some (eR 15), some (eI (3)), some (eI (v4)), some (eI (1))]) (s2 := [eR 15, eI (4)]) rfl (s_an rfl (by decide)) rfl ?_
  refine v_ln (np := 31) (v := 13) (n := 13) rfl rfl ⟨rfl, zI_lit (by decide)⟩ ?_
  rw [show zI 13 = 13 by decide]
  refine b_cge (t1 := 65) (t2 := 34) rfl rfl rfl rfl rfl (fun g => absurd g (by decide)) (fun g => ?_)
  clear g
  refine w_t (np := 36) (l2 := [some (eJ (zJ c)), none, some (eI (7)), some (eR 15), some (eI (3)), some (eI (v4)), some (eI (1))]) (s2 := [eI (v4)]) rfl rfl rfl ?_
  refine w_t (np := 37) (l2 := [some (eJ (zJ c)), none, some (eI (7)), some (eR 15), some (eI (3)), some (eI (v4)), some (eI (1))]) (s2 := [eJ (zJ c), eI (v4)]) rfl rfl rfl ?_
  refine w_t (np := 39) (l2 := [some (eJ (zJ c)), none, some (eI (7)), some (eR 15), some (eI (3)), some (eI (v4)), some (eI (1))]) (s2 := [eI (48), eJ (zJ c), eI (v4)]) rfl rfl rfl ?_
  refine w_t (np := 41) (l2 := [some (eJ (zJ c)), none, some (eI (7)), some (eR 15), some (eI (3)), some (eI (v4)), some (eI (1))]) (s2 := [eI (16), eI (48), eJ (zJ c), eI (v4)]) rfl rfl rfl ?_
  refine w_t (np := 43) (l2 := [some (eJ (zJ c)), none, some (eI (7)), some (eR 15), some (eI (3)), some (eI (v4)), some (eI (1))]) (s2 := [eI (1), eI (16), eI (48), eJ (zJ c), eI (v4)]) rfl rfl rfl ?_
  refine w_t (np := 44) (l2 := [some (eJ (zJ c)), none, some (eI (7)), some (eR 15), some (eI (3)), some (eI (v4)), some (eI (1))]) (s2 := [eI (16), eI (48), eJ (zJ c), eI (v4)]) rfl (b_imul rfl) rfl ?_
  refine w_t (np := 45) (l2 := [some (eJ (zJ c)), none, some (eI (7)), some (eR 15), some (eI (3)), some (eI (v4)), some (eI (1))]) (s2 := [eI (32), eJ (zJ c), eI (v4)]) rfl (b_isub rfl) rfl ?_
  refine w_lane (np := 48) (k := 32) (v := q) rfl rfl rfl rfl (by decide) rfl l1 ?_
  refine w_t (np := 49) (l2 := [some (eJ (zJ c)), none, some (eI (7)), some (eR 15), some (eI (3)), some (eI (v4)), some (eI (1))]) (s2 := [eR 15, eI (q), eI (v4)]) rfl (s_an rfl (by decide)) rfl ?_
  refine w_t (np := 51) (l2 := [some (eJ (zJ c)), none, some (eI (7)), some (eR 15), some (eI (3)), some (eI (v4)), some (eI (1))]) (s2 := [eI (3), eR 15, eI (q), eI (v4)]) rfl rfl rfl ?_
  refine w_t (np := 53) (l2 := [some (eJ (zJ c)), none, some (eI (7)), some (eR 15), some (eI (3)), some (eI (v4)), some (eI (1))]) (s2 := [eI (1), eI (3), eR 15, eI (q), eI (v4)]) rfl rfl rfl ?_
  refine w_t (np := 54) (l2 := [some (eJ (zJ c)), none, some (eI (7)), some (eR 15), some (eI (3)), some (eI (v4)), some (eI (1))]) (s2 := [eI (4), eR 15, eI (q), eI (v4)]) rfl (b_iadd rfl) rfl ?_
  refine w_al (np := 55) (v := 0) rfl rfl (s_al (j := 4) (by decide) (by decide) (by decide) rfl rfl (by decide) (by decide) rfl) ?_
  obtain ⟨v7, e8⟩ : ∃ zz : Int, zz = (q) * (0) := ⟨_, rfl⟩
  have b9 : 0 ≤ v7 ∧ v7 ≤ 0 := by omega
  refine w_t (np := 56) (l2 := [some (eJ (zJ c)), none, some (eI (7)), some (eR 15), some (eI (3)), some (eI (v4)), some (eI (1))]) (s2 := [eI (v7), eI (v4)]) rfl (b_imul (by rw [← e8]; exact ev_w_in (by omega) (by omega))) rfl ?_
  obtain ⟨v10, e11⟩ : ∃ zz : Int, zz = (v4) + (v7) := ⟨_, rfl⟩
  have b12 : -10010 ≤ v10 ∧ v10 ≤ 10010 := by omega
  refine w_t (np := 57) (l2 := [some (eJ (zJ c)), none, some (eI (7)), some (eR 15), some (eI (3)), some (eI (v4)), some (eI (1))]) (s2 := [eI (v10)]) rfl (b_iadd (by rw [← e11]; exact ev_w_in (by omega) (by omega))) rfl ?_
  refine w_t (np := 59) (l2 := [some (eJ (zJ c)), none, some (eI (7)), some (eR 15), some (eI (3)), some (eI (v10)), some (eI (1))]) (s2 := []) rfl rfl rfl ?_
  refine w_t (np := 62) (l2 := [some (eJ (zJ c)), none, some (eI (7)), some (eR 15), some (eI (3)), some (eI (v10)), some (eI (2))]) (s2 := []) rfl (b_iinc rfl rfl rfl) rfl ?_
  refine w_go (t1 := 18) rfl rfl ?_
  refine w_t (np := 20) (l2 := [some (eJ (zJ c)), none, some (eI (7)), some (eR 15), some (eI (3)), some (eI (v10)), some (eI (2))]) (s2 := [eI (2)]) rfl rfl rfl ?_
  refine w_t (np := 21) (l2 := [some (eJ (zJ c)), none, some (eI (7)), some (eR 15), some (eI (3)), some (eI (v10)), some (eI (2))]) (s2 := [eI (4), eI (2)]) rfl rfl rfl ?_
  refine b_cge (t1 := 65) (t2 := 24) rfl rfl rfl rfl rfl (fun g => absurd g (by decide)) (fun g => ?_)
  clear g
  refine w_t (np := 26) (l2 := [some (eJ (zJ c)), none, some (eI (7)), some (eR 15), some (eI (3)), some (eI (v10)), some (eI (2))]) (s2 := [eI (3)]) rfl rfl rfl ?_
  refine w_t (np := 28) (l2 := [some (eJ (zJ c)), none, some (eI (7)), some (eR 15), some (eI (3)), some (eI (v10)), some (eI (2))]) (s2 := [eI (2), eI (3)]) rfl rfl rfl ?_
  refine w_t (np := 29) (l2 := [some (eJ (zJ c)), none, some (eI (7)), some (eR 15), some (eI (3)), some (eI (v10)), some (eI (2))]) (s2 := [eI (5)]) rfl (b_iadd rfl) rfl ?_
  refine w_t (np := 30) (l2 := [some (eJ (zJ c)), none, some (eI (7)), some (eR 15), some (eI (3)), some (eI (v10)), some (eI (2))]) (s2 := [eR 15, eI (5)]) rfl (s_an rfl (by decide)) rfl ?_
  refine v_ln (np := 31) (v := 13) (n := 13) rfl rfl ⟨rfl, zI_lit (by decide)⟩ ?_
  rw [show zI 13 = 13 by decide]
  refine b_cge (t1 := 65) (t2 := 34) rfl rfl rfl rfl rfl (fun g => absurd g (by decide)) (fun g => ?_)
  clear g
  refine w_t (np := 36) (l2 := [some (eJ (zJ c)), none, some (eI (7)), some (eR 15), some (eI (3)), some (eI (v10)), some (eI (2))]) (s2 := [eI (v10)]) rfl rfl rfl ?_
  refine w_t (np := 37) (l2 := [some (eJ (zJ c)), none, some (eI (7)), some (eR 15), some (eI (3)), some (eI (v10)), some (eI (2))]) (s2 := [eJ (zJ c), eI (v10)]) rfl rfl rfl ?_
  refine w_t (np := 39) (l2 := [some (eJ (zJ c)), none, some (eI (7)), some (eR 15), some (eI (3)), some (eI (v10)), some (eI (2))]) (s2 := [eI (48), eJ (zJ c), eI (v10)]) rfl rfl rfl ?_
  refine w_t (np := 41) (l2 := [some (eJ (zJ c)), none, some (eI (7)), some (eR 15), some (eI (3)), some (eI (v10)), some (eI (2))]) (s2 := [eI (16), eI (48), eJ (zJ c), eI (v10)]) rfl rfl rfl ?_
  refine w_t (np := 43) (l2 := [some (eJ (zJ c)), none, some (eI (7)), some (eR 15), some (eI (3)), some (eI (v10)), some (eI (2))]) (s2 := [eI (2), eI (16), eI (48), eJ (zJ c), eI (v10)]) rfl rfl rfl ?_
  refine w_t (np := 44) (l2 := [some (eJ (zJ c)), none, some (eI (7)), some (eR 15), some (eI (3)), some (eI (v10)), some (eI (2))]) (s2 := [eI (32), eI (48), eJ (zJ c), eI (v10)]) rfl (b_imul rfl) rfl ?_
  refine w_t (np := 45) (l2 := [some (eJ (zJ c)), none, some (eI (7)), some (eR 15), some (eI (3)), some (eI (v10)), some (eI (2))]) (s2 := [eI (16), eJ (zJ c), eI (v10)]) rfl (b_isub rfl) rfl ?_
  refine w_lane (np := 48) (k := 16) (v := r) rfl rfl rfl rfl (by decide) rfl l2 ?_
  refine w_t (np := 49) (l2 := [some (eJ (zJ c)), none, some (eI (7)), some (eR 15), some (eI (3)), some (eI (v10)), some (eI (2))]) (s2 := [eR 15, eI (r), eI (v10)]) rfl (s_an rfl (by decide)) rfl ?_
  refine w_t (np := 51) (l2 := [some (eJ (zJ c)), none, some (eI (7)), some (eR 15), some (eI (3)), some (eI (v10)), some (eI (2))]) (s2 := [eI (3), eR 15, eI (r), eI (v10)]) rfl rfl rfl ?_
  refine w_t (np := 53) (l2 := [some (eJ (zJ c)), none, some (eI (7)), some (eR 15), some (eI (3)), some (eI (v10)), some (eI (2))]) (s2 := [eI (2), eI (3), eR 15, eI (r), eI (v10)]) rfl rfl rfl ?_
  refine w_t (np := 54) (l2 := [some (eJ (zJ c)), none, some (eI (7)), some (eR 15), some (eI (3)), some (eI (v10)), some (eI (2))]) (s2 := [eI (5), eR 15, eI (r), eI (v10)]) rfl (b_iadd rfl) rfl ?_
  refine w_al (np := 55) (v := 0) rfl rfl (s_al (j := 5) (by decide) (by decide) (by decide) rfl rfl (by decide) (by decide) rfl) ?_
  obtain ⟨v13, e14⟩ : ∃ zz : Int, zz = (r) * (0) := ⟨_, rfl⟩
  have b15 : 0 ≤ v13 ∧ v13 ≤ 0 := by omega
  refine w_t (np := 56) (l2 := [some (eJ (zJ c)), none, some (eI (7)), some (eR 15), some (eI (3)), some (eI (v10)), some (eI (2))]) (s2 := [eI (v13), eI (v10)]) rfl (b_imul (by rw [← e14]; exact ev_w_in (by omega) (by omega))) rfl ?_
  obtain ⟨v16, e17⟩ : ∃ zz : Int, zz = (v10) + (v13) := ⟨_, rfl⟩
  have b18 : -10010 ≤ v16 ∧ v16 ≤ 10010 := by omega
  refine w_t (np := 57) (l2 := [some (eJ (zJ c)), none, some (eI (7)), some (eR 15), some (eI (3)), some (eI (v10)), some (eI (2))]) (s2 := [eI (v16)]) rfl (b_iadd (by rw [← e17]; exact ev_w_in (by omega) (by omega))) rfl ?_
  refine w_t (np := 59) (l2 := [some (eJ (zJ c)), none, some (eI (7)), some (eR 15), some (eI (3)), some (eI (v16)), some (eI (2))]) (s2 := []) rfl rfl rfl ?_
  refine w_t (np := 62) (l2 := [some (eJ (zJ c)), none, some (eI (7)), some (eR 15), some (eI (3)), some (eI (v16)), some (eI (3))]) (s2 := []) rfl (b_iinc rfl rfl rfl) rfl ?_
  refine w_go (t1 := 18) rfl rfl ?_
  refine w_t (np := 20) (l2 := [some (eJ (zJ c)), none, some (eI (7)), some (eR 15), some (eI (3)), some (eI (v16)), some (eI (3))]) (s2 := [eI (3)]) rfl rfl rfl ?_
  refine w_t (np := 21) (l2 := [some (eJ (zJ c)), none, some (eI (7)), some (eR 15), some (eI (3)), some (eI (v16)), some (eI (3))]) (s2 := [eI (4), eI (3)]) rfl rfl rfl ?_
  refine b_cge (t1 := 65) (t2 := 24) rfl rfl rfl rfl rfl (fun g => absurd g (by decide)) (fun g => ?_)
  clear g
  refine w_t (np := 26) (l2 := [some (eJ (zJ c)), none, some (eI (7)), some (eR 15), some (eI (3)), some (eI (v16)), some (eI (3))]) (s2 := [eI (3)]) rfl rfl rfl ?_
  refine w_t (np := 28) (l2 := [some (eJ (zJ c)), none, some (eI (7)), some (eR 15), some (eI (3)), some (eI (v16)), some (eI (3))]) (s2 := [eI (3), eI (3)]) rfl rfl rfl ?_
  refine w_t (np := 29) (l2 := [some (eJ (zJ c)), none, some (eI (7)), some (eR 15), some (eI (3)), some (eI (v16)), some (eI (3))]) (s2 := [eI (6)]) rfl (b_iadd rfl) rfl ?_
  refine w_t (np := 30) (l2 := [some (eJ (zJ c)), none, some (eI (7)), some (eR 15), some (eI (3)), some (eI (v16)), some (eI (3))]) (s2 := [eR 15, eI (6)]) rfl (s_an rfl (by decide)) rfl ?_
  refine v_ln (np := 31) (v := 13) (n := 13) rfl rfl ⟨rfl, zI_lit (by decide)⟩ ?_
  rw [show zI 13 = 13 by decide]
  refine b_cge (t1 := 65) (t2 := 34) rfl rfl rfl rfl rfl (fun g => absurd g (by decide)) (fun g => ?_)
  clear g
  refine w_t (np := 36) (l2 := [some (eJ (zJ c)), none, some (eI (7)), some (eR 15), some (eI (3)), some (eI (v16)), some (eI (3))]) (s2 := [eI (v16)]) rfl rfl rfl ?_
  refine w_t (np := 37) (l2 := [some (eJ (zJ c)), none, some (eI (7)), some (eR 15), some (eI (3)), some (eI (v16)), some (eI (3))]) (s2 := [eJ (zJ c), eI (v16)]) rfl rfl rfl ?_
  refine w_t (np := 39) (l2 := [some (eJ (zJ c)), none, some (eI (7)), some (eR 15), some (eI (3)), some (eI (v16)), some (eI (3))]) (s2 := [eI (48), eJ (zJ c), eI (v16)]) rfl rfl rfl ?_
  refine w_t (np := 41) (l2 := [some (eJ (zJ c)), none, some (eI (7)), some (eR 15), some (eI (3)), some (eI (v16)), some (eI (3))]) (s2 := [eI (16), eI (48), eJ (zJ c), eI (v16)]) rfl rfl rfl ?_
  refine w_t (np := 43) (l2 := [some (eJ (zJ c)), none, some (eI (7)), some (eR 15), some (eI (3)), some (eI (v16)), some (eI (3))]) (s2 := [eI (3), eI (16), eI (48), eJ (zJ c), eI (v16)]) rfl rfl rfl ?_
  refine w_t (np := 44) (l2 := [some (eJ (zJ c)), none, some (eI (7)), some (eR 15), some (eI (3)), some (eI (v16)), some (eI (3))]) (s2 := [eI (48), eI (48), eJ (zJ c), eI (v16)]) rfl (b_imul rfl) rfl ?_
  refine w_t (np := 45) (l2 := [some (eJ (zJ c)), none, some (eI (7)), some (eR 15), some (eI (3)), some (eI (v16)), some (eI (3))]) (s2 := [eI (0), eJ (zJ c), eI (v16)]) rfl (b_isub rfl) rfl ?_
  refine w_lane (np := 48) (k := 0) (v := s) rfl rfl rfl rfl (by decide) rfl l3 ?_
  refine w_t (np := 49) (l2 := [some (eJ (zJ c)), none, some (eI (7)), some (eR 15), some (eI (3)), some (eI (v16)), some (eI (3))]) (s2 := [eR 15, eI (s), eI (v16)]) rfl (s_an rfl (by decide)) rfl ?_
  refine w_t (np := 51) (l2 := [some (eJ (zJ c)), none, some (eI (7)), some (eR 15), some (eI (3)), some (eI (v16)), some (eI (3))]) (s2 := [eI (3), eR 15, eI (s), eI (v16)]) rfl rfl rfl ?_
  refine w_t (np := 53) (l2 := [some (eJ (zJ c)), none, some (eI (7)), some (eR 15), some (eI (3)), some (eI (v16)), some (eI (3))]) (s2 := [eI (3), eI (3), eR 15, eI (s), eI (v16)]) rfl rfl rfl ?_
  refine w_t (np := 54) (l2 := [some (eJ (zJ c)), none, some (eI (7)), some (eR 15), some (eI (3)), some (eI (v16)), some (eI (3))]) (s2 := [eI (6), eR 15, eI (s), eI (v16)]) rfl (b_iadd rfl) rfl ?_
  refine w_al (np := 55) (v := 0) rfl rfl (s_al (j := 6) (by decide) (by decide) (by decide) rfl rfl (by decide) (by decide) rfl) ?_
  obtain ⟨v19, e20⟩ : ∃ zz : Int, zz = (s) * (0) := ⟨_, rfl⟩
  have b21 : 0 ≤ v19 ∧ v19 ≤ 0 := by omega
  refine w_t (np := 56) (l2 := [some (eJ (zJ c)), none, some (eI (7)), some (eR 15), some (eI (3)), some (eI (v16)), some (eI (3))]) (s2 := [eI (v19), eI (v16)]) rfl (b_imul (by rw [← e20]; exact ev_w_in (by omega) (by omega))) rfl ?_
  obtain ⟨v22, e23⟩ : ∃ zz : Int, zz = (v16) + (v19) := ⟨_, rfl⟩
  have b24 : -10010 ≤ v22 ∧ v22 ≤ 10010 := by omega
  refine w_t (np := 57) (l2 := [some (eJ (zJ c)), none, some (eI (7)), some (eR 15), some (eI (3)), some (eI (v16)), some (eI (3))]) (s2 := [eI (v22)]) rfl (b_iadd (by rw [← e23]; exact ev_w_in (by omega) (by omega))) rfl ?_
  refine w_t (np := 59) (l2 := [some (eJ (zJ c)), none, some (eI (7)), some (eR 15), some (eI (3)), some (eI (v22)), some (eI (3))]) (s2 := []) rfl rfl rfl ?_
  refine w_t (np := 62) (l2 := [some (eJ (zJ c)), none, some (eI (7)), some (eR 15), some (eI (3)), some (eI (v22)), some (eI (4))]) (s2 := []) rfl (b_iinc rfl rfl rfl) rfl ?_
  refine w_go (t1 := 18) rfl rfl ?_
  refine w_t (np := 20) (l2 := [some (eJ (zJ c)), none, some (eI (7)), some (eR 15), some (eI (3)), some (eI (v22)), some (eI (4))]) (s2 := [eI (4)]) rfl rfl rfl ?_
  refine w_t (np := 21) (l2 := [some (eJ (zJ c)), none, some (eI (7)), some (eR 15), some (eI (3)), some (eI (v22)), some (eI (4))]) (s2 := [eI (4), eI (4)]) rfl rfl rfl ?_
  refine b_cge (t1 := 65) (t2 := 24) rfl rfl rfl rfl rfl (fun g => ?_) (fun g => absurd g (by decide))
  clear g
  refine w_t (np := 67) (l2 := [some (eJ (zJ c)), none, some (eI (7)), some (eR 15), some (eI (3)), some (eI (v22)), some (eI (4))]) (s2 := [eI (v22)]) rfl rfl rfl ?_
  refine b_ri rfl rfl ?_
  have e9 : v22 = 1 * p := by omega
  rw [e9]
  exact K
theorem t80_15_8 {L : Nat} {ρ : Nat → Int} {rc rs d : Nat} {f : eFr} {F : List eFr} {μ : eM} {c : Nat} {p q r s : Int} (l0 : zI (z_i2s (z_l2i (z_lshr c 48))) = p) (l1 : zI (z_i2s (z_l2i (z_lshr c 32))) = q) (l2 : zI (z_i2s (z_l2i (z_lshr c 16))) = r) (l3 : zI (z_i2s (z_l2i (z_lshr c 0))) = s) (hp : -10010 ≤ p ∧ p ≤ 10010) (hq : -10010 ≤ q ∧ q ≤ 10010) (hr : -10010 ≤ r ∧ r ≤ 10010) (hs : -10010 ≤ s ∧ s ≤ 10010) (K : ex_fine (dt_fg L ρ) rc rs (d + 1, (f.1, f.2.1, f.2.2.1, eI (1 * p + 1 * q) :: f.2.2.2), F, μ)) : ex_fine (dt_fg L ρ) rc rs (d, (80, 0, [some (eJ (zJ c)), none, some (eI (8)), some (eR 15), none, none, none], []), f :: F, μ) := by
  refine w_t (np := 2) (l2 := [some (eJ (zJ c)), none, some (eI (8)), some (eR 15), none, none, none]) (s2 := [eI (10)]) rfl rfl rfl ?_
  refine w_t (np := 3) (l2 := [some (eJ (zJ c)), none, some (eI (8)), some (eR 15), none, none, none]) (s2 := [eI (8), eI (10)]) rfl rfl rfl ?_
  refine w_t (np := 5) (l2 := [some (eJ (zJ c)), none, some (eI (8)), some (eR 15), none, none, none]) (s2 := [eI (10), eI (8), eI (10)]) rfl rfl rfl ?_
  refine w_t (np := 6) (l2 := [some (eJ (zJ c)), none, some (eI (8)), some (eR 15), none, none, none]) (s2 := [eI (8), eI (10)]) rfl rfl rfl ?_
  refine w_t (np := 7) (l2 := [some (eJ (zJ c)), none, some (eI (8)), some (eR 15), none, none, none]) (s2 := [eI (2)]) rfl (b_isub rfl) rfl ?_
  refine w_t (np := 9) (l2 := [some (eJ (zJ c)), none, some (eI (8)), some (eR 15), none, none, none]) (s2 := [eI (10), eI (2)]) rfl rfl rfl ?_
  refine w_t (np := 10) (l2 := [some (eJ (zJ c)), none, some (eI (8)), some (eR 15), none, none, none]) (s2 := [eI (2)]) rfl rfl rfl ?_
  refine w_t (np := 12) (l2 := [some (eJ (zJ c)), none, some (eI (8)), some (eR 15), some (eI (2)), none, none]) (s2 := []) rfl rfl rfl ?_
  refine w_t (np := 13) (l2 := [some (eJ (zJ c)), none, some (eI (8)), some (eR 15), some (eI (2)), none, none]) (s2 := [eI (0)]) rfl rfl rfl ?_
  refine w_t (np := 15) (l2 := [some (eJ (zJ c)), none, some (eI (8)), some (eR 15), some (eI (2)), some (eI (0)), none]) (s2 := []) rfl rfl rfl ?_
  refine w_t (np := 16) (l2 := [some (eJ (zJ c)), none, some (eI (8)), some (eR 15), some (eI (2)), some (eI (0)), none]) (s2 := [eI (0)]) rfl rfl rfl ?_
  refine w_t (np := 18) (l2 := [some (eJ (zJ c)), none, some (eI (8)), some (eR 15), some (eI (2)), some (eI (0)), some (eI (0))]) (s2 := []) rfl rfl rfl ?_
  refine w_t (np := 20) (l2 := [some (eJ (zJ c)), none, some (eI (8)), some (eR 15), some (eI (2)), some (eI (0)), some (eI (0))]) (s2 := [eI (0)]) rfl rfl rfl ?_
  refine w_t (np := 21) (l2 := [some (eJ (zJ c)), none, some (eI (8)), some (eR 15), some (eI (2)), some (eI (0)), some (eI (0))]) (s2 := [eI (4), eI (0)]) rfl rfl rfl ?_
  refine b_cge (t1 := 65) (t2 := 24) rfl rfl rfl rfl rfl (fun g => absurd g (by decide)) (fun g => ?_)
  clear g
  refine w_t (np := 26) (l2 := [some (eJ (zJ c)), none, some (eI (8)), some (eR 15), some (eI (2)), some (eI (0)), some (eI (0))]) (s2 := [eI (2)]) rfl rfl rfl ?_
  refine w_t (np := 28) (l2 := [some (eJ (zJ c)), none, some (eI (8)), some (eR 15), some (eI (2)), some (eI (0)), some (eI (0))]) (s2 := [eI (0), eI (2)]) rfl rfl rfl ?_
  refine w_t (np := 29) (l2 := [some (eJ (zJ c)), none, some (eI (8)), some (eR 15), some (eI (2)), some (eI (0)), some (eI (0))]) (s2 := [eI (2)]) rfl (b_iadd rfl) rfl ?_
  refine w_t (np := 30) (l2 := [some (eJ (zJ c)), none, some (eI (8)), some (eR 15), some (eI (2)), some (eI (0)), some (eI (0))]) (s2 := [eR 15, eI (2)]) rfl (s_an rfl (by decide)) rfl ?_
  refine v_ln (np := 31) (v := 13) (n := 13) rfl rfl ⟨rfl, zI_lit (by decide)⟩ ?_
  rw [show zI 13 = 13 by decide]
  refine b_cge (t1 := 65) (t2 := 34) rfl rfl rfl rfl rfl (fun g => absurd g (by decide)) (fun g => ?_)
  clear g
  refine w_t (np := 36) (l2 := [some (eJ (zJ c)), none, some (eI (8)), some (eR 15), some (eI (2)), some (eI (0)), some (eI (0))]) (s2 := [eI (0)]) rfl rfl rfl ?_
  refine w_t (np := 37) (l2 := [some (eJ (zJ c)), none, some (eI (8)), some (eR 15), some (eI (2)), some (eI (0)), some (eI (0))]) (s2 := [eJ (zJ c), eI (0)]) rfl rfl rfl ?_
  refine w_t (np := 39) (l2 := [some (eJ (zJ c)), none, some (eI (8)), some (eR 15), some (eI (2)), some (eI (0)), some (eI (0))]) (s2 := [eI (48), eJ (zJ c), eI (0)]) rfl rfl rfl ?_
  refine w_t (np := 41) (l2 := [some (eJ (zJ c)), none, some (eI (8)), some (eR 15), some (eI (2)), some (eI (0)), some (eI (0))]) (s2 := [eI (16), eI (48), eJ (zJ c), eI (0)]) rfl rfl rfl ?_
  refine w_t (np := 43) (l2 := [some (eJ (zJ c)), none, some (eI (8)), some (eR 15), some (eI (2)), some (eI (0)), some (eI (0))]) (s2 := [eI (0), eI (16), eI (48), eJ (zJ c), eI (0)]) rfl rfl rfl ?_
  refine w_t (np := 44) (l2 := [some (eJ (zJ c)), none, some (eI (8)), some (eR 15), some (eI (2)), some (eI (0)), some (eI (0))]) (s2 := [eI (0), eI (48), eJ (zJ c), eI (0)]) rfl (b_imul rfl) rfl ?_
  refine w_t (np := 45) (l2 := [some (eJ (zJ c)), none, some (eI (8)), some (eR 15), some (eI (2)), some (eI (0)), some (eI (0))]) (s2 := [eI (48), eJ (zJ c), eI (0)]) rfl (b_isub rfl) rfl ?_
  refine w_lane (np := 48) (k := 48) (v := p) rfl rfl rfl rfl (by decide) rfl l0 ?_
  refine w_t (np := 49) (l2 := [some (eJ (zJ c)), none, some (eI (8)), some (eR 15), some (eI (2)), some (eI (0)), some (eI (0))]) (s2 := [eR 15, eI (p), eI (0)]) rfl (s_an rfl (by decide)) rfl ?_
  refine w_t (np := 51) (l2 := [some (eJ (zJ c)), none, some (eI (8)), some (eR 15), some (eI (2)), some (eI (0)), some (eI (0))]) (s2 := [eI (2), eR 15, eI (p), eI (0)]) rfl rfl rfl ?_
  refine w_t (np := 53) (l2 := [some (eJ (zJ c)), none, some (eI (8)), some (eR 15), some (eI (2)), some (eI (0)), some (eI (0))]) (s2 := [eI (0), eI (2), eR 15, eI (p), eI (0)]) rfl rfl rfl ?_
  refine w_t (np := 54) (l2 := [some (eJ (zJ c)), none, some (eI (8)), some (eR 15), some (eI (2)), some (eI (0)), some (eI (0))]) (s2 := [eI (2), eR 15, eI (p), eI (0)]) rfl (b_iadd rfl) rfl ?_
  refine w_al (np := 55) (v := 1) rfl rfl (s_al (j := 2) (by decide) (by decide) (by decide) rfl rfl (by decide) (by decide) rfl) ?_
  obtain ⟨v1, e2⟩ : ∃ zz : Int, zz = (p) * (1) := ⟨_, rfl⟩
  have b3 : -10010 ≤ v1 ∧ v1 ≤ 10010 := by omega
  refine w_t (np := 56) (l2 := [some (eJ (zJ c)), none, some (eI (8)), some (eR 15), some (eI (2)), some (eI (0)), some (eI (0))]) (s2 := [eI (v1), eI (0)]) rfl (b_imul (by rw [← e2]; exact ev_w_in (by omega) (by omega))) rfl ?_
  obtain ⟨v4, e5⟩ : ∃ zz : Int, zz = (0) + (v1) := ⟨_, rfl⟩
  have b6 : -10010 ≤ v4 ∧ v4 ≤ 10010 := by omega
  refine w_t (np := 57) (l2 := [some (eJ (zJ c)), none, some (eI (8)), some (eR 15), some (eI (2)), some (eI (0)), some (eI (0))]) (s2 := [eI (v4)]) rfl (b_iadd (by rw [← e5]; exact ev_w_in (by omega) (by omega))) rfl ?_
  refine w_t (np := 59) (l2 := [some (eJ (zJ c)), none, some (eI (8)), some (eR 15), some (eI (2)), some (eI (v4)), some (eI (0))]) (s2 := []) rfl rfl rfl ?_
  refine w_t (np := 62) (l2 := [some (eJ (zJ c)), none, some (eI (8)), some (eR 15), some (eI (2)), some (eI (v4)), some (eI (1))]) (s2 := []) rfl (b_iinc rfl rfl rfl) rfl ?_
  refine w_go (t1 := 18) rfl rfl ?_
  refine w_t (np := 20) (l2 := [some (eJ (zJ c)), none, some (eI (8)), some (eR 15), some (eI (2)), some (eI (v4)), some (eI (1))]) (s2 := [eI (1)]) rfl rfl rfl ?_
  refine w_t (np := 21) (l2 := [some (eJ (zJ c)), none, some (eI (8)), some (eR 15), some (eI (2)), some (eI (v4)), some (eI (1))]) (s2 := [eI (4), eI (1)]) rfl rfl rfl ?_
  refine b_cge (t1 := 65) (t2 := 24) rfl rfl rfl rfl rfl (fun g => absurd g (by decide)) (fun g => ?_)
  clear g
  refine w_t (np := 26) (l2 := [some (eJ (zJ c)), none, some (eI (8)), some (eR 15), some (eI (2)), some (eI (v4)), some (eI (1))]) (s2 := [eI (2)]) rfl rfl rfl ?_
  refine w_t (np := 28) (l2 := [some (eJ (zJ c)), none, some (eI (8)), some (eR 15), some (eI (2)), some (eI (v4)), some (eI (1))]) (s2 := [eI (1), eI (2)]) rfl rfl rfl ?_
  refine w_t (np := 29) (l2 := [some (eJ (zJ c)), none, some (eI (8)), some (eR 15), some (eI (2)), some (eI (v4)), some (eI (1))]) (s2 := [eI (3)]) rfl (b_iadd rfl) rfl ?_
  refine w_t (np := 30) (l2 := [some (eJ (zJ c)), none, some (eI (8)), some (eR 15), some (eI (2)), some (eI (v4)), some (eI (1))]) (s2 := [eR 15, eI (3)]) rfl (s_an rfl (by decide)) rfl ?_
  refine v_ln (np := 31) (v := 13) (n := 13) rfl rfl ⟨rfl, zI_lit (by decide)⟩ ?_
  rw [show zI 13 = 13 by decide]
  refine b_cge (t1 := 65) (t2 := 34) rfl rfl rfl rfl rfl (fun g => absurd g (by decide)) (fun g => ?_)
  clear g
  refine w_t (np := 36) (l2 := [some (eJ (zJ c)), none, some (eI (8)), some (eR 15), some (eI (2)), some (eI (v4)), some (eI (1))]) (s2 := [eI (v4)]) rfl rfl rfl ?_
  refine w_t (np := 37) (l2 := [some (eJ (zJ c)), none, some (eI (8)), some (eR 15), some (eI (2)), some (eI (v4)), some (eI (1))]) (s2 := [eJ (zJ c), eI (v4)]) rfl rfl rfl ?_
  refine w_t (np := 39) (l2 := [some (eJ (zJ c)), none, some (eI (8)), some (eR 15), some (eI (2)), some (eI (v4)), some (eI (1))]) (s2 := [eI (48), eJ (zJ c), eI (v4)]) rfl rfl rfl ?_
  refine w_t (np := 41) (l2 := [some (eJ (zJ c)), none, some (eI (8)), some (eR 15), some (eI (2)), some (eI (v4)), some (eI (1))]) (s2 := [eI (16), eI (48), eJ (zJ c), eI (v4)]) rfl rfl rfl ?_
  refine w_t (np := 43) (l2 := [some (eJ (zJ c)), none, some (eI (8)), some (eR 15), some (eI (2)), some (eI (v4)), some (eI (1))]) (s2 := [eI (1), eI (16), eI (48), eJ (zJ c), eI (v4)]) rfl rfl rfl ?_
  refine w_t (np := 44) (l2 := [some (eJ (zJ c)), none, some (eI (8)), some (eR 15), some (eI (2)), some (eI (v4)), some (eI (1))]) (s2 := [eI (16), eI (48), eJ (zJ c), eI (v4)]) rfl (b_imul rfl) rfl ?_
  refine w_t (np := 45) (l2 := [some (eJ (zJ c)), none, some (eI (8)), some (eR 15), some (eI (2)), some (eI (v4)), some (eI (1))]) (s2 := [eI (32), eJ (zJ c), eI (v4)]) rfl (b_isub rfl) rfl ?_
  refine w_lane (np := 48) (k := 32) (v := q) rfl rfl rfl rfl (by decide) rfl l1 ?_
  refine w_t (np := 49) (l2 := [some (eJ (zJ c)), none, some (eI (8)), some (eR 15), some (eI (2)), some (eI (v4)), some (eI (1))]) (s2 := [eR 15, eI (q), eI (v4)]) rfl (s_an rfl (by decide)) rfl ?_
  refine w_t (np := 51) (l2 := [some (eJ (zJ c)), none, some (eI (8)), some (eR 15), some (eI (2)), some (eI (v4)), some (eI (1))]) (s2 := [eI (2), eR 15, eI (q), eI (v4)]) rfl rfl rfl ?_
  refine w_t (np := 53) (l2 := [some (eJ (zJ c)), none, some (eI (8)), some (eR 15), some (eI (2)), some (eI (v4)), some (eI (1))]) (s2 := [eI (1), eI (2), eR 15, eI (q), eI (v4)]) rfl rfl rfl ?_
  refine w_t (np := 54) (l2 := [some (eJ (zJ c)), none, some (eI (8)), some (eR 15), some (eI (2)), some (eI (v4)), some (eI (1))]) (s2 := [eI (3), eR 15, eI (q), eI (v4)]) rfl (b_iadd rfl) rfl ?_
  refine w_al (np := 55) (v := 1) rfl rfl (s_al (j := 3) (by decide) (by decide) (by decide) rfl rfl (by decide) (by decide) rfl) ?_
  obtain ⟨v7, e8⟩ : ∃ zz : Int, zz = (q) * (1) := ⟨_, rfl⟩
  have b9 : -10010 ≤ v7 ∧ v7 ≤ 10010 := by omega
  refine w_t (np := 56) (l2 := [some (eJ (zJ c)), none, some (eI (8)), some (eR 15), some (eI (2)), some (eI (v4)), some (eI (1))]) (s2 := [eI (v7), eI (v4)]) rfl (b_imul (by rw [← e8]; exact ev_w_in (by omega) (by omega))) rfl ?_
  obtain ⟨v10, e11⟩ : ∃ zz : Int, zz = (v4) + (v7) := ⟨_, rfl⟩
  have b12 : -20020 ≤ v10 ∧ v10 ≤ 20020 := by omega
  refine w_t (np := 57) (l2 := [some (eJ (zJ c)), none, some (eI (8)), some (eR 15), some (eI (2)), some (eI (v4)), some (eI (1))]) (s2 := [eI (v10)]) rfl (b_iadd (by rw [← e11]; exact ev_w_in (by omega) (by omega))) rfl ?_
  refine w_t (np := 59) (l2 := [some (eJ (zJ c)), none, some (eI (8)), some (eR 15), some (eI (2)), some (eI (v10)), some (eI (1))]) (s2 := []) rfl rfl rfl ?_
  refine w_t (np := 62) (l2 := [some (eJ (zJ c)), none, some (eI (8)), some (eR 15), some (eI (2)), some (eI (v10)), some (eI (2))]) (s2 := []) rfl (b_iinc rfl rfl rfl) rfl ?_
  refine w_go (t1 := 18) rfl rfl ?_
  refine w_t (np := 20) (l2 := [some (eJ (zJ c)), none, some (eI (8)), some (eR 15), some (eI (2)), some (eI (v10)), some (eI (2))]) (s2 := [eI (2)]) rfl rfl rfl ?_
  refine w_t (np := 21) (l2 := [some (eJ (zJ c)), none, some (eI (8)), some (eR 15), some (eI (2)), some (eI (v10)), some (eI (2))]) (s2 := [eI (4), eI (2)]) rfl rfl rfl ?_
  refine b_cge (t1 := 65) (t2 := 24) rfl rfl rfl rfl rfl (fun g => absurd g (by decide)) (fun g => ?_)
  clear g
  refine w_t (np := 26) (l2 := [some (eJ (zJ c)), none, some (eI (8)), some (eR 15), some (eI (2)), some (eI (v10)), some (eI (2))]) (s2 := [eI (2)]) rfl rfl rfl ?_
  refine w_t (np := 28) (l2 := [some (eJ (zJ c)), none, some (eI (8)), some (eR 15), some (eI (2)), some (eI (v10)), some (eI (2))]) (s2 := [eI (2), eI (2)]) rfl rfl rfl ?_
  refine w_t (np := 29) (l2 := [some (eJ (zJ c)), none, some (eI (8)), some (eR 15), some (eI (2)), some (eI (v10)), some (eI (2))]) (s2 := [eI (4)]) rfl (b_iadd rfl) rfl ?_
  refine w_t (np := 30) (l2 := [some (eJ (zJ c)), none, some (eI (8)), some (eR 15), some (eI (2)), some (eI (v10)), some (eI (2))]) (s2 := [eR 15, eI (4)]) rfl (s_an rfl (by decide)) rfl ?_
  refine v_ln (np := 31) (v := 13) (n := 13) rfl rfl ⟨rfl, zI_lit (by decide)⟩ ?_
  rw [show zI 13 = 13 by decide]
  refine b_cge (t1 := 65) (t2 := 34) rfl rfl rfl rfl rfl (fun g => absurd g (by decide)) (fun g => ?_)
  clear g
  refine w_t (np := 36) (l2 := [some (eJ (zJ c)), none, some (eI (8)), some (eR 15), some (eI (2)), some (eI (v10)), some (eI (2))]) (s2 := [eI (v10)]) rfl rfl rfl ?_
  refine w_t (np := 37) (l2 := [some (eJ (zJ c)), none, some (eI (8)), some (eR 15), some (eI (2)), some (eI (v10)), some (eI (2))]) (s2 := [eJ (zJ c), eI (v10)]) rfl rfl rfl ?_
  refine w_t (np := 39) (l2 := [some (eJ (zJ c)), none, some (eI (8)), some (eR 15), some (eI (2)), some (eI (v10)), some (eI (2))]) (s2 := [eI (48), eJ (zJ c), eI (v10)]) rfl rfl rfl ?_
  refine w_t (np := 41) (l2 := [some (eJ (zJ c)), none, some (eI (8)), some (eR 15), some (eI (2)), some (eI (v10)), some (eI (2))]) (s2 := [eI (16), eI (48), eJ (zJ c), eI (v10)]) rfl rfl rfl ?_
  refine w_t (np := 43) (l2 := [some (eJ (zJ c)), none, some (eI (8)), some (eR 15), some (eI (2)), some (eI (v10)), some (eI (2))]) (s2 := [eI (2), eI (16), eI (48), eJ (zJ c), eI (v10)]) rfl rfl rfl ?_
  refine w_t (np := 44) (l2 := [some (eJ (zJ c)), none, some (eI (8)), some (eR 15), some (eI (2)), some (eI (v10)), some (eI (2))]) (s2 := [eI (32), eI (48), eJ (zJ c), eI (v10)]) rfl (b_imul rfl) rfl ?_
  refine w_t (np := 45) (l2 := [some (eJ (zJ c)), none, some (eI (8)), some (eR 15), some (eI (2)), some (eI (v10)), some (eI (2))]) (s2 := [eI (16), eJ (zJ c), eI (v10)]) rfl (b_isub rfl) rfl ?_
  refine w_lane (np := 48) (k := 16) (v := r) rfl rfl rfl rfl (by decide) rfl l2 ?_
  refine w_t (np := 49) (l2 := [some (eJ (zJ c)), none, some (eI (8)), some (eR 15), some (eI (2)), some (eI (v10)), some (eI (2))]) (s2 := [eR 15, eI (r), eI (v10)]) rfl (s_an rfl (by decide)) rfl ?_
  refine w_t (np := 51) (l2 := [some (eJ (zJ c)), none, some (eI (8)), some (eR 15), some (eI (2)), some (eI (v10)), some (eI (2))]) (s2 := [eI (2), eR 15, eI (r), eI (v10)]) rfl rfl rfl ?_
  refine w_t (np := 53) (l2 := [some (eJ (zJ c)), none, some (eI (8)), some (eR 15), some (eI (2)), some (eI (v10)), some (eI (2))]) (s2 := [eI (2), eI (2), eR 15, eI (r), eI (v10)]) rfl rfl rfl ?_
  refine w_t (np := 54) (l2 := [some (eJ (zJ c)), none, some (eI (8)), some (eR 15), some (eI (2)), some (eI (v10)), some (eI (2))]) (s2 := [eI (4), eR 15, eI (r), eI (v10)]) rfl (b_iadd rfl) rfl ?_
  refine w_al (np := 55) (v := 0) rfl rfl (s_al (j := 4) (by decide) (by decide) (by decide) rfl rfl (by decide) (by decide) rfl) ?_
  obtain ⟨v13, e14⟩ : ∃ zz : Int, zz = (r) * (0) := ⟨_, rfl⟩
  have b15 : 0 ≤ v13 ∧ v13 ≤ 0 := by omega
  refine w_t (np := 56) (l2 := [some (eJ (zJ c)), none, some (eI (8)), some (eR 15), some (eI (2)), some (eI (v10)), some (eI (2))]) (s2 := [eI (v13), eI (v10)]) rfl (b_imul (by rw [← e14]; exact ev_w_in (by omega) (by omega))) rfl ?_
  obtain ⟨v16, e17⟩ : ∃ zz : Int, zz = (v10) + (v13) := ⟨_, rfl⟩
  have b18 : -20020 ≤ v16 ∧ v16 ≤ 20020 := by omega
  refine w_t (np := 57) (l2 := [some (eJ (zJ c)), none, some (eI (8)), some (eR 15), some (eI (2)), some (eI (v10)), some (eI (2))]) (s2 := [eI (v16)]) rfl (b_iadd (by rw [← e17]; exact ev_w_in (by omega) (by omega))) rfl ?_
  refine w_t (np := 59) (l2 := [some (eJ (zJ c)), none, some (eI (8)), some (eR 15), some (eI (2)), some (eI (v16)), some (eI (2))]) (s2 := []) rfl rfl rfl ?_
  refine w_t (np := 62) (l2 := [some (eJ (zJ c)), none, some (eI (8)), some (eR 15), some (eI (2)), some (eI (v16)), some (eI (3))]) (s2 := []) rfl (b_iinc rfl rfl rfl) rfl ?_
  refine w_go (t1 := 18) rfl rfl ?_
  refine w_t (np := 20) (l2 := [some (eJ (zJ c)), none, some (eI (8)), some (eR 15), some (eI (2)), some (eI (v16)), some (eI (3))]) (s2 := [eI (3)]) rfl rfl rfl ?_
  refine w_t (np := 21) (l2 := [some (eJ (zJ c)), none, some (eI (8)), some (eR 15), some (eI (2)), some (eI (v16)), some (eI (3))]) (s2 := [eI (4), eI (3)]) rfl rfl rfl ?_
  refine b_cge (t1 := 65) (t2 := 24) rfl rfl rfl rfl rfl (fun g => absurd g (by decide)) (fun g => ?_)
  clear g
  refine w_t (np := 26) (l2 := [some (eJ (zJ c)), none, some (eI (8)), some (eR 15), some (eI (2)), some (eI (v16)), some (eI (3))]) (s2 := [eI (2)]) rfl rfl rfl ?_
  refine w_t (np := 28) (l2 := [some (eJ (zJ c)), none, some (eI (8)), some (eR 15), some (eI (2)), some (eI (v16)), some (eI (3))]) (s2 := [eI (3), eI (2)]) rfl rfl rfl ?_
  refine w_t (np := 29) (l2 := [some (eJ (zJ c)), none, some (eI (8)), some (eR 15), some (eI (2)), some (eI (v16)), some (eI (3))]) (s2 := [eI (5)]) rfl (b_iadd rfl) rfl ?_
  refine w_t (np := 30) (l2 := [some (eJ (zJ c)), none, some (eI (8)), some (eR 15), some (eI (2)), some (eI (v16)), some (eI (3))]) (s2 := [eR 15, eI (5)]) rfl (s_an rfl (by decide)) rfl ?_
  refine v_ln (np := 31) (v := 13) (n := 13) rfl rfl ⟨rfl, zI_lit (by decide)⟩ ?_
  rw [show zI 13 = 13 by decide]
  refine b_cge (t1 := 65) (t2 := 34) rfl rfl rfl rfl rfl (fun g => absurd g (by decide)) (fun g => ?_)
  clear g
  refine w_t (np := 36) (l2 := [some (eJ (zJ c)), none, some (eI (8)), some (eR 15), some (eI (2)), some (eI (v16)), some (eI (3))]) (s2 := [eI (v16)]) rfl rfl rfl ?_
  refine w_t (np := 37) (l2 := [some (eJ (zJ c)), none, some (eI (8)), some (eR 15), some (eI (2)), some (eI (v16)), some (eI (3))]) (s2 := [eJ (zJ c), eI (v16)]) rfl rfl rfl ?_
  refine w_t (np := 39) (l2 := [some (eJ (zJ c)), none, some (eI (8)), some (eR 15), some (eI (2)), some (eI (v16)), some (eI (3))]) (s2 := [eI (48), eJ (zJ c), eI (v16)]) rfl rfl rfl ?_
  refine w_t (np := 41) (l2 := [some (eJ (zJ c)), none, some (eI (8)), some (eR 15), some (eI (2)), some (eI (v16)), some (eI (3))]) (s2 := [eI (16), eI (48), eJ (zJ c), eI (v16)]) rfl rfl rfl ?_
  refine w_t (np := 43) (l2 := [some (eJ (zJ c)), none, some (eI (8)), some (eR 15), some (eI (2)), some (eI (v16)), some (eI (3))]) (s2 := [eI (3), eI (16), eI (48), eJ (zJ c), eI (v16)]) rfl rfl rfl ?_
  refine w_t (np := 44) (l2 := [some (eJ (zJ c)), none, some (eI (8)), some (eR 15), some (eI (2)), some (eI (v16)), some (eI (3))]) (s2 := [eI (48), eI (48), eJ (zJ c), eI (v16)]) rfl (b_imul rfl) rfl ?_
  refine w_t (np := 45) (l2 := [some (eJ (zJ c)), none, some (eI (8)), some (eR 15), some (eI (2)), some (eI (v16)), some (eI (3))]) (s2 := [eI (0), eJ (zJ c), eI (v16)]) rfl (b_isub rfl) rfl ?_
  refine w_lane (np := 48) (k := 0) (v := s) rfl rfl rfl rfl (by decide) rfl l3 ?_
  refine w_t (np := 49) (l2 := [some (eJ (zJ c)), none, some (eI (8)), some (eR 15), some (eI (2)), some (eI (v16)), some (eI (3))]) (s2 := [eR 15, eI (s), eI (v16)]) rfl (s_an rfl (by decide)) rfl ?_
  refine w_t (np := 51) (l2 := [some (eJ (zJ c)), none, some (eI (8)), some (eR 15), some (eI (2)), some (eI (v16)), some (eI (3))]) (s2 := [eI (2), eR 15, eI (s), eI (v16)]) rfl rfl rfl ?_
  refine w_t (np := 53) (l2 := [some (eJ (zJ c)), none, some (eI (8)), some (eR 15), some (eI (2)), some (eI (v16)), some (eI (3))]) (s2 := [eI (3), eI (2), eR 15, eI (s), eI (v16)]) rfl rfl rfl ?_
  refine w_t (np := 54) (l2 := [some (eJ (zJ c)), none, some (eI (8)), some (eR 15), some (eI (2)), some (eI (v16)), some (eI (3))]) (s2 := [eI (5), eR 15, eI (s), eI (v16)]) rfl (b_iadd rfl) rfl ?_
  refine w_al (np := 55) (v := 0) rfl rfl (s_al (j := 5) (by decide) (by decide) (by decide) rfl rfl (by decide) (by decide) rfl) ?_
  obtain ⟨v19, e20⟩ : ∃ zz : Int, zz = (s) * (0) := ⟨_, rfl⟩
  have b21 : 0 ≤ v19 ∧ v19 ≤ 0 := by omega
  refine w_t (np := 56) (l2 := [some (eJ (zJ c)), none, some (eI (8)), some (eR 15), some (eI (2)), some (eI (v16)), some (eI (3))]) (s2 := [eI (v19), eI (v16)]) rfl (b_imul (by rw [← e20]; exact ev_w_in (by omega) (by omega))) rfl ?_
  obtain ⟨v22, e23⟩ : ∃ zz : Int, zz = (v16) + (v19) := ⟨_, rfl⟩
  have b24 : -20020 ≤ v22 ∧ v22 ≤ 20020 := by omega
  refine w_t (np := 57) (l2 := [some (eJ (zJ c)), none, some (eI (8)), some (eR 15), some (eI (2)), some (eI (v16)), some (eI (3))]) (s2 := [eI (v22)]) rfl (b_iadd (by rw [← e23]; exact ev_w_in (by omega) (by omega))) rfl ?_
  refine w_t (np := 59) (l2 := [some (eJ (zJ c)), none, some (eI (8)), some (eR 15), some (eI (2)), some (eI (v22)), some (eI (3))]) (s2 := []) rfl rfl rfl ?_
  refine w_t (np := 62) (l2 := [some (eJ (zJ c)), none, some (eI (8)), some (eR 15), some (eI (2)), some (eI (v22)), some (eI (4))]) (s2 := []) rfl (b_iinc rfl rfl rfl) rfl ?_
  refine w_go (t1 := 18) rfl rfl ?_
  refine w_t (np := 20) (l2 := [some (eJ (zJ c)), none, some (eI (8)), some (eR 15), some (eI (2)), some (eI (v22)), some (eI (4))]) (s2 := [eI (4)]) rfl rfl rfl ?_
  refine w_t (np := 21) (l2 := [some (eJ (zJ c)), none, some (eI (8)), some (eR 15), some (eI (2)), some (eI (v22)), some (eI (4))]) (s2 := [eI (4), eI (4)]) rfl rfl rfl ?_
  refine b_cge (t1 := 65) (t2 := 24) rfl rfl rfl rfl rfl (fun g => ?_) (fun g => absurd g (by decide))
  clear g
  refine w_t (np := 67) (l2 := [some (eJ (zJ c)), none, some (eI (8)), some (eR 15), some (eI (2)), some (eI (v22)), some (eI (4))]) (s2 := [eI (v22)]) rfl rfl rfl ?_
  refine b_ri rfl rfl ?_
  have e9 : v22 = 1 * p + 1 * q := by omega
  rw [e9]
  exact K
theorem t80_15_9 {L : Nat} {ρ : Nat → Int} {rc rs d : Nat} {f : eFr} {F : List eFr} {μ : eM} {c : Nat} {p q r s : Int} (l0 : zI (z_i2s (z_l2i (z_lshr c 48))) = p) (l1 : zI (z_i2s (z_l2i (z_lshr c 32))) = q) (l2 : zI (z_i2s (z_l2i (z_lshr c 16))) = r) (l3 : zI (z_i2s (z_l2i (z_lshr c 0))) = s) (hp : -10010 ≤ p ∧ p ≤ 10010) (hq : -10010 ≤ q ∧ q ≤ 10010) (hr : -10010 ≤ r ∧ r ≤ 10010) (hs : -10010 ≤ s ∧ s ≤ 10010) (K : ex_fine (dt_fg L ρ) rc rs (d + 1, (f.1, f.2.1, f.2.2.1, eI (1 * q + 1 * r) :: f.2.2.2), F, μ)) : ex_fine (dt_fg L ρ) rc rs (d, (80, 0, [some (eJ (zJ c)), none, some (eI (9)), some (eR 15), none, none, none], []), f :: F, μ) := by
  refine w_t (np := 2) (l2 := [some (eJ (zJ c)), none, some (eI (9)), some (eR 15), none, none, none]) (s2 := [eI (10)]) rfl rfl rfl ?_
  refine w_t (np := 3) (l2 := [some (eJ (zJ c)), none, some (eI (9)), some (eR 15), none, none, none]) (s2 := [eI (9), eI (10)]) rfl rfl rfl ?_
  refine w_t (np := 5) (l2 := [some (eJ (zJ c)), none, some (eI (9)), some (eR 15), none, none, none]) (s2 := [eI (10), eI (9), eI (10)]) rfl rfl rfl ?_
  refine w_t (np := 6) (l2 := [some (eJ (zJ c)), none, some (eI (9)), some (eR 15), none, none, none]) (s2 := [eI (9), eI (10)]) rfl rfl rfl ?_
  refine w_t (np := 7) (l2 := [some (eJ (zJ c)), none, some (eI (9)), some (eR 15), none, none, none]) (s2 := [eI (1)]) rfl (b_isub rfl) rfl ?_
  refine w_t (np := 9) (l2 := [some (eJ (zJ c)), none, some (eI (9)), some (eR 15), none, none, none]) (s2 := [eI (10), eI (1)]) rfl rfl rfl ?_
  refine w_t (np := 10) (l2 := [some (eJ (zJ c)), none, some (eI (9)), some (eR 15), none, none, none]) (s2 := [eI (1)]) rfl rfl rfl ?_
  refine w_t (np := 12) (l2 := [some (eJ (zJ c)), none, some (eI (9)), some (eR 15), some (eI (1)), none, none]) (s2 := []) rfl rfl rfl ?_
  refine w_t (np := 13) (l2 := [some (eJ (zJ c)), none, some (eI (9)), some (eR 15), some (eI (1)), none, none]) (s2 := [eI (0)]) rfl rfl rfl ?_
  refine w_t (np := 15) (l2 := [some (eJ (zJ c)), none, some (eI (9)), some (eR 15), some (eI (1)), some (eI (0)), none]) (s2 := []) rfl rfl rfl ?_
  refine w_t (np := 16) (l2 := [some (eJ (zJ c)), none, some (eI (9)), some (eR 15), some (eI (1)), some (eI (0)), none]) (s2 := [eI (0)]) rfl rfl rfl ?_
  refine w_t (np := 18) (l2 := [some (eJ (zJ c)), none, some (eI (9)), some (eR 15), some (eI (1)), some (eI (0)), some (eI (0))]) (s2 := []) rfl rfl rfl ?_
  refine w_t (np := 20) (l2 := [some (eJ (zJ c)), none, some (eI (9)), some (eR 15), some (eI (1)), some (eI (0)), some (eI (0))]) (s2 := [eI (0)]) rfl rfl rfl ?_
  refine w_t (np := 21) (l2 := [some (eJ (zJ c)), none, some (eI (9)), some (eR 15), some (eI (1)), some (eI (0)), some (eI (0))]) (s2 := [eI (4), eI (0)]) rfl rfl rfl ?_
  refine b_cge (t1 := 65) (t2 := 24) rfl rfl rfl rfl rfl (fun g => absurd g (by decide)) (fun g => ?_)
  clear g
  refine w_t (np := 26) (l2 := [some (eJ (zJ c)), none, some (eI (9)), some (eR 15), some (eI (1)), some (eI (0)), some (eI (0))]) (s2 := [eI (1)]) rfl rfl rfl ?_
  refine w_t (np := 28) (l2 := [some (eJ (zJ c)), none, some (eI (9)), some (eR 15), some (eI (1)), some (eI (0)), some (eI (0))]) (s2 := [eI (0), eI (1)]) rfl rfl rfl ?_
  refine w_t (np := 29) (l2 := [some (eJ (zJ c)), none, some (eI (9)), some (eR 15), some (eI (1)), some (eI (0)), some (eI (0))]) (s2 := [eI (1)]) rfl (b_iadd rfl) rfl ?_
  refine w_t (np := 30) (l2 := [some (eJ (zJ c)), none, some (eI (9)), some (eR 15), some (eI (1)), some (eI (0)), some (eI (0))]) (s2 := [eR 15, eI (1)]) rfl (s_an rfl (by decide)) rfl ?_
  refine v_ln (np := 31) (v := 13) (n := 13) rfl rfl ⟨rfl, zI_lit (by decide)⟩ ?_
  rw [show zI 13 = 13 by decide]
  refine b_cge (t1 := 65) (t2 := 34) rfl rfl rfl rfl rfl (fun g => absurd g (by decide)) (fun g => ?_)
  clear g
  refine w_t (np := 36) (l2 := [some (eJ (zJ c)), none, some (eI (9)), some (eR 15), some (eI (1)), some (eI (0)), some (eI (0))]) (s2 := [eI (0)]) rfl rfl rfl ?_
  refine w_t (np := 37) (l2 := [some (eJ (zJ c)), none, some (eI (9)), some (eR 15), some (eI (1)), some (eI (0)), some (eI (0))]) (s2 := [eJ (zJ c), eI (0)]) rfl rfl rfl ?_
  refine w_t (np := 39) (l2 := [some (eJ (zJ c)), none, some (eI (9)), some (eR 15), some (eI (1)), some (eI (0)), some (eI (0))]) (s2 := [eI (48), eJ (zJ c), eI (0)]) rfl rfl rfl ?_
  refine w_t (np := 41) (l2 := [some (eJ (zJ c)), none, some (eI (9)), some (eR 15), some (eI (1)), some (eI (0)), some (eI (0))]) (s2 := [eI (16), eI (48), eJ (zJ c), eI (0)]) rfl rfl rfl ?_
  refine w_t (np := 43) (l2 := [some (eJ (zJ c)), none, some (eI (9)), some (eR 15), some (eI (1)), some (eI (0)), some (eI (0))]) (s2 := [eI (0), eI (16), eI (48), eJ (zJ c), eI (0)]) rfl rfl rfl ?_
  refine w_t (np := 44) (l2 := [some (eJ (zJ c)), none, some (eI (9)), some (eR 15), some (eI (1)), some (eI (0)), some (eI (0))]) (s2 := [eI (0), eI (48), eJ (zJ c), eI (0)]) rfl (b_imul rfl) rfl ?_
  refine w_t (np := 45) (l2 := [some (eJ (zJ c)), none, some (eI (9)), some (eR 15), some (eI (1)), some (eI (0)), some (eI (0))]) (s2 := [eI (48), eJ (zJ c), eI (0)]) rfl (b_isub rfl) rfl ?_
  refine w_lane (np := 48) (k := 48) (v := p) rfl rfl rfl rfl (by decide) rfl l0 ?_
  refine w_t (np := 49) (l2 := [some (eJ (zJ c)), none, some (eI (9)), some (eR 15), some (eI (1)), some (eI (0)), some (eI (0))]) (s2 := [eR 15, eI (p), eI (0)]) rfl (s_an rfl (by decide)) rfl ?_
  refine w_t (np := 51) (l2 := [some (eJ (zJ c)), none, some (eI (9)), some (eR 15), some (eI (1)), some (eI (0)), some (eI (0))]) (s2 := [eI (1), eR 15, eI (p), eI (0)]) rfl rfl rfl ?_
  refine w_t (np := 53) (l2 := [some (eJ (zJ c)), none, some (eI (9)), some (eR 15), some (eI (1)), some (eI (0)), some (eI (0))]) (s2 := [eI (0), eI (1), eR 15, eI (p), eI (0)]) rfl rfl rfl ?_
  refine w_t (np := 54) (l2 := [some (eJ (zJ c)), none, some (eI (9)), some (eR 15), some (eI (1)), some (eI (0)), some (eI (0))]) (s2 := [eI (1), eR 15, eI (p), eI (0)]) rfl (b_iadd rfl) rfl ?_
  refine w_al (np := 55) (v := 0) rfl rfl (s_al (j := 1) (by decide) (by decide) (by decide) rfl rfl (by decide) (by decide) rfl) ?_
  obtain ⟨v1, e2⟩ : ∃ zz : Int, zz = (p) * (0) := ⟨_, rfl⟩
  have b3 : 0 ≤ v1 ∧ v1 ≤ 0 := by omega
  refine w_t (np := 56) (l2 := [some (eJ (zJ c)), none, some (eI (9)), some (eR 15), some (eI (1)), some (eI (0)), some (eI (0))]) (s2 := [eI (v1), eI (0)]) rfl (b_imul (by rw [← e2]; exact ev_w_in (by omega) (by omega))) rfl ?_
  obtain ⟨v4, e5⟩ : ∃ zz : Int, zz = (0) + (v1) := ⟨_, rfl⟩
  have b6 : 0 ≤ v4 ∧ v4 ≤ 0 := by omega
  refine w_t (np := 57) (l2 := [some (eJ (zJ c)), none, some (eI (9)), some (eR 15), some (eI (1)), some (eI (0)), some (eI (0))]) (s2 := [eI (v4)]) rfl (b_iadd (by rw [← e5]; exact ev_w_in (by omega) (by omega))) rfl ?_
  refine w_t (np := 59) (l2 := [some (eJ (zJ c)), none, some (eI (9)), some (eR 15), some (eI (1)), some (eI (v4)), some (eI (0))]) (s2 := []) rfl rfl rfl ?_
  refine w_t (np := 62) (l2 := [some (eJ (zJ c)), none, some (eI (9)), some (eR 15), some (eI (1)), some (eI (v4)), some (eI (1))]) (s2 := []) rfl (b_iinc rfl rfl rfl) rfl ?_
  refine w_go (t1 := 18) rfl rfl ?_
  refine w_t (np := 20) (l2 := [some (eJ (zJ c)), none, some (eI (9)), some (eR 15), some (eI (1)), some (eI (v4)), some (eI (1))]) (s2 := [eI (1)]) rfl rfl rfl ?_
  refine w_t (np := 21) (l2 := [some (eJ (zJ c)), none, some (eI (9)), some (eR 15), some (eI (1)), some (eI (v4)), some (eI (1))]) (s2 := [eI (4), eI (1)]) rfl rfl rfl ?_
  refine b_cge (t1 := 65) (t2 := 24) rfl rfl rfl rfl rfl (fun g => absurd g (by decide)) (fun g => ?_)
  clear g
  refine w_t (np := 26) (l2 := [some (eJ (zJ c)), none, some (eI (9)), some (eR 15), some (eI (1)), some (eI (v4)), some (eI (1))]) (s2 := [eI (1)]) rfl rfl rfl ?_
  refine w_t (np := 28) (l2 := [some (eJ (zJ c)), none, some (eI (9)), some (eR 15), some (eI (1)), some (eI (v4)), some (eI (1))]) (s2 := [eI (1), eI (1)]) rfl rfl rfl ?_
  refine w_t (np := 29) (l2 := [some (eJ (zJ c)), none, some (eI (9)), some (eR 15), some (eI (1)), some (eI (v4)), some (eI (1))]) (s2 := [eI (2)]) rfl (b_iadd rfl) rfl ?_
  refine w_t (np := 30) (l2 := [some (eJ (zJ c)), none, some (eI (9)), some (eR 15), some (eI (1)), some (eI (v4)), some (eI (1))]) (s2 := [eR 15, eI (2)]) rfl (s_an rfl (by decide)) rfl ?_
  refine v_ln (np := 31) (v := 13) (n := 13) rfl rfl ⟨rfl, zI_lit (by decide)⟩ ?_
  rw [show zI 13 = 13 by decide]
  refine b_cge (t1 := 65) (t2 := 34) rfl rfl rfl rfl rfl (fun g => absurd g (by decide)) (fun g => ?_)
  clear g
  refine w_t (np := 36) (l2 := [some (eJ (zJ c)), none, some (eI (9)), some (eR 15), some (eI (1)), some (eI (v4)), some (eI (1))]) (s2 := [eI (v4)]) rfl rfl rfl ?_
  refine w_t (np := 37) (l2 := [some (eJ (zJ c)), none, some (eI (9)), some (eR 15), some (eI (1)), some (eI (v4)), some (eI (1))]) (s2 := [eJ (zJ c), eI (v4)]) rfl rfl rfl ?_
  refine w_t (np := 39) (l2 := [some (eJ (zJ c)), none, some (eI (9)), some (eR 15), some (eI (1)), some (eI (v4)), some (eI (1))]) (s2 := [eI (48), eJ (zJ c), eI (v4)]) rfl rfl rfl ?_
  refine w_t (np := 41) (l2 := [some (eJ (zJ c)), none, some (eI (9)), some (eR 15), some (eI (1)), some (eI (v4)), some (eI (1))]) (s2 := [eI (16), eI (48), eJ (zJ c), eI (v4)]) rfl rfl rfl ?_
  refine w_t (np := 43) (l2 := [some (eJ (zJ c)), none, some (eI (9)), some (eR 15), some (eI (1)), some (eI (v4)), some (eI (1))]) (s2 := [eI (1), eI (16), eI (48), eJ (zJ c), eI (v4)]) rfl rfl rfl ?_
  refine w_t (np := 44) (l2 := [some (eJ (zJ c)), none, some (eI (9)), some (eR 15), some (eI (1)), some (eI (v4)), some (eI (1))]) (s2 := [eI (16), eI (48), eJ (zJ c), eI (v4)]) rfl (b_imul rfl) rfl ?_
  refine w_t (np := 45) (l2 := [some (eJ (zJ c)), none, some (eI (9)), some (eR 15), some (eI (1)), some (eI (v4)), some (eI (1))]) (s2 := [eI (32), eJ (zJ c), eI (v4)]) rfl (b_isub rfl) rfl ?_
  refine w_lane (np := 48) (k := 32) (v := q) rfl rfl rfl rfl (by decide) rfl l1 ?_
  refine w_t (np := 49) (l2 := [some (eJ (zJ c)), none, some (eI (9)), some (eR 15), some (eI (1)), some (eI (v4)), some (eI (1))]) (s2 := [eR 15, eI (q), eI (v4)]) rfl (s_an rfl (by decide)) rfl ?_
  refine w_t (np := 51) (l2 := [some (eJ (zJ c)), none, some (eI (9)), some (eR 15), some (eI (1)), some (eI (v4)), some (eI (1))]) (s2 := [eI (1), eR 15, eI (q), eI (v4)]) rfl rfl rfl ?_
  refine w_t (np := 53) (l2 := [some (eJ (zJ c)), none, some (eI (9)), some (eR 15), some (eI (1)), some (eI (v4)), some (eI (1))]) (s2 := [eI (1), eI (1), eR 15, eI (q), eI (v4)]) rfl rfl rfl ?_
  refine w_t (np := 54) (l2 := [some (eJ (zJ c)), none, some (eI (9)), some (eR 15), some (eI (1)), some (eI (v4)), some (eI (1))]) (s2 := [eI (2), eR 15, eI (q), eI (v4)]) rfl (b_iadd rfl) rfl ?_
  refine w_al (np := 55) (v := 1) rfl rfl (s_al (j := 2) (by decide) (by decide) (by decide) rfl rfl (by decide) (by decide) rfl) ?_
  obtain ⟨v7, e8⟩ : ∃ zz : Int, zz = (q) * (1) := ⟨_, rfl⟩
  have b9 : -10010 ≤ v7 ∧ v7 ≤ 10010 := by omega
  refine w_t (np := 56) (l2 := [some (eJ (zJ c)), none, some (eI (9)), some (eR 15), some (eI (1)), some (eI (v4)), some (eI (1))]) (s2 := [eI (v7), eI (v4)]) rfl (b_imul (by rw [← e8]; exact ev_w_in (by omega) (by omega))) rfl ?_
  obtain ⟨v10, e11⟩ : ∃ zz : Int, zz = (v4) + (v7) := ⟨_, rfl⟩
  have b12 : -10010 ≤ v10 ∧ v10 ≤ 10010 := by omega
  refine w_t (np := 57) (l2 := [some (eJ (zJ c)), none, some (eI (9)), some (eR 15), some (eI (1)), some (eI (v4)), some (eI (1))]) (s2 := [eI (v10)]) rfl (b_iadd (by rw [← e11]; exact ev_w_in (by omega) (by omega))) rfl ?_
  refine w_t (np := 59) (l2 := [some (eJ (zJ c)), none, some (eI (9)), some (eR 15), some (eI (1)), some (eI (v10)), some (eI (1))]) (s2 := []) rfl rfl rfl ?_
  refine w_t (np := 62) (l2 := [some (eJ (zJ c)), none, some (eI (9)), some (eR 15), some (eI (1)), some (eI (v10)), some (eI (2))]) (s2 := []) rfl (b_iinc rfl rfl rfl) rfl ?_
  refine w_go (t1 := 18) rfl rfl ?_
  refine w_t (np := 20) (l2 := [some (eJ (zJ c)), none, some (eI (9)), some (eR 15), some (eI (1)), some (eI (v10)), some (eI (2))]) (s2 := [eI (2)]) rfl rfl rfl ?_
  refine w_t (np := 21) (l2 := [some (eJ (zJ c)), none, some (eI (9)), some (eR 15), some (eI (1)), some (eI (v10)), some (eI (2))]) (s2 := [eI (4), eI (2)]) rfl rfl rfl ?_
  refine b_cge (t1 := 65) (t2 := 24) rfl rfl rfl rfl rfl (fun g => absurd g (by decide)) (fun g => ?_)
  clear g
  refine w_t (np := 26) (l2 := [some (eJ (zJ c)), none, some (eI (9)), some (eR 15), some (eI (1)), some (eI (v10)), some (eI (2))]) (s2 := [eI (1)]) rfl rfl rfl ?_
  refine w_t (np := 28) (l2 := [some (eJ (zJ c)), none, some (eI (9)), some (eR 15), some (eI (1)), some (eI (v10)), some (eI (2))]) (s2 := [eI (2), eI (1)]) rfl rfl rfl ?_
  refine w_t (np := 29) (l2 := [some (eJ (zJ c)), none, some (eI (9)), some (eR 15), some (eI (1)), some (eI (v10)), some (eI (2))]) (s2 := [eI (3)]) rfl (b_iadd rfl) rfl ?_
  refine w_t (np := 30) (l2 := [some (eJ (zJ c)), none, some (eI (9)), some (eR 15), some (eI (1)), some (eI (v10)), some (eI (2))]) (s2 := [eR 15, eI (3)]) rfl (s_an rfl (by decide)) rfl ?_
  refine v_ln (np := 31) (v := 13) (n := 13) rfl rfl ⟨rfl, zI_lit (by decide)⟩ ?_
  rw [show zI 13 = 13 by decide]
  refine b_cge (t1 := 65) (t2 := 34) rfl rfl rfl rfl rfl (fun g => absurd g (by decide)) (fun g => ?_)
  clear g
  refine w_t (np := 36) (l2 := [some (eJ (zJ c)), none, some (eI (9)), some (eR 15), some (eI (1)), some (eI (v10)), some (eI (2))]) (s2 := [eI (v10)]) rfl rfl rfl ?_
  refine w_t (np := 37) (l2 := [some (eJ (zJ c)), none, some (eI (9)), some (eR 15), some (eI (1)), some (eI (v10)), some (eI (2))]) (s2 := [eJ (zJ c), eI (v10)]) rfl rfl rfl ?_
  refine w_t (np := 39) (l2 := [some (eJ (zJ c)), none, some (eI (9)), some (eR 15), some (eI (1)), some (eI (v10)), some (eI (2))]) (s2 := [eI (48), eJ (zJ c), eI (v10)]) rfl rfl rfl ?_
  refine w_t (np := 41) (l2 := [some (eJ (zJ c)), none, some (eI (9)), some (eR 15), some (eI (1)), some (eI (v10)), some (eI (2))]) (s2 := [eI (16), eI (48), eJ (zJ c), eI (v10)]) rfl rfl rfl ?_
  refine w_t (np := 43) (l2 := [some (eJ (zJ c)), none, some (eI (9)), some (eR 15), some (eI (1)), some (eI (v10)), some (eI (2))]) (s2 := [eI (2), eI (16), eI (48), eJ (zJ c), eI (v10)]) rfl rfl rfl ?_
  refine w_t (np := 44) (l2 := [some (eJ (zJ c)), none, some (eI (9)), some (eR 15), some (eI (1)), some (eI (v10)), some (eI (2))]) (s2 := [eI (32), eI (48), eJ (zJ c), eI (v10)]) rfl (b_imul rfl) rfl ?_
  refine w_t (np := 45) (l2 := [some (eJ (zJ c)), none, some (eI (9)), some (eR 15), some (eI (1)), some (eI (v10)), some (eI (2))]) (s2 := [eI (16), eJ (zJ c), eI (v10)]) rfl (b_isub rfl) rfl ?_
  refine w_lane (np := 48) (k := 16) (v := r) rfl rfl rfl rfl (by decide) rfl l2 ?_
  refine w_t (np := 49) (l2 := [some (eJ (zJ c)), none, some (eI (9)), some (eR 15), some (eI (1)), some (eI (v10)), some (eI (2))]) (s2 := [eR 15, eI (r), eI (v10)]) rfl (s_an rfl (by decide)) rfl ?_
  refine w_t (np := 51) (l2 := [some (eJ (zJ c)), none, some (eI (9)), some (eR 15), some (eI (1)), some (eI (v10)), some (eI (2))]) (s2 := [eI (1), eR 15, eI (r), eI (v10)]) rfl rfl rfl ?_
  refine w_t (np := 53) (l2 := [some (eJ (zJ c)), none, some (eI (9)), some (eR 15), some (eI (1)), some (eI (v10)), some (eI (2))]) (s2 := [eI (2), eI (1), eR 15, eI (r), eI (v10)]) rfl rfl rfl ?_
  refine w_t (np := 54) (l2 := [some (eJ (zJ c)), none, some (eI (9)), some (eR 15), some (eI (1)), some (eI (v10)), some (eI (2))]) (s2 := [eI (3), eR 15, eI (r), eI (v10)]) rfl (b_iadd rfl) rfl ?_
  refine w_al (np := 55) (v := 1) rfl rfl (s_al (j := 3) (by decide) (by decide) (by decide) rfl rfl (by decide) (by decide) rfl) ?_
  obtain ⟨v13, e14⟩ : ∃ zz : Int, zz = (r) * (1) := ⟨_, rfl⟩
  have b15 : -10010 ≤ v13 ∧ v13 ≤ 10010 := by omega
  refine w_t (np := 56) (l2 := [some (eJ (zJ c)), none, some (eI (9)), some (eR 15), some (eI (1)), some (eI (v10)), some (eI (2))]) (s2 := [eI (v13), eI (v10)]) rfl (b_imul (by rw [← e14]; exact ev_w_in (by omega) (by omega))) rfl ?_
  obtain ⟨v16, e17⟩ : ∃ zz : Int, zz = (v10) + (v13) := ⟨_, rfl⟩
  have b18 : -20020 ≤ v16 ∧ v16 ≤ 20020 := by omega
  refine w_t (np := 57) (l2 := [some (eJ (zJ c)), none, some (eI (9)), some (eR 15), some (eI (1)), some (eI (v10)), some (eI (2))]) (s2 := [eI (v16)]) rfl (b_iadd (by rw [← e17]; exact ev_w_in (by omega) (by omega))) rfl ?_
  refine w_t (np := 59) (l2 := [some (eJ (zJ c)), none, some (eI (9)), some (eR 15), some (eI (1)), some (eI (v16)), some (eI (2))]) (s2 := []) rfl rfl rfl ?_
  refine w_t (np := 62) (l2 := [some (eJ (zJ c)), none, some (eI (9)), some (eR 15), some (eI (1)), some (eI (v16)), some (eI (3))]) (s2 := []) rfl (b_iinc rfl rfl rfl) rfl ?_
  refine w_go (t1 := 18) rfl rfl ?_
  refine w_t (np := 20) (l2 := [some (eJ (zJ c)), none, some (eI (9)), some (eR 15), some (eI (1)), some (eI (v16)), some (eI (3))]) (s2 := [eI (3)]) rfl rfl rfl ?_
  refine w_t (np := 21) (l2 := [some (eJ (zJ c)), none, some (eI (9)), some (eR 15), some (eI (1)), some (eI (v16)), some (eI (3))]) (s2 := [eI (4), eI (3)]) rfl rfl rfl ?_
  refine b_cge (t1 := 65) (t2 := 24) rfl rfl rfl rfl rfl (fun g => absurd g (by decide)) (fun g => ?_)
  clear g
  refine w_t (np := 26) (l2 := [some (eJ (zJ c)), none, some (eI (9)), some (eR 15), some (eI (1)), some (eI (v16)), some (eI (3))]) (s2 := [eI (1)]) rfl rfl rfl ?_
  refine w_t (np := 28) (l2 := [some (eJ (zJ c)), none, some (eI (9)), some (eR 15), some (eI (1)), some (eI (v16)), some (eI (3))]) (s2 := [eI (3), eI (1)]) rfl rfl rfl ?_
  refine w_t (np := 29) (l2 := [some (eJ (zJ c)), none, some (eI (9)), some (eR 15), some (eI (1)), some (eI (v16)), some (eI (3))]) (s2 := [eI (4)]) rfl (b_iadd rfl) rfl ?_
  refine w_t (np := 30) (l2 := [some (eJ (zJ c)), none, some (eI (9)), some (eR 15), some (eI (1)), some (eI (v16)), some (eI (3))]) (s2 := [eR 15, eI (4)]) rfl (s_an rfl (by decide)) rfl ?_
  refine v_ln (np := 31) (v := 13) (n := 13) rfl rfl ⟨rfl, zI_lit (by decide)⟩ ?_
  rw [show zI 13 = 13 by decide]
  refine b_cge (t1 := 65) (t2 := 34) rfl rfl rfl rfl rfl (fun g => absurd g (by decide)) (fun g => ?_)
  clear g
  refine w_t (np := 36) (l2 := [some (eJ (zJ c)), none, some (eI (9)), some (eR 15), some (eI (1)), some (eI (v16)), some (eI (3))]) (s2 := [eI (v16)]) rfl rfl rfl ?_
  refine w_t (np := 37) (l2 := [some (eJ (zJ c)), none, some (eI (9)), some (eR 15), some (eI (1)), some (eI (v16)), some (eI (3))]) (s2 := [eJ (zJ c), eI (v16)]) rfl rfl rfl ?_
  refine w_t (np := 39) (l2 := [some (eJ (zJ c)), none, some (eI (9)), some (eR 15), some (eI (1)), some (eI (v16)), some (eI (3))]) (s2 := [eI (48), eJ (zJ c), eI (v16)]) rfl rfl rfl ?_
  refine w_t (np := 41) (l2 := [some (eJ (zJ c)), none, some (eI (9)), some (eR 15), some (eI (1)), some (eI (v16)), some (eI (3))]) (s2 := [eI (16), eI (48), eJ (zJ c), eI (v16)]) rfl rfl rfl ?_
  refine w_t (np := 43) (l2 := [some (eJ (zJ c)), none, some (eI (9)), some (eR 15), some (eI (1)), some (eI (v16)), some (eI (3))]) (s2 := [eI (3), eI (16), eI (48), eJ (zJ c), eI (v16)]) rfl rfl rfl ?_
  refine w_t (np := 44) (l2 := [some (eJ (zJ c)), none, some (eI (9)), some (eR 15), some (eI (1)), some (eI (v16)), some (eI (3))]) (s2 := [eI (48), eI (48), eJ (zJ c), eI (v16)]) rfl (b_imul rfl) rfl ?_
  refine w_t (np := 45) (l2 := [some (eJ (zJ c)), none, some (eI (9)), some (eR 15), some (eI (1)), some (eI (v16)), some (eI (3))]) (s2 := [eI (0), eJ (zJ c), eI (v16)]) rfl (b_isub rfl) rfl ?_
  refine w_lane (np := 48) (k := 0) (v := s) rfl rfl rfl rfl (by decide) rfl l3 ?_
  refine w_t (np := 49) (l2 := [some (eJ (zJ c)), none, some (eI (9)), some (eR 15), some (eI (1)), some (eI (v16)), some (eI (3))]) (s2 := [eR 15, eI (s), eI (v16)]) rfl (s_an rfl (by decide)) rfl ?_
  refine w_t (np := 51) (l2 := [some (eJ (zJ c)), none, some (eI (9)), some (eR 15), some (eI (1)), some (eI (v16)), some (eI (3))]) (s2 := [eI (1), eR 15, eI (s), eI (v16)]) rfl rfl rfl ?_
  refine w_t (np := 53) (l2 := [some (eJ (zJ c)), none, some (eI (9)), some (eR 15), some (eI (1)), some (eI (v16)), some (eI (3))]) (s2 := [eI (3), eI (1), eR 15, eI (s), eI (v16)]) rfl rfl rfl ?_
  refine w_t (np := 54) (l2 := [some (eJ (zJ c)), none, some (eI (9)), some (eR 15), some (eI (1)), some (eI (v16)), some (eI (3))]) (s2 := [eI (4), eR 15, eI (s), eI (v16)]) rfl (b_iadd rfl) rfl ?_
  refine w_al (np := 55) (v := 0) rfl rfl (s_al (j := 4) (by decide) (by decide) (by decide) rfl rfl (by decide) (by decide) rfl) ?_
  obtain ⟨v19, e20⟩ : ∃ zz : Int, zz = (s) * (0) := ⟨_, rfl⟩
  have b21 : 0 ≤ v19 ∧ v19 ≤ 0 := by omega
  refine w_t (np := 56) (l2 := [some (eJ (zJ c)), none, some (eI (9)), some (eR 15), some (eI (1)), some (eI (v16)), some (eI (3))]) (s2 := [eI (v19), eI (v16)]) rfl (b_imul (by rw [← e20]; exact ev_w_in (by omega) (by omega))) rfl ?_
  obtain ⟨v22, e23⟩ : ∃ zz : Int, zz = (v16) + (v19) := ⟨_, rfl⟩
  have b24 : -20020 ≤ v22 ∧ v22 ≤ 20020 := by omega
  refine w_t (np := 57) (l2 := [some (eJ (zJ c)), none, some (eI (9)), some (eR 15), some (eI (1)), some (eI (v16)), some (eI (3))]) (s2 := [eI (v22)]) rfl (b_iadd (by rw [← e23]; exact ev_w_in (by omega) (by omega))) rfl ?_
  refine w_t (np := 59) (l2 := [some (eJ (zJ c)), none, some (eI (9)), some (eR 15), some (eI (1)), some (eI (v22)), some (eI (3))]) (s2 := []) rfl rfl rfl ?_
  refine w_t (np := 62) (l2 := [some (eJ (zJ c)), none, some (eI (9)), some (eR 15), some (eI (1)), some (eI (v22)), some (eI (4))]) (s2 := []) rfl (b_iinc rfl rfl rfl) rfl ?_
  refine w_go (t1 := 18) rfl rfl ?_
  refine w_t (np := 20) (l2 := [some (eJ (zJ c)), none, some (eI (9)), some (eR 15), some (eI (1)), some (eI (v22)), some (eI (4))]) (s2 := [eI (4)]) rfl rfl rfl ?_
  refine w_t (np := 21) (l2 := [some (eJ (zJ c)), none, some (eI (9)), some (eR 15), some (eI (1)), some (eI (v22)), some (eI (4))]) (s2 := [eI (4), eI (4)]) rfl rfl rfl ?_
  refine b_cge (t1 := 65) (t2 := 24) rfl rfl rfl rfl rfl (fun g => ?_) (fun g => absurd g (by decide))
  clear g
  refine w_t (np := 67) (l2 := [some (eJ (zJ c)), none, some (eI (9)), some (eR 15), some (eI (1)), some (eI (v22)), some (eI (4))]) (s2 := [eI (v22)]) rfl rfl rfl ?_
  refine b_ri rfl rfl ?_
  have e9 : v22 = 1 * q + 1 * r := by omega
  rw [e9]
  exact K
theorem t85 {fg : eG} {rc rs d : Nat} {f : eFr} {F : List eFr} {μ : eM} {a b : Int} (ha : -50000000 ≤ a ∧ a ≤ 50000000) (hb : -50000000 ≤ b ∧ b ≤ 50000000) (K : ex_fine fg rc rs (d + 1, (f.1, f.2.1, f.2.2.1, eI (cSg (2 * a + b) b) :: f.2.2.2), F, μ)) : ex_fine fg rc rs (d, (85, 0, [some (eI (a)), some (eI (b)), none, none, none, none, none], []), f :: F, μ) := by
  refine v_l2 (np := 3) (c := 2) rfl rfl (by decide) ?_
  rw [show zJ 2 = 2 by decide]
  refine w_t (np := 4) (l2 := [some (eI (a)), some (eI (b)), none, none, none, none, none]) (s2 := [eI (a), eJ (2)]) rfl rfl rfl ?_
  refine w_t (np := 5) (l2 := [some (eI (a)), some (eI (b)), none, none, none, none, none]) (s2 := [eJ (a), eJ (2)]) rfl (b_i2l (ev_w_in (by omega) (by omega))) rfl ?_
  obtain ⟨v1, e2⟩ : ∃ zz : Int, zz = (2) * (a) := ⟨_, rfl⟩
  have b3 : -100000000 ≤ v1 ∧ v1 ≤ 100000000 := by omega
  refine w_t (np := 6) (l2 := [some (eI (a)), some (eI (b)), none, none, none, none, none]) (s2 := [eJ (v1)]) rfl (b_lmul (by rw [← e2]; exact ev_W_in (by omega) (by omega))) rfl ?_
  refine w_t (np := 7) (l2 := [some (eI (a)), some (eI (b)), none, none, none, none, none]) (s2 := [eI (b), eJ (v1)]) rfl rfl rfl ?_
  refine w_t (np := 8) (l2 := [some (eI (a)), some (eI (b)), none, none, none, none, none]) (s2 := [eJ (b), eJ (v1)]) rfl (b_i2l (ev_w_in (by omega) (by omega))) rfl ?_
  obtain ⟨v4, e5⟩ : ∃ zz : Int, zz = (v1) + (b) := ⟨_, rfl⟩
  have b6 : -150000000 ≤ v4 ∧ v4 ≤ 150000000 := by omega
  refine w_t (np := 9) (l2 := [some (eI (a)), some (eI (b)), none, none, none, none, none]) (s2 := [eJ (v4)]) rfl (b_ladd (by rw [← e5]; exact ev_W_in (by omega) (by omega))) rfl ?_
  refine w_t (np := 10) (l2 := [some (eI (a)), some (eI (b)), some (eJ (v4)), none, none, none, none]) (s2 := []) rfl rfl rfl ?_
  refine w_t (np := 11) (l2 := [some (eI (a)), some (eI (b)), some (eJ (v4)), none, none, none, none]) (s2 := [eI (b)]) rfl rfl rfl ?_
  refine w_t (np := 12) (l2 := [some (eI (a)), some (eI (b)), some (eJ (v4)), none, none, none, none]) (s2 := [eJ (b)]) rfl (b_i2l (ev_w_in (by omega) (by omega))) rfl ?_
  refine w_t (np := 14) (l2 := [some (eI (a)), some (eI (b)), some (eJ (v4)), none, some (eJ (b)), none, none]) (s2 := []) rfl rfl rfl ?_
  refine w_t (np := 15) (l2 := [some (eI (a)), some (eI (b)), some (eJ (v4)), none, some (eJ (b)), none, none]) (s2 := [eJ (v4)]) rfl rfl rfl ?_
  refine w_t (np := 16) (l2 := [some (eI (a)), some (eI (b)), some (eJ (v4)), none, some (eJ (b)), none, none]) (s2 := [eJ (0), eJ (v4)]) rfl rfl rfl ?_
  refine b_lne (t1 := 29) (t2 := 20) rfl rfl rfl rfl (ev_W_in (by omega) (by omega)) rfl (fun g7 => ?_) (fun g7 => ?_)
  · refine w_t (np := 30) (l2 := [some (eI (a)), some (eI (b)), some (eJ (v4)), none, some (eJ (b)), none, none]) (s2 := [eJ (v4)]) rfl rfl rfl ?_
    refine w_t (np := 31) (l2 := [some (eI (a)), some (eI (b)), some (eJ (v4)), none, some (eJ (b)), none, none]) (s2 := [eJ (0), eJ (v4)]) rfl rfl rfl ?_
    refine b_llt (t1 := 44) (t2 := 35) rfl rfl rfl rfl (ev_W_in (by omega) (by omega)) rfl (fun g8 => ?_) (fun g8 => ?_)
    · refine w_t (np := 45) (l2 := [some (eI (a)), some (eI (b)), some (eJ (v4)), none, some (eJ (b)), none, none]) (s2 := [eJ (v4)]) rfl rfl rfl ?_
      refine w_t (np := 46) (l2 := [some (eI (a)), some (eI (b)), some (eJ (v4)), none, some (eJ (b)), none, none]) (s2 := [eJ (0), eJ (v4)]) rfl rfl rfl ?_
      refine b_lgt (t1 := 59) (t2 := 50) rfl rfl rfl rfl (ev_W_in (by omega) (by omega)) rfl (fun g9 => ?_) (fun g9 => ?_)
      · refine w_t (np := 60) (l2 := [some (eI (a)), some (eI (b)), some (eJ (v4)), none, some (eJ (b)), none, none]) (s2 := [eJ (v4)]) rfl rfl rfl ?_
        refine w_t (np := 61) (l2 := [some (eI (a)), some (eI (b)), some (eJ (v4)), none, some (eJ (b)), none, none]) (s2 := [eJ (v4), eJ (v4)]) rfl rfl rfl ?_
        obtain ⟨v10, e11⟩ : ∃ zz : Int, zz = (v4) * (v4) := ⟨_, rfl⟩
        have b12 : -22500000000000000 ≤ v10 ∧ v10 ≤ 22500000000000000 := by
          have hm := i_mulb (a := v4) (b := v4) (A := 150000000) (B := 150000000) (by omega) (by omega)
          rw [e11]
          omega
        refine w_t (np := 62) (l2 := [some (eI (a)), some (eI (b)), some (eJ (v4)), none, some (eJ (b)), none, none]) (s2 := [eJ (v10)]) rfl (b_lmul (by rw [← e11]; exact ev_W_in (by omega) (by omega))) rfl ?_
        refine v_l2 (np := 65) (c := 5) rfl rfl (by decide) ?_
        rw [show zJ 5 = 5 by decide]
        refine w_t (np := 67) (l2 := [some (eI (a)), some (eI (b)), some (eJ (v4)), none, some (eJ (b)), none, none]) (s2 := [eJ (b), eJ (5), eJ (v10)]) rfl rfl rfl ?_
        obtain ⟨v13, e14⟩ : ∃ zz : Int, zz = (5) * (b) := ⟨_, rfl⟩
        have b15 : -250000000 ≤ v13 ∧ v13 ≤ 250000000 := by omega
        refine w_t (np := 68) (l2 := [some (eI (a)), some (eI (b)), some (eJ (v4)), none, some (eJ (b)), none, none]) (s2 := [eJ (v13), eJ (v10)]) rfl (b_lmul (by rw [← e14]; exact ev_W_in (by omega) (by omega))) rfl ?_
        refine w_t (np := 70) (l2 := [some (eI (a)), some (eI (b)), some (eJ (v4)), none, some (eJ (b)), none, none]) (s2 := [eJ (b), eJ (v13), eJ (v10)]) rfl rfl rfl ?_
        obtain ⟨v16, e17⟩ : ∃ zz : Int, zz = (v13) * (b) := ⟨_, rfl⟩
        have b18 : -12500000000000000 ≤ v16 ∧ v16 ≤ 12500000000000000 := by
          have hm := i_mulb (a := v13) (b := b) (A := 250000000) (B := 50000000) (by omega) (by omega)
          rw [e17]
          omega
        refine w_t (np := 71) (l2 := [some (eI (a)), some (eI (b)), some (eJ (v4)), none, some (eJ (b)), none, none]) (s2 := [eJ (v16), eJ (v10)]) rfl (b_lmul (by rw [← e17]; exact ev_W_in (by omega) (by omega))) rfl ?_
        refine b_lle (t1 := 79) (t2 := 75) rfl rfl rfl rfl (ev_W_in (by omega) (by omega)) (ev_W_in (by omega) (by omega)) (fun g19 => ?_) (fun g19 => ?_)
        · refine w_t (np := 80) (l2 := [some (eI (a)), some (eI (b)), some (eJ (v4)), none, some (eJ (b)), none, none]) (s2 := [eI (0)]) rfl rfl rfl ?_
          refine w_t (np := 82) (l2 := [some (eI (a)), some (eI (b)), some (eJ (v4)), none, some (eJ (b)), none, some (eI (0))]) (s2 := []) rfl rfl rfl ?_
          refine w_t (np := 84) (l2 := [some (eI (a)), some (eI (b)), some (eJ (v4)), none, some (eJ (b)), none, some (eI (0))]) (s2 := [eI (0)]) rfl rfl rfl ?_
          refine w_t (np := 85) (l2 := [some (eI (a)), some (eI (b)), some (eJ (v4)), none, some (eJ (b)), none, some (eI (0))]) (s2 := [eJ (v4), eI (0)]) rfl rfl rfl ?_
          refine w_t (np := 86) (l2 := [some (eI (a)), some (eI (b)), some (eJ (v4)), none, some (eJ (b)), none, some (eI (0))]) (s2 := [eJ (0), eJ (v4), eI (0)]) rfl rfl rfl ?_
          refine b_lle (t1 := 94) (t2 := 90) rfl rfl rfl rfl (ev_W_in (by omega) (by omega)) rfl (fun g20 => ?_) (fun g20 => ?_)
          · refine w_t (np := 95) (l2 := [some (eI (a)), some (eI (b)), some (eJ (v4)), none, some (eJ (b)), none, some (eI (0))]) (s2 := [eI (0), eI (0)]) rfl rfl rfl ?_
            refine b_cne (t1 := 102) (t2 := 98) rfl rfl rfl rfl rfl (fun g21 => absurd g21 (by decide)) (fun g21 => ?_)
            refine w_t (np := 99) (l2 := [some (eI (a)), some (eI (b)), some (eJ (v4)), none, some (eJ (b)), none, some (eI (0))]) (s2 := [eI (1)]) rfl rfl rfl ?_
            refine w_go (t1 := 103) rfl rfl ?_
            refine b_ri rfl rfl ?_
            have hx : v4 = 2 * a + b := by omega
            rw [e14] at e17
            have hr : cSg (2 * a + b) b = 1 := by
              rw [← hx]
              unfold cSg
              repeat' split
              all_goals omega
            rw [hr] at K
            exact K
          · refine w_t (np := 91) (l2 := [some (eI (a)), some (eI (b)), some (eJ (v4)), none, some (eJ (b)), none, some (eI (0))]) (s2 := [eI (1), eI (0)]) rfl rfl rfl ?_
            refine w_go (t1 := 95) rfl rfl ?_
            refine b_cne (t1 := 102) (t2 := 98) rfl rfl rfl rfl rfl (fun g21 => ?_) (fun g21 => absurd g21 (by decide))
            refine w_t (np := 103) (l2 := [some (eI (a)), some (eI (b)), some (eJ (v4)), none, some (eJ (b)), none, some (eI (0))]) (s2 := [eI (-1)]) rfl rfl rfl ?_
            refine b_ri rfl rfl ?_
            have hx : v4 = 2 * a + b := by omega
            rw [e14] at e17
            have hr : cSg (2 * a + b) b = -1 := by
              rw [← hx]
              unfold cSg
              repeat' split
              all_goals omega
            rw [hr] at K
            exact K
        · refine w_t (np := 76) (l2 := [some (eI (a)), some (eI (b)), some (eJ (v4)), none, some (eJ (b)), none, none]) (s2 := [eI (1)]) rfl rfl rfl ?_
          refine w_go (t1 := 80) rfl rfl ?_
          refine w_t (np := 82) (l2 := [some (eI (a)), some (eI (b)), some (eJ (v4)), none, some (eJ (b)), none, some (eI (1))]) (s2 := []) rfl rfl rfl ?_
          refine w_t (np := 84) (l2 := [some (eI (a)), some (eI (b)), some (eJ (v4)), none, some (eJ (b)), none, some (eI (1))]) (s2 := [eI (1)]) rfl rfl rfl ?_
          refine w_t (np := 85) (l2 := [some (eI (a)), some (eI (b)), some (eJ (v4)), none, some (eJ (b)), none, some (eI (1))]) (s2 := [eJ (v4), eI (1)]) rfl rfl rfl ?_
          refine w_t (np := 86) (l2 := [some (eI (a)), some (eI (b)), some (eJ (v4)), none, some (eJ (b)), none, some (eI (1))]) (s2 := [eJ (0), eJ (v4), eI (1)]) rfl rfl rfl ?_
          refine b_lle (t1 := 94) (t2 := 90) rfl rfl rfl rfl (ev_W_in (by omega) (by omega)) rfl (fun g20 => ?_) (fun g20 => ?_)
          · refine w_t (np := 95) (l2 := [some (eI (a)), some (eI (b)), some (eJ (v4)), none, some (eJ (b)), none, some (eI (1))]) (s2 := [eI (0), eI (1)]) rfl rfl rfl ?_
            refine b_cne (t1 := 102) (t2 := 98) rfl rfl rfl rfl rfl (fun g21 => ?_) (fun g21 => absurd g21 (by decide))
            refine w_t (np := 103) (l2 := [some (eI (a)), some (eI (b)), some (eJ (v4)), none, some (eJ (b)), none, some (eI (1))]) (s2 := [eI (-1)]) rfl rfl rfl ?_
            refine b_ri rfl rfl ?_
            have hx : v4 = 2 * a + b := by omega
            rw [e14] at e17
            have hr : cSg (2 * a + b) b = -1 := by
              rw [← hx]
              unfold cSg
              repeat' split
              all_goals omega
            rw [hr] at K
            exact K
          · refine w_t (np := 91) (l2 := [some (eI (a)), some (eI (b)), some (eJ (v4)), none, some (eJ (b)), none, some (eI (1))]) (s2 := [eI (1), eI (1)]) rfl rfl rfl ?_
            refine w_go (t1 := 95) rfl rfl ?_
            refine b_cne (t1 := 102) (t2 := 98) rfl rfl rfl rfl rfl (fun g21 => absurd g21 (by decide)) (fun g21 => ?_)
            refine w_t (np := 99) (l2 := [some (eI (a)), some (eI (b)), some (eJ (v4)), none, some (eJ (b)), none, some (eI (1))]) (s2 := [eI (1)]) rfl rfl rfl ?_
            refine w_go (t1 := 103) rfl rfl ?_
            refine b_ri rfl rfl ?_
            have hx : v4 = 2 * a + b := by omega
            rw [e14] at e17
            have hr : cSg (2 * a + b) b = 1 := by
              rw [← hx]
              unfold cSg
              repeat' split
              all_goals omega
            rw [hr] at K
            exact K
      · refine w_t (np := 52) (l2 := [some (eI (a)), some (eI (b)), some (eJ (v4)), none, some (eJ (b)), none, none]) (s2 := [eJ (b)]) rfl rfl rfl ?_
        refine w_t (np := 53) (l2 := [some (eI (a)), some (eI (b)), some (eJ (v4)), none, some (eJ (b)), none, none]) (s2 := [eJ (0), eJ (b)]) rfl rfl rfl ?_
        refine b_lgt (t1 := 59) (t2 := 57) rfl rfl rfl rfl (ev_W_in (by omega) (by omega)) rfl (fun g10 => ?_) (fun g10 => ?_)
        · refine w_t (np := 60) (l2 := [some (eI (a)), some (eI (b)), some (eJ (v4)), none, some (eJ (b)), none, none]) (s2 := [eJ (v4)]) rfl rfl rfl ?_
          refine w_t (np := 61) (l2 := [some (eI (a)), some (eI (b)), some (eJ (v4)), none, some (eJ (b)), none, none]) (s2 := [eJ (v4), eJ (v4)]) rfl rfl rfl ?_
          obtain ⟨v11, e12⟩ : ∃ zz : Int, zz = (v4) * (v4) := ⟨_, rfl⟩
          have b13 : -22500000000000000 ≤ v11 ∧ v11 ≤ 22500000000000000 := by
            have hm := i_mulb (a := v4) (b := v4) (A := 150000000) (B := 150000000) (by omega) (by omega)
            rw [e12]
            omega
          refine w_t (np := 62) (l2 := [some (eI (a)), some (eI (b)), some (eJ (v4)), none, some (eJ (b)), none, none]) (s2 := [eJ (v11)]) rfl (b_lmul (by rw [← e12]; exact ev_W_in (by omega) (by omega))) rfl ?_
          refine v_l2 (np := 65) (c := 5) rfl rfl (by decide) ?_
          rw [show zJ 5 = 5 by decide]
          refine w_t (np := 67) (l2 := [some (eI (a)), some (eI (b)), some (eJ (v4)), none, some (eJ (b)), none, none]) (s2 := [eJ (b), eJ (5), eJ (v11)]) rfl rfl rfl ?_
          obtain ⟨v14, e15⟩ : ∃ zz : Int, zz = (5) * (b) := ⟨_, rfl⟩
          have b16 : -250000000 ≤ v14 ∧ v14 ≤ 250000000 := by omega
          refine w_t (np := 68) (l2 := [some (eI (a)), some (eI (b)), some (eJ (v4)), none, some (eJ (b)), none, none]) (s2 := [eJ (v14), eJ (v11)]) rfl (b_lmul (by rw [← e15]; exact ev_W_in (by omega) (by omega))) rfl ?_
          refine w_t (np := 70) (l2 := [some (eI (a)), some (eI (b)), some (eJ (v4)), none, some (eJ (b)), none, none]) (s2 := [eJ (b), eJ (v14), eJ (v11)]) rfl rfl rfl ?_
          obtain ⟨v17, e18⟩ : ∃ zz : Int, zz = (v14) * (b) := ⟨_, rfl⟩
          have b19 : -12500000000000000 ≤ v17 ∧ v17 ≤ 12500000000000000 := by
            have hm := i_mulb (a := v14) (b := b) (A := 250000000) (B := 50000000) (by omega) (by omega)
            rw [e18]
            omega
          refine w_t (np := 71) (l2 := [some (eI (a)), some (eI (b)), some (eJ (v4)), none, some (eJ (b)), none, none]) (s2 := [eJ (v17), eJ (v11)]) rfl (b_lmul (by rw [← e18]; exact ev_W_in (by omega) (by omega))) rfl ?_
          refine b_lle (t1 := 79) (t2 := 75) rfl rfl rfl rfl (ev_W_in (by omega) (by omega)) (ev_W_in (by omega) (by omega)) (fun g20 => ?_) (fun g20 => ?_)
          · refine w_t (np := 80) (l2 := [some (eI (a)), some (eI (b)), some (eJ (v4)), none, some (eJ (b)), none, none]) (s2 := [eI (0)]) rfl rfl rfl ?_
            refine w_t (np := 82) (l2 := [some (eI (a)), some (eI (b)), some (eJ (v4)), none, some (eJ (b)), none, some (eI (0))]) (s2 := []) rfl rfl rfl ?_
            refine w_t (np := 84) (l2 := [some (eI (a)), some (eI (b)), some (eJ (v4)), none, some (eJ (b)), none, some (eI (0))]) (s2 := [eI (0)]) rfl rfl rfl ?_
            refine w_t (np := 85) (l2 := [some (eI (a)), some (eI (b)), some (eJ (v4)), none, some (eJ (b)), none, some (eI (0))]) (s2 := [eJ (v4), eI (0)]) rfl rfl rfl ?_
            refine w_t (np := 86) (l2 := [some (eI (a)), some (eI (b)), some (eJ (v4)), none, some (eJ (b)), none, some (eI (0))]) (s2 := [eJ (0), eJ (v4), eI (0)]) rfl rfl rfl ?_
            refine b_lle (t1 := 94) (t2 := 90) rfl rfl rfl rfl (ev_W_in (by omega) (by omega)) rfl (fun g21 => ?_) (fun g21 => ?_)
            · refine w_t (np := 95) (l2 := [some (eI (a)), some (eI (b)), some (eJ (v4)), none, some (eJ (b)), none, some (eI (0))]) (s2 := [eI (0), eI (0)]) rfl rfl rfl ?_
              refine b_cne (t1 := 102) (t2 := 98) rfl rfl rfl rfl rfl (fun g22 => absurd g22 (by decide)) (fun g22 => ?_)
              refine w_t (np := 99) (l2 := [some (eI (a)), some (eI (b)), some (eJ (v4)), none, some (eJ (b)), none, some (eI (0))]) (s2 := [eI (1)]) rfl rfl rfl ?_
              refine w_go (t1 := 103) rfl rfl ?_
              refine b_ri rfl rfl ?_
              have hx : v4 = 2 * a + b := by omega
              rw [e15] at e18
              have hr : cSg (2 * a + b) b = 1 := by
                rw [← hx]
                unfold cSg
                repeat' split
                all_goals omega
              rw [hr] at K
              exact K
            · refine w_t (np := 91) (l2 := [some (eI (a)), some (eI (b)), some (eJ (v4)), none, some (eJ (b)), none, some (eI (0))]) (s2 := [eI (1), eI (0)]) rfl rfl rfl ?_
              refine w_go (t1 := 95) rfl rfl ?_
              refine b_cne (t1 := 102) (t2 := 98) rfl rfl rfl rfl rfl (fun g22 => ?_) (fun g22 => absurd g22 (by decide))
              refine w_t (np := 103) (l2 := [some (eI (a)), some (eI (b)), some (eJ (v4)), none, some (eJ (b)), none, some (eI (0))]) (s2 := [eI (-1)]) rfl rfl rfl ?_
              refine b_ri rfl rfl ?_
              have hx : v4 = 2 * a + b := by omega
              rw [e15] at e18
              have hr : cSg (2 * a + b) b = -1 := by
                rw [← hx]
                unfold cSg
                repeat' split
                all_goals omega
              rw [hr] at K
              exact K
          · refine w_t (np := 76) (l2 := [some (eI (a)), some (eI (b)), some (eJ (v4)), none, some (eJ (b)), none, none]) (s2 := [eI (1)]) rfl rfl rfl ?_
            refine w_go (t1 := 80) rfl rfl ?_
            refine w_t (np := 82) (l2 := [some (eI (a)), some (eI (b)), some (eJ (v4)), none, some (eJ (b)), none, some (eI (1))]) (s2 := []) rfl rfl rfl ?_
            refine w_t (np := 84) (l2 := [some (eI (a)), some (eI (b)), some (eJ (v4)), none, some (eJ (b)), none, some (eI (1))]) (s2 := [eI (1)]) rfl rfl rfl ?_
            refine w_t (np := 85) (l2 := [some (eI (a)), some (eI (b)), some (eJ (v4)), none, some (eJ (b)), none, some (eI (1))]) (s2 := [eJ (v4), eI (1)]) rfl rfl rfl ?_
            refine w_t (np := 86) (l2 := [some (eI (a)), some (eI (b)), some (eJ (v4)), none, some (eJ (b)), none, some (eI (1))]) (s2 := [eJ (0), eJ (v4), eI (1)]) rfl rfl rfl ?_
            refine b_lle (t1 := 94) (t2 := 90) rfl rfl rfl rfl (ev_W_in (by omega) (by omega)) rfl (fun g21 => ?_) (fun g21 => ?_)
            · refine w_t (np := 95) (l2 := [some (eI (a)), some (eI (b)), some (eJ (v4)), none, some (eJ (b)), none, some (eI (1))]) (s2 := [eI (0), eI (1)]) rfl rfl rfl ?_
              refine b_cne (t1 := 102) (t2 := 98) rfl rfl rfl rfl rfl (fun g22 => ?_) (fun g22 => absurd g22 (by decide))
              refine w_t (np := 103) (l2 := [some (eI (a)), some (eI (b)), some (eJ (v4)), none, some (eJ (b)), none, some (eI (1))]) (s2 := [eI (-1)]) rfl rfl rfl ?_
              refine b_ri rfl rfl ?_
              have hx : v4 = 2 * a + b := by omega
              rw [e15] at e18
              have hr : cSg (2 * a + b) b = -1 := by
                rw [← hx]
                unfold cSg
                repeat' split
                all_goals omega
              rw [hr] at K
              exact K
            · refine w_t (np := 91) (l2 := [some (eI (a)), some (eI (b)), some (eJ (v4)), none, some (eJ (b)), none, some (eI (1))]) (s2 := [eI (1), eI (1)]) rfl rfl rfl ?_
              refine w_go (t1 := 95) rfl rfl ?_
              refine b_cne (t1 := 102) (t2 := 98) rfl rfl rfl rfl rfl (fun g22 => absurd g22 (by decide)) (fun g22 => ?_)
              refine w_t (np := 99) (l2 := [some (eI (a)), some (eI (b)), some (eJ (v4)), none, some (eJ (b)), none, some (eI (1))]) (s2 := [eI (1)]) rfl rfl rfl ?_
              refine w_go (t1 := 103) rfl rfl ?_
              refine b_ri rfl rfl ?_
              have hx : v4 = 2 * a + b := by omega
              rw [e15] at e18
              have hr : cSg (2 * a + b) b = 1 := by
                rw [← hx]
                unfold cSg
                repeat' split
                all_goals omega
              rw [hr] at K
              exact K
        · refine w_t (np := 58) (l2 := [some (eI (a)), some (eI (b)), some (eJ (v4)), none, some (eJ (b)), none, none]) (s2 := [eI (-1)]) rfl rfl rfl ?_
          refine b_ri rfl rfl ?_
          have hx : v4 = 2 * a + b := by omega
          have hr : cSg (2 * a + b) b = -1 := by
            rw [← hx]
            unfold cSg
            repeat' split
            all_goals omega
          rw [hr] at K
          exact K
    · refine w_t (np := 37) (l2 := [some (eI (a)), some (eI (b)), some (eJ (v4)), none, some (eJ (b)), none, none]) (s2 := [eJ (b)]) rfl rfl rfl ?_
      refine w_t (np := 38) (l2 := [some (eI (a)), some (eI (b)), some (eJ (v4)), none, some (eJ (b)), none, none]) (s2 := [eJ (0), eJ (b)]) rfl rfl rfl ?_
      refine b_llt (t1 := 44) (t2 := 42) rfl rfl rfl rfl (ev_W_in (by omega) (by omega)) rfl (fun g9 => ?_) (fun g9 => ?_)
      · refine w_t (np := 45) (l2 := [some (eI (a)), some (eI (b)), some (eJ (v4)), none, some (eJ (b)), none, none]) (s2 := [eJ (v4)]) rfl rfl rfl ?_
        refine w_t (np := 46) (l2 := [some (eI (a)), some (eI (b)), some (eJ (v4)), none, some (eJ (b)), none, none]) (s2 := [eJ (0), eJ (v4)]) rfl rfl rfl ?_
        refine b_lgt (t1 := 59) (t2 := 50) rfl rfl rfl rfl (ev_W_in (by omega) (by omega)) rfl (fun g10 => ?_) (fun g10 => ?_)
        · refine w_t (np := 60) (l2 := [some (eI (a)), some (eI (b)), some (eJ (v4)), none, some (eJ (b)), none, none]) (s2 := [eJ (v4)]) rfl rfl rfl ?_
          refine w_t (np := 61) (l2 := [some (eI (a)), some (eI (b)), some (eJ (v4)), none, some (eJ (b)), none, none]) (s2 := [eJ (v4), eJ (v4)]) rfl rfl rfl ?_
          obtain ⟨v11, e12⟩ : ∃ zz : Int, zz = (v4) * (v4) := ⟨_, rfl⟩
          have b13 : -22500000000000000 ≤ v11 ∧ v11 ≤ 22500000000000000 := by
            have hm := i_mulb (a := v4) (b := v4) (A := 150000000) (B := 150000000) (by omega) (by omega)
            rw [e12]
            omega
          refine w_t (np := 62) (l2 := [some (eI (a)), some (eI (b)), some (eJ (v4)), none, some (eJ (b)), none, none]) (s2 := [eJ (v11)]) rfl (b_lmul (by rw [← e12]; exact ev_W_in (by omega) (by omega))) rfl ?_
          refine v_l2 (np := 65) (c := 5) rfl rfl (by decide) ?_
          rw [show zJ 5 = 5 by decide]
          refine w_t (np := 67) (l2 := [some (eI (a)), some (eI (b)), some (eJ (v4)), none, some (eJ (b)), none, none]) (s2 := [eJ (b), eJ (5), eJ (v11)]) rfl rfl rfl ?_
          obtain ⟨v14, e15⟩ : ∃ zz : Int, zz = (5) * (b) := ⟨_, rfl⟩
          have b16 : -250000000 ≤ v14 ∧ v14 ≤ 250000000 := by omega
          refine w_t (np := 68) (l2 := [some (eI (a)), some (eI (b)), some (eJ (v4)), none, some (eJ (b)), none, none]) (s2 := [eJ (v14), eJ (v11)]) rfl (b_lmul (by rw [← e15]; exact ev_W_in (by omega) (by omega))) rfl ?_
          refine w_t (np := 70) (l2 := [some (eI (a)), some (eI (b)), some (eJ (v4)), none, some (eJ (b)), none, none]) (s2 := [eJ (b), eJ (v14), eJ (v11)]) rfl rfl rfl ?_
          obtain ⟨v17, e18⟩ : ∃ zz : Int, zz = (v14) * (b) := ⟨_, rfl⟩
          have b19 : -12500000000000000 ≤ v17 ∧ v17 ≤ 12500000000000000 := by
            have hm := i_mulb (a := v14) (b := b) (A := 250000000) (B := 50000000) (by omega) (by omega)
            rw [e18]
            omega
          refine w_t (np := 71) (l2 := [some (eI (a)), some (eI (b)), some (eJ (v4)), none, some (eJ (b)), none, none]) (s2 := [eJ (v17), eJ (v11)]) rfl (b_lmul (by rw [← e18]; exact ev_W_in (by omega) (by omega))) rfl ?_
          refine b_lle (t1 := 79) (t2 := 75) rfl rfl rfl rfl (ev_W_in (by omega) (by omega)) (ev_W_in (by omega) (by omega)) (fun g20 => ?_) (fun g20 => ?_)
          · refine w_t (np := 80) (l2 := [some (eI (a)), some (eI (b)), some (eJ (v4)), none, some (eJ (b)), none, none]) (s2 := [eI (0)]) rfl rfl rfl ?_
            refine w_t (np := 82) (l2 := [some (eI (a)), some (eI (b)), some (eJ (v4)), none, some (eJ (b)), none, some (eI (0))]) (s2 := []) rfl rfl rfl ?_
            refine w_t (np := 84) (l2 := [some (eI (a)), some (eI (b)), some (eJ (v4)), none, some (eJ (b)), none, some (eI (0))]) (s2 := [eI (0)]) rfl rfl rfl ?_
            refine w_t (np := 85) (l2 := [some (eI (a)), some (eI (b)), some (eJ (v4)), none, some (eJ (b)), none, some (eI (0))]) (s2 := [eJ (v4), eI (0)]) rfl rfl rfl ?_
            refine w_t (np := 86) (l2 := [some (eI (a)), some (eI (b)), some (eJ (v4)), none, some (eJ (b)), none, some (eI (0))]) (s2 := [eJ (0), eJ (v4), eI (0)]) rfl rfl rfl ?_
            refine b_lle (t1 := 94) (t2 := 90) rfl rfl rfl rfl (ev_W_in (by omega) (by omega)) rfl (fun g21 => ?_) (fun g21 => ?_)
            · refine w_t (np := 95) (l2 := [some (eI (a)), some (eI (b)), some (eJ (v4)), none, some (eJ (b)), none, some (eI (0))]) (s2 := [eI (0), eI (0)]) rfl rfl rfl ?_
              refine b_cne (t1 := 102) (t2 := 98) rfl rfl rfl rfl rfl (fun g22 => absurd g22 (by decide)) (fun g22 => ?_)
              refine w_t (np := 99) (l2 := [some (eI (a)), some (eI (b)), some (eJ (v4)), none, some (eJ (b)), none, some (eI (0))]) (s2 := [eI (1)]) rfl rfl rfl ?_
              refine w_go (t1 := 103) rfl rfl ?_
              refine b_ri rfl rfl ?_
              have hx : v4 = 2 * a + b := by omega
              rw [e15] at e18
              have hr : cSg (2 * a + b) b = 1 := by
                rw [← hx]
                unfold cSg
                repeat' split
                all_goals omega
              rw [hr] at K
              exact K
            · refine w_t (np := 91) (l2 := [some (eI (a)), some (eI (b)), some (eJ (v4)), none, some (eJ (b)), none, some (eI (0))]) (s2 := [eI (1), eI (0)]) rfl rfl rfl ?_
              refine w_go (t1 := 95) rfl rfl ?_
              refine b_cne (t1 := 102) (t2 := 98) rfl rfl rfl rfl rfl (fun g22 => ?_) (fun g22 => absurd g22 (by decide))
              refine w_t (np := 103) (l2 := [some (eI (a)), some (eI (b)), some (eJ (v4)), none, some (eJ (b)), none, some (eI (0))]) (s2 := [eI (-1)]) rfl rfl rfl ?_
              refine b_ri rfl rfl ?_
              have hx : v4 = 2 * a + b := by omega
              rw [e15] at e18
              have hr : cSg (2 * a + b) b = -1 := by
                rw [← hx]
                unfold cSg
                repeat' split
                all_goals omega
              rw [hr] at K
              exact K
          · refine w_t (np := 76) (l2 := [some (eI (a)), some (eI (b)), some (eJ (v4)), none, some (eJ (b)), none, none]) (s2 := [eI (1)]) rfl rfl rfl ?_
            refine w_go (t1 := 80) rfl rfl ?_
            refine w_t (np := 82) (l2 := [some (eI (a)), some (eI (b)), some (eJ (v4)), none, some (eJ (b)), none, some (eI (1))]) (s2 := []) rfl rfl rfl ?_
            refine w_t (np := 84) (l2 := [some (eI (a)), some (eI (b)), some (eJ (v4)), none, some (eJ (b)), none, some (eI (1))]) (s2 := [eI (1)]) rfl rfl rfl ?_
            refine w_t (np := 85) (l2 := [some (eI (a)), some (eI (b)), some (eJ (v4)), none, some (eJ (b)), none, some (eI (1))]) (s2 := [eJ (v4), eI (1)]) rfl rfl rfl ?_
            refine w_t (np := 86) (l2 := [some (eI (a)), some (eI (b)), some (eJ (v4)), none, some (eJ (b)), none, some (eI (1))]) (s2 := [eJ (0), eJ (v4), eI (1)]) rfl rfl rfl ?_
            refine b_lle (t1 := 94) (t2 := 90) rfl rfl rfl rfl (ev_W_in (by omega) (by omega)) rfl (fun g21 => ?_) (fun g21 => ?_)
            · refine w_t (np := 95) (l2 := [some (eI (a)), some (eI (b)), some (eJ (v4)), none, some (eJ (b)), none, some (eI (1))]) (s2 := [eI (0), eI (1)]) rfl rfl rfl ?_
              refine b_cne (t1 := 102) (t2 := 98) rfl rfl rfl rfl rfl (fun g22 => ?_) (fun g22 => absurd g22 (by decide))
              refine w_t (np := 103) (l2 := [some (eI (a)), some (eI (b)), some (eJ (v4)), none, some (eJ (b)), none, some (eI (1))]) (s2 := [eI (-1)]) rfl rfl rfl ?_
              refine b_ri rfl rfl ?_
              have hx : v4 = 2 * a + b := by omega
              rw [e15] at e18
              have hr : cSg (2 * a + b) b = -1 := by
                rw [← hx]
                unfold cSg
                repeat' split
                all_goals omega
              rw [hr] at K
              exact K
            · refine w_t (np := 91) (l2 := [some (eI (a)), some (eI (b)), some (eJ (v4)), none, some (eJ (b)), none, some (eI (1))]) (s2 := [eI (1), eI (1)]) rfl rfl rfl ?_
              refine w_go (t1 := 95) rfl rfl ?_
              refine b_cne (t1 := 102) (t2 := 98) rfl rfl rfl rfl rfl (fun g22 => absurd g22 (by decide)) (fun g22 => ?_)
              refine w_t (np := 99) (l2 := [some (eI (a)), some (eI (b)), some (eJ (v4)), none, some (eJ (b)), none, some (eI (1))]) (s2 := [eI (1)]) rfl rfl rfl ?_
              refine w_go (t1 := 103) rfl rfl ?_
              refine b_ri rfl rfl ?_
              have hx : v4 = 2 * a + b := by omega
              rw [e15] at e18
              have hr : cSg (2 * a + b) b = 1 := by
                rw [← hx]
                unfold cSg
                repeat' split
                all_goals omega
              rw [hr] at K
              exact K
        · refine w_t (np := 52) (l2 := [some (eI (a)), some (eI (b)), some (eJ (v4)), none, some (eJ (b)), none, none]) (s2 := [eJ (b)]) rfl rfl rfl ?_
          refine w_t (np := 53) (l2 := [some (eI (a)), some (eI (b)), some (eJ (v4)), none, some (eJ (b)), none, none]) (s2 := [eJ (0), eJ (b)]) rfl rfl rfl ?_
          refine b_lgt (t1 := 59) (t2 := 57) rfl rfl rfl rfl (ev_W_in (by omega) (by omega)) rfl (fun g11 => ?_) (fun g11 => ?_)
          · refine w_t (np := 60) (l2 := [some (eI (a)), some (eI (b)), some (eJ (v4)), none, some (eJ (b)), none, none]) (s2 := [eJ (v4)]) rfl rfl rfl ?_
            refine w_t (np := 61) (l2 := [some (eI (a)), some (eI (b)), some (eJ (v4)), none, some (eJ (b)), none, none]) (s2 := [eJ (v4), eJ (v4)]) rfl rfl rfl ?_
            obtain ⟨v12, e13⟩ : ∃ zz : Int, zz = (v4) * (v4) := ⟨_, rfl⟩
            have b14 : -22500000000000000 ≤ v12 ∧ v12 ≤ 22500000000000000 := by
              have hm := i_mulb (a := v4) (b := v4) (A := 150000000) (B := 150000000) (by omega) (by omega)
              rw [e13]
              omega
            refine w_t (np := 62) (l2 := [some (eI (a)), some (eI (b)), some (eJ (v4)), none, some (eJ (b)), none, none]) (s2 := [eJ (v12)]) rfl (b_lmul (by rw [← e13]; exact ev_W_in (by omega) (by omega))) rfl ?_
            refine v_l2 (np := 65) (c := 5) rfl rfl (by decide) ?_
            rw [show zJ 5 = 5 by decide]
            refine w_t (np := 67) (l2 := [some (eI (a)), some (eI (b)), some (eJ (v4)), none, some (eJ (b)), none, none]) (s2 := [eJ (b), eJ (5), eJ (v12)]) rfl rfl rfl ?_
            obtain ⟨v15, e16⟩ : ∃ zz : Int, zz = (5) * (b) := ⟨_, rfl⟩
            have b17 : -250000000 ≤ v15 ∧ v15 ≤ 250000000 := by omega
            refine w_t (np := 68) (l2 := [some (eI (a)), some (eI (b)), some (eJ (v4)), none, some (eJ (b)), none, none]) (s2 := [eJ (v15), eJ (v12)]) rfl (b_lmul (by rw [← e16]; exact ev_W_in (by omega) (by omega))) rfl ?_
            refine w_t (np := 70) (l2 := [some (eI (a)), some (eI (b)), some (eJ (v4)), none, some (eJ (b)), none, none]) (s2 := [eJ (b), eJ (v15), eJ (v12)]) rfl rfl rfl ?_
            obtain ⟨v18, e19⟩ : ∃ zz : Int, zz = (v15) * (b) := ⟨_, rfl⟩
            have b20 : -12500000000000000 ≤ v18 ∧ v18 ≤ 12500000000000000 := by
              have hm := i_mulb (a := v15) (b := b) (A := 250000000) (B := 50000000) (by omega) (by omega)
              rw [e19]
              omega
            refine w_t (np := 71) (l2 := [some (eI (a)), some (eI (b)), some (eJ (v4)), none, some (eJ (b)), none, none]) (s2 := [eJ (v18), eJ (v12)]) rfl (b_lmul (by rw [← e19]; exact ev_W_in (by omega) (by omega))) rfl ?_
            refine b_lle (t1 := 79) (t2 := 75) rfl rfl rfl rfl (ev_W_in (by omega) (by omega)) (ev_W_in (by omega) (by omega)) (fun g21 => ?_) (fun g21 => ?_)
            · refine w_t (np := 80) (l2 := [some (eI (a)), some (eI (b)), some (eJ (v4)), none, some (eJ (b)), none, none]) (s2 := [eI (0)]) rfl rfl rfl ?_
              refine w_t (np := 82) (l2 := [some (eI (a)), some (eI (b)), some (eJ (v4)), none, some (eJ (b)), none, some (eI (0))]) (s2 := []) rfl rfl rfl ?_
              refine w_t (np := 84) (l2 := [some (eI (a)), some (eI (b)), some (eJ (v4)), none, some (eJ (b)), none, some (eI (0))]) (s2 := [eI (0)]) rfl rfl rfl ?_
              refine w_t (np := 85) (l2 := [some (eI (a)), some (eI (b)), some (eJ (v4)), none, some (eJ (b)), none, some (eI (0))]) (s2 := [eJ (v4), eI (0)]) rfl rfl rfl ?_
              refine w_t (np := 86) (l2 := [some (eI (a)), some (eI (b)), some (eJ (v4)), none, some (eJ (b)), none, some (eI (0))]) (s2 := [eJ (0), eJ (v4), eI (0)]) rfl rfl rfl ?_
              refine b_lle (t1 := 94) (t2 := 90) rfl rfl rfl rfl (ev_W_in (by omega) (by omega)) rfl (fun g22 => ?_) (fun g22 => ?_)
              · refine w_t (np := 95) (l2 := [some (eI (a)), some (eI (b)), some (eJ (v4)), none, some (eJ (b)), none, some (eI (0))]) (s2 := [eI (0), eI (0)]) rfl rfl rfl ?_
                refine b_cne (t1 := 102) (t2 := 98) rfl rfl rfl rfl rfl (fun g23 => absurd g23 (by decide)) (fun g23 => ?_)
                refine w_t (np := 99) (l2 := [some (eI (a)), some (eI (b)), some (eJ (v4)), none, some (eJ (b)), none, some (eI (0))]) (s2 := [eI (1)]) rfl rfl rfl ?_
                refine w_go (t1 := 103) rfl rfl ?_
                refine b_ri rfl rfl ?_
                have hx : v4 = 2 * a + b := by omega
                rw [e16] at e19
                have hr : cSg (2 * a + b) b = 1 := by
                  rw [← hx]
                  unfold cSg
                  repeat' split
                  all_goals omega
                rw [hr] at K
                exact K
              · refine w_t (np := 91) (l2 := [some (eI (a)), some (eI (b)), some (eJ (v4)), none, some (eJ (b)), none, some (eI (0))]) (s2 := [eI (1), eI (0)]) rfl rfl rfl ?_
                refine w_go (t1 := 95) rfl rfl ?_
                refine b_cne (t1 := 102) (t2 := 98) rfl rfl rfl rfl rfl (fun g23 => ?_) (fun g23 => absurd g23 (by decide))
                refine w_t (np := 103) (l2 := [some (eI (a)), some (eI (b)), some (eJ (v4)), none, some (eJ (b)), none, some (eI (0))]) (s2 := [eI (-1)]) rfl rfl rfl ?_
                refine b_ri rfl rfl ?_
                have hx : v4 = 2 * a + b := by omega
                rw [e16] at e19
                have hr : cSg (2 * a + b) b = -1 := by
                  rw [← hx]
                  unfold cSg
                  repeat' split
                  all_goals omega
                rw [hr] at K
                exact K
            · refine w_t (np := 76) (l2 := [some (eI (a)), some (eI (b)), some (eJ (v4)), none, some (eJ (b)), none, none]) (s2 := [eI (1)]) rfl rfl rfl ?_
              refine w_go (t1 := 80) rfl rfl ?_
              refine w_t (np := 82) (l2 := [some (eI (a)), some (eI (b)), some (eJ (v4)), none, some (eJ (b)), none, some (eI (1))]) (s2 := []) rfl rfl rfl ?_
              refine w_t (np := 84) (l2 := [some (eI (a)), some (eI (b)), some (eJ (v4)), none, some (eJ (b)), none, some (eI (1))]) (s2 := [eI (1)]) rfl rfl rfl ?_
              refine w_t (np := 85) (l2 := [some (eI (a)), some (eI (b)), some (eJ (v4)), none, some (eJ (b)), none, some (eI (1))]) (s2 := [eJ (v4), eI (1)]) rfl rfl rfl ?_
              refine w_t (np := 86) (l2 := [some (eI (a)), some (eI (b)), some (eJ (v4)), none, some (eJ (b)), none, some (eI (1))]) (s2 := [eJ (0), eJ (v4), eI (1)]) rfl rfl rfl ?_
              refine b_lle (t1 := 94) (t2 := 90) rfl rfl rfl rfl (ev_W_in (by omega) (by omega)) rfl (fun g22 => ?_) (fun g22 => ?_)
              · refine w_t (np := 95) (l2 := [some (eI (a)), some (eI (b)), some (eJ (v4)), none, some (eJ (b)), none, some (eI (1))]) (s2 := [eI (0), eI (1)]) rfl rfl rfl ?_
                refine b_cne (t1 := 102) (t2 := 98) rfl rfl rfl rfl rfl (fun g23 => ?_) (fun g23 => absurd g23 (by decide))
                refine w_t (np := 103) (l2 := [some (eI (a)), some (eI (b)), some (eJ (v4)), none, some (eJ (b)), none, some (eI (1))]) (s2 := [eI (-1)]) rfl rfl rfl ?_
                refine b_ri rfl rfl ?_
                have hx : v4 = 2 * a + b := by omega
                rw [e16] at e19
                have hr : cSg (2 * a + b) b = -1 := by
                  rw [← hx]
                  unfold cSg
                  repeat' split
                  all_goals omega
                rw [hr] at K
                exact K
              · refine w_t (np := 91) (l2 := [some (eI (a)), some (eI (b)), some (eJ (v4)), none, some (eJ (b)), none, some (eI (1))]) (s2 := [eI (1), eI (1)]) rfl rfl rfl ?_
                refine w_go (t1 := 95) rfl rfl ?_
                refine b_cne (t1 := 102) (t2 := 98) rfl rfl rfl rfl rfl (fun g23 => absurd g23 (by decide)) (fun g23 => ?_)
                refine w_t (np := 99) (l2 := [some (eI (a)), some (eI (b)), some (eJ (v4)), none, some (eJ (b)), none, some (eI (1))]) (s2 := [eI (1)]) rfl rfl rfl ?_
                refine w_go (t1 := 103) rfl rfl ?_
                refine b_ri rfl rfl ?_
                have hx : v4 = 2 * a + b := by omega
                rw [e16] at e19
                have hr : cSg (2 * a + b) b = 1 := by
                  rw [← hx]
                  unfold cSg
                  repeat' split
                  all_goals omega
                rw [hr] at K
                exact K
          · refine w_t (np := 58) (l2 := [some (eI (a)), some (eI (b)), some (eJ (v4)), none, some (eJ (b)), none, none]) (s2 := [eI (-1)]) rfl rfl rfl ?_
            refine b_ri rfl rfl ?_
            have hx : v4 = 2 * a + b := by omega
            have hr : cSg (2 * a + b) b = -1 := by
              rw [← hx]
              unfold cSg
              repeat' split
              all_goals omega
            rw [hr] at K
            exact K
      · refine w_t (np := 43) (l2 := [some (eI (a)), some (eI (b)), some (eJ (v4)), none, some (eJ (b)), none, none]) (s2 := [eI (1)]) rfl rfl rfl ?_
        refine b_ri rfl rfl ?_
        have hx : v4 = 2 * a + b := by omega
        have hr : cSg (2 * a + b) b = 1 := by
          rw [← hx]
          unfold cSg
          repeat' split
          all_goals omega
        rw [hr] at K
        exact K
  · refine w_t (np := 22) (l2 := [some (eI (a)), some (eI (b)), some (eJ (v4)), none, some (eJ (b)), none, none]) (s2 := [eJ (b)]) rfl rfl rfl ?_
    refine w_t (np := 23) (l2 := [some (eI (a)), some (eI (b)), some (eJ (v4)), none, some (eJ (b)), none, none]) (s2 := [eJ (0), eJ (b)]) rfl rfl rfl ?_
    refine b_lne (t1 := 29) (t2 := 27) rfl rfl rfl rfl (ev_W_in (by omega) (by omega)) rfl (fun g8 => ?_) (fun g8 => ?_)
    · refine w_t (np := 30) (l2 := [some (eI (a)), some (eI (b)), some (eJ (v4)), none, some (eJ (b)), none, none]) (s2 := [eJ (v4)]) rfl rfl rfl ?_
      refine w_t (np := 31) (l2 := [some (eI (a)), some (eI (b)), some (eJ (v4)), none, some (eJ (b)), none, none]) (s2 := [eJ (0), eJ (v4)]) rfl rfl rfl ?_
      refine b_llt (t1 := 44) (t2 := 35) rfl rfl rfl rfl (ev_W_in (by omega) (by omega)) rfl (fun g9 => ?_) (fun g9 => ?_)
      · refine w_t (np := 45) (l2 := [some (eI (a)), some (eI (b)), some (eJ (v4)), none, some (eJ (b)), none, none]) (s2 := [eJ (v4)]) rfl rfl rfl ?_
        refine w_t (np := 46) (l2 := [some (eI (a)), some (eI (b)), some (eJ (v4)), none, some (eJ (b)), none, none]) (s2 := [eJ (0), eJ (v4)]) rfl rfl rfl ?_
        refine b_lgt (t1 := 59) (t2 := 50) rfl rfl rfl rfl (ev_W_in (by omega) (by omega)) rfl (fun g10 => ?_) (fun g10 => ?_)
        · refine w_t (np := 60) (l2 := [some (eI (a)), some (eI (b)), some (eJ (v4)), none, some (eJ (b)), none, none]) (s2 := [eJ (v4)]) rfl rfl rfl ?_
          refine w_t (np := 61) (l2 := [some (eI (a)), some (eI (b)), some (eJ (v4)), none, some (eJ (b)), none, none]) (s2 := [eJ (v4), eJ (v4)]) rfl rfl rfl ?_
          obtain ⟨v11, e12⟩ : ∃ zz : Int, zz = (v4) * (v4) := ⟨_, rfl⟩
          have b13 : -22500000000000000 ≤ v11 ∧ v11 ≤ 22500000000000000 := by
            have hm := i_mulb (a := v4) (b := v4) (A := 150000000) (B := 150000000) (by omega) (by omega)
            rw [e12]
            omega
          refine w_t (np := 62) (l2 := [some (eI (a)), some (eI (b)), some (eJ (v4)), none, some (eJ (b)), none, none]) (s2 := [eJ (v11)]) rfl (b_lmul (by rw [← e12]; exact ev_W_in (by omega) (by omega))) rfl ?_
          refine v_l2 (np := 65) (c := 5) rfl rfl (by decide) ?_
          rw [show zJ 5 = 5 by decide]
          refine w_t (np := 67) (l2 := [some (eI (a)), some (eI (b)), some (eJ (v4)), none, some (eJ (b)), none, none]) (s2 := [eJ (b), eJ (5), eJ (v11)]) rfl rfl rfl ?_
          obtain ⟨v14, e15⟩ : ∃ zz : Int, zz = (5) * (b) := ⟨_, rfl⟩
          have b16 : -250000000 ≤ v14 ∧ v14 ≤ 250000000 := by omega
          refine w_t (np := 68) (l2 := [some (eI (a)), some (eI (b)), some (eJ (v4)), none, some (eJ (b)), none, none]) (s2 := [eJ (v14), eJ (v11)]) rfl (b_lmul (by rw [← e15]; exact ev_W_in (by omega) (by omega))) rfl ?_
          refine w_t (np := 70) (l2 := [some (eI (a)), some (eI (b)), some (eJ (v4)), none, some (eJ (b)), none, none]) (s2 := [eJ (b), eJ (v14), eJ (v11)]) rfl rfl rfl ?_
          obtain ⟨v17, e18⟩ : ∃ zz : Int, zz = (v14) * (b) := ⟨_, rfl⟩
          have b19 : -12500000000000000 ≤ v17 ∧ v17 ≤ 12500000000000000 := by
            have hm := i_mulb (a := v14) (b := b) (A := 250000000) (B := 50000000) (by omega) (by omega)
            rw [e18]
            omega
          refine w_t (np := 71) (l2 := [some (eI (a)), some (eI (b)), some (eJ (v4)), none, some (eJ (b)), none, none]) (s2 := [eJ (v17), eJ (v11)]) rfl (b_lmul (by rw [← e18]; exact ev_W_in (by omega) (by omega))) rfl ?_
          refine b_lle (t1 := 79) (t2 := 75) rfl rfl rfl rfl (ev_W_in (by omega) (by omega)) (ev_W_in (by omega) (by omega)) (fun g20 => ?_) (fun g20 => ?_)
          · refine w_t (np := 80) (l2 := [some (eI (a)), some (eI (b)), some (eJ (v4)), none, some (eJ (b)), none, none]) (s2 := [eI (0)]) rfl rfl rfl ?_
            refine w_t (np := 82) (l2 := [some (eI (a)), some (eI (b)), some (eJ (v4)), none, some (eJ (b)), none, some (eI (0))]) (s2 := []) rfl rfl rfl ?_
            refine w_t (np := 84) (l2 := [some (eI (a)), some (eI (b)), some (eJ (v4)), none, some (eJ (b)), none, some (eI (0))]) (s2 := [eI (0)]) rfl rfl rfl ?_
            refine w_t (np := 85) (l2 := [some (eI (a)), some (eI (b)), some (eJ (v4)), none, some (eJ (b)), none, some (eI (0))]) (s2 := [eJ (v4), eI (0)]) rfl rfl rfl ?_
            refine w_t (np := 86) (l2 := [some (eI (a)), some (eI (b)), some (eJ (v4)), none, some (eJ (b)), none, some (eI (0))]) (s2 := [eJ (0), eJ (v4), eI (0)]) rfl rfl rfl ?_
            refine b_lle (t1 := 94) (t2 := 90) rfl rfl rfl rfl (ev_W_in (by omega) (by omega)) rfl (fun g21 => ?_) (fun g21 => ?_)
            · refine w_t (np := 95) (l2 := [some (eI (a)), some (eI (b)), some (eJ (v4)), none, some (eJ (b)), none, some (eI (0))]) (s2 := [eI (0), eI (0)]) rfl rfl rfl ?_
              refine b_cne (t1 := 102) (t2 := 98) rfl rfl rfl rfl rfl (fun g22 => absurd g22 (by decide)) (fun g22 => ?_)
              refine w_t (np := 99) (l2 := [some (eI (a)), some (eI (b)), some (eJ (v4)), none, some (eJ (b)), none, some (eI (0))]) (s2 := [eI (1)]) rfl rfl rfl ?_
              refine w_go (t1 := 103) rfl rfl ?_
              refine b_ri rfl rfl ?_
              have hx : v4 = 2 * a + b := by omega
              rw [e15] at e18
              have hr : cSg (2 * a + b) b = 1 := by
                rw [← hx]
                unfold cSg
                repeat' split
                all_goals omega
              rw [hr] at K
              exact K
            · refine w_t (np := 91) (l2 := [some (eI (a)), some (eI (b)), some (eJ (v4)), none, some (eJ (b)), none, some (eI (0))]) (s2 := [eI (1), eI (0)]) rfl rfl rfl ?_
              refine w_go (t1 := 95) rfl rfl ?_
              refine b_cne (t1 := 102) (t2 := 98) rfl rfl rfl rfl rfl (fun g22 => ?_) (fun g22 => absurd g22 (by decide))
              refine w_t (np := 103) (l2 := [some (eI (a)), some (eI (b)), some (eJ (v4)), none, some (eJ (b)), none, some (eI (0))]) (s2 := [eI (-1)]) rfl rfl rfl ?_
              refine b_ri rfl rfl ?_
              have hx : v4 = 2 * a + b := by omega
              rw [e15] at e18
              have hr : cSg (2 * a + b) b = -1 := by
                rw [← hx]
                unfold cSg
                repeat' split
                all_goals omega
              rw [hr] at K
              exact K
          · refine w_t (np := 76) (l2 := [some (eI (a)), some (eI (b)), some (eJ (v4)), none, some (eJ (b)), none, none]) (s2 := [eI (1)]) rfl rfl rfl ?_
            refine w_go (t1 := 80) rfl rfl ?_
            refine w_t (np := 82) (l2 := [some (eI (a)), some (eI (b)), some (eJ (v4)), none, some (eJ (b)), none, some (eI (1))]) (s2 := []) rfl rfl rfl ?_
            refine w_t (np := 84) (l2 := [some (eI (a)), some (eI (b)), some (eJ (v4)), none, some (eJ (b)), none, some (eI (1))]) (s2 := [eI (1)]) rfl rfl rfl ?_
            refine w_t (np := 85) (l2 := [some (eI (a)), some (eI (b)), some (eJ (v4)), none, some (eJ (b)), none, some (eI (1))]) (s2 := [eJ (v4), eI (1)]) rfl rfl rfl ?_
            refine w_t (np := 86) (l2 := [some (eI (a)), some (eI (b)), some (eJ (v4)), none, some (eJ (b)), none, some (eI (1))]) (s2 := [eJ (0), eJ (v4), eI (1)]) rfl rfl rfl ?_
            refine b_lle (t1 := 94) (t2 := 90) rfl rfl rfl rfl (ev_W_in (by omega) (by omega)) rfl (fun g21 => ?_) (fun g21 => ?_)
            · refine w_t (np := 95) (l2 := [some (eI (a)), some (eI (b)), some (eJ (v4)), none, some (eJ (b)), none, some (eI (1))]) (s2 := [eI (0), eI (1)]) rfl rfl rfl ?_
              refine b_cne (t1 := 102) (t2 := 98) rfl rfl rfl rfl rfl (fun g22 => ?_) (fun g22 => absurd g22 (by decide))
              refine w_t (np := 103) (l2 := [some (eI (a)), some (eI (b)), some (eJ (v4)), none, some (eJ (b)), none, some (eI (1))]) (s2 := [eI (-1)]) rfl rfl rfl ?_
              refine b_ri rfl rfl ?_
              have hx : v4 = 2 * a + b := by omega
              rw [e15] at e18
              have hr : cSg (2 * a + b) b = -1 := by
                rw [← hx]
                unfold cSg
                repeat' split
                all_goals omega
              rw [hr] at K
              exact K
            · refine w_t (np := 91) (l2 := [some (eI (a)), some (eI (b)), some (eJ (v4)), none, some (eJ (b)), none, some (eI (1))]) (s2 := [eI (1), eI (1)]) rfl rfl rfl ?_
              refine w_go (t1 := 95) rfl rfl ?_
              refine b_cne (t1 := 102) (t2 := 98) rfl rfl rfl rfl rfl (fun g22 => absurd g22 (by decide)) (fun g22 => ?_)
              refine w_t (np := 99) (l2 := [some (eI (a)), some (eI (b)), some (eJ (v4)), none, some (eJ (b)), none, some (eI (1))]) (s2 := [eI (1)]) rfl rfl rfl ?_
              refine w_go (t1 := 103) rfl rfl ?_
              refine b_ri rfl rfl ?_
              have hx : v4 = 2 * a + b := by omega
              rw [e15] at e18
              have hr : cSg (2 * a + b) b = 1 := by
                rw [← hx]
                unfold cSg
                repeat' split
                all_goals omega
              rw [hr] at K
              exact K
        · refine w_t (np := 52) (l2 := [some (eI (a)), some (eI (b)), some (eJ (v4)), none, some (eJ (b)), none, none]) (s2 := [eJ (b)]) rfl rfl rfl ?_
          refine w_t (np := 53) (l2 := [some (eI (a)), some (eI (b)), some (eJ (v4)), none, some (eJ (b)), none, none]) (s2 := [eJ (0), eJ (b)]) rfl rfl rfl ?_
          refine b_lgt (t1 := 59) (t2 := 57) rfl rfl rfl rfl (ev_W_in (by omega) (by omega)) rfl (fun g11 => ?_) (fun g11 => ?_)
          · refine w_t (np := 60) (l2 := [some (eI (a)), some (eI (b)), some (eJ (v4)), none, some (eJ (b)), none, none]) (s2 := [eJ (v4)]) rfl rfl rfl ?_
            refine w_t (np := 61) (l2 := [some (eI (a)), some (eI (b)), some (eJ (v4)), none, some (eJ (b)), none, none]) (s2 := [eJ (v4), eJ (v4)]) rfl rfl rfl ?_
            obtain ⟨v12, e13⟩ : ∃ zz : Int, zz = (v4) * (v4) := ⟨_, rfl⟩
            have b14 : -22500000000000000 ≤ v12 ∧ v12 ≤ 22500000000000000 := by
              have hm := i_mulb (a := v4) (b := v4) (A := 150000000) (B := 150000000) (by omega) (by omega)
              rw [e13]
              omega
            refine w_t (np := 62) (l2 := [some (eI (a)), some (eI (b)), some (eJ (v4)), none, some (eJ (b)), none, none]) (s2 := [eJ (v12)]) rfl (b_lmul (by rw [← e13]; exact ev_W_in (by omega) (by omega))) rfl ?_
            refine v_l2 (np := 65) (c := 5) rfl rfl (by decide) ?_
            rw [show zJ 5 = 5 by decide]
            refine w_t (np := 67) (l2 := [some (eI (a)), some (eI (b)), some (eJ (v4)), none, some (eJ (b)), none, none]) (s2 := [eJ (b), eJ (5), eJ (v12)]) rfl rfl rfl ?_
            obtain ⟨v15, e16⟩ : ∃ zz : Int, zz = (5) * (b) := ⟨_, rfl⟩
            have b17 : -250000000 ≤ v15 ∧ v15 ≤ 250000000 := by omega
            refine w_t (np := 68) (l2 := [some (eI (a)), some (eI (b)), some (eJ (v4)), none, some (eJ (b)), none, none]) (s2 := [eJ (v15), eJ (v12)]) rfl (b_lmul (by rw [← e16]; exact ev_W_in (by omega) (by omega))) rfl ?_
            refine w_t (np := 70) (l2 := [some (eI (a)), some (eI (b)), some (eJ (v4)), none, some (eJ (b)), none, none]) (s2 := [eJ (b), eJ (v15), eJ (v12)]) rfl rfl rfl ?_
            obtain ⟨v18, e19⟩ : ∃ zz : Int, zz = (v15) * (b) := ⟨_, rfl⟩
            have b20 : -12500000000000000 ≤ v18 ∧ v18 ≤ 12500000000000000 := by
              have hm := i_mulb (a := v15) (b := b) (A := 250000000) (B := 50000000) (by omega) (by omega)
              rw [e19]
              omega
            refine w_t (np := 71) (l2 := [some (eI (a)), some (eI (b)), some (eJ (v4)), none, some (eJ (b)), none, none]) (s2 := [eJ (v18), eJ (v12)]) rfl (b_lmul (by rw [← e19]; exact ev_W_in (by omega) (by omega))) rfl ?_
            refine b_lle (t1 := 79) (t2 := 75) rfl rfl rfl rfl (ev_W_in (by omega) (by omega)) (ev_W_in (by omega) (by omega)) (fun g21 => ?_) (fun g21 => ?_)
            · refine w_t (np := 80) (l2 := [some (eI (a)), some (eI (b)), some (eJ (v4)), none, some (eJ (b)), none, none]) (s2 := [eI (0)]) rfl rfl rfl ?_
              refine w_t (np := 82) (l2 := [some (eI (a)), some (eI (b)), some (eJ (v4)), none, some (eJ (b)), none, some (eI (0))]) (s2 := []) rfl rfl rfl ?_
              refine w_t (np := 84) (l2 := [some (eI (a)), some (eI (b)), some (eJ (v4)), none, some (eJ (b)), none, some (eI (0))]) (s2 := [eI (0)]) rfl rfl rfl ?_
              refine w_t (np := 85) (l2 := [some (eI (a)), some (eI (b)), some (eJ (v4)), none, some (eJ (b)), none, some (eI (0))]) (s2 := [eJ (v4), eI (0)]) rfl rfl rfl ?_
              refine w_t (np := 86) (l2 := [some (eI (a)), some (eI (b)), some (eJ (v4)), none, some (eJ (b)), none, some (eI (0))]) (s2 := [eJ (0), eJ (v4), eI (0)]) rfl rfl rfl ?_
              refine b_lle (t1 := 94) (t2 := 90) rfl rfl rfl rfl (ev_W_in (by omega) (by omega)) rfl (fun g22 => ?_) (fun g22 => ?_)
              · refine w_t (np := 95) (l2 := [some (eI (a)), some (eI (b)), some (eJ (v4)), none, some (eJ (b)), none, some (eI (0))]) (s2 := [eI (0), eI (0)]) rfl rfl rfl ?_
                refine b_cne (t1 := 102) (t2 := 98) rfl rfl rfl rfl rfl (fun g23 => absurd g23 (by decide)) (fun g23 => ?_)
                refine w_t (np := 99) (l2 := [some (eI (a)), some (eI (b)), some (eJ (v4)), none, some (eJ (b)), none, some (eI (0))]) (s2 := [eI (1)]) rfl rfl rfl ?_
                refine w_go (t1 := 103) rfl rfl ?_
                refine b_ri rfl rfl ?_
                have hx : v4 = 2 * a + b := by omega
                rw [e16] at e19
                have hr : cSg (2 * a + b) b = 1 := by
                  rw [← hx]
                  unfold cSg
                  repeat' split
                  all_goals omega
                rw [hr] at K
                exact K
              · refine w_t (np := 91) (l2 := [some (eI (a)), some (eI (b)), some (eJ (v4)), none, some (eJ (b)), none, some (eI (0))]) (s2 := [eI (1), eI (0)]) rfl rfl rfl ?_
                refine w_go (t1 := 95) rfl rfl ?_
                refine b_cne (t1 := 102) (t2 := 98) rfl rfl rfl rfl rfl (fun g23 => ?_) (fun g23 => absurd g23 (by decide))
                refine w_t (np := 103) (l2 := [some (eI (a)), some (eI (b)), some (eJ (v4)), none, some (eJ (b)), none, some (eI (0))]) (s2 := [eI (-1)]) rfl rfl rfl ?_
                refine b_ri rfl rfl ?_
                have hx : v4 = 2 * a + b := by omega
                rw [e16] at e19
                have hr : cSg (2 * a + b) b = -1 := by
                  rw [← hx]
                  unfold cSg
                  repeat' split
                  all_goals omega
                rw [hr] at K
                exact K
            · refine w_t (np := 76) (l2 := [some (eI (a)), some (eI (b)), some (eJ (v4)), none, some (eJ (b)), none, none]) (s2 := [eI (1)]) rfl rfl rfl ?_
              refine w_go (t1 := 80) rfl rfl ?_
              refine w_t (np := 82) (l2 := [some (eI (a)), some (eI (b)), some (eJ (v4)), none, some (eJ (b)), none, some (eI (1))]) (s2 := []) rfl rfl rfl ?_
              refine w_t (np := 84) (l2 := [some (eI (a)), some (eI (b)), some (eJ (v4)), none, some (eJ (b)), none, some (eI (1))]) (s2 := [eI (1)]) rfl rfl rfl ?_
              refine w_t (np := 85) (l2 := [some (eI (a)), some (eI (b)), some (eJ (v4)), none, some (eJ (b)), none, some (eI (1))]) (s2 := [eJ (v4), eI (1)]) rfl rfl rfl ?_
              refine w_t (np := 86) (l2 := [some (eI (a)), some (eI (b)), some (eJ (v4)), none, some (eJ (b)), none, some (eI (1))]) (s2 := [eJ (0), eJ (v4), eI (1)]) rfl rfl rfl ?_
              refine b_lle (t1 := 94) (t2 := 90) rfl rfl rfl rfl (ev_W_in (by omega) (by omega)) rfl (fun g22 => ?_) (fun g22 => ?_)
              · refine w_t (np := 95) (l2 := [some (eI (a)), some (eI (b)), some (eJ (v4)), none, some (eJ (b)), none, some (eI (1))]) (s2 := [eI (0), eI (1)]) rfl rfl rfl ?_
                refine b_cne (t1 := 102) (t2 := 98) rfl rfl rfl rfl rfl (fun g23 => ?_) (fun g23 => absurd g23 (by decide))
                refine w_t (np := 103) (l2 := [some (eI (a)), some (eI (b)), some (eJ (v4)), none, some (eJ (b)), none, some (eI (1))]) (s2 := [eI (-1)]) rfl rfl rfl ?_
                refine b_ri rfl rfl ?_
                have hx : v4 = 2 * a + b := by omega
                rw [e16] at e19
                have hr : cSg (2 * a + b) b = -1 := by
                  rw [← hx]
                  unfold cSg
                  repeat' split
                  all_goals omega
                rw [hr] at K
                exact K
              · refine w_t (np := 91) (l2 := [some (eI (a)), some (eI (b)), some (eJ (v4)), none, some (eJ (b)), none, some (eI (1))]) (s2 := [eI (1), eI (1)]) rfl rfl rfl ?_
                refine w_go (t1 := 95) rfl rfl ?_
                refine b_cne (t1 := 102) (t2 := 98) rfl rfl rfl rfl rfl (fun g23 => absurd g23 (by decide)) (fun g23 => ?_)
                refine w_t (np := 99) (l2 := [some (eI (a)), some (eI (b)), some (eJ (v4)), none, some (eJ (b)), none, some (eI (1))]) (s2 := [eI (1)]) rfl rfl rfl ?_
                refine w_go (t1 := 103) rfl rfl ?_
                refine b_ri rfl rfl ?_
                have hx : v4 = 2 * a + b := by omega
                rw [e16] at e19
                have hr : cSg (2 * a + b) b = 1 := by
                  rw [← hx]
                  unfold cSg
                  repeat' split
                  all_goals omega
                rw [hr] at K
                exact K
          · refine w_t (np := 58) (l2 := [some (eI (a)), some (eI (b)), some (eJ (v4)), none, some (eJ (b)), none, none]) (s2 := [eI (-1)]) rfl rfl rfl ?_
            refine b_ri rfl rfl ?_
            have hx : v4 = 2 * a + b := by omega
            have hr : cSg (2 * a + b) b = -1 := by
              rw [← hx]
              unfold cSg
              repeat' split
              all_goals omega
            rw [hr] at K
            exact K
      · refine w_t (np := 37) (l2 := [some (eI (a)), some (eI (b)), some (eJ (v4)), none, some (eJ (b)), none, none]) (s2 := [eJ (b)]) rfl rfl rfl ?_
        refine w_t (np := 38) (l2 := [some (eI (a)), some (eI (b)), some (eJ (v4)), none, some (eJ (b)), none, none]) (s2 := [eJ (0), eJ (b)]) rfl rfl rfl ?_
        refine b_llt (t1 := 44) (t2 := 42) rfl rfl rfl rfl (ev_W_in (by omega) (by omega)) rfl (fun g10 => ?_) (fun g10 => ?_)
        · refine w_t (np := 45) (l2 := [some (eI (a)), some (eI (b)), some (eJ (v4)), none, some (eJ (b)), none, none]) (s2 := [eJ (v4)]) rfl rfl rfl ?_
          refine w_t (np := 46) (l2 := [some (eI (a)), some (eI (b)), some (eJ (v4)), none, some (eJ (b)), none, none]) (s2 := [eJ (0), eJ (v4)]) rfl rfl rfl ?_
          refine b_lgt (t1 := 59) (t2 := 50) rfl rfl rfl rfl (ev_W_in (by omega) (by omega)) rfl (fun g11 => ?_) (fun g11 => ?_)
          · refine w_t (np := 60) (l2 := [some (eI (a)), some (eI (b)), some (eJ (v4)), none, some (eJ (b)), none, none]) (s2 := [eJ (v4)]) rfl rfl rfl ?_
            refine w_t (np := 61) (l2 := [some (eI (a)), some (eI (b)), some (eJ (v4)), none, some (eJ (b)), none, none]) (s2 := [eJ (v4), eJ (v4)]) rfl rfl rfl ?_
            obtain ⟨v12, e13⟩ : ∃ zz : Int, zz = (v4) * (v4) := ⟨_, rfl⟩
            have b14 : -22500000000000000 ≤ v12 ∧ v12 ≤ 22500000000000000 := by
              have hm := i_mulb (a := v4) (b := v4) (A := 150000000) (B := 150000000) (by omega) (by omega)
              rw [e13]
              omega
            refine w_t (np := 62) (l2 := [some (eI (a)), some (eI (b)), some (eJ (v4)), none, some (eJ (b)), none, none]) (s2 := [eJ (v12)]) rfl (b_lmul (by rw [← e13]; exact ev_W_in (by omega) (by omega))) rfl ?_
            refine v_l2 (np := 65) (c := 5) rfl rfl (by decide) ?_
            rw [show zJ 5 = 5 by decide]
            refine w_t (np := 67) (l2 := [some (eI (a)), some (eI (b)), some (eJ (v4)), none, some (eJ (b)), none, none]) (s2 := [eJ (b), eJ (5), eJ (v12)]) rfl rfl rfl ?_
            obtain ⟨v15, e16⟩ : ∃ zz : Int, zz = (5) * (b) := ⟨_, rfl⟩
            have b17 : -250000000 ≤ v15 ∧ v15 ≤ 250000000 := by omega
            refine w_t (np := 68) (l2 := [some (eI (a)), some (eI (b)), some (eJ (v4)), none, some (eJ (b)), none, none]) (s2 := [eJ (v15), eJ (v12)]) rfl (b_lmul (by rw [← e16]; exact ev_W_in (by omega) (by omega))) rfl ?_
            refine w_t (np := 70) (l2 := [some (eI (a)), some (eI (b)), some (eJ (v4)), none, some (eJ (b)), none, none]) (s2 := [eJ (b), eJ (v15), eJ (v12)]) rfl rfl rfl ?_
            obtain ⟨v18, e19⟩ : ∃ zz : Int, zz = (v15) * (b) := ⟨_, rfl⟩
            have b20 : -12500000000000000 ≤ v18 ∧ v18 ≤ 12500000000000000 := by
              have hm := i_mulb (a := v15) (b := b) (A := 250000000) (B := 50000000) (by omega) (by omega)
              rw [e19]
              omega
            refine w_t (np := 71) (l2 := [some (eI (a)), some (eI (b)), some (eJ (v4)), none, some (eJ (b)), none, none]) (s2 := [eJ (v18), eJ (v12)]) rfl (b_lmul (by rw [← e19]; exact ev_W_in (by omega) (by omega))) rfl ?_
            refine b_lle (t1 := 79) (t2 := 75) rfl rfl rfl rfl (ev_W_in (by omega) (by omega)) (ev_W_in (by omega) (by omega)) (fun g21 => ?_) (fun g21 => ?_)
            · refine w_t (np := 80) (l2 := [some (eI (a)), some (eI (b)), some (eJ (v4)), none, some (eJ (b)), none, none]) (s2 := [eI (0)]) rfl rfl rfl ?_
              refine w_t (np := 82) (l2 := [some (eI (a)), some (eI (b)), some (eJ (v4)), none, some (eJ (b)), none, some (eI (0))]) (s2 := []) rfl rfl rfl ?_
              refine w_t (np := 84) (l2 := [some (eI (a)), some (eI (b)), some (eJ (v4)), none, some (eJ (b)), none, some (eI (0))]) (s2 := [eI (0)]) rfl rfl rfl ?_
              refine w_t (np := 85) (l2 := [some (eI (a)), some (eI (b)), some (eJ (v4)), none, some (eJ (b)), none, some (eI (0))]) (s2 := [eJ (v4), eI (0)]) rfl rfl rfl ?_
              refine w_t (np := 86) (l2 := [some (eI (a)), some (eI (b)), some (eJ (v4)), none, some (eJ (b)), none, some (eI (0))]) (s2 := [eJ (0), eJ (v4), eI (0)]) rfl rfl rfl ?_
              refine b_lle (t1 := 94) (t2 := 90) rfl rfl rfl rfl (ev_W_in (by omega) (by omega)) rfl (fun g22 => ?_) (fun g22 => ?_)
              · refine w_t (np := 95) (l2 := [some (eI (a)), some (eI (b)), some (eJ (v4)), none, some (eJ (b)), none, some (eI (0))]) (s2 := [eI (0), eI (0)]) rfl rfl rfl ?_
                refine b_cne (t1 := 102) (t2 := 98) rfl rfl rfl rfl rfl (fun g23 => absurd g23 (by decide)) (fun g23 => ?_)
                refine w_t (np := 99) (l2 := [some (eI (a)), some (eI (b)), some (eJ (v4)), none, some (eJ (b)), none, some (eI (0))]) (s2 := [eI (1)]) rfl rfl rfl ?_
                refine w_go (t1 := 103) rfl rfl ?_
                refine b_ri rfl rfl ?_
                have hx : v4 = 2 * a + b := by omega
                rw [e16] at e19
                have hr : cSg (2 * a + b) b = 1 := by
                  rw [← hx]
                  unfold cSg
                  repeat' split
                  all_goals omega
                rw [hr] at K
                exact K
              · refine w_t (np := 91) (l2 := [some (eI (a)), some (eI (b)), some (eJ (v4)), none, some (eJ (b)), none, some (eI (0))]) (s2 := [eI (1), eI (0)]) rfl rfl rfl ?_
                refine w_go (t1 := 95) rfl rfl ?_
                refine b_cne (t1 := 102) (t2 := 98) rfl rfl rfl rfl rfl (fun g23 => ?_) (fun g23 => absurd g23 (by decide))
                refine w_t (np := 103) (l2 := [some (eI (a)), some (eI (b)), some (eJ (v4)), none, some (eJ (b)), none, some (eI (0))]) (s2 := [eI (-1)]) rfl rfl rfl ?_
                refine b_ri rfl rfl ?_
                have hx : v4 = 2 * a + b := by omega
                rw [e16] at e19
                have hr : cSg (2 * a + b) b = -1 := by
                  rw [← hx]
                  unfold cSg
                  repeat' split
                  all_goals omega
                rw [hr] at K
                exact K
            · refine w_t (np := 76) (l2 := [some (eI (a)), some (eI (b)), some (eJ (v4)), none, some (eJ (b)), none, none]) (s2 := [eI (1)]) rfl rfl rfl ?_
              refine w_go (t1 := 80) rfl rfl ?_
              refine w_t (np := 82) (l2 := [some (eI (a)), some (eI (b)), some (eJ (v4)), none, some (eJ (b)), none, some (eI (1))]) (s2 := []) rfl rfl rfl ?_
              refine w_t (np := 84) (l2 := [some (eI (a)), some (eI (b)), some (eJ (v4)), none, some (eJ (b)), none, some (eI (1))]) (s2 := [eI (1)]) rfl rfl rfl ?_
              refine w_t (np := 85) (l2 := [some (eI (a)), some (eI (b)), some (eJ (v4)), none, some (eJ (b)), none, some (eI (1))]) (s2 := [eJ (v4), eI (1)]) rfl rfl rfl ?_
              refine w_t (np := 86) (l2 := [some (eI (a)), some (eI (b)), some (eJ (v4)), none, some (eJ (b)), none, some (eI (1))]) (s2 := [eJ (0), eJ (v4), eI (1)]) rfl rfl rfl ?_
              refine b_lle (t1 := 94) (t2 := 90) rfl rfl rfl rfl (ev_W_in (by omega) (by omega)) rfl (fun g22 => ?_) (fun g22 => ?_)
              · refine w_t (np := 95) (l2 := [some (eI (a)), some (eI (b)), some (eJ (v4)), none, some (eJ (b)), none, some (eI (1))]) (s2 := [eI (0), eI (1)]) rfl rfl rfl ?_
                refine b_cne (t1 := 102) (t2 := 98) rfl rfl rfl rfl rfl (fun g23 => ?_) (fun g23 => absurd g23 (by decide))
                refine w_t (np := 103) (l2 := [some (eI (a)), some (eI (b)), some (eJ (v4)), none, some (eJ (b)), none, some (eI (1))]) (s2 := [eI (-1)]) rfl rfl rfl ?_
                refine b_ri rfl rfl ?_
                have hx : v4 = 2 * a + b := by omega
                rw [e16] at e19
                have hr : cSg (2 * a + b) b = -1 := by
                  rw [← hx]
                  unfold cSg
                  repeat' split
                  all_goals omega
                rw [hr] at K
                exact K
              · refine w_t (np := 91) (l2 := [some (eI (a)), some (eI (b)), some (eJ (v4)), none, some (eJ (b)), none, some (eI (1))]) (s2 := [eI (1), eI (1)]) rfl rfl rfl ?_
                refine w_go (t1 := 95) rfl rfl ?_
                refine b_cne (t1 := 102) (t2 := 98) rfl rfl rfl rfl rfl (fun g23 => absurd g23 (by decide)) (fun g23 => ?_)
                refine w_t (np := 99) (l2 := [some (eI (a)), some (eI (b)), some (eJ (v4)), none, some (eJ (b)), none, some (eI (1))]) (s2 := [eI (1)]) rfl rfl rfl ?_
                refine w_go (t1 := 103) rfl rfl ?_
                refine b_ri rfl rfl ?_
                have hx : v4 = 2 * a + b := by omega
                rw [e16] at e19
                have hr : cSg (2 * a + b) b = 1 := by
                  rw [← hx]
                  unfold cSg
                  repeat' split
                  all_goals omega
                rw [hr] at K
                exact K
          · refine w_t (np := 52) (l2 := [some (eI (a)), some (eI (b)), some (eJ (v4)), none, some (eJ (b)), none, none]) (s2 := [eJ (b)]) rfl rfl rfl ?_
            refine w_t (np := 53) (l2 := [some (eI (a)), some (eI (b)), some (eJ (v4)), none, some (eJ (b)), none, none]) (s2 := [eJ (0), eJ (b)]) rfl rfl rfl ?_
            refine b_lgt (t1 := 59) (t2 := 57) rfl rfl rfl rfl (ev_W_in (by omega) (by omega)) rfl (fun g12 => ?_) (fun g12 => ?_)
            · refine w_t (np := 60) (l2 := [some (eI (a)), some (eI (b)), some (eJ (v4)), none, some (eJ (b)), none, none]) (s2 := [eJ (v4)]) rfl rfl rfl ?_
              refine w_t (np := 61) (l2 := [some (eI (a)), some (eI (b)), some (eJ (v4)), none, some (eJ (b)), none, none]) (s2 := [eJ (v4), eJ (v4)]) rfl rfl rfl ?_
              obtain ⟨v13, e14⟩ : ∃ zz : Int, zz = (v4) * (v4) := ⟨_, rfl⟩
              have b15 : -22500000000000000 ≤ v13 ∧ v13 ≤ 22500000000000000 := by
                have hm := i_mulb (a := v4) (b := v4) (A := 150000000) (B := 150000000) (by omega) (by omega)
                rw [e14]
                omega
              refine w_t (np := 62) (l2 := [some (eI (a)), some (eI (b)), some (eJ (v4)), none, some (eJ (b)), none, none]) (s2 := [eJ (v13)]) rfl (b_lmul (by rw [← e14]; exact ev_W_in (by omega) (by omega))) rfl ?_
              refine v_l2 (np := 65) (c := 5) rfl rfl (by decide) ?_
              rw [show zJ 5 = 5 by decide]
              refine w_t (np := 67) (l2 := [some (eI (a)), some (eI (b)), some (eJ (v4)), none, some (eJ (b)), none, none]) (s2 := [eJ (b), eJ (5), eJ (v13)]) rfl rfl rfl ?_
              obtain ⟨v16, e17⟩ : ∃ zz : Int, zz = (5) * (b) := ⟨_, rfl⟩
              have b18 : -250000000 ≤ v16 ∧ v16 ≤ 250000000 := by omega
              refine w_t (np := 68) (l2 := [some (eI (a)), some (eI (b)), some (eJ (v4)), none, some (eJ (b)), none, none]) (s2 := [eJ (v16), eJ (v13)]) rfl (b_lmul (by rw [← e17]; exact ev_W_in (by omega) (by omega))) rfl ?_
              refine w_t (np := 70) (l2 := [some (eI (a)), some (eI (b)), some (eJ (v4)), none, some (eJ (b)), none, none]) (s2 := [eJ (b), eJ (v16), eJ (v13)]) rfl rfl rfl ?_
              obtain ⟨v19, e20⟩ : ∃ zz : Int, zz = (v16) * (b) := ⟨_, rfl⟩
              have b21 : -12500000000000000 ≤ v19 ∧ v19 ≤ 12500000000000000 := by
                have hm := i_mulb (a := v16) (b := b) (A := 250000000) (B := 50000000) (by omega) (by omega)
                rw [e20]
                omega
              refine w_t (np := 71) (l2 := [some (eI (a)), some (eI (b)), some (eJ (v4)), none, some (eJ (b)), none, none]) (s2 := [eJ (v19), eJ (v13)]) rfl (b_lmul (by rw [← e20]; exact ev_W_in (by omega) (by omega))) rfl ?_
              refine b_lle (t1 := 79) (t2 := 75) rfl rfl rfl rfl (ev_W_in (by omega) (by omega)) (ev_W_in (by omega) (by omega)) (fun g22 => ?_) (fun g22 => ?_)
              · refine w_t (np := 80) (l2 := [some (eI (a)), some (eI (b)), some (eJ (v4)), none, some (eJ (b)), none, none]) (s2 := [eI (0)]) rfl rfl rfl ?_
                refine w_t (np := 82) (l2 := [some (eI (a)), some (eI (b)), some (eJ (v4)), none, some (eJ (b)), none, some (eI (0))]) (s2 := []) rfl rfl rfl ?_
                refine w_t (np := 84) (l2 := [some (eI (a)), some (eI (b)), some (eJ (v4)), none, some (eJ (b)), none, some (eI (0))]) (s2 := [eI (0)]) rfl rfl rfl ?_
                refine w_t (np := 85) (l2 := [some (eI (a)), some (eI (b)), some (eJ (v4)), none, some (eJ (b)), none, some (eI (0))]) (s2 := [eJ (v4), eI (0)]) rfl rfl rfl ?_
                refine w_t (np := 86) (l2 := [some (eI (a)), some (eI (b)), some (eJ (v4)), none, some (eJ (b)), none, some (eI (0))]) (s2 := [eJ (0), eJ (v4), eI (0)]) rfl rfl rfl ?_
                refine b_lle (t1 := 94) (t2 := 90) rfl rfl rfl rfl (ev_W_in (by omega) (by omega)) rfl (fun g23 => ?_) (fun g23 => ?_)
                · refine w_t (np := 95) (l2 := [some (eI (a)), some (eI (b)), some (eJ (v4)), none, some (eJ (b)), none, some (eI (0))]) (s2 := [eI (0), eI (0)]) rfl rfl rfl ?_
                  refine b_cne (t1 := 102) (t2 := 98) rfl rfl rfl rfl rfl (fun g24 => absurd g24 (by decide)) (fun g24 => ?_)
                  refine w_t (np := 99) (l2 := [some (eI (a)), some (eI (b)), some (eJ (v4)), none, some (eJ (b)), none, some (eI (0))]) (s2 := [eI (1)]) rfl rfl rfl ?_
                  refine w_go (t1 := 103) rfl rfl ?_
                  refine b_ri rfl rfl ?_
                  have hx : v4 = 2 * a + b := by omega
                  rw [e17] at e20
                  have hr : cSg (2 * a + b) b = 1 := by
                    rw [← hx]
                    unfold cSg
                    repeat' split
                    all_goals omega
                  rw [hr] at K
                  exact K
                · refine w_t (np := 91) (l2 := [some (eI (a)), some (eI (b)), some (eJ (v4)), none, some (eJ (b)), none, some (eI (0))]) (s2 := [eI (1), eI (0)]) rfl rfl rfl ?_
                  refine w_go (t1 := 95) rfl rfl ?_
                  refine b_cne (t1 := 102) (t2 := 98) rfl rfl rfl rfl rfl (fun g24 => ?_) (fun g24 => absurd g24 (by decide))
                  refine w_t (np := 103) (l2 := [some (eI (a)), some (eI (b)), some (eJ (v4)), none, some (eJ (b)), none, some (eI (0))]) (s2 := [eI (-1)]) rfl rfl rfl ?_
                  refine b_ri rfl rfl ?_
                  have hx : v4 = 2 * a + b := by omega
                  rw [e17] at e20
                  have hr : cSg (2 * a + b) b = -1 := by
                    rw [← hx]
                    unfold cSg
                    repeat' split
                    all_goals omega
                  rw [hr] at K
                  exact K
              · refine w_t (np := 76) (l2 := [some (eI (a)), some (eI (b)), some (eJ (v4)), none, some (eJ (b)), none, none]) (s2 := [eI (1)]) rfl rfl rfl ?_
                refine w_go (t1 := 80) rfl rfl ?_
                refine w_t (np := 82) (l2 := [some (eI (a)), some (eI (b)), some (eJ (v4)), none, some (eJ (b)), none, some (eI (1))]) (s2 := []) rfl rfl rfl ?_
                refine w_t (np := 84) (l2 := [some (eI (a)), some (eI (b)), some (eJ (v4)), none, some (eJ (b)), none, some (eI (1))]) (s2 := [eI (1)]) rfl rfl rfl ?_
                refine w_t (np := 85) (l2 := [some (eI (a)), some (eI (b)), some (eJ (v4)), none, some (eJ (b)), none, some (eI (1))]) (s2 := [eJ (v4), eI (1)]) rfl rfl rfl ?_
                refine w_t (np := 86) (l2 := [some (eI (a)), some (eI (b)), some (eJ (v4)), none, some (eJ (b)), none, some (eI (1))]) (s2 := [eJ (0), eJ (v4), eI (1)]) rfl rfl rfl ?_
                refine b_lle (t1 := 94) (t2 := 90) rfl rfl rfl rfl (ev_W_in (by omega) (by omega)) rfl (fun g23 => ?_) (fun g23 => ?_)
                · refine w_t (np := 95) (l2 := [some (eI (a)), some (eI (b)), some (eJ (v4)), none, some (eJ (b)), none, some (eI (1))]) (s2 := [eI (0), eI (1)]) rfl rfl rfl ?_
                  refine b_cne (t1 := 102) (t2 := 98) rfl rfl rfl rfl rfl (fun g24 => ?_) (fun g24 => absurd g24 (by decide))
                  refine w_t (np := 103) (l2 := [some (eI (a)), some (eI (b)), some (eJ (v4)), none, some (eJ (b)), none, some (eI (1))]) (s2 := [eI (-1)]) rfl rfl rfl ?_
                  refine b_ri rfl rfl ?_
                  have hx : v4 = 2 * a + b := by omega
                  rw [e17] at e20
                  have hr : cSg (2 * a + b) b = -1 := by
                    rw [← hx]
                    unfold cSg
                    repeat' split
                    all_goals omega
                  rw [hr] at K
                  exact K
                · refine w_t (np := 91) (l2 := [some (eI (a)), some (eI (b)), some (eJ (v4)), none, some (eJ (b)), none, some (eI (1))]) (s2 := [eI (1), eI (1)]) rfl rfl rfl ?_
                  refine w_go (t1 := 95) rfl rfl ?_
                  refine b_cne (t1 := 102) (t2 := 98) rfl rfl rfl rfl rfl (fun g24 => absurd g24 (by decide)) (fun g24 => ?_)
                  refine w_t (np := 99) (l2 := [some (eI (a)), some (eI (b)), some (eJ (v4)), none, some (eJ (b)), none, some (eI (1))]) (s2 := [eI (1)]) rfl rfl rfl ?_
                  refine w_go (t1 := 103) rfl rfl ?_
                  refine b_ri rfl rfl ?_
                  have hx : v4 = 2 * a + b := by omega
                  rw [e17] at e20
                  have hr : cSg (2 * a + b) b = 1 := by
                    rw [← hx]
                    unfold cSg
                    repeat' split
                    all_goals omega
                  rw [hr] at K
                  exact K
            · refine w_t (np := 58) (l2 := [some (eI (a)), some (eI (b)), some (eJ (v4)), none, some (eJ (b)), none, none]) (s2 := [eI (-1)]) rfl rfl rfl ?_
              refine b_ri rfl rfl ?_
              have hx : v4 = 2 * a + b := by omega
              have hr : cSg (2 * a + b) b = -1 := by
                rw [← hx]
                unfold cSg
                repeat' split
                all_goals omega
              rw [hr] at K
              exact K
        · refine w_t (np := 43) (l2 := [some (eI (a)), some (eI (b)), some (eJ (v4)), none, some (eJ (b)), none, none]) (s2 := [eI (1)]) rfl rfl rfl ?_
          refine b_ri rfl rfl ?_
          have hx : v4 = 2 * a + b := by omega
          have hr : cSg (2 * a + b) b = 1 := by
            rw [← hx]
            unfold cSg
            repeat' split
            all_goals omega
          rw [hr] at K
          exact K
    · refine w_t (np := 28) (l2 := [some (eI (a)), some (eI (b)), some (eJ (v4)), none, some (eJ (b)), none, none]) (s2 := [eI (0)]) rfl rfl rfl ?_
      refine b_ri rfl rfl ?_
      have hx : v4 = 2 * a + b := by omega
      have hr : cSg (2 * a + b) b = 0 := by
        rw [← hx]
        unfold cSg
        repeat' split
        all_goals omega
      rw [hr] at K
      exact K
theorem t81_0 {L : Nat} {ρ : Nat → Int} {rc rs d : Nat} {f : eFr} {F : List eFr} {μ : eM} {c : Nat} {p q r s : Int} (l0 : zI (z_i2s (z_l2i (z_lshr c 48))) = p) (l1 : zI (z_i2s (z_l2i (z_lshr c 32))) = q) (l2 : zI (z_i2s (z_l2i (z_lshr c 16))) = r) (l3 : zI (z_i2s (z_l2i (z_lshr c 0))) = s) (hp : -10010 ≤ p ∧ p ≤ 10010) (hq : -10010 ≤ q ∧ q ≤ 10010) (hr : -10010 ≤ r ∧ r ≤ 10010) (hs : -10010 ≤ s ∧ s ≤ 10010) (K : ex_fine (dt_fg L ρ) rc rs (d + 2, (f.1, f.2.1, f.2.2.1, eI (1 * q) :: f.2.2.2), F, μ)) : ex_fine (dt_fg L ρ) rc rs (d + 1, (81, 0, [some (eI (0)), some (eJ (zJ c)), none], []), f :: F, μ) := by
  refine w_t (np := 1) (l2 := [some (eI (0)), some (eJ (zJ c)), none]) (s2 := [eJ (zJ c)]) rfl rfl rfl ?_
  refine w_t (np := 2) (l2 := [some (eI (0)), some (eJ (zJ c)), none]) (s2 := [eI (0), eJ (zJ c)]) rfl rfl rfl ?_
  refine v_gs (np := 5) rfl rfl ?_
  refine w_cu (np := 8) (as := [eJ (zJ c), eI (0), eR 14]) (l2 := [some (eJ (zJ c)), none, some (eI (0)), some (eR 14), none, none, none]) (rest := []) rfl rfl rfl (Nat.ble_eq.mp rfl) rfl rfl rfl rfl ?_
  refine t80_14_0 l0 l1 l2 l3 hp hq hr hs ?_
  show ex_fine (dt_fg L ρ) rc rs (d + 1, (81, 8, [some (eI (0)), some (eJ (zJ c)), none], [eI (1 * q)]), f :: F, μ)
  exact b_ri rfl rfl K
theorem t82_0 {L : Nat} {ρ : Nat → Int} {rc rs d : Nat} {f : eFr} {F : List eFr} {μ : eM} {c : Nat} {p q r s : Int} (l0 : zI (z_i2s (z_l2i (z_lshr c 48))) = p) (l1 : zI (z_i2s (z_l2i (z_lshr c 32))) = q) (l2 : zI (z_i2s (z_l2i (z_lshr c 16))) = r) (l3 : zI (z_i2s (z_l2i (z_lshr c 0))) = s) (hp : -10010 ≤ p ∧ p ≤ 10010) (hq : -10010 ≤ q ∧ q ≤ 10010) (hr : -10010 ≤ r ∧ r ≤ 10010) (hs : -10010 ≤ s ∧ s ≤ 10010) (K : ex_fine (dt_fg L ρ) rc rs (d + 2, (f.1, f.2.1, f.2.2.1, eI (1 * r + 1 * s) :: f.2.2.2), F, μ)) : ex_fine (dt_fg L ρ) rc rs (d + 1, (82, 0, [some (eI (0)), some (eJ (zJ c)), none], []), f :: F, μ) := by
  refine w_t (np := 1) (l2 := [some (eI (0)), some (eJ (zJ c)), none]) (s2 := [eJ (zJ c)]) rfl rfl rfl ?_
  refine w_t (np := 2) (l2 := [some (eI (0)), some (eJ (zJ c)), none]) (s2 := [eI (0), eJ (zJ c)]) rfl rfl rfl ?_
  refine v_gs (np := 5) rfl rfl ?_
  refine w_cu (np := 8) (as := [eJ (zJ c), eI (0), eR 15]) (l2 := [some (eJ (zJ c)), none, some (eI (0)), some (eR 15), none, none, none]) (rest := []) rfl rfl rfl (Nat.ble_eq.mp rfl) rfl rfl rfl rfl ?_
  refine t80_15_0 l0 l1 l2 l3 hp hq hr hs ?_
  show ex_fine (dt_fg L ρ) rc rs (d + 1, (82, 8, [some (eI (0)), some (eJ (zJ c)), none], [eI (1 * r + 1 * s)]), f :: F, μ)
  exact b_ri rfl rfl K
theorem t83_0 {L : Nat} {ρ : Nat → Int} {rc rs d : Nat} {f : eFr} {F : List eFr} {μ : eM} {c : Nat} {p q r s : Int} (l0 : zI (z_i2s (z_l2i (z_lshr c 48))) = p) (l1 : zI (z_i2s (z_l2i (z_lshr c 32))) = q) (l2 : zI (z_i2s (z_l2i (z_lshr c 16))) = r) (l3 : zI (z_i2s (z_l2i (z_lshr c 0))) = s) (hp : -10010 ≤ p ∧ p ≤ 10010) (hq : -10010 ≤ q ∧ q ≤ 10010) (hr : -10010 ≤ r ∧ r ≤ 10010) (hs : -10010 ≤ s ∧ s ≤ 10010) (K : ∀ u : Int, ((0 ≤ u ↔ 0 ≤ 832040 * q + 1346269 * r + 1346269 * s) ∧ (u ≤ 0 ↔ 832040 * q + 1346269 * r + 1346269 * s ≤ 0)) → (u = 0 ∨ u = 1 ∨ u = -1) → ex_fine (dt_fg L ρ) rc rs (d + 2, (f.1, f.2.1, f.2.2.1, eI u :: f.2.2.2), F, μ)) : ex_fine (dt_fg L ρ) rc rs (d + 1, (83, 0, [some (eI (0)), some (eJ (zJ c)), none], []), f :: F, μ) := by
  refine w_t (np := 1) (l2 := [some (eI (0)), some (eJ (zJ c)), none]) (s2 := [eJ (zJ c)]) rfl rfl rfl ?_
  refine w_t (np := 2) (l2 := [some (eI (0)), some (eJ (zJ c)), none]) (s2 := [eI (0), eJ (zJ c)]) rfl rfl rfl ?_
  refine v_gs (np := 5) rfl rfl ?_
  refine w_cu (np := 8) (as := [eJ (zJ c), eI (0), eR 14]) (l2 := [some (eJ (zJ c)), none, some (eI (0)), some (eR 14), none, none, none]) (rest := []) rfl rfl rfl (Nat.ble_eq.mp rfl) rfl rfl rfl rfl ?_
  refine t80_14_0 l0 l1 l2 l3 hp hq hr hs ?_
  show ex_fine (dt_fg L ρ) rc rs (d + 1, (83, 8, [some (eI (0)), some (eJ (zJ c)), none], [eI (1 * q)]), f :: F, μ)
  refine w_t (np := 9) (l2 := [some (eI (0)), some (eJ (zJ c)), none]) (s2 := [eJ (zJ c), eI (1 * q)]) rfl rfl rfl ?_
  refine w_t (np := 10) (l2 := [some (eI (0)), some (eJ (zJ c)), none]) (s2 := [eI (0), eJ (zJ c), eI (1 * q)]) rfl rfl rfl ?_
  refine v_gs (np := 13) rfl rfl ?_
  refine w_cu (np := 16) (as := [eJ (zJ c), eI (0), eR 15]) (l2 := [some (eJ (zJ c)), none, some (eI (0)), some (eR 15), none, none, none]) (rest := [eI (1 * q)]) rfl rfl rfl (Nat.ble_eq.mp rfl) rfl rfl rfl rfl ?_
  refine t80_15_0 l0 l1 l2 l3 hp hq hr hs ?_
  show ex_fine (dt_fg L ρ) rc rs (d + 1, (83, 16, [some (eI (0)), some (eJ (zJ c)), none], [eI (1 * r + 1 * s), eI (1 * q)]), f :: F, μ)
  refine w_cu (np := 19) (as := [eI (1 * q), eI (1 * r + 1 * s)]) (l2 := [some (eI (1 * q)), some (eI (1 * r + 1 * s)), none, none, none, none, none]) (rest := []) rfl rfl rfl (Nat.ble_eq.mp rfl) rfl rfl rfl rfl ?_
  refine t85 (by omega) (by omega) ?_
  show ex_fine (dt_fg L ρ) rc rs (d + 1, (83, 19, [some (eI (0)), some (eJ (zJ c)), none], [eI (cSg (2 * (1 * q) + (1 * r + 1 * s)) (1 * r + 1 * s))]), f :: F, μ)
  have h9 := cSg_ok (x := 2 * (1 * q) + (1 * r + 1 * s)) (b := 1 * r + 1 * s) (by omega)
  have e9 : 416020 * (2 * (1 * q) + (1 * r + 1 * s)) + 930249 * (1 * r + 1 * s) = 832040 * q + 1346269 * r + 1346269 * s := by omega
  rw [e9] at h9
  exact b_ri rfl rfl (K _ h9 (cSg_v _ _))
theorem t81_1 {L : Nat} {ρ : Nat → Int} {rc rs d : Nat} {f : eFr} {F : List eFr} {μ : eM} {c : Nat} {p q r s : Int} (l0 : zI (z_i2s (z_l2i (z_lshr c 48))) = p) (l1 : zI (z_i2s (z_l2i (z_lshr c 32))) = q) (l2 : zI (z_i2s (z_l2i (z_lshr c 16))) = r) (l3 : zI (z_i2s (z_l2i (z_lshr c 0))) = s) (hp : -10010 ≤ p ∧ p ≤ 10010) (hq : -10010 ≤ q ∧ q ≤ 10010) (hr : -10010 ≤ r ∧ r ≤ 10010) (hs : -10010 ≤ s ∧ s ≤ 10010) (K : ex_fine (dt_fg L ρ) rc rs (d + 2, (f.1, f.2.1, f.2.2.1, eI ((-1) * p + 1 * r) :: f.2.2.2), F, μ)) : ex_fine (dt_fg L ρ) rc rs (d + 1, (81, 0, [some (eI (1)), some (eJ (zJ c)), none], []), f :: F, μ) := by
  refine w_t (np := 1) (l2 := [some (eI (1)), some (eJ (zJ c)), none]) (s2 := [eJ (zJ c)]) rfl rfl rfl ?_
  refine w_t (np := 2) (l2 := [some (eI (1)), some (eJ (zJ c)), none]) (s2 := [eI (1), eJ (zJ c)]) rfl rfl rfl ?_
  refine v_gs (np := 5) rfl rfl ?_
  refine w_cu (np := 8) (as := [eJ (zJ c), eI (1), eR 14]) (l2 := [some (eJ (zJ c)), none, some (eI (1)), some (eR 14), none, none, none]) (rest := []) rfl rfl rfl (Nat.ble_eq.mp rfl) rfl rfl rfl rfl ?_
  refine t80_14_1 l0 l1 l2 l3 hp hq hr hs ?_
  show ex_fine (dt_fg L ρ) rc rs (d + 1, (81, 8, [some (eI (1)), some (eJ (zJ c)), none], [eI ((-1) * p + 1 * r)]), f :: F, μ)
  exact b_ri rfl rfl K
theorem t82_1 {L : Nat} {ρ : Nat → Int} {rc rs d : Nat} {f : eFr} {F : List eFr} {μ : eM} {c : Nat} {p q r s : Int} (l0 : zI (z_i2s (z_l2i (z_lshr c 48))) = p) (l1 : zI (z_i2s (z_l2i (z_lshr c 32))) = q) (l2 : zI (z_i2s (z_l2i (z_lshr c 16))) = r) (l3 : zI (z_i2s (z_l2i (z_lshr c 0))) = s) (hp : -10010 ≤ p ∧ p ≤ 10010) (hq : -10010 ≤ q ∧ q ≤ 10010) (hr : -10010 ≤ r ∧ r ≤ 10010) (hs : -10010 ≤ s ∧ s ≤ 10010) (K : ex_fine (dt_fg L ρ) rc rs (d + 2, (f.1, f.2.1, f.2.2.1, eI (1 * s) :: f.2.2.2), F, μ)) : ex_fine (dt_fg L ρ) rc rs (d + 1, (82, 0, [some (eI (1)), some (eJ (zJ c)), none], []), f :: F, μ) := by
  refine w_t (np := 1) (l2 := [some (eI (1)), some (eJ (zJ c)), none]) (s2 := [eJ (zJ c)]) rfl rfl rfl ?_
  refine w_t (np := 2) (l2 := [some (eI (1)), some (eJ (zJ c)), none]) (s2 := [eI (1), eJ (zJ c)]) rfl rfl rfl ?_
  refine v_gs (np := 5) rfl rfl ?_
  refine w_cu (np := 8) (as := [eJ (zJ c), eI (1), eR 15]) (l2 := [some (eJ (zJ c)), none, some (eI (1)), some (eR 15), none, none, none]) (rest := []) rfl rfl rfl (Nat.ble_eq.mp rfl) rfl rfl rfl rfl ?_
  refine t80_15_1 l0 l1 l2 l3 hp hq hr hs ?_
  show ex_fine (dt_fg L ρ) rc rs (d + 1, (82, 8, [some (eI (1)), some (eJ (zJ c)), none], [eI (1 * s)]), f :: F, μ)
  exact b_ri rfl rfl K
theorem t83_1 {L : Nat} {ρ : Nat → Int} {rc rs d : Nat} {f : eFr} {F : List eFr} {μ : eM} {c : Nat} {p q r s : Int} (l0 : zI (z_i2s (z_l2i (z_lshr c 48))) = p) (l1 : zI (z_i2s (z_l2i (z_lshr c 32))) = q) (l2 : zI (z_i2s (z_l2i (z_lshr c 16))) = r) (l3 : zI (z_i2s (z_l2i (z_lshr c 0))) = s) (hp : -10010 ≤ p ∧ p ≤ 10010) (hq : -10010 ≤ q ∧ q ≤ 10010) (hr : -10010 ≤ r ∧ r ≤ 10010) (hs : -10010 ≤ s ∧ s ≤ 10010) (K : ∀ u : Int, ((0 ≤ u ↔ 0 ≤ (-832040) * p + 832040 * r + 1346269 * s) ∧ (u ≤ 0 ↔ (-832040) * p + 832040 * r + 1346269 * s ≤ 0)) → (u = 0 ∨ u = 1 ∨ u = -1) → ex_fine (dt_fg L ρ) rc rs (d + 2, (f.1, f.2.1, f.2.2.1, eI u :: f.2.2.2), F, μ)) : ex_fine (dt_fg L ρ) rc rs (d + 1, (83, 0, [some (eI (1)), some (eJ (zJ c)), none], []), f :: F, μ) := by
  refine w_t (np := 1) (l2 := [some (eI (1)), some (eJ (zJ c)), none]) (s2 := [eJ (zJ c)]) rfl rfl rfl ?_
  refine w_t (np := 2) (l2 := [some (eI (1)), some (eJ (zJ c)), none]) (s2 := [eI (1), eJ (zJ c)]) rfl rfl rfl ?_
  refine v_gs (np := 5) rfl rfl ?_
  refine w_cu (np := 8) (as := [eJ (zJ c), eI (1), eR 14]) (l2 := [some (eJ (zJ c)), none, some (eI (1)), some (eR 14), none, none, none]) (rest := []) rfl rfl rfl (Nat.ble_eq.mp rfl) rfl rfl rfl rfl ?_
  refine t80_14_1 l0 l1 l2 l3 hp hq hr hs ?_
  show ex_fine (dt_fg L ρ) rc rs (d + 1, (83, 8, [some (eI (1)), some (eJ (zJ c)), none], [eI ((-1) * p + 1 * r)]), f :: F, μ)
  refine w_t (np := 9) (l2 := [some (eI (1)), some (eJ (zJ c)), none]) (s2 := [eJ (zJ c), eI ((-1) * p + 1 * r)]) rfl rfl rfl ?_
  refine w_t (np := 10) (l2 := [some (eI (1)), some (eJ (zJ c)), none]) (s2 := [eI (1), eJ (zJ c), eI ((-1) * p + 1 * r)]) rfl rfl rfl ?_
  refine v_gs (np := 13) rfl rfl ?_
  refine w_cu (np := 16) (as := [eJ (zJ c), eI (1), eR 15]) (l2 := [some (eJ (zJ c)), none, some (eI (1)), some (eR 15), none, none, none]) (rest := [eI ((-1) * p + 1 * r)]) rfl rfl rfl (Nat.ble_eq.mp rfl) rfl rfl rfl rfl ?_
  refine t80_15_1 l0 l1 l2 l3 hp hq hr hs ?_
  show ex_fine (dt_fg L ρ) rc rs (d + 1, (83, 16, [some (eI (1)), some (eJ (zJ c)), none], [eI (1 * s), eI ((-1) * p + 1 * r)]), f :: F, μ)
  refine w_cu (np := 19) (as := [eI ((-1) * p + 1 * r), eI (1 * s)]) (l2 := [some (eI ((-1) * p + 1 * r)), some (eI (1 * s)), none, none, none, none, none]) (rest := []) rfl rfl rfl (Nat.ble_eq.mp rfl) rfl rfl rfl rfl ?_
  refine t85 (by omega) (by omega) ?_
  show ex_fine (dt_fg L ρ) rc rs (d + 1, (83, 19, [some (eI (1)), some (eJ (zJ c)), none], [eI (cSg (2 * ((-1) * p + 1 * r) + (1 * s)) (1 * s))]), f :: F, μ)
  have h9 := cSg_ok (x := 2 * ((-1) * p + 1 * r) + (1 * s)) (b := 1 * s) (by omega)
  have e9 : 416020 * (2 * ((-1) * p + 1 * r) + (1 * s)) + 930249 * (1 * s) = (-832040) * p + 832040 * r + 1346269 * s := by omega
  rw [e9] at h9
  exact b_ri rfl rfl (K _ h9 (cSg_v _ _))
theorem t81_2 {L : Nat} {ρ : Nat → Int} {rc rs d : Nat} {f : eFr} {F : List eFr} {μ : eM} {c : Nat} {p q r s : Int} (l0 : zI (z_i2s (z_l2i (z_lshr c 48))) = p) (l1 : zI (z_i2s (z_l2i (z_lshr c 32))) = q) (l2 : zI (z_i2s (z_l2i (z_lshr c 16))) = r) (l3 : zI (z_i2s (z_l2i (z_lshr c 0))) = s) (hp : -10010 ≤ p ∧ p ≤ 10010) (hq : -10010 ≤ q ∧ q ≤ 10010) (hr : -10010 ≤ r ∧ r ≤ 10010) (hs : -10010 ≤ s ∧ s ≤ 10010) (K : ex_fine (dt_fg L ρ) rc rs (d + 2, (f.1, f.2.1, f.2.2.1, eI ((-1) * q + 1 * s) :: f.2.2.2), F, μ)) : ex_fine (dt_fg L ρ) rc rs (d + 1, (81, 0, [some (eI (2)), some (eJ (zJ c)), none], []), f :: F, μ) := by
  refine w_t (np := 1) (l2 := [some (eI (2)), some (eJ (zJ c)), none]) (s2 := [eJ (zJ c)]) rfl rfl rfl ?_
  refine w_t (np := 2) (l2 := [some (eI (2)), some (eJ (zJ c)), none]) (s2 := [eI (2), eJ (zJ c)]) rfl rfl rfl ?_
  refine v_gs (np := 5) rfl rfl ?_
  refine w_cu (np := 8) (as := [eJ (zJ c), eI (2), eR 14]) (l2 := [some (eJ (zJ c)), none, some (eI (2)), some (eR 14), none, none, none]) (rest := []) rfl rfl rfl (Nat.ble_eq.mp rfl) rfl rfl rfl rfl ?_
  refine t80_14_2 l0 l1 l2 l3 hp hq hr hs ?_
  show ex_fine (dt_fg L ρ) rc rs (d + 1, (81, 8, [some (eI (2)), some (eJ (zJ c)), none], [eI ((-1) * q + 1 * s)]), f :: F, μ)
  exact b_ri rfl rfl K
theorem t82_2 {L : Nat} {ρ : Nat → Int} {rc rs d : Nat} {f : eFr} {F : List eFr} {μ : eM} {c : Nat} {p q r s : Int} (l0 : zI (z_i2s (z_l2i (z_lshr c 48))) = p) (l1 : zI (z_i2s (z_l2i (z_lshr c 32))) = q) (l2 : zI (z_i2s (z_l2i (z_lshr c 16))) = r) (l3 : zI (z_i2s (z_l2i (z_lshr c 0))) = s) (hp : -10010 ≤ p ∧ p ≤ 10010) (hq : -10010 ≤ q ∧ q ≤ 10010) (hr : -10010 ≤ r ∧ r ≤ 10010) (hs : -10010 ≤ s ∧ s ≤ 10010) (K : ex_fine (dt_fg L ρ) rc rs (d + 2, (f.1, f.2.1, f.2.2.1, eI ((-1) * p) :: f.2.2.2), F, μ)) : ex_fine (dt_fg L ρ) rc rs (d + 1, (82, 0, [some (eI (2)), some (eJ (zJ c)), none], []), f :: F, μ) := by
  refine w_t (np := 1) (l2 := [some (eI (2)), some (eJ (zJ c)), none]) (s2 := [eJ (zJ c)]) rfl rfl rfl ?_
  refine w_t (np := 2) (l2 := [some (eI (2)), some (eJ (zJ c)), none]) (s2 := [eI (2), eJ (zJ c)]) rfl rfl rfl ?_
  refine v_gs (np := 5) rfl rfl ?_
  refine w_cu (np := 8) (as := [eJ (zJ c), eI (2), eR 15]) (l2 := [some (eJ (zJ c)), none, some (eI (2)), some (eR 15), none, none, none]) (rest := []) rfl rfl rfl (Nat.ble_eq.mp rfl) rfl rfl rfl rfl ?_
  refine t80_15_2 l0 l1 l2 l3 hp hq hr hs ?_
  show ex_fine (dt_fg L ρ) rc rs (d + 1, (82, 8, [some (eI (2)), some (eJ (zJ c)), none], [eI ((-1) * p)]), f :: F, μ)
  exact b_ri rfl rfl K
theorem t83_2 {L : Nat} {ρ : Nat → Int} {rc rs d : Nat} {f : eFr} {F : List eFr} {μ : eM} {c : Nat} {p q r s : Int} (l0 : zI (z_i2s (z_l2i (z_lshr c 48))) = p) (l1 : zI (z_i2s (z_l2i (z_lshr c 32))) = q) (l2 : zI (z_i2s (z_l2i (z_lshr c 16))) = r) (l3 : zI (z_i2s (z_l2i (z_lshr c 0))) = s) (hp : -10010 ≤ p ∧ p ≤ 10010) (hq : -10010 ≤ q ∧ q ≤ 10010) (hr : -10010 ≤ r ∧ r ≤ 10010) (hs : -10010 ≤ s ∧ s ≤ 10010) (K : ∀ u : Int, ((0 ≤ u ↔ 0 ≤ (-1346269) * p + (-832040) * q + 832040 * s) ∧ (u ≤ 0 ↔ (-1346269) * p + (-832040) * q + 832040 * s ≤ 0)) → (u = 0 ∨ u = 1 ∨ u = -1) → ex_fine (dt_fg L ρ) rc rs (d + 2, (f.1, f.2.1, f.2.2.1, eI u :: f.2.2.2), F, μ)) : ex_fine (dt_fg L ρ) rc rs (d + 1, (83, 0, [some (eI (2)), some (eJ (zJ c)), none], []), f :: F, μ) := by
  refine w_t (np := 1) (l2 := [some (eI (2)), some (eJ (zJ c)), none]) (s2 := [eJ (zJ c)]) rfl rfl rfl ?_
  refine w_t (np := 2) (l2 := [some (eI (2)), some (eJ (zJ c)), none]) (s2 := [eI (2), eJ (zJ c)]) rfl rfl rfl ?_
  refine v_gs (np := 5) rfl rfl ?_
  refine w_cu (np := 8) (as := [eJ (zJ c), eI (2), eR 14]) (l2 := [some (eJ (zJ c)), none, some (eI (2)), some (eR 14), none, none, none]) (rest := []) rfl rfl rfl (Nat.ble_eq.mp rfl) rfl rfl rfl rfl ?_
  refine t80_14_2 l0 l1 l2 l3 hp hq hr hs ?_
  show ex_fine (dt_fg L ρ) rc rs (d + 1, (83, 8, [some (eI (2)), some (eJ (zJ c)), none], [eI ((-1) * q + 1 * s)]), f :: F, μ)
  refine w_t (np := 9) (l2 := [some (eI (2)), some (eJ (zJ c)), none]) (s2 := [eJ (zJ c), eI ((-1) * q + 1 * s)]) rfl rfl rfl ?_
  refine w_t (np := 10) (l2 := [some (eI (2)), some (eJ (zJ c)), none]) (s2 := [eI (2), eJ (zJ c), eI ((-1) * q + 1 * s)]) rfl rfl rfl ?_
  refine v_gs (np := 13) rfl rfl ?_
  refine w_cu (np := 16) (as := [eJ (zJ c), eI (2), eR 15]) (l2 := [some (eJ (zJ c)), none, some (eI (2)), some (eR 15), none, none, none]) (rest := [eI ((-1) * q + 1 * s)]) rfl rfl rfl (Nat.ble_eq.mp rfl) rfl rfl rfl rfl ?_
  refine t80_15_2 l0 l1 l2 l3 hp hq hr hs ?_
  show ex_fine (dt_fg L ρ) rc rs (d + 1, (83, 16, [some (eI (2)), some (eJ (zJ c)), none], [eI ((-1) * p), eI ((-1) * q + 1 * s)]), f :: F, μ)
  refine w_cu (np := 19) (as := [eI ((-1) * q + 1 * s), eI ((-1) * p)]) (l2 := [some (eI ((-1) * q + 1 * s)), some (eI ((-1) * p)), none, none, none, none, none]) (rest := []) rfl rfl rfl (Nat.ble_eq.mp rfl) rfl rfl rfl rfl ?_
  refine t85 (by omega) (by omega) ?_
  show ex_fine (dt_fg L ρ) rc rs (d + 1, (83, 19, [some (eI (2)), some (eJ (zJ c)), none], [eI (cSg (2 * ((-1) * q + 1 * s) + ((-1) * p)) ((-1) * p))]), f :: F, μ)
  have h9 := cSg_ok (x := 2 * ((-1) * q + 1 * s) + ((-1) * p)) (b := (-1) * p) (by omega)
  have e9 : 416020 * (2 * ((-1) * q + 1 * s) + ((-1) * p)) + 930249 * ((-1) * p) = (-1346269) * p + (-832040) * q + 832040 * s := by omega
  rw [e9] at h9
  exact b_ri rfl rfl (K _ h9 (cSg_v _ _))
theorem t81_3 {L : Nat} {ρ : Nat → Int} {rc rs d : Nat} {f : eFr} {F : List eFr} {μ : eM} {c : Nat} {p q r s : Int} (l0 : zI (z_i2s (z_l2i (z_lshr c 48))) = p) (l1 : zI (z_i2s (z_l2i (z_lshr c 32))) = q) (l2 : zI (z_i2s (z_l2i (z_lshr c 16))) = r) (l3 : zI (z_i2s (z_l2i (z_lshr c 0))) = s) (hp : -10010 ≤ p ∧ p ≤ 10010) (hq : -10010 ≤ q ∧ q ≤ 10010) (hr : -10010 ≤ r ∧ r ≤ 10010) (hs : -10010 ≤ s ∧ s ≤ 10010) (K : ex_fine (dt_fg L ρ) rc rs (d + 2, (f.1, f.2.1, f.2.2.1, eI ((-1) * r) :: f.2.2.2), F, μ)) : ex_fine (dt_fg L ρ) rc rs (d + 1, (81, 0, [some (eI (3)), some (eJ (zJ c)), none], []), f :: F, μ) := by
  refine w_t (np := 1) (l2 := [some (eI (3)), some (eJ (zJ c)), none]) (s2 := [eJ (zJ c)]) rfl rfl rfl ?_
  refine w_t (np := 2) (l2 := [some (eI (3)), some (eJ (zJ c)), none]) (s2 := [eI (3), eJ (zJ c)]) rfl rfl rfl ?_
  refine v_gs (np := 5) rfl rfl ?_
  refine w_cu (np := 8) (as := [eJ (zJ c), eI (3), eR 14]) (l2 := [some (eJ (zJ c)), none, some (eI (3)), some (eR 14), none, none, none]) (rest := []) rfl rfl rfl (Nat.ble_eq.mp rfl) rfl rfl rfl rfl ?_
  refine t80_14_3 l0 l1 l2 l3 hp hq hr hs ?_
  show ex_fine (dt_fg L ρ) rc rs (d + 1, (81, 8, [some (eI (3)), some (eJ (zJ c)), none], [eI ((-1) * r)]), f :: F, μ)
  exact b_ri rfl rfl K
theorem t82_3 {L : Nat} {ρ : Nat → Int} {rc rs d : Nat} {f : eFr} {F : List eFr} {μ : eM} {c : Nat} {p q r s : Int} (l0 : zI (z_i2s (z_l2i (z_lshr c 48))) = p) (l1 : zI (z_i2s (z_l2i (z_lshr c 32))) = q) (l2 : zI (z_i2s (z_l2i (z_lshr c 16))) = r) (l3 : zI (z_i2s (z_l2i (z_lshr c 0))) = s) (hp : -10010 ≤ p ∧ p ≤ 10010) (hq : -10010 ≤ q ∧ q ≤ 10010) (hr : -10010 ≤ r ∧ r ≤ 10010) (hs : -10010 ≤ s ∧ s ≤ 10010) (K : ex_fine (dt_fg L ρ) rc rs (d + 2, (f.1, f.2.1, f.2.2.1, eI ((-1) * p + (-1) * q) :: f.2.2.2), F, μ)) : ex_fine (dt_fg L ρ) rc rs (d + 1, (82, 0, [some (eI (3)), some (eJ (zJ c)), none], []), f :: F, μ) := by
  refine w_t (np := 1) (l2 := [some (eI (3)), some (eJ (zJ c)), none]) (s2 := [eJ (zJ c)]) rfl rfl rfl ?_
  refine w_t (np := 2) (l2 := [some (eI (3)), some (eJ (zJ c)), none]) (s2 := [eI (3), eJ (zJ c)]) rfl rfl rfl ?_
  refine v_gs (np := 5) rfl rfl ?_
  refine w_cu (np := 8) (as := [eJ (zJ c), eI (3), eR 15]) (l2 := [some (eJ (zJ c)), none, some (eI (3)), some (eR 15), none, none, none]) (rest := []) rfl rfl rfl (Nat.ble_eq.mp rfl) rfl rfl rfl rfl ?_
  refine t80_15_3 l0 l1 l2 l3 hp hq hr hs ?_
  show ex_fine (dt_fg L ρ) rc rs (d + 1, (82, 8, [some (eI (3)), some (eJ (zJ c)), none], [eI ((-1) * p + (-1) * q)]), f :: F, μ)
  exact b_ri rfl rfl K
theorem t83_3 {L : Nat} {ρ : Nat → Int} {rc rs d : Nat} {f : eFr} {F : List eFr} {μ : eM} {c : Nat} {p q r s : Int} (l0 : zI (z_i2s (z_l2i (z_lshr c 48))) = p) (l1 : zI (z_i2s (z_l2i (z_lshr c 32))) = q) (l2 : zI (z_i2s (z_l2i (z_lshr c 16))) = r) (l3 : zI (z_i2s (z_l2i (z_lshr c 0))) = s) (hp : -10010 ≤ p ∧ p ≤ 10010) (hq : -10010 ≤ q ∧ q ≤ 10010) (hr : -10010 ≤ r ∧ r ≤ 10010) (hs : -10010 ≤ s ∧ s ≤ 10010) (K : ∀ u : Int, ((0 ≤ u ↔ 0 ≤ (-1346269) * p + (-1346269) * q + (-832040) * r) ∧ (u ≤ 0 ↔ (-1346269) * p + (-1346269) * q + (-832040) * r ≤ 0)) → (u = 0 ∨ u = 1 ∨ u = -1) → ex_fine (dt_fg L ρ) rc rs (d + 2, (f.1, f.2.1, f.2.2.1, eI u :: f.2.2.2), F, μ)) : ex_fine (dt_fg L ρ) rc rs (d + 1, (83, 0, [some (eI (3)), some (eJ (zJ c)), none], []), f :: F, μ) := by
  refine w_t (np := 1) (l2 := [some (eI (3)), some (eJ (zJ c)), none]) (s2 := [eJ (zJ c)]) rfl rfl rfl ?_
  refine w_t (np := 2) (l2 := [some (eI (3)), some (eJ (zJ c)), none]) (s2 := [eI (3), eJ (zJ c)]) rfl rfl rfl ?_
  refine v_gs (np := 5) rfl rfl ?_
  refine w_cu (np := 8) (as := [eJ (zJ c), eI (3), eR 14]) (l2 := [some (eJ (zJ c)), none, some (eI (3)), some (eR 14), none, none, none]) (rest := []) rfl rfl rfl (Nat.ble_eq.mp rfl) rfl rfl rfl rfl ?_
  refine t80_14_3 l0 l1 l2 l3 hp hq hr hs ?_
  show ex_fine (dt_fg L ρ) rc rs (d + 1, (83, 8, [some (eI (3)), some (eJ (zJ c)), none], [eI ((-1) * r)]), f :: F, μ)
  refine w_t (np := 9) (l2 := [some (eI (3)), some (eJ (zJ c)), none]) (s2 := [eJ (zJ c), eI ((-1) * r)]) rfl rfl rfl ?_
  refine w_t (np := 10) (l2 := [some (eI (3)), some (eJ (zJ c)), none]) (s2 := [eI (3), eJ (zJ c), eI ((-1) * r)]) rfl rfl rfl ?_
  refine v_gs (np := 13) rfl rfl ?_
  refine w_cu (np := 16) (as := [eJ (zJ c), eI (3), eR 15]) (l2 := [some (eJ (zJ c)), none, some (eI (3)), some (eR 15), none, none, none]) (rest := [eI ((-1) * r)]) rfl rfl rfl (Nat.ble_eq.mp rfl) rfl rfl rfl rfl ?_
  refine t80_15_3 l0 l1 l2 l3 hp hq hr hs ?_
  show ex_fine (dt_fg L ρ) rc rs (d + 1, (83, 16, [some (eI (3)), some (eJ (zJ c)), none], [eI ((-1) * p + (-1) * q), eI ((-1) * r)]), f :: F, μ)
  refine w_cu (np := 19) (as := [eI ((-1) * r), eI ((-1) * p + (-1) * q)]) (l2 := [some (eI ((-1) * r)), some (eI ((-1) * p + (-1) * q)), none, none, none, none, none]) (rest := []) rfl rfl rfl (Nat.ble_eq.mp rfl) rfl rfl rfl rfl ?_
  refine t85 (by omega) (by omega) ?_
  show ex_fine (dt_fg L ρ) rc rs (d + 1, (83, 19, [some (eI (3)), some (eJ (zJ c)), none], [eI (cSg (2 * ((-1) * r) + ((-1) * p + (-1) * q)) ((-1) * p + (-1) * q))]), f :: F, μ)
  have h9 := cSg_ok (x := 2 * ((-1) * r) + ((-1) * p + (-1) * q)) (b := (-1) * p + (-1) * q) (by omega)
  have e9 : 416020 * (2 * ((-1) * r) + ((-1) * p + (-1) * q)) + 930249 * ((-1) * p + (-1) * q) = (-1346269) * p + (-1346269) * q + (-832040) * r := by omega
  rw [e9] at h9
  exact b_ri rfl rfl (K _ h9 (cSg_v _ _))
theorem t81_4 {L : Nat} {ρ : Nat → Int} {rc rs d : Nat} {f : eFr} {F : List eFr} {μ : eM} {c : Nat} {p q r s : Int} (l0 : zI (z_i2s (z_l2i (z_lshr c 48))) = p) (l1 : zI (z_i2s (z_l2i (z_lshr c 32))) = q) (l2 : zI (z_i2s (z_l2i (z_lshr c 16))) = r) (l3 : zI (z_i2s (z_l2i (z_lshr c 0))) = s) (hp : -10010 ≤ p ∧ p ≤ 10010) (hq : -10010 ≤ q ∧ q ≤ 10010) (hr : -10010 ≤ r ∧ r ≤ 10010) (hs : -10010 ≤ s ∧ s ≤ 10010) (K : ex_fine (dt_fg L ρ) rc rs (d + 2, (f.1, f.2.1, f.2.2.1, eI ((-1) * p + (-1) * s) :: f.2.2.2), F, μ)) : ex_fine (dt_fg L ρ) rc rs (d + 1, (81, 0, [some (eI (4)), some (eJ (zJ c)), none], []), f :: F, μ) := by
  refine w_t (np := 1) (l2 := [some (eI (4)), some (eJ (zJ c)), none]) (s2 := [eJ (zJ c)]) rfl rfl rfl ?_
  refine w_t (np := 2) (l2 := [some (eI (4)), some (eJ (zJ c)), none]) (s2 := [eI (4), eJ (zJ c)]) rfl rfl rfl ?_
  refine v_gs (np := 5) rfl rfl ?_
  refine w_cu (np := 8) (as := [eJ (zJ c), eI (4), eR 14]) (l2 := [some (eJ (zJ c)), none, some (eI (4)), some (eR 14), none, none, none]) (rest := []) rfl rfl rfl (Nat.ble_eq.mp rfl) rfl rfl rfl rfl ?_
  refine t80_14_4 l0 l1 l2 l3 hp hq hr hs ?_
  show ex_fine (dt_fg L ρ) rc rs (d + 1, (81, 8, [some (eI (4)), some (eJ (zJ c)), none], [eI ((-1) * p + (-1) * s)]), f :: F, μ)
  exact b_ri rfl rfl K
theorem t82_4 {L : Nat} {ρ : Nat → Int} {rc rs d : Nat} {f : eFr} {F : List eFr} {μ : eM} {c : Nat} {p q r s : Int} (l0 : zI (z_i2s (z_l2i (z_lshr c 48))) = p) (l1 : zI (z_i2s (z_l2i (z_lshr c 32))) = q) (l2 : zI (z_i2s (z_l2i (z_lshr c 16))) = r) (l3 : zI (z_i2s (z_l2i (z_lshr c 0))) = s) (hp : -10010 ≤ p ∧ p ≤ 10010) (hq : -10010 ≤ q ∧ q ≤ 10010) (hr : -10010 ≤ r ∧ r ≤ 10010) (hs : -10010 ≤ s ∧ s ≤ 10010) (K : ex_fine (dt_fg L ρ) rc rs (d + 2, (f.1, f.2.1, f.2.2.1, eI ((-1) * q + (-1) * r) :: f.2.2.2), F, μ)) : ex_fine (dt_fg L ρ) rc rs (d + 1, (82, 0, [some (eI (4)), some (eJ (zJ c)), none], []), f :: F, μ) := by
  refine w_t (np := 1) (l2 := [some (eI (4)), some (eJ (zJ c)), none]) (s2 := [eJ (zJ c)]) rfl rfl rfl ?_
  refine w_t (np := 2) (l2 := [some (eI (4)), some (eJ (zJ c)), none]) (s2 := [eI (4), eJ (zJ c)]) rfl rfl rfl ?_
  refine v_gs (np := 5) rfl rfl ?_
  refine w_cu (np := 8) (as := [eJ (zJ c), eI (4), eR 15]) (l2 := [some (eJ (zJ c)), none, some (eI (4)), some (eR 15), none, none, none]) (rest := []) rfl rfl rfl (Nat.ble_eq.mp rfl) rfl rfl rfl rfl ?_
  refine t80_15_4 l0 l1 l2 l3 hp hq hr hs ?_
  show ex_fine (dt_fg L ρ) rc rs (d + 1, (82, 8, [some (eI (4)), some (eJ (zJ c)), none], [eI ((-1) * q + (-1) * r)]), f :: F, μ)
  exact b_ri rfl rfl K
theorem t83_4 {L : Nat} {ρ : Nat → Int} {rc rs d : Nat} {f : eFr} {F : List eFr} {μ : eM} {c : Nat} {p q r s : Int} (l0 : zI (z_i2s (z_l2i (z_lshr c 48))) = p) (l1 : zI (z_i2s (z_l2i (z_lshr c 32))) = q) (l2 : zI (z_i2s (z_l2i (z_lshr c 16))) = r) (l3 : zI (z_i2s (z_l2i (z_lshr c 0))) = s) (hp : -10010 ≤ p ∧ p ≤ 10010) (hq : -10010 ≤ q ∧ q ≤ 10010) (hr : -10010 ≤ r ∧ r ≤ 10010) (hs : -10010 ≤ s ∧ s ≤ 10010) (K : ∀ u : Int, ((0 ≤ u ↔ 0 ≤ (-832040) * p + (-1346269) * q + (-1346269) * r + (-832040) * s) ∧ (u ≤ 0 ↔ (-832040) * p + (-1346269) * q + (-1346269) * r + (-832040) * s ≤ 0)) → (u = 0 ∨ u = 1 ∨ u = -1) → ex_fine (dt_fg L ρ) rc rs (d + 2, (f.1, f.2.1, f.2.2.1, eI u :: f.2.2.2), F, μ)) : ex_fine (dt_fg L ρ) rc rs (d + 1, (83, 0, [some (eI (4)), some (eJ (zJ c)), none], []), f :: F, μ) := by
  refine w_t (np := 1) (l2 := [some (eI (4)), some (eJ (zJ c)), none]) (s2 := [eJ (zJ c)]) rfl rfl rfl ?_
  refine w_t (np := 2) (l2 := [some (eI (4)), some (eJ (zJ c)), none]) (s2 := [eI (4), eJ (zJ c)]) rfl rfl rfl ?_
  refine v_gs (np := 5) rfl rfl ?_
  refine w_cu (np := 8) (as := [eJ (zJ c), eI (4), eR 14]) (l2 := [some (eJ (zJ c)), none, some (eI (4)), some (eR 14), none, none, none]) (rest := []) rfl rfl rfl (Nat.ble_eq.mp rfl) rfl rfl rfl rfl ?_
  refine t80_14_4 l0 l1 l2 l3 hp hq hr hs ?_
  show ex_fine (dt_fg L ρ) rc rs (d + 1, (83, 8, [some (eI (4)), some (eJ (zJ c)), none], [eI ((-1) * p + (-1) * s)]), f :: F, μ)
  refine w_t (np := 9) (l2 := [some (eI (4)), some (eJ (zJ c)), none]) (s2 := [eJ (zJ c), eI ((-1) * p + (-1) * s)]) rfl rfl rfl ?_
  refine w_t (np := 10) (l2 := [some (eI (4)), some (eJ (zJ c)), none]) (s2 := [eI (4), eJ (zJ c), eI ((-1) * p + (-1) * s)]) rfl rfl rfl ?_
  refine v_gs (np := 13) rfl rfl ?_
  refine w_cu (np := 16) (as := [eJ (zJ c), eI (4), eR 15]) (l2 := [some (eJ (zJ c)), none, some (eI (4)), some (eR 15), none, none, none]) (rest := [eI ((-1) * p + (-1) * s)]) rfl rfl rfl (Nat.ble_eq.mp rfl) rfl rfl rfl rfl ?_
  refine t80_15_4 l0 l1 l2 l3 hp hq hr hs ?_
  show ex_fine (dt_fg L ρ) rc rs (d + 1, (83, 16, [some (eI (4)), some (eJ (zJ c)), none], [eI ((-1) * q + (-1) * r), eI ((-1) * p + (-1) * s)]), f :: F, μ)
  refine w_cu (np := 19) (as := [eI ((-1) * p + (-1) * s), eI ((-1) * q + (-1) * r)]) (l2 := [some (eI ((-1) * p + (-1) * s)), some (eI ((-1) * q + (-1) * r)), none, none, none, none, none]) (rest := []) rfl rfl rfl (Nat.ble_eq.mp rfl) rfl rfl rfl rfl ?_
  refine t85 (by omega) (by omega) ?_
  show ex_fine (dt_fg L ρ) rc rs (d + 1, (83, 19, [some (eI (4)), some (eJ (zJ c)), none], [eI (cSg (2 * ((-1) * p + (-1) * s) + ((-1) * q + (-1) * r)) ((-1) * q + (-1) * r))]), f :: F, μ)
  have h9 := cSg_ok (x := 2 * ((-1) * p + (-1) * s) + ((-1) * q + (-1) * r)) (b := (-1) * q + (-1) * r) (by omega)
  have e9 : 416020 * (2 * ((-1) * p + (-1) * s) + ((-1) * q + (-1) * r)) + 930249 * ((-1) * q + (-1) * r) = (-832040) * p + (-1346269) * q + (-1346269) * r + (-832040) * s := by omega
  rw [e9] at h9
  exact b_ri rfl rfl (K _ h9 (cSg_v _ _))
theorem t81_5 {L : Nat} {ρ : Nat → Int} {rc rs d : Nat} {f : eFr} {F : List eFr} {μ : eM} {c : Nat} {p q r s : Int} (l0 : zI (z_i2s (z_l2i (z_lshr c 48))) = p) (l1 : zI (z_i2s (z_l2i (z_lshr c 32))) = q) (l2 : zI (z_i2s (z_l2i (z_lshr c 16))) = r) (l3 : zI (z_i2s (z_l2i (z_lshr c 0))) = s) (hp : -10010 ≤ p ∧ p ≤ 10010) (hq : -10010 ≤ q ∧ q ≤ 10010) (hr : -10010 ≤ r ∧ r ≤ 10010) (hs : -10010 ≤ s ∧ s ≤ 10010) (K : ex_fine (dt_fg L ρ) rc rs (d + 2, (f.1, f.2.1, f.2.2.1, eI ((-1) * q) :: f.2.2.2), F, μ)) : ex_fine (dt_fg L ρ) rc rs (d + 1, (81, 0, [some (eI (5)), some (eJ (zJ c)), none], []), f :: F, μ) := by
  refine w_t (np := 1) (l2 := [some (eI (5)), some (eJ (zJ c)), none]) (s2 := [eJ (zJ c)]) rfl rfl rfl ?_
  refine w_t (np := 2) (l2 := [some (eI (5)), some (eJ (zJ c)), none]) (s2 := [eI (5), eJ (zJ c)]) rfl rfl rfl ?_
  refine v_gs (np := 5) rfl rfl ?_
  refine w_cu (np := 8) (as := [eJ (zJ c), eI (5), eR 14]) (l2 := [some (eJ (zJ c)), none, some (eI (5)), some (eR 14), none, none, none]) (rest := []) rfl rfl rfl (Nat.ble_eq.mp rfl) rfl rfl rfl rfl ?_
  refine t80_14_5 l0 l1 l2 l3 hp hq hr hs ?_
  show ex_fine (dt_fg L ρ) rc rs (d + 1, (81, 8, [some (eI (5)), some (eJ (zJ c)), none], [eI ((-1) * q)]), f :: F, μ)
  exact b_ri rfl rfl K
theorem t82_5 {L : Nat} {ρ : Nat → Int} {rc rs d : Nat} {f : eFr} {F : List eFr} {μ : eM} {c : Nat} {p q r s : Int} (l0 : zI (z_i2s (z_l2i (z_lshr c 48))) = p) (l1 : zI (z_i2s (z_l2i (z_lshr c 32))) = q) (l2 : zI (z_i2s (z_l2i (z_lshr c 16))) = r) (l3 : zI (z_i2s (z_l2i (z_lshr c 0))) = s) (hp : -10010 ≤ p ∧ p ≤ 10010) (hq : -10010 ≤ q ∧ q ≤ 10010) (hr : -10010 ≤ r ∧ r ≤ 10010) (hs : -10010 ≤ s ∧ s ≤ 10010) (K : ex_fine (dt_fg L ρ) rc rs (d + 2, (f.1, f.2.1, f.2.2.1, eI ((-1) * r + (-1) * s) :: f.2.2.2), F, μ)) : ex_fine (dt_fg L ρ) rc rs (d + 1, (82, 0, [some (eI (5)), some (eJ (zJ c)), none], []), f :: F, μ) := by
  refine w_t (np := 1) (l2 := [some (eI (5)), some (eJ (zJ c)), none]) (s2 := [eJ (zJ c)]) rfl rfl rfl ?_
  refine w_t (np := 2) (l2 := [some (eI (5)), some (eJ (zJ c)), none]) (s2 := [eI (5), eJ (zJ c)]) rfl rfl rfl ?_
  refine v_gs (np := 5) rfl rfl ?_
  refine w_cu (np := 8) (as := [eJ (zJ c), eI (5), eR 15]) (l2 := [some (eJ (zJ c)), none, some (eI (5)), some (eR 15), none, none, none]) (rest := []) rfl rfl rfl (Nat.ble_eq.mp rfl) rfl rfl rfl rfl ?_
  refine t80_15_5 l0 l1 l2 l3 hp hq hr hs ?_
  show ex_fine (dt_fg L ρ) rc rs (d + 1, (82, 8, [some (eI (5)), some (eJ (zJ c)), none], [eI ((-1) * r + (-1) * s)]), f :: F, μ)
  exact b_ri rfl rfl K
theorem t83_5 {L : Nat} {ρ : Nat → Int} {rc rs d : Nat} {f : eFr} {F : List eFr} {μ : eM} {c : Nat} {p q r s : Int} (l0 : zI (z_i2s (z_l2i (z_lshr c 48))) = p) (l1 : zI (z_i2s (z_l2i (z_lshr c 32))) = q) (l2 : zI (z_i2s (z_l2i (z_lshr c 16))) = r) (l3 : zI (z_i2s (z_l2i (z_lshr c 0))) = s) (hp : -10010 ≤ p ∧ p ≤ 10010) (hq : -10010 ≤ q ∧ q ≤ 10010) (hr : -10010 ≤ r ∧ r ≤ 10010) (hs : -10010 ≤ s ∧ s ≤ 10010) (K : ∀ u : Int, ((0 ≤ u ↔ 0 ≤ (-832040) * q + (-1346269) * r + (-1346269) * s) ∧ (u ≤ 0 ↔ (-832040) * q + (-1346269) * r + (-1346269) * s ≤ 0)) → (u = 0 ∨ u = 1 ∨ u = -1) → ex_fine (dt_fg L ρ) rc rs (d + 2, (f.1, f.2.1, f.2.2.1, eI u :: f.2.2.2), F, μ)) : ex_fine (dt_fg L ρ) rc rs (d + 1, (83, 0, [some (eI (5)), some (eJ (zJ c)), none], []), f :: F, μ) := by
  refine w_t (np := 1) (l2 := [some (eI (5)), some (eJ (zJ c)), none]) (s2 := [eJ (zJ c)]) rfl rfl rfl ?_
  refine w_t (np := 2) (l2 := [some (eI (5)), some (eJ (zJ c)), none]) (s2 := [eI (5), eJ (zJ c)]) rfl rfl rfl ?_
  refine v_gs (np := 5) rfl rfl ?_
  refine w_cu (np := 8) (as := [eJ (zJ c), eI (5), eR 14]) (l2 := [some (eJ (zJ c)), none, some (eI (5)), some (eR 14), none, none, none]) (rest := []) rfl rfl rfl (Nat.ble_eq.mp rfl) rfl rfl rfl rfl ?_
  refine t80_14_5 l0 l1 l2 l3 hp hq hr hs ?_
  show ex_fine (dt_fg L ρ) rc rs (d + 1, (83, 8, [some (eI (5)), some (eJ (zJ c)), none], [eI ((-1) * q)]), f :: F, μ)
  refine w_t (np := 9) (l2 := [some (eI (5)), some (eJ (zJ c)), none]) (s2 := [eJ (zJ c), eI ((-1) * q)]) rfl rfl rfl ?_
  refine w_t (np := 10) (l2 := [some (eI (5)), some (eJ (zJ c)), none]) (s2 := [eI (5), eJ (zJ c), eI ((-1) * q)]) rfl rfl rfl ?_
  refine v_gs (np := 13) rfl rfl ?_
  refine w_cu (np := 16) (as := [eJ (zJ c), eI (5), eR 15]) (l2 := [some (eJ (zJ c)), none, some (eI (5)), some (eR 15), none, none, none]) (rest := [eI ((-1) * q)]) rfl rfl rfl (Nat.ble_eq.mp rfl) rfl rfl rfl rfl ?_
  refine t80_15_5 l0 l1 l2 l3 hp hq hr hs ?_
  show ex_fine (dt_fg L ρ) rc rs (d + 1, (83, 16, [some (eI (5)), some (eJ (zJ c)), none], [eI ((-1) * r + (-1) * s), eI ((-1) * q)]), f :: F, μ)
  refine w_cu (np := 19) (as := [eI ((-1) * q), eI ((-1) * r + (-1) * s)]) (l2 := [some (eI ((-1) * q)), some (eI ((-1) * r + (-1) * s)), none, none, none, none, none]) (rest := []) rfl rfl rfl (Nat.ble_eq.mp rfl) rfl rfl rfl rfl ?_
  refine t85 (by omega) (by omega) ?_
  show ex_fine (dt_fg L ρ) rc rs (d + 1, (83, 19, [some (eI (5)), some (eJ (zJ c)), none], [eI (cSg (2 * ((-1) * q) + ((-1) * r + (-1) * s)) ((-1) * r + (-1) * s))]), f :: F, μ)
  have h9 := cSg_ok (x := 2 * ((-1) * q) + ((-1) * r + (-1) * s)) (b := (-1) * r + (-1) * s) (by omega)
  have e9 : 416020 * (2 * ((-1) * q) + ((-1) * r + (-1) * s)) + 930249 * ((-1) * r + (-1) * s) = (-832040) * q + (-1346269) * r + (-1346269) * s := by omega
  rw [e9] at h9
  exact b_ri rfl rfl (K _ h9 (cSg_v _ _))
theorem t81_6 {L : Nat} {ρ : Nat → Int} {rc rs d : Nat} {f : eFr} {F : List eFr} {μ : eM} {c : Nat} {p q r s : Int} (l0 : zI (z_i2s (z_l2i (z_lshr c 48))) = p) (l1 : zI (z_i2s (z_l2i (z_lshr c 32))) = q) (l2 : zI (z_i2s (z_l2i (z_lshr c 16))) = r) (l3 : zI (z_i2s (z_l2i (z_lshr c 0))) = s) (hp : -10010 ≤ p ∧ p ≤ 10010) (hq : -10010 ≤ q ∧ q ≤ 10010) (hr : -10010 ≤ r ∧ r ≤ 10010) (hs : -10010 ≤ s ∧ s ≤ 10010) (K : ex_fine (dt_fg L ρ) rc rs (d + 2, (f.1, f.2.1, f.2.2.1, eI (1 * p + (-1) * r) :: f.2.2.2), F, μ)) : ex_fine (dt_fg L ρ) rc rs (d + 1, (81, 0, [some (eI (6)), some (eJ (zJ c)), none], []), f :: F, μ) := by
  refine w_t (np := 1) (l2 := [some (eI (6)), some (eJ (zJ c)), none]) (s2 := [eJ (zJ c)]) rfl rfl rfl ?_
  refine w_t (np := 2) (l2 := [some (eI (6)), some (eJ (zJ c)), none]) (s2 := [eI (6), eJ (zJ c)]) rfl rfl rfl ?_
  refine v_gs (np := 5) rfl rfl ?_
  refine w_cu (np := 8) (as := [eJ (zJ c), eI (6), eR 14]) (l2 := [some (eJ (zJ c)), none, some (eI (6)), some (eR 14), none, none, none]) (rest := []) rfl rfl rfl (Nat.ble_eq.mp rfl) rfl rfl rfl rfl ?_
  refine t80_14_6 l0 l1 l2 l3 hp hq hr hs ?_
  show ex_fine (dt_fg L ρ) rc rs (d + 1, (81, 8, [some (eI (6)), some (eJ (zJ c)), none], [eI (1 * p + (-1) * r)]), f :: F, μ)
  exact b_ri rfl rfl K
theorem t82_6 {L : Nat} {ρ : Nat → Int} {rc rs d : Nat} {f : eFr} {F : List eFr} {μ : eM} {c : Nat} {p q r s : Int} (l0 : zI (z_i2s (z_l2i (z_lshr c 48))) = p) (l1 : zI (z_i2s (z_l2i (z_lshr c 32))) = q) (l2 : zI (z_i2s (z_l2i (z_lshr c 16))) = r) (l3 : zI (z_i2s (z_l2i (z_lshr c 0))) = s) (hp : -10010 ≤ p ∧ p ≤ 10010) (hq : -10010 ≤ q ∧ q ≤ 10010) (hr : -10010 ≤ r ∧ r ≤ 10010) (hs : -10010 ≤ s ∧ s ≤ 10010) (K : ex_fine (dt_fg L ρ) rc rs (d + 2, (f.1, f.2.1, f.2.2.1, eI ((-1) * s) :: f.2.2.2), F, μ)) : ex_fine (dt_fg L ρ) rc rs (d + 1, (82, 0, [some (eI (6)), some (eJ (zJ c)), none], []), f :: F, μ) := by
  refine w_t (np := 1) (l2 := [some (eI (6)), some (eJ (zJ c)), none]) (s2 := [eJ (zJ c)]) rfl rfl rfl ?_
  refine w_t (np := 2) (l2 := [some (eI (6)), some (eJ (zJ c)), none]) (s2 := [eI (6), eJ (zJ c)]) rfl rfl rfl ?_
  refine v_gs (np := 5) rfl rfl ?_
  refine w_cu (np := 8) (as := [eJ (zJ c), eI (6), eR 15]) (l2 := [some (eJ (zJ c)), none, some (eI (6)), some (eR 15), none, none, none]) (rest := []) rfl rfl rfl (Nat.ble_eq.mp rfl) rfl rfl rfl rfl ?_
  refine t80_15_6 l0 l1 l2 l3 hp hq hr hs ?_
  show ex_fine (dt_fg L ρ) rc rs (d + 1, (82, 8, [some (eI (6)), some (eJ (zJ c)), none], [eI ((-1) * s)]), f :: F, μ)
  exact b_ri rfl rfl K
theorem t83_6 {L : Nat} {ρ : Nat → Int} {rc rs d : Nat} {f : eFr} {F : List eFr} {μ : eM} {c : Nat} {p q r s : Int} (l0 : zI (z_i2s (z_l2i (z_lshr c 48))) = p) (l1 : zI (z_i2s (z_l2i (z_lshr c 32))) = q) (l2 : zI (z_i2s (z_l2i (z_lshr c 16))) = r) (l3 : zI (z_i2s (z_l2i (z_lshr c 0))) = s) (hp : -10010 ≤ p ∧ p ≤ 10010) (hq : -10010 ≤ q ∧ q ≤ 10010) (hr : -10010 ≤ r ∧ r ≤ 10010) (hs : -10010 ≤ s ∧ s ≤ 10010) (K : ∀ u : Int, ((0 ≤ u ↔ 0 ≤ 832040 * p + (-832040) * r + (-1346269) * s) ∧ (u ≤ 0 ↔ 832040 * p + (-832040) * r + (-1346269) * s ≤ 0)) → (u = 0 ∨ u = 1 ∨ u = -1) → ex_fine (dt_fg L ρ) rc rs (d + 2, (f.1, f.2.1, f.2.2.1, eI u :: f.2.2.2), F, μ)) : ex_fine (dt_fg L ρ) rc rs (d + 1, (83, 0, [some (eI (6)), some (eJ (zJ c)), none], []), f :: F, μ) := by
  refine w_t (np := 1) (l2 := [some (eI (6)), some (eJ (zJ c)), none]) (s2 := [eJ (zJ c)]) rfl rfl rfl ?_
  refine w_t (np := 2) (l2 := [some (eI (6)), some (eJ (zJ c)), none]) (s2 := [eI (6), eJ (zJ c)]) rfl rfl rfl ?_
  refine v_gs (np := 5) rfl rfl ?_
  refine w_cu (np := 8) (as := [eJ (zJ c), eI (6), eR 14]) (l2 := [some (eJ (zJ c)), none, some (eI (6)), some (eR 14), none, none, none]) (rest := []) rfl rfl rfl (Nat.ble_eq.mp rfl) rfl rfl rfl rfl ?_
  refine t80_14_6 l0 l1 l2 l3 hp hq hr hs ?_
  show ex_fine (dt_fg L ρ) rc rs (d + 1, (83, 8, [some (eI (6)), some (eJ (zJ c)), none], [eI (1 * p + (-1) * r)]), f :: F, μ)
  refine w_t (np := 9) (l2 := [some (eI (6)), some (eJ (zJ c)), none]) (s2 := [eJ (zJ c), eI (1 * p + (-1) * r)]) rfl rfl rfl ?_
  refine w_t (np := 10) (l2 := [some (eI (6)), some (eJ (zJ c)), none]) (s2 := [eI (6), eJ (zJ c), eI (1 * p + (-1) * r)]) rfl rfl rfl ?_
  refine v_gs (np := 13) rfl rfl ?_
  refine w_cu (np := 16) (as := [eJ (zJ c), eI (6), eR 15]) (l2 := [some (eJ (zJ c)), none, some (eI (6)), some (eR 15), none, none, none]) (rest := [eI (1 * p + (-1) * r)]) rfl rfl rfl (Nat.ble_eq.mp rfl) rfl rfl rfl rfl ?_
  refine t80_15_6 l0 l1 l2 l3 hp hq hr hs ?_
  show ex_fine (dt_fg L ρ) rc rs (d + 1, (83, 16, [some (eI (6)), some (eJ (zJ c)), none], [eI ((-1) * s), eI (1 * p + (-1) * r)]), f :: F, μ)
  refine w_cu (np := 19) (as := [eI (1 * p + (-1) * r), eI ((-1) * s)]) (l2 := [some (eI (1 * p + (-1) * r)), some (eI ((-1) * s)), none, none, none, none, none]) (rest := []) rfl rfl rfl (Nat.ble_eq.mp rfl) rfl rfl rfl rfl ?_
  refine t85 (by omega) (by omega) ?_
  show ex_fine (dt_fg L ρ) rc rs (d + 1, (83, 19, [some (eI (6)), some (eJ (zJ c)), none], [eI (cSg (2 * (1 * p + (-1) * r) + ((-1) * s)) ((-1) * s))]), f :: F, μ)
  have h9 := cSg_ok (x := 2 * (1 * p + (-1) * r) + ((-1) * s)) (b := (-1) * s) (by omega)
  have e9 : 416020 * (2 * (1 * p + (-1) * r) + ((-1) * s)) + 930249 * ((-1) * s) = 832040 * p + (-832040) * r + (-1346269) * s := by omega
  rw [e9] at h9
  exact b_ri rfl rfl (K _ h9 (cSg_v _ _))
theorem t81_7 {L : Nat} {ρ : Nat → Int} {rc rs d : Nat} {f : eFr} {F : List eFr} {μ : eM} {c : Nat} {p q r s : Int} (l0 : zI (z_i2s (z_l2i (z_lshr c 48))) = p) (l1 : zI (z_i2s (z_l2i (z_lshr c 32))) = q) (l2 : zI (z_i2s (z_l2i (z_lshr c 16))) = r) (l3 : zI (z_i2s (z_l2i (z_lshr c 0))) = s) (hp : -10010 ≤ p ∧ p ≤ 10010) (hq : -10010 ≤ q ∧ q ≤ 10010) (hr : -10010 ≤ r ∧ r ≤ 10010) (hs : -10010 ≤ s ∧ s ≤ 10010) (K : ex_fine (dt_fg L ρ) rc rs (d + 2, (f.1, f.2.1, f.2.2.1, eI (1 * q + (-1) * s) :: f.2.2.2), F, μ)) : ex_fine (dt_fg L ρ) rc rs (d + 1, (81, 0, [some (eI (7)), some (eJ (zJ c)), none], []), f :: F, μ) := by
  refine w_t (np := 1) (l2 := [some (eI (7)), some (eJ (zJ c)), none]) (s2 := [eJ (zJ c)]) rfl rfl rfl ?_
  refine w_t (np := 2) (l2 := [some (eI (7)), some (eJ (zJ c)), none]) (s2 := [eI (7), eJ (zJ c)]) rfl rfl rfl ?_
  refine v_gs (np := 5) rfl rfl ?_
  refine w_cu (np := 8) (as := [eJ (zJ c), eI (7), eR 14]) (l2 := [some (eJ (zJ c)), none, some (eI (7)), some (eR 14), none, none, none]) (rest := []) rfl rfl rfl (Nat.ble_eq.mp rfl) rfl rfl rfl rfl ?_
  refine t80_14_7 l0 l1 l2 l3 hp hq hr hs ?_
  show ex_fine (dt_fg L ρ) rc rs (d + 1, (81, 8, [some (eI (7)), some (eJ (zJ c)), none], [eI (1 * q + (-1) * s)]), f :: F, μ)
  exact b_ri rfl rfl K
theorem t82_7 {L : Nat} {ρ : Nat → Int} {rc rs d : Nat} {f : eFr} {F : List eFr} {μ : eM} {c : Nat} {p q r s : Int} (l0 : zI (z_i2s (z_l2i (z_lshr c 48))) = p) (l1 : zI (z_i2s (z_l2i (z_lshr c 32))) = q) (l2 : zI (z_i2s (z_l2i (z_lshr c 16))) = r) (l3 : zI (z_i2s (z_l2i (z_lshr c 0))) = s) (hp : -10010 ≤ p ∧ p ≤ 10010) (hq : -10010 ≤ q ∧ q ≤ 10010) (hr : -10010 ≤ r ∧ r ≤ 10010) (hs : -10010 ≤ s ∧ s ≤ 10010) (K : ex_fine (dt_fg L ρ) rc rs (d + 2, (f.1, f.2.1, f.2.2.1, eI (1 * p) :: f.2.2.2), F, μ)) : ex_fine (dt_fg L ρ) rc rs (d + 1, (82, 0, [some (eI (7)), some (eJ (zJ c)), none], []), f :: F, μ) := by
  refine w_t (np := 1) (l2 := [some (eI (7)), some (eJ (zJ c)), none]) (s2 := [eJ (zJ c)]) rfl rfl rfl ?_
  refine w_t (np := 2) (l2 := [some (eI (7)), some (eJ (zJ c)), none]) (s2 := [eI (7), eJ (zJ c)]) rfl rfl rfl ?_
  refine v_gs (np := 5) rfl rfl ?_
  refine w_cu (np := 8) (as := [eJ (zJ c), eI (7), eR 15]) (l2 := [some (eJ (zJ c)), none, some (eI (7)), some (eR 15), none, none, none]) (rest := []) rfl rfl rfl (Nat.ble_eq.mp rfl) rfl rfl rfl rfl ?_
  refine t80_15_7 l0 l1 l2 l3 hp hq hr hs ?_
  show ex_fine (dt_fg L ρ) rc rs (d + 1, (82, 8, [some (eI (7)), some (eJ (zJ c)), none], [eI (1 * p)]), f :: F, μ)
  exact b_ri rfl rfl K
theorem t83_7 {L : Nat} {ρ : Nat → Int} {rc rs d : Nat} {f : eFr} {F : List eFr} {μ : eM} {c : Nat} {p q r s : Int} (l0 : zI (z_i2s (z_l2i (z_lshr c 48))) = p) (l1 : zI (z_i2s (z_l2i (z_lshr c 32))) = q) (l2 : zI (z_i2s (z_l2i (z_lshr c 16))) = r) (l3 : zI (z_i2s (z_l2i (z_lshr c 0))) = s) (hp : -10010 ≤ p ∧ p ≤ 10010) (hq : -10010 ≤ q ∧ q ≤ 10010) (hr : -10010 ≤ r ∧ r ≤ 10010) (hs : -10010 ≤ s ∧ s ≤ 10010) (K : ∀ u : Int, ((0 ≤ u ↔ 0 ≤ 1346269 * p + 832040 * q + (-832040) * s) ∧ (u ≤ 0 ↔ 1346269 * p + 832040 * q + (-832040) * s ≤ 0)) → (u = 0 ∨ u = 1 ∨ u = -1) → ex_fine (dt_fg L ρ) rc rs (d + 2, (f.1, f.2.1, f.2.2.1, eI u :: f.2.2.2), F, μ)) : ex_fine (dt_fg L ρ) rc rs (d + 1, (83, 0, [some (eI (7)), some (eJ (zJ c)), none], []), f :: F, μ) := by
  refine w_t (np := 1) (l2 := [some (eI (7)), some (eJ (zJ c)), none]) (s2 := [eJ (zJ c)]) rfl rfl rfl ?_
  refine w_t (np := 2) (l2 := [some (eI (7)), some (eJ (zJ c)), none]) (s2 := [eI (7), eJ (zJ c)]) rfl rfl rfl ?_
  refine v_gs (np := 5) rfl rfl ?_
  refine w_cu (np := 8) (as := [eJ (zJ c), eI (7), eR 14]) (l2 := [some (eJ (zJ c)), none, some (eI (7)), some (eR 14), none, none, none]) (rest := []) rfl rfl rfl (Nat.ble_eq.mp rfl) rfl rfl rfl rfl ?_
  refine t80_14_7 l0 l1 l2 l3 hp hq hr hs ?_
  show ex_fine (dt_fg L ρ) rc rs (d + 1, (83, 8, [some (eI (7)), some (eJ (zJ c)), none], [eI (1 * q + (-1) * s)]), f :: F, μ)
  refine w_t (np := 9) (l2 := [some (eI (7)), some (eJ (zJ c)), none]) (s2 := [eJ (zJ c), eI (1 * q + (-1) * s)]) rfl rfl rfl ?_
  refine w_t (np := 10) (l2 := [some (eI (7)), some (eJ (zJ c)), none]) (s2 := [eI (7), eJ (zJ c), eI (1 * q + (-1) * s)]) rfl rfl rfl ?_
  refine v_gs (np := 13) rfl rfl ?_
  refine w_cu (np := 16) (as := [eJ (zJ c), eI (7), eR 15]) (l2 := [some (eJ (zJ c)), none, some (eI (7)), some (eR 15), none, none, none]) (rest := [eI (1 * q + (-1) * s)]) rfl rfl rfl (Nat.ble_eq.mp rfl) rfl rfl rfl rfl ?_
  refine t80_15_7 l0 l1 l2 l3 hp hq hr hs ?_
  show ex_fine (dt_fg L ρ) rc rs (d + 1, (83, 16, [some (eI (7)), some (eJ (zJ c)), none], [eI (1 * p), eI (1 * q + (-1) * s)]), f :: F, μ)
  refine w_cu (np := 19) (as := [eI (1 * q + (-1) * s), eI (1 * p)]) (l2 := [some (eI (1 * q + (-1) * s)), some (eI (1 * p)), none, none, none, none, none]) (rest := []) rfl rfl rfl (Nat.ble_eq.mp rfl) rfl rfl rfl rfl ?_
  refine t85 (by omega) (by omega) ?_
  show ex_fine (dt_fg L ρ) rc rs (d + 1, (83, 19, [some (eI (7)), some (eJ (zJ c)), none], [eI (cSg (2 * (1 * q + (-1) * s) + (1 * p)) (1 * p))]), f :: F, μ)
  have h9 := cSg_ok (x := 2 * (1 * q + (-1) * s) + (1 * p)) (b := 1 * p) (by omega)
  have e9 : 416020 * (2 * (1 * q + (-1) * s) + (1 * p)) + 930249 * (1 * p) = 1346269 * p + 832040 * q + (-832040) * s := by omega
  rw [e9] at h9
  exact b_ri rfl rfl (K _ h9 (cSg_v _ _))
theorem t81_8 {L : Nat} {ρ : Nat → Int} {rc rs d : Nat} {f : eFr} {F : List eFr} {μ : eM} {c : Nat} {p q r s : Int} (l0 : zI (z_i2s (z_l2i (z_lshr c 48))) = p) (l1 : zI (z_i2s (z_l2i (z_lshr c 32))) = q) (l2 : zI (z_i2s (z_l2i (z_lshr c 16))) = r) (l3 : zI (z_i2s (z_l2i (z_lshr c 0))) = s) (hp : -10010 ≤ p ∧ p ≤ 10010) (hq : -10010 ≤ q ∧ q ≤ 10010) (hr : -10010 ≤ r ∧ r ≤ 10010) (hs : -10010 ≤ s ∧ s ≤ 10010) (K : ex_fine (dt_fg L ρ) rc rs (d + 2, (f.1, f.2.1, f.2.2.1, eI (1 * r) :: f.2.2.2), F, μ)) : ex_fine (dt_fg L ρ) rc rs (d + 1, (81, 0, [some (eI (8)), some (eJ (zJ c)), none], []), f :: F, μ) := by
  refine w_t (np := 1) (l2 := [some (eI (8)), some (eJ (zJ c)), none]) (s2 := [eJ (zJ c)]) rfl rfl rfl ?_
  refine w_t (np := 2) (l2 := [some (eI (8)), some (eJ (zJ c)), none]) (s2 := [eI (8), eJ (zJ c)]) rfl rfl rfl ?_
  refine v_gs (np := 5) rfl rfl ?_
  refine w_cu (np := 8) (as := [eJ (zJ c), eI (8), eR 14]) (l2 := [some (eJ (zJ c)), none, some (eI (8)), some (eR 14), none, none, none]) (rest := []) rfl rfl rfl (Nat.ble_eq.mp rfl) rfl rfl rfl rfl ?_
  refine t80_14_8 l0 l1 l2 l3 hp hq hr hs ?_
  show ex_fine (dt_fg L ρ) rc rs (d + 1, (81, 8, [some (eI (8)), some (eJ (zJ c)), none], [eI (1 * r)]), f :: F, μ)
  exact b_ri rfl rfl K
theorem t82_8 {L : Nat} {ρ : Nat → Int} {rc rs d : Nat} {f : eFr} {F : List eFr} {μ : eM} {c : Nat} {p q r s : Int} (l0 : zI (z_i2s (z_l2i (z_lshr c 48))) = p) (l1 : zI (z_i2s (z_l2i (z_lshr c 32))) = q) (l2 : zI (z_i2s (z_l2i (z_lshr c 16))) = r) (l3 : zI (z_i2s (z_l2i (z_lshr c 0))) = s) (hp : -10010 ≤ p ∧ p ≤ 10010) (hq : -10010 ≤ q ∧ q ≤ 10010) (hr : -10010 ≤ r ∧ r ≤ 10010) (hs : -10010 ≤ s ∧ s ≤ 10010) (K : ex_fine (dt_fg L ρ) rc rs (d + 2, (f.1, f.2.1, f.2.2.1, eI (1 * p + 1 * q) :: f.2.2.2), F, μ)) : ex_fine (dt_fg L ρ) rc rs (d + 1, (82, 0, [some (eI (8)), some (eJ (zJ c)), none], []), f :: F, μ) := by
  refine w_t (np := 1) (l2 := [some (eI (8)), some (eJ (zJ c)), none]) (s2 := [eJ (zJ c)]) rfl rfl rfl ?_
  refine w_t (np := 2) (l2 := [some (eI (8)), some (eJ (zJ c)), none]) (s2 := [eI (8), eJ (zJ c)]) rfl rfl rfl ?_
  refine v_gs (np := 5) rfl rfl ?_
  refine w_cu (np := 8) (as := [eJ (zJ c), eI (8), eR 15]) (l2 := [some (eJ (zJ c)), none, some (eI (8)), some (eR 15), none, none, none]) (rest := []) rfl rfl rfl (Nat.ble_eq.mp rfl) rfl rfl rfl rfl ?_
  refine t80_15_8 l0 l1 l2 l3 hp hq hr hs ?_
  show ex_fine (dt_fg L ρ) rc rs (d + 1, (82, 8, [some (eI (8)), some (eJ (zJ c)), none], [eI (1 * p + 1 * q)]), f :: F, μ)
  exact b_ri rfl rfl K
theorem t83_8 {L : Nat} {ρ : Nat → Int} {rc rs d : Nat} {f : eFr} {F : List eFr} {μ : eM} {c : Nat} {p q r s : Int} (l0 : zI (z_i2s (z_l2i (z_lshr c 48))) = p) (l1 : zI (z_i2s (z_l2i (z_lshr c 32))) = q) (l2 : zI (z_i2s (z_l2i (z_lshr c 16))) = r) (l3 : zI (z_i2s (z_l2i (z_lshr c 0))) = s) (hp : -10010 ≤ p ∧ p ≤ 10010) (hq : -10010 ≤ q ∧ q ≤ 10010) (hr : -10010 ≤ r ∧ r ≤ 10010) (hs : -10010 ≤ s ∧ s ≤ 10010) (K : ∀ u : Int, ((0 ≤ u ↔ 0 ≤ 1346269 * p + 1346269 * q + 832040 * r) ∧ (u ≤ 0 ↔ 1346269 * p + 1346269 * q + 832040 * r ≤ 0)) → (u = 0 ∨ u = 1 ∨ u = -1) → ex_fine (dt_fg L ρ) rc rs (d + 2, (f.1, f.2.1, f.2.2.1, eI u :: f.2.2.2), F, μ)) : ex_fine (dt_fg L ρ) rc rs (d + 1, (83, 0, [some (eI (8)), some (eJ (zJ c)), none], []), f :: F, μ) := by
  refine w_t (np := 1) (l2 := [some (eI (8)), some (eJ (zJ c)), none]) (s2 := [eJ (zJ c)]) rfl rfl rfl ?_
  refine w_t (np := 2) (l2 := [some (eI (8)), some (eJ (zJ c)), none]) (s2 := [eI (8), eJ (zJ c)]) rfl rfl rfl ?_
  refine v_gs (np := 5) rfl rfl ?_
  refine w_cu (np := 8) (as := [eJ (zJ c), eI (8), eR 14]) (l2 := [some (eJ (zJ c)), none, some (eI (8)), some (eR 14), none, none, none]) (rest := []) rfl rfl rfl (Nat.ble_eq.mp rfl) rfl rfl rfl rfl ?_
  refine t80_14_8 l0 l1 l2 l3 hp hq hr hs ?_
  show ex_fine (dt_fg L ρ) rc rs (d + 1, (83, 8, [some (eI (8)), some (eJ (zJ c)), none], [eI (1 * r)]), f :: F, μ)
  refine w_t (np := 9) (l2 := [some (eI (8)), some (eJ (zJ c)), none]) (s2 := [eJ (zJ c), eI (1 * r)]) rfl rfl rfl ?_
  refine w_t (np := 10) (l2 := [some (eI (8)), some (eJ (zJ c)), none]) (s2 := [eI (8), eJ (zJ c), eI (1 * r)]) rfl rfl rfl ?_
  refine v_gs (np := 13) rfl rfl ?_
  refine w_cu (np := 16) (as := [eJ (zJ c), eI (8), eR 15]) (l2 := [some (eJ (zJ c)), none, some (eI (8)), some (eR 15), none, none, none]) (rest := [eI (1 * r)]) rfl rfl rfl (Nat.ble_eq.mp rfl) rfl rfl rfl rfl ?_
  refine t80_15_8 l0 l1 l2 l3 hp hq hr hs ?_
  show ex_fine (dt_fg L ρ) rc rs (d + 1, (83, 16, [some (eI (8)), some (eJ (zJ c)), none], [eI (1 * p + 1 * q), eI (1 * r)]), f :: F, μ)
  refine w_cu (np := 19) (as := [eI (1 * r), eI (1 * p + 1 * q)]) (l2 := [some (eI (1 * r)), some (eI (1 * p + 1 * q)), none, none, none, none, none]) (rest := []) rfl rfl rfl (Nat.ble_eq.mp rfl) rfl rfl rfl rfl ?_
  refine t85 (by omega) (by omega) ?_
  show ex_fine (dt_fg L ρ) rc rs (d + 1, (83, 19, [some (eI (8)), some (eJ (zJ c)), none], [eI (cSg (2 * (1 * r) + (1 * p + 1 * q)) (1 * p + 1 * q))]), f :: F, μ)
  have h9 := cSg_ok (x := 2 * (1 * r) + (1 * p + 1 * q)) (b := 1 * p + 1 * q) (by omega)
  have e9 : 416020 * (2 * (1 * r) + (1 * p + 1 * q)) + 930249 * (1 * p + 1 * q) = 1346269 * p + 1346269 * q + 832040 * r := by omega
  rw [e9] at h9
  exact b_ri rfl rfl (K _ h9 (cSg_v _ _))
theorem t81_9 {L : Nat} {ρ : Nat → Int} {rc rs d : Nat} {f : eFr} {F : List eFr} {μ : eM} {c : Nat} {p q r s : Int} (l0 : zI (z_i2s (z_l2i (z_lshr c 48))) = p) (l1 : zI (z_i2s (z_l2i (z_lshr c 32))) = q) (l2 : zI (z_i2s (z_l2i (z_lshr c 16))) = r) (l3 : zI (z_i2s (z_l2i (z_lshr c 0))) = s) (hp : -10010 ≤ p ∧ p ≤ 10010) (hq : -10010 ≤ q ∧ q ≤ 10010) (hr : -10010 ≤ r ∧ r ≤ 10010) (hs : -10010 ≤ s ∧ s ≤ 10010) (K : ex_fine (dt_fg L ρ) rc rs (d + 2, (f.1, f.2.1, f.2.2.1, eI (1 * p + 1 * s) :: f.2.2.2), F, μ)) : ex_fine (dt_fg L ρ) rc rs (d + 1, (81, 0, [some (eI (9)), some (eJ (zJ c)), none], []), f :: F, μ) := by
  refine w_t (np := 1) (l2 := [some (eI (9)), some (eJ (zJ c)), none]) (s2 := [eJ (zJ c)]) rfl rfl rfl ?_
  refine w_t (np := 2) (l2 := [some (eI (9)), some (eJ (zJ c)), none]) (s2 := [eI (9), eJ (zJ c)]) rfl rfl rfl ?_
  refine v_gs (np := 5) rfl rfl ?_
  refine w_cu (np := 8) (as := [eJ (zJ c), eI (9), eR 14]) (l2 := [some (eJ (zJ c)), none, some (eI (9)), some (eR 14), none, none, none]) (rest := []) rfl rfl rfl (Nat.ble_eq.mp rfl) rfl rfl rfl rfl ?_
  refine t80_14_9 l0 l1 l2 l3 hp hq hr hs ?_
  show ex_fine (dt_fg L ρ) rc rs (d + 1, (81, 8, [some (eI (9)), some (eJ (zJ c)), none], [eI (1 * p + 1 * s)]), f :: F, μ)
  exact b_ri rfl rfl K
theorem t82_9 {L : Nat} {ρ : Nat → Int} {rc rs d : Nat} {f : eFr} {F : List eFr} {μ : eM} {c : Nat} {p q r s : Int} (l0 : zI (z_i2s (z_l2i (z_lshr c 48))) = p) (l1 : zI (z_i2s (z_l2i (z_lshr c 32))) = q) (l2 : zI (z_i2s (z_l2i (z_lshr c 16))) = r) (l3 : zI (z_i2s (z_l2i (z_lshr c 0))) = s) (hp : -10010 ≤ p ∧ p ≤ 10010) (hq : -10010 ≤ q ∧ q ≤ 10010) (hr : -10010 ≤ r ∧ r ≤ 10010) (hs : -10010 ≤ s ∧ s ≤ 10010) (K : ex_fine (dt_fg L ρ) rc rs (d + 2, (f.1, f.2.1, f.2.2.1, eI (1 * q + 1 * r) :: f.2.2.2), F, μ)) : ex_fine (dt_fg L ρ) rc rs (d + 1, (82, 0, [some (eI (9)), some (eJ (zJ c)), none], []), f :: F, μ) := by
  refine w_t (np := 1) (l2 := [some (eI (9)), some (eJ (zJ c)), none]) (s2 := [eJ (zJ c)]) rfl rfl rfl ?_
  refine w_t (np := 2) (l2 := [some (eI (9)), some (eJ (zJ c)), none]) (s2 := [eI (9), eJ (zJ c)]) rfl rfl rfl ?_
  refine v_gs (np := 5) rfl rfl ?_
  refine w_cu (np := 8) (as := [eJ (zJ c), eI (9), eR 15]) (l2 := [some (eJ (zJ c)), none, some (eI (9)), some (eR 15), none, none, none]) (rest := []) rfl rfl rfl (Nat.ble_eq.mp rfl) rfl rfl rfl rfl ?_
  refine t80_15_9 l0 l1 l2 l3 hp hq hr hs ?_
  show ex_fine (dt_fg L ρ) rc rs (d + 1, (82, 8, [some (eI (9)), some (eJ (zJ c)), none], [eI (1 * q + 1 * r)]), f :: F, μ)
  exact b_ri rfl rfl K
theorem t83_9 {L : Nat} {ρ : Nat → Int} {rc rs d : Nat} {f : eFr} {F : List eFr} {μ : eM} {c : Nat} {p q r s : Int} (l0 : zI (z_i2s (z_l2i (z_lshr c 48))) = p) (l1 : zI (z_i2s (z_l2i (z_lshr c 32))) = q) (l2 : zI (z_i2s (z_l2i (z_lshr c 16))) = r) (l3 : zI (z_i2s (z_l2i (z_lshr c 0))) = s) (hp : -10010 ≤ p ∧ p ≤ 10010) (hq : -10010 ≤ q ∧ q ≤ 10010) (hr : -10010 ≤ r ∧ r ≤ 10010) (hs : -10010 ≤ s ∧ s ≤ 10010) (K : ∀ u : Int, ((0 ≤ u ↔ 0 ≤ 832040 * p + 1346269 * q + 1346269 * r + 832040 * s) ∧ (u ≤ 0 ↔ 832040 * p + 1346269 * q + 1346269 * r + 832040 * s ≤ 0)) → (u = 0 ∨ u = 1 ∨ u = -1) → ex_fine (dt_fg L ρ) rc rs (d + 2, (f.1, f.2.1, f.2.2.1, eI u :: f.2.2.2), F, μ)) : ex_fine (dt_fg L ρ) rc rs (d + 1, (83, 0, [some (eI (9)), some (eJ (zJ c)), none], []), f :: F, μ) := by
  refine w_t (np := 1) (l2 := [some (eI (9)), some (eJ (zJ c)), none]) (s2 := [eJ (zJ c)]) rfl rfl rfl ?_
  refine w_t (np := 2) (l2 := [some (eI (9)), some (eJ (zJ c)), none]) (s2 := [eI (9), eJ (zJ c)]) rfl rfl rfl ?_
  refine v_gs (np := 5) rfl rfl ?_
  refine w_cu (np := 8) (as := [eJ (zJ c), eI (9), eR 14]) (l2 := [some (eJ (zJ c)), none, some (eI (9)), some (eR 14), none, none, none]) (rest := []) rfl rfl rfl (Nat.ble_eq.mp rfl) rfl rfl rfl rfl ?_
  refine t80_14_9 l0 l1 l2 l3 hp hq hr hs ?_
  show ex_fine (dt_fg L ρ) rc rs (d + 1, (83, 8, [some (eI (9)), some (eJ (zJ c)), none], [eI (1 * p + 1 * s)]), f :: F, μ)
  refine w_t (np := 9) (l2 := [some (eI (9)), some (eJ (zJ c)), none]) (s2 := [eJ (zJ c), eI (1 * p + 1 * s)]) rfl rfl rfl ?_
  refine w_t (np := 10) (l2 := [some (eI (9)), some (eJ (zJ c)), none]) (s2 := [eI (9), eJ (zJ c), eI (1 * p + 1 * s)]) rfl rfl rfl ?_
  refine v_gs (np := 13) rfl rfl ?_
  refine w_cu (np := 16) (as := [eJ (zJ c), eI (9), eR 15]) (l2 := [some (eJ (zJ c)), none, some (eI (9)), some (eR 15), none, none, none]) (rest := [eI (1 * p + 1 * s)]) rfl rfl rfl (Nat.ble_eq.mp rfl) rfl rfl rfl rfl ?_
  refine t80_15_9 l0 l1 l2 l3 hp hq hr hs ?_
  show ex_fine (dt_fg L ρ) rc rs (d + 1, (83, 16, [some (eI (9)), some (eJ (zJ c)), none], [eI (1 * q + 1 * r), eI (1 * p + 1 * s)]), f :: F, μ)
  refine w_cu (np := 19) (as := [eI (1 * p + 1 * s), eI (1 * q + 1 * r)]) (l2 := [some (eI (1 * p + 1 * s)), some (eI (1 * q + 1 * r)), none, none, none, none, none]) (rest := []) rfl rfl rfl (Nat.ble_eq.mp rfl) rfl rfl rfl rfl ?_
  refine t85 (by omega) (by omega) ?_
  show ex_fine (dt_fg L ρ) rc rs (d + 1, (83, 19, [some (eI (9)), some (eJ (zJ c)), none], [eI (cSg (2 * (1 * p + 1 * s) + (1 * q + 1 * r)) (1 * q + 1 * r))]), f :: F, μ)
  have h9 := cSg_ok (x := 2 * (1 * p + 1 * s) + (1 * q + 1 * r)) (b := 1 * q + 1 * r) (by omega)
  have e9 : 416020 * (2 * (1 * p + 1 * s) + (1 * q + 1 * r)) + 930249 * (1 * q + 1 * r) = 832040 * p + 1346269 * q + 1346269 * r + 832040 * s := by omega
  rw [e9] at h9
  exact b_ri rfl rfl (K _ h9 (cSg_v _ _))
theorem t76_0 {fg : eG} {rc rs d : Nat} {f : eFr} {F : List eFr} {μ : eM} {x n0 n1 n2 n3 : Nat} (h : KR x n0 n1 n2 n3) (K : ∀ c2 : Nat, KR c2 ((n0 + 65536 - 0) % 65536) ((n1 + 65536 - 0) % 65536) ((n2 + 65536 - 0) % 65536) ((n3 + 65536 - 0) % 65536) → ex_fine fg rc rs (d + 1, (f.1, f.2.1, f.2.2.1, eJ (zJ c2) :: f.2.2.2), F, μ)) : ex_fine fg rc rs (d, (76, 0, [some (eJ (zJ x)), none, some (eJ (zJ 0)), none], []), f :: F, μ) := by
  refine w_t (np := 1) (l2 := [some (eJ (zJ x)), none, some (eJ (zJ 0)), none]) (s2 := [eJ (zJ x)]) rfl rfl rfl ?_
  refine v_l2 (np := 4) (c := 9223512776490647552) rfl rfl (by decide) ?_
  refine w_t (np := 5) (l2 := [some (eJ (zJ x)), none, some (eJ (zJ 0)), none]) (s2 := [eJ (zJ (z_lor x 9223512776490647552))]) rfl (s_lor rfl) rfl ?_
  refine w_t (np := 6) (l2 := [some (eJ (zJ x)), none, some (eJ (zJ 0)), none]) (s2 := [eJ (zJ 0), eJ (zJ (z_lor x 9223512776490647552))]) rfl rfl rfl ?_
  refine v_l2 (np := 9) (c := 9223231297218904063) rfl rfl (by decide) ?_
  refine w_t (np := 10) (l2 := [some (eJ (zJ x)), none, some (eJ (zJ 0)), none]) (s2 := [eJ (zJ (z_land 0 9223231297218904063)), eJ (zJ (z_lor x 9223512776490647552))]) rfl (s_land rfl) rfl ?_
  refine w_t (np := 11) (l2 := [some (eJ (zJ x)), none, some (eJ (zJ 0)), none]) (s2 := [eJ (zJ (z_lsub (z_lor x 9223512776490647552) (z_land 0 9223231297218904063)))]) rfl (s_lsub rfl) rfl ?_
  refine w_t (np := 12) (l2 := [some (eJ (zJ x)), none, some (eJ (zJ 0)), none]) (s2 := [eJ (zJ x), eJ (zJ (z_lsub (z_lor x 9223512776490647552) (z_land 0 9223231297218904063)))]) rfl rfl rfl ?_
  refine w_t (np := 13) (l2 := [some (eJ (zJ x)), none, some (eJ (zJ 0)), none]) (s2 := [eJ (zJ 0), eJ (zJ x), eJ (zJ (z_lsub (z_lor x 9223512776490647552) (z_land 0 9223231297218904063)))]) rfl rfl rfl ?_
  refine v_l2 (np := 16) (c := 18446744073709551615) rfl rfl (by decide) ?_
  refine w_t (np := 17) (l2 := [some (eJ (zJ x)), none, some (eJ (zJ 0)), none]) (s2 := [eJ (zJ (z_lxor 0 18446744073709551615)), eJ (zJ x), eJ (zJ (z_lsub (z_lor x 9223512776490647552) (z_land 0 9223231297218904063)))]) rfl (s_lxor rfl) rfl ?_
  refine w_t (np := 18) (l2 := [some (eJ (zJ x)), none, some (eJ (zJ 0)), none]) (s2 := [eJ (zJ (z_lxor x (z_lxor 0 18446744073709551615))), eJ (zJ (z_lsub (z_lor x 9223512776490647552) (z_land 0 9223231297218904063)))]) rfl (s_lxor rfl) rfl ?_
  refine v_l2 (np := 21) (c := 9223512776490647552) rfl rfl (by decide) ?_
  refine w_t (np := 22) (l2 := [some (eJ (zJ x)), none, some (eJ (zJ 0)), none]) (s2 := [eJ (zJ (z_land (z_lxor x (z_lxor 0 18446744073709551615)) 9223512776490647552)), eJ (zJ (z_lsub (z_lor x 9223512776490647552) (z_land 0 9223231297218904063)))]) rfl (s_land rfl) rfl ?_
  refine w_t (np := 23) (l2 := [some (eJ (zJ x)), none, some (eJ (zJ 0)), none]) (s2 := [eJ (zJ (z_lxor (z_lsub (z_lor x 9223512776490647552) (z_land 0 9223231297218904063)) (z_land (z_lxor x (z_lxor 0 18446744073709551615)) 9223512776490647552)))]) rfl (s_lxor rfl) rfl ?_
  exact b_rl rfl rfl (K _ (k_min_0 h))
theorem t76_1 {fg : eG} {rc rs d : Nat} {f : eFr} {F : List eFr} {μ : eM} {x n0 n1 n2 n3 : Nat} (h : KR x n0 n1 n2 n3) (K : ∀ c2 : Nat, KR c2 ((n0 + 65536 - 0) % 65536) ((n1 + 65536 - 0) % 65536) ((n2 + 65536 - 0) % 65536) ((n3 + 65536 - 1) % 65536) → ex_fine fg rc rs (d + 1, (f.1, f.2.1, f.2.2.1, eJ (zJ c2) :: f.2.2.2), F, μ)) : ex_fine fg rc rs (d, (76, 0, [some (eJ (zJ x)), none, some (eJ (zJ 1)), none], []), f :: F, μ) := by
  refine w_t (np := 1) (l2 := [some (eJ (zJ x)), none, some (eJ (zJ 1)), none]) (s2 := [eJ (zJ x)]) rfl rfl rfl ?_
  refine v_l2 (np := 4) (c := 9223512776490647552) rfl rfl (by decide) ?_
  refine w_t (np := 5) (l2 := [some (eJ (zJ x)), none, some (eJ (zJ 1)), none]) (s2 := [eJ (zJ (z_lor x 9223512776490647552))]) rfl (s_lor rfl) rfl ?_
  refine w_t (np := 6) (l2 := [some (eJ (zJ x)), none, some (eJ (zJ 1)), none]) (s2 := [eJ (zJ 1), eJ (zJ (z_lor x 9223512776490647552))]) rfl rfl rfl ?_
  refine v_l2 (np := 9) (c := 9223231297218904063) rfl rfl (by decide) ?_
  refine w_t (np := 10) (l2 := [some (eJ (zJ x)), none, some (eJ (zJ 1)), none]) (s2 := [eJ (zJ (z_land 1 9223231297218904063)), eJ (zJ (z_lor x 9223512776490647552))]) rfl (s_land rfl) rfl ?_
  refine w_t (np := 11) (l2 := [some (eJ (zJ x)), none, some (eJ (zJ 1)), none]) (s2 := [eJ (zJ (z_lsub (z_lor x 9223512776490647552) (z_land 1 9223231297218904063)))]) rfl (s_lsub rfl) rfl ?_
  refine w_t (np := 12) (l2 := [some (eJ (zJ x)), none, some (eJ (zJ 1)), none]) (s2 := [eJ (zJ x), eJ (zJ (z_lsub (z_lor x 9223512776490647552) (z_land 1 9223231297218904063)))]) rfl rfl rfl ?_
  refine w_t (np := 13) (l2 := [some (eJ (zJ x)), none, some (eJ (zJ 1)), none]) (s2 := [eJ (zJ 1), eJ (zJ x), eJ (zJ (z_lsub (z_lor x 9223512776490647552) (z_land 1 9223231297218904063)))]) rfl rfl rfl ?_
  refine v_l2 (np := 16) (c := 18446744073709551615) rfl rfl (by decide) ?_
  refine w_t (np := 17) (l2 := [some (eJ (zJ x)), none, some (eJ (zJ 1)), none]) (s2 := [eJ (zJ (z_lxor 1 18446744073709551615)), eJ (zJ x), eJ (zJ (z_lsub (z_lor x 9223512776490647552) (z_land 1 9223231297218904063)))]) rfl (s_lxor rfl) rfl ?_
  refine w_t (np := 18) (l2 := [some (eJ (zJ x)), none, some (eJ (zJ 1)), none]) (s2 := [eJ (zJ (z_lxor x (z_lxor 1 18446744073709551615))), eJ (zJ (z_lsub (z_lor x 9223512776490647552) (z_land 1 9223231297218904063)))]) rfl (s_lxor rfl) rfl ?_
  refine v_l2 (np := 21) (c := 9223512776490647552) rfl rfl (by decide) ?_
  refine w_t (np := 22) (l2 := [some (eJ (zJ x)), none, some (eJ (zJ 1)), none]) (s2 := [eJ (zJ (z_land (z_lxor x (z_lxor 1 18446744073709551615)) 9223512776490647552)), eJ (zJ (z_lsub (z_lor x 9223512776490647552) (z_land 1 9223231297218904063)))]) rfl (s_land rfl) rfl ?_
  refine w_t (np := 23) (l2 := [some (eJ (zJ x)), none, some (eJ (zJ 1)), none]) (s2 := [eJ (zJ (z_lxor (z_lsub (z_lor x 9223512776490647552) (z_land 1 9223231297218904063)) (z_land (z_lxor x (z_lxor 1 18446744073709551615)) 9223512776490647552)))]) rfl (s_lxor rfl) rfl ?_
  exact b_rl rfl rfl (K _ (k_min_1 h))
theorem t76_65535 {fg : eG} {rc rs d : Nat} {f : eFr} {F : List eFr} {μ : eM} {x n0 n1 n2 n3 : Nat} (h : KR x n0 n1 n2 n3) (K : ∀ c2 : Nat, KR c2 ((n0 + 65536 - 0) % 65536) ((n1 + 65536 - 0) % 65536) ((n2 + 65536 - 0) % 65536) ((n3 + 65536 - 65535) % 65536) → ex_fine fg rc rs (d + 1, (f.1, f.2.1, f.2.2.1, eJ (zJ c2) :: f.2.2.2), F, μ)) : ex_fine fg rc rs (d, (76, 0, [some (eJ (zJ x)), none, some (eJ (zJ 65535)), none], []), f :: F, μ) := by
  refine w_t (np := 1) (l2 := [some (eJ (zJ x)), none, some (eJ (zJ 65535)), none]) (s2 := [eJ (zJ x)]) rfl rfl rfl ?_
  refine v_l2 (np := 4) (c := 9223512776490647552) rfl rfl (by decide) ?_
  refine w_t (np := 5) (l2 := [some (eJ (zJ x)), none, some (eJ (zJ 65535)), none]) (s2 := [eJ (zJ (z_lor x 9223512776490647552))]) rfl (s_lor rfl) rfl ?_
  refine w_t (np := 6) (l2 := [some (eJ (zJ x)), none, some (eJ (zJ 65535)), none]) (s2 := [eJ (zJ 65535), eJ (zJ (z_lor x 9223512776490647552))]) rfl rfl rfl ?_
  refine v_l2 (np := 9) (c := 9223231297218904063) rfl rfl (by decide) ?_
  refine w_t (np := 10) (l2 := [some (eJ (zJ x)), none, some (eJ (zJ 65535)), none]) (s2 := [eJ (zJ (z_land 65535 9223231297218904063)), eJ (zJ (z_lor x 9223512776490647552))]) rfl (s_land rfl) rfl ?_
  refine w_t (np := 11) (l2 := [some (eJ (zJ x)), none, some (eJ (zJ 65535)), none]) (s2 := [eJ (zJ (z_lsub (z_lor x 9223512776490647552) (z_land 65535 9223231297218904063)))]) rfl (s_lsub rfl) rfl ?_
  refine w_t (np := 12) (l2 := [some (eJ (zJ x)), none, some (eJ (zJ 65535)), none]) (s2 := [eJ (zJ x), eJ (zJ (z_lsub (z_lor x 9223512776490647552) (z_land 65535 9223231297218904063)))]) rfl rfl rfl ?_
  refine w_t (np := 13) (l2 := [some (eJ (zJ x)), none, some (eJ (zJ 65535)), none]) (s2 := [eJ (zJ 65535), eJ (zJ x), eJ (zJ (z_lsub (z_lor x 9223512776490647552) (z_land 65535 9223231297218904063)))]) rfl rfl rfl ?_
  refine v_l2 (np := 16) (c := 18446744073709551615) rfl rfl (by decide) ?_
  refine w_t (np := 17) (l2 := [some (eJ (zJ x)), none, some (eJ (zJ 65535)), none]) (s2 := [eJ (zJ (z_lxor 65535 18446744073709551615)), eJ (zJ x), eJ (zJ (z_lsub (z_lor x 9223512776490647552) (z_land 65535 9223231297218904063)))]) rfl (s_lxor rfl) rfl ?_
  refine w_t (np := 18) (l2 := [some (eJ (zJ x)), none, some (eJ (zJ 65535)), none]) (s2 := [eJ (zJ (z_lxor x (z_lxor 65535 18446744073709551615))), eJ (zJ (z_lsub (z_lor x 9223512776490647552) (z_land 65535 9223231297218904063)))]) rfl (s_lxor rfl) rfl ?_
  refine v_l2 (np := 21) (c := 9223512776490647552) rfl rfl (by decide) ?_
  refine w_t (np := 22) (l2 := [some (eJ (zJ x)), none, some (eJ (zJ 65535)), none]) (s2 := [eJ (zJ (z_land (z_lxor x (z_lxor 65535 18446744073709551615)) 9223512776490647552)), eJ (zJ (z_lsub (z_lor x 9223512776490647552) (z_land 65535 9223231297218904063)))]) rfl (s_land rfl) rfl ?_
  refine w_t (np := 23) (l2 := [some (eJ (zJ x)), none, some (eJ (zJ 65535)), none]) (s2 := [eJ (zJ (z_lxor (z_lsub (z_lor x 9223512776490647552) (z_land 65535 9223231297218904063)) (z_land (z_lxor x (z_lxor 65535 18446744073709551615)) 9223512776490647552)))]) rfl (s_lxor rfl) rfl ?_
  exact b_rl rfl rfl (K _ (k_min_65535 h))
theorem t76_65536 {fg : eG} {rc rs d : Nat} {f : eFr} {F : List eFr} {μ : eM} {x n0 n1 n2 n3 : Nat} (h : KR x n0 n1 n2 n3) (K : ∀ c2 : Nat, KR c2 ((n0 + 65536 - 0) % 65536) ((n1 + 65536 - 0) % 65536) ((n2 + 65536 - 1) % 65536) ((n3 + 65536 - 0) % 65536) → ex_fine fg rc rs (d + 1, (f.1, f.2.1, f.2.2.1, eJ (zJ c2) :: f.2.2.2), F, μ)) : ex_fine fg rc rs (d, (76, 0, [some (eJ (zJ x)), none, some (eJ (zJ 65536)), none], []), f :: F, μ) := by
  refine w_t (np := 1) (l2 := [some (eJ (zJ x)), none, some (eJ (zJ 65536)), none]) (s2 := [eJ (zJ x)]) rfl rfl rfl ?_
  refine v_l2 (np := 4) (c := 9223512776490647552) rfl rfl (by decide) ?_
  refine w_t (np := 5) (l2 := [some (eJ (zJ x)), none, some (eJ (zJ 65536)), none]) (s2 := [eJ (zJ (z_lor x 9223512776490647552))]) rfl (s_lor rfl) rfl ?_
  refine w_t (np := 6) (l2 := [some (eJ (zJ x)), none, some (eJ (zJ 65536)), none]) (s2 := [eJ (zJ 65536), eJ (zJ (z_lor x 9223512776490647552))]) rfl rfl rfl ?_
  refine v_l2 (np := 9) (c := 9223231297218904063) rfl rfl (by decide) ?_
  refine w_t (np := 10) (l2 := [some (eJ (zJ x)), none, some (eJ (zJ 65536)), none]) (s2 := [eJ (zJ (z_land 65536 9223231297218904063)), eJ (zJ (z_lor x 9223512776490647552))]) rfl (s_land rfl) rfl ?_
  refine w_t (np := 11) (l2 := [some (eJ (zJ x)), none, some (eJ (zJ 65536)), none]) (s2 := [eJ (zJ (z_lsub (z_lor x 9223512776490647552) (z_land 65536 9223231297218904063)))]) rfl (s_lsub rfl) rfl ?_
  refine w_t (np := 12) (l2 := [some (eJ (zJ x)), none, some (eJ (zJ 65536)), none]) (s2 := [eJ (zJ x), eJ (zJ (z_lsub (z_lor x 9223512776490647552) (z_land 65536 9223231297218904063)))]) rfl rfl rfl ?_
  refine w_t (np := 13) (l2 := [some (eJ (zJ x)), none, some (eJ (zJ 65536)), none]) (s2 := [eJ (zJ 65536), eJ (zJ x), eJ (zJ (z_lsub (z_lor x 9223512776490647552) (z_land 65536 9223231297218904063)))]) rfl rfl rfl ?_
  refine v_l2 (np := 16) (c := 18446744073709551615) rfl rfl (by decide) ?_
  refine w_t (np := 17) (l2 := [some (eJ (zJ x)), none, some (eJ (zJ 65536)), none]) (s2 := [eJ (zJ (z_lxor 65536 18446744073709551615)), eJ (zJ x), eJ (zJ (z_lsub (z_lor x 9223512776490647552) (z_land 65536 9223231297218904063)))]) rfl (s_lxor rfl) rfl ?_
  refine w_t (np := 18) (l2 := [some (eJ (zJ x)), none, some (eJ (zJ 65536)), none]) (s2 := [eJ (zJ (z_lxor x (z_lxor 65536 18446744073709551615))), eJ (zJ (z_lsub (z_lor x 9223512776490647552) (z_land 65536 9223231297218904063)))]) rfl (s_lxor rfl) rfl ?_
  refine v_l2 (np := 21) (c := 9223512776490647552) rfl rfl (by decide) ?_
  refine w_t (np := 22) (l2 := [some (eJ (zJ x)), none, some (eJ (zJ 65536)), none]) (s2 := [eJ (zJ (z_land (z_lxor x (z_lxor 65536 18446744073709551615)) 9223512776490647552)), eJ (zJ (z_lsub (z_lor x 9223512776490647552) (z_land 65536 9223231297218904063)))]) rfl (s_land rfl) rfl ?_
  refine w_t (np := 23) (l2 := [some (eJ (zJ x)), none, some (eJ (zJ 65536)), none]) (s2 := [eJ (zJ (z_lxor (z_lsub (z_lor x 9223512776490647552) (z_land 65536 9223231297218904063)) (z_land (z_lxor x (z_lxor 65536 18446744073709551615)) 9223512776490647552)))]) rfl (s_lxor rfl) rfl ?_
  exact b_rl rfl rfl (K _ (k_min_65536 h))
theorem t76_4294901760 {fg : eG} {rc rs d : Nat} {f : eFr} {F : List eFr} {μ : eM} {x n0 n1 n2 n3 : Nat} (h : KR x n0 n1 n2 n3) (K : ∀ c2 : Nat, KR c2 ((n0 + 65536 - 0) % 65536) ((n1 + 65536 - 0) % 65536) ((n2 + 65536 - 65535) % 65536) ((n3 + 65536 - 0) % 65536) → ex_fine fg rc rs (d + 1, (f.1, f.2.1, f.2.2.1, eJ (zJ c2) :: f.2.2.2), F, μ)) : ex_fine fg rc rs (d, (76, 0, [some (eJ (zJ x)), none, some (eJ (zJ 4294901760)), none], []), f :: F, μ) := by
  refine w_t (np := 1) (l2 := [some (eJ (zJ x)), none, some (eJ (zJ 4294901760)), none]) (s2 := [eJ (zJ x)]) rfl rfl rfl ?_
  refine v_l2 (np := 4) (c := 9223512776490647552) rfl rfl (by decide) ?_
  refine w_t (np := 5) (l2 := [some (eJ (zJ x)), none, some (eJ (zJ 4294901760)), none]) (s2 := [eJ (zJ (z_lor x 9223512776490647552))]) rfl (s_lor rfl) rfl ?_
  refine w_t (np := 6) (l2 := [some (eJ (zJ x)), none, some (eJ (zJ 4294901760)), none]) (s2 := [eJ (zJ 4294901760), eJ (zJ (z_lor x 9223512776490647552))]) rfl rfl rfl ?_
  refine v_l2 (np := 9) (c := 9223231297218904063) rfl rfl (by decide) ?_
  refine w_t (np := 10) (l2 := [some (eJ (zJ x)), none, some (eJ (zJ 4294901760)), none]) (s2 := [eJ (zJ (z_land 4294901760 9223231297218904063)), eJ (zJ (z_lor x 9223512776490647552))]) rfl (s_land rfl) rfl ?_
  refine w_t (np := 11) (l2 := [some (eJ (zJ x)), none, some (eJ (zJ 4294901760)), none]) (s2 := [eJ (zJ (z_lsub (z_lor x 9223512776490647552) (z_land 4294901760 9223231297218904063)))]) rfl (s_lsub rfl) rfl ?_
  refine w_t (np := 12) (l2 := [some (eJ (zJ x)), none, some (eJ (zJ 4294901760)), none]) (s2 := [eJ (zJ x), eJ (zJ (z_lsub (z_lor x 9223512776490647552) (z_land 4294901760 9223231297218904063)))]) rfl rfl rfl ?_
  refine w_t (np := 13) (l2 := [some (eJ (zJ x)), none, some (eJ (zJ 4294901760)), none]) (s2 := [eJ (zJ 4294901760), eJ (zJ x), eJ (zJ (z_lsub (z_lor x 9223512776490647552) (z_land 4294901760 9223231297218904063)))]) rfl rfl rfl ?_
  refine v_l2 (np := 16) (c := 18446744073709551615) rfl rfl (by decide) ?_
  refine w_t (np := 17) (l2 := [some (eJ (zJ x)), none, some (eJ (zJ 4294901760)), none]) (s2 := [eJ (zJ (z_lxor 4294901760 18446744073709551615)), eJ (zJ x), eJ (zJ (z_lsub (z_lor x 9223512776490647552) (z_land 4294901760 9223231297218904063)))]) rfl (s_lxor rfl) rfl ?_
  refine w_t (np := 18) (l2 := [some (eJ (zJ x)), none, some (eJ (zJ 4294901760)), none]) (s2 := [eJ (zJ (z_lxor x (z_lxor 4294901760 18446744073709551615))), eJ (zJ (z_lsub (z_lor x 9223512776490647552) (z_land 4294901760 9223231297218904063)))]) rfl (s_lxor rfl) rfl ?_
  refine v_l2 (np := 21) (c := 9223512776490647552) rfl rfl (by decide) ?_
  refine w_t (np := 22) (l2 := [some (eJ (zJ x)), none, some (eJ (zJ 4294901760)), none]) (s2 := [eJ (zJ (z_land (z_lxor x (z_lxor 4294901760 18446744073709551615)) 9223512776490647552)), eJ (zJ (z_lsub (z_lor x 9223512776490647552) (z_land 4294901760 9223231297218904063)))]) rfl (s_land rfl) rfl ?_
  refine w_t (np := 23) (l2 := [some (eJ (zJ x)), none, some (eJ (zJ 4294901760)), none]) (s2 := [eJ (zJ (z_lxor (z_lsub (z_lor x 9223512776490647552) (z_land 4294901760 9223231297218904063)) (z_land (z_lxor x (z_lxor 4294901760 18446744073709551615)) 9223512776490647552)))]) rfl (s_lxor rfl) rfl ?_
  exact b_rl rfl rfl (K _ (k_min_4294901760 h))
theorem t76_4294967296 {fg : eG} {rc rs d : Nat} {f : eFr} {F : List eFr} {μ : eM} {x n0 n1 n2 n3 : Nat} (h : KR x n0 n1 n2 n3) (K : ∀ c2 : Nat, KR c2 ((n0 + 65536 - 0) % 65536) ((n1 + 65536 - 1) % 65536) ((n2 + 65536 - 0) % 65536) ((n3 + 65536 - 0) % 65536) → ex_fine fg rc rs (d + 1, (f.1, f.2.1, f.2.2.1, eJ (zJ c2) :: f.2.2.2), F, μ)) : ex_fine fg rc rs (d, (76, 0, [some (eJ (zJ x)), none, some (eJ (zJ 4294967296)), none], []), f :: F, μ) := by
  refine w_t (np := 1) (l2 := [some (eJ (zJ x)), none, some (eJ (zJ 4294967296)), none]) (s2 := [eJ (zJ x)]) rfl rfl rfl ?_
  refine v_l2 (np := 4) (c := 9223512776490647552) rfl rfl (by decide) ?_
  refine w_t (np := 5) (l2 := [some (eJ (zJ x)), none, some (eJ (zJ 4294967296)), none]) (s2 := [eJ (zJ (z_lor x 9223512776490647552))]) rfl (s_lor rfl) rfl ?_
  refine w_t (np := 6) (l2 := [some (eJ (zJ x)), none, some (eJ (zJ 4294967296)), none]) (s2 := [eJ (zJ 4294967296), eJ (zJ (z_lor x 9223512776490647552))]) rfl rfl rfl ?_
  refine v_l2 (np := 9) (c := 9223231297218904063) rfl rfl (by decide) ?_
  refine w_t (np := 10) (l2 := [some (eJ (zJ x)), none, some (eJ (zJ 4294967296)), none]) (s2 := [eJ (zJ (z_land 4294967296 9223231297218904063)), eJ (zJ (z_lor x 9223512776490647552))]) rfl (s_land rfl) rfl ?_
  refine w_t (np := 11) (l2 := [some (eJ (zJ x)), none, some (eJ (zJ 4294967296)), none]) (s2 := [eJ (zJ (z_lsub (z_lor x 9223512776490647552) (z_land 4294967296 9223231297218904063)))]) rfl (s_lsub rfl) rfl ?_
  refine w_t (np := 12) (l2 := [some (eJ (zJ x)), none, some (eJ (zJ 4294967296)), none]) (s2 := [eJ (zJ x), eJ (zJ (z_lsub (z_lor x 9223512776490647552) (z_land 4294967296 9223231297218904063)))]) rfl rfl rfl ?_
  refine w_t (np := 13) (l2 := [some (eJ (zJ x)), none, some (eJ (zJ 4294967296)), none]) (s2 := [eJ (zJ 4294967296), eJ (zJ x), eJ (zJ (z_lsub (z_lor x 9223512776490647552) (z_land 4294967296 9223231297218904063)))]) rfl rfl rfl ?_
  refine v_l2 (np := 16) (c := 18446744073709551615) rfl rfl (by decide) ?_
  refine w_t (np := 17) (l2 := [some (eJ (zJ x)), none, some (eJ (zJ 4294967296)), none]) (s2 := [eJ (zJ (z_lxor 4294967296 18446744073709551615)), eJ (zJ x), eJ (zJ (z_lsub (z_lor x 9223512776490647552) (z_land 4294967296 9223231297218904063)))]) rfl (s_lxor rfl) rfl ?_
  refine w_t (np := 18) (l2 := [some (eJ (zJ x)), none, some (eJ (zJ 4294967296)), none]) (s2 := [eJ (zJ (z_lxor x (z_lxor 4294967296 18446744073709551615))), eJ (zJ (z_lsub (z_lor x 9223512776490647552) (z_land 4294967296 9223231297218904063)))]) rfl (s_lxor rfl) rfl ?_
  refine v_l2 (np := 21) (c := 9223512776490647552) rfl rfl (by decide) ?_
  refine w_t (np := 22) (l2 := [some (eJ (zJ x)), none, some (eJ (zJ 4294967296)), none]) (s2 := [eJ (zJ (z_land (z_lxor x (z_lxor 4294967296 18446744073709551615)) 9223512776490647552)), eJ (zJ (z_lsub (z_lor x 9223512776490647552) (z_land 4294967296 9223231297218904063)))]) rfl (s_land rfl) rfl ?_
  refine w_t (np := 23) (l2 := [some (eJ (zJ x)), none, some (eJ (zJ 4294967296)), none]) (s2 := [eJ (zJ (z_lxor (z_lsub (z_lor x 9223512776490647552) (z_land 4294967296 9223231297218904063)) (z_land (z_lxor x (z_lxor 4294967296 18446744073709551615)) 9223512776490647552)))]) rfl (s_lxor rfl) rfl ?_
  exact b_rl rfl rfl (K _ (k_min_4294967296 h))
theorem t76_281470681743360 {fg : eG} {rc rs d : Nat} {f : eFr} {F : List eFr} {μ : eM} {x n0 n1 n2 n3 : Nat} (h : KR x n0 n1 n2 n3) (K : ∀ c2 : Nat, KR c2 ((n0 + 65536 - 0) % 65536) ((n1 + 65536 - 65535) % 65536) ((n2 + 65536 - 0) % 65536) ((n3 + 65536 - 0) % 65536) → ex_fine fg rc rs (d + 1, (f.1, f.2.1, f.2.2.1, eJ (zJ c2) :: f.2.2.2), F, μ)) : ex_fine fg rc rs (d, (76, 0, [some (eJ (zJ x)), none, some (eJ (zJ 281470681743360)), none], []), f :: F, μ) := by
  refine w_t (np := 1) (l2 := [some (eJ (zJ x)), none, some (eJ (zJ 281470681743360)), none]) (s2 := [eJ (zJ x)]) rfl rfl rfl ?_
  refine v_l2 (np := 4) (c := 9223512776490647552) rfl rfl (by decide) ?_
  refine w_t (np := 5) (l2 := [some (eJ (zJ x)), none, some (eJ (zJ 281470681743360)), none]) (s2 := [eJ (zJ (z_lor x 9223512776490647552))]) rfl (s_lor rfl) rfl ?_
  refine w_t (np := 6) (l2 := [some (eJ (zJ x)), none, some (eJ (zJ 281470681743360)), none]) (s2 := [eJ (zJ 281470681743360), eJ (zJ (z_lor x 9223512776490647552))]) rfl rfl rfl ?_
  refine v_l2 (np := 9) (c := 9223231297218904063) rfl rfl (by decide) ?_
  refine w_t (np := 10) (l2 := [some (eJ (zJ x)), none, some (eJ (zJ 281470681743360)), none]) (s2 := [eJ (zJ (z_land 281470681743360 9223231297218904063)), eJ (zJ (z_lor x 9223512776490647552))]) rfl (s_land rfl) rfl ?_
  refine w_t (np := 11) (l2 := [some (eJ (zJ x)), none, some (eJ (zJ 281470681743360)), none]) (s2 := [eJ (zJ (z_lsub (z_lor x 9223512776490647552) (z_land 281470681743360 9223231297218904063)))]) rfl (s_lsub rfl) rfl ?_
  refine w_t (np := 12) (l2 := [some (eJ (zJ x)), none, some (eJ (zJ 281470681743360)), none]) (s2 := [eJ (zJ x), eJ (zJ (z_lsub (z_lor x 9223512776490647552) (z_land 281470681743360 9223231297218904063)))]) rfl rfl rfl ?_
  refine w_t (np := 13) (l2 := [some (eJ (zJ x)), none, some (eJ (zJ 281470681743360)), none]) (s2 := [eJ (zJ 281470681743360), eJ (zJ x), eJ (zJ (z_lsub (z_lor x 9223512776490647552) (z_land 281470681743360 9223231297218904063)))]) rfl rfl rfl ?_
  refine v_l2 (np := 16) (c := 18446744073709551615) rfl rfl (by decide) ?_
  refine w_t (np := 17) (l2 := [some (eJ (zJ x)), none, some (eJ (zJ 281470681743360)), none]) (s2 := [eJ (zJ (z_lxor 281470681743360 18446744073709551615)), eJ (zJ x), eJ (zJ (z_lsub (z_lor x 9223512776490647552) (z_land 281470681743360 9223231297218904063)))]) rfl (s_lxor rfl) rfl ?_
  refine w_t (np := 18) (l2 := [some (eJ (zJ x)), none, some (eJ (zJ 281470681743360)), none]) (s2 := [eJ (zJ (z_lxor x (z_lxor 281470681743360 18446744073709551615))), eJ (zJ (z_lsub (z_lor x 9223512776490647552) (z_land 281470681743360 9223231297218904063)))]) rfl (s_lxor rfl) rfl ?_
  refine v_l2 (np := 21) (c := 9223512776490647552) rfl rfl (by decide) ?_
  refine w_t (np := 22) (l2 := [some (eJ (zJ x)), none, some (eJ (zJ 281470681743360)), none]) (s2 := [eJ (zJ (z_land (z_lxor x (z_lxor 281470681743360 18446744073709551615)) 9223512776490647552)), eJ (zJ (z_lsub (z_lor x 9223512776490647552) (z_land 281470681743360 9223231297218904063)))]) rfl (s_land rfl) rfl ?_
  refine w_t (np := 23) (l2 := [some (eJ (zJ x)), none, some (eJ (zJ 281470681743360)), none]) (s2 := [eJ (zJ (z_lxor (z_lsub (z_lor x 9223512776490647552) (z_land 281470681743360 9223231297218904063)) (z_land (z_lxor x (z_lxor 281470681743360 18446744073709551615)) 9223512776490647552)))]) rfl (s_lxor rfl) rfl ?_
  exact b_rl rfl rfl (K _ (k_min_281470681743360 h))
theorem t76_281474976710656 {fg : eG} {rc rs d : Nat} {f : eFr} {F : List eFr} {μ : eM} {x n0 n1 n2 n3 : Nat} (h : KR x n0 n1 n2 n3) (K : ∀ c2 : Nat, KR c2 ((n0 + 65536 - 1) % 65536) ((n1 + 65536 - 0) % 65536) ((n2 + 65536 - 0) % 65536) ((n3 + 65536 - 0) % 65536) → ex_fine fg rc rs (d + 1, (f.1, f.2.1, f.2.2.1, eJ (zJ c2) :: f.2.2.2), F, μ)) : ex_fine fg rc rs (d, (76, 0, [some (eJ (zJ x)), none, some (eJ (zJ 281474976710656)), none], []), f :: F, μ) := by
  refine w_t (np := 1) (l2 := [some (eJ (zJ x)), none, some (eJ (zJ 281474976710656)), none]) (s2 := [eJ (zJ x)]) rfl rfl rfl ?_
  refine v_l2 (np := 4) (c := 9223512776490647552) rfl rfl (by decide) ?_
  refine w_t (np := 5) (l2 := [some (eJ (zJ x)), none, some (eJ (zJ 281474976710656)), none]) (s2 := [eJ (zJ (z_lor x 9223512776490647552))]) rfl (s_lor rfl) rfl ?_
  refine w_t (np := 6) (l2 := [some (eJ (zJ x)), none, some (eJ (zJ 281474976710656)), none]) (s2 := [eJ (zJ 281474976710656), eJ (zJ (z_lor x 9223512776490647552))]) rfl rfl rfl ?_
  refine v_l2 (np := 9) (c := 9223231297218904063) rfl rfl (by decide) ?_
  refine w_t (np := 10) (l2 := [some (eJ (zJ x)), none, some (eJ (zJ 281474976710656)), none]) (s2 := [eJ (zJ (z_land 281474976710656 9223231297218904063)), eJ (zJ (z_lor x 9223512776490647552))]) rfl (s_land rfl) rfl ?_
  refine w_t (np := 11) (l2 := [some (eJ (zJ x)), none, some (eJ (zJ 281474976710656)), none]) (s2 := [eJ (zJ (z_lsub (z_lor x 9223512776490647552) (z_land 281474976710656 9223231297218904063)))]) rfl (s_lsub rfl) rfl ?_
  refine w_t (np := 12) (l2 := [some (eJ (zJ x)), none, some (eJ (zJ 281474976710656)), none]) (s2 := [eJ (zJ x), eJ (zJ (z_lsub (z_lor x 9223512776490647552) (z_land 281474976710656 9223231297218904063)))]) rfl rfl rfl ?_
  refine w_t (np := 13) (l2 := [some (eJ (zJ x)), none, some (eJ (zJ 281474976710656)), none]) (s2 := [eJ (zJ 281474976710656), eJ (zJ x), eJ (zJ (z_lsub (z_lor x 9223512776490647552) (z_land 281474976710656 9223231297218904063)))]) rfl rfl rfl ?_
  refine v_l2 (np := 16) (c := 18446744073709551615) rfl rfl (by decide) ?_
  refine w_t (np := 17) (l2 := [some (eJ (zJ x)), none, some (eJ (zJ 281474976710656)), none]) (s2 := [eJ (zJ (z_lxor 281474976710656 18446744073709551615)), eJ (zJ x), eJ (zJ (z_lsub (z_lor x 9223512776490647552) (z_land 281474976710656 9223231297218904063)))]) rfl (s_lxor rfl) rfl ?_
  refine w_t (np := 18) (l2 := [some (eJ (zJ x)), none, some (eJ (zJ 281474976710656)), none]) (s2 := [eJ (zJ (z_lxor x (z_lxor 281474976710656 18446744073709551615))), eJ (zJ (z_lsub (z_lor x 9223512776490647552) (z_land 281474976710656 9223231297218904063)))]) rfl (s_lxor rfl) rfl ?_
  refine v_l2 (np := 21) (c := 9223512776490647552) rfl rfl (by decide) ?_
  refine w_t (np := 22) (l2 := [some (eJ (zJ x)), none, some (eJ (zJ 281474976710656)), none]) (s2 := [eJ (zJ (z_land (z_lxor x (z_lxor 281474976710656 18446744073709551615)) 9223512776490647552)), eJ (zJ (z_lsub (z_lor x 9223512776490647552) (z_land 281474976710656 9223231297218904063)))]) rfl (s_land rfl) rfl ?_
  refine w_t (np := 23) (l2 := [some (eJ (zJ x)), none, some (eJ (zJ 281474976710656)), none]) (s2 := [eJ (zJ (z_lxor (z_lsub (z_lor x 9223512776490647552) (z_land 281474976710656 9223231297218904063)) (z_land (z_lxor x (z_lxor 281474976710656 18446744073709551615)) 9223512776490647552)))]) rfl (s_lxor rfl) rfl ?_
  exact b_rl rfl rfl (K _ (k_min_281474976710656 h))
theorem t76_562945658585087 {fg : eG} {rc rs d : Nat} {f : eFr} {F : List eFr} {μ : eM} {x n0 n1 n2 n3 : Nat} (h : KR x n0 n1 n2 n3) (K : ∀ c2 : Nat, KR c2 ((n0 + 65536 - 1) % 65536) ((n1 + 65536 - 65535) % 65536) ((n2 + 65536 - 1) % 65536) ((n3 + 65536 - 65535) % 65536) → ex_fine fg rc rs (d + 1, (f.1, f.2.1, f.2.2.1, eJ (zJ c2) :: f.2.2.2), F, μ)) : ex_fine fg rc rs (d, (76, 0, [some (eJ (zJ x)), none, some (eJ (zJ 562945658585087)), none], []), f :: F, μ) := by
  refine w_t (np := 1) (l2 := [some (eJ (zJ x)), none, some (eJ (zJ 562945658585087)), none]) (s2 := [eJ (zJ x)]) rfl rfl rfl ?_
  refine v_l2 (np := 4) (c := 9223512776490647552) rfl rfl (by decide) ?_
  refine w_t (np := 5) (l2 := [some (eJ (zJ x)), none, some (eJ (zJ 562945658585087)), none]) (s2 := [eJ (zJ (z_lor x 9223512776490647552))]) rfl (s_lor rfl) rfl ?_
  refine w_t (np := 6) (l2 := [some (eJ (zJ x)), none, some (eJ (zJ 562945658585087)), none]) (s2 := [eJ (zJ 562945658585087), eJ (zJ (z_lor x 9223512776490647552))]) rfl rfl rfl ?_
  refine v_l2 (np := 9) (c := 9223231297218904063) rfl rfl (by decide) ?_
  refine w_t (np := 10) (l2 := [some (eJ (zJ x)), none, some (eJ (zJ 562945658585087)), none]) (s2 := [eJ (zJ (z_land 562945658585087 9223231297218904063)), eJ (zJ (z_lor x 9223512776490647552))]) rfl (s_land rfl) rfl ?_
  refine w_t (np := 11) (l2 := [some (eJ (zJ x)), none, some (eJ (zJ 562945658585087)), none]) (s2 := [eJ (zJ (z_lsub (z_lor x 9223512776490647552) (z_land 562945658585087 9223231297218904063)))]) rfl (s_lsub rfl) rfl ?_
  refine w_t (np := 12) (l2 := [some (eJ (zJ x)), none, some (eJ (zJ 562945658585087)), none]) (s2 := [eJ (zJ x), eJ (zJ (z_lsub (z_lor x 9223512776490647552) (z_land 562945658585087 9223231297218904063)))]) rfl rfl rfl ?_
  refine w_t (np := 13) (l2 := [some (eJ (zJ x)), none, some (eJ (zJ 562945658585087)), none]) (s2 := [eJ (zJ 562945658585087), eJ (zJ x), eJ (zJ (z_lsub (z_lor x 9223512776490647552) (z_land 562945658585087 9223231297218904063)))]) rfl rfl rfl ?_
  refine v_l2 (np := 16) (c := 18446744073709551615) rfl rfl (by decide) ?_
  refine w_t (np := 17) (l2 := [some (eJ (zJ x)), none, some (eJ (zJ 562945658585087)), none]) (s2 := [eJ (zJ (z_lxor 562945658585087 18446744073709551615)), eJ (zJ x), eJ (zJ (z_lsub (z_lor x 9223512776490647552) (z_land 562945658585087 9223231297218904063)))]) rfl (s_lxor rfl) rfl ?_
  refine w_t (np := 18) (l2 := [some (eJ (zJ x)), none, some (eJ (zJ 562945658585087)), none]) (s2 := [eJ (zJ (z_lxor x (z_lxor 562945658585087 18446744073709551615))), eJ (zJ (z_lsub (z_lor x 9223512776490647552) (z_land 562945658585087 9223231297218904063)))]) rfl (s_lxor rfl) rfl ?_
  refine v_l2 (np := 21) (c := 9223512776490647552) rfl rfl (by decide) ?_
  refine w_t (np := 22) (l2 := [some (eJ (zJ x)), none, some (eJ (zJ 562945658585087)), none]) (s2 := [eJ (zJ (z_land (z_lxor x (z_lxor 562945658585087 18446744073709551615)) 9223512776490647552)), eJ (zJ (z_lsub (z_lor x 9223512776490647552) (z_land 562945658585087 9223231297218904063)))]) rfl (s_land rfl) rfl ?_
  refine w_t (np := 23) (l2 := [some (eJ (zJ x)), none, some (eJ (zJ 562945658585087)), none]) (s2 := [eJ (zJ (z_lxor (z_lsub (z_lor x 9223512776490647552) (z_land 562945658585087 9223231297218904063)) (z_land (z_lxor x (z_lxor 562945658585087 18446744073709551615)) 9223512776490647552)))]) rfl (s_lxor rfl) rfl ?_
  exact b_rl rfl rfl (K _ (k_min_562945658585087 h))
theorem t76_18446462598732840960 {fg : eG} {rc rs d : Nat} {f : eFr} {F : List eFr} {μ : eM} {x n0 n1 n2 n3 : Nat} (h : KR x n0 n1 n2 n3) (K : ∀ c2 : Nat, KR c2 ((n0 + 65536 - 65535) % 65536) ((n1 + 65536 - 0) % 65536) ((n2 + 65536 - 0) % 65536) ((n3 + 65536 - 0) % 65536) → ex_fine fg rc rs (d + 1, (f.1, f.2.1, f.2.2.1, eJ (zJ c2) :: f.2.2.2), F, μ)) : ex_fine fg rc rs (d, (76, 0, [some (eJ (zJ x)), none, some (eJ (zJ 18446462598732840960)), none], []), f :: F, μ) := by
  refine w_t (np := 1) (l2 := [some (eJ (zJ x)), none, some (eJ (zJ 18446462598732840960)), none]) (s2 := [eJ (zJ x)]) rfl rfl rfl ?_
  refine v_l2 (np := 4) (c := 9223512776490647552) rfl rfl (by decide) ?_
  refine w_t (np := 5) (l2 := [some (eJ (zJ x)), none, some (eJ (zJ 18446462598732840960)), none]) (s2 := [eJ (zJ (z_lor x 9223512776490647552))]) rfl (s_lor rfl) rfl ?_
  refine w_t (np := 6) (l2 := [some (eJ (zJ x)), none, some (eJ (zJ 18446462598732840960)), none]) (s2 := [eJ (zJ 18446462598732840960), eJ (zJ (z_lor x 9223512776490647552))]) rfl rfl rfl ?_
  refine v_l2 (np := 9) (c := 9223231297218904063) rfl rfl (by decide) ?_
  refine w_t (np := 10) (l2 := [some (eJ (zJ x)), none, some (eJ (zJ 18446462598732840960)), none]) (s2 := [eJ (zJ (z_land 18446462598732840960 9223231297218904063)), eJ (zJ (z_lor x 9223512776490647552))]) rfl (s_land rfl) rfl ?_
  refine w_t (np := 11) (l2 := [some (eJ (zJ x)), none, some (eJ (zJ 18446462598732840960)), none]) (s2 := [eJ (zJ (z_lsub (z_lor x 9223512776490647552) (z_land 18446462598732840960 9223231297218904063)))]) rfl (s_lsub rfl) rfl ?_
  refine w_t (np := 12) (l2 := [some (eJ (zJ x)), none, some (eJ (zJ 18446462598732840960)), none]) (s2 := [eJ (zJ x), eJ (zJ (z_lsub (z_lor x 9223512776490647552) (z_land 18446462598732840960 9223231297218904063)))]) rfl rfl rfl ?_
  refine w_t (np := 13) (l2 := [some (eJ (zJ x)), none, some (eJ (zJ 18446462598732840960)), none]) (s2 := [eJ (zJ 18446462598732840960), eJ (zJ x), eJ (zJ (z_lsub (z_lor x 9223512776490647552) (z_land 18446462598732840960 9223231297218904063)))]) rfl rfl rfl ?_
  refine v_l2 (np := 16) (c := 18446744073709551615) rfl rfl (by decide) ?_
  refine w_t (np := 17) (l2 := [some (eJ (zJ x)), none, some (eJ (zJ 18446462598732840960)), none]) (s2 := [eJ (zJ (z_lxor 18446462598732840960 18446744073709551615)), eJ (zJ x), eJ (zJ (z_lsub (z_lor x 9223512776490647552) (z_land 18446462598732840960 9223231297218904063)))]) rfl (s_lxor rfl) rfl ?_
  refine w_t (np := 18) (l2 := [some (eJ (zJ x)), none, some (eJ (zJ 18446462598732840960)), none]) (s2 := [eJ (zJ (z_lxor x (z_lxor 18446462598732840960 18446744073709551615))), eJ (zJ (z_lsub (z_lor x 9223512776490647552) (z_land 18446462598732840960 9223231297218904063)))]) rfl (s_lxor rfl) rfl ?_
  refine v_l2 (np := 21) (c := 9223512776490647552) rfl rfl (by decide) ?_
  refine w_t (np := 22) (l2 := [some (eJ (zJ x)), none, some (eJ (zJ 18446462598732840960)), none]) (s2 := [eJ (zJ (z_land (z_lxor x (z_lxor 18446462598732840960 18446744073709551615)) 9223512776490647552)), eJ (zJ (z_lsub (z_lor x 9223512776490647552) (z_land 18446462598732840960 9223231297218904063)))]) rfl (s_land rfl) rfl ?_
  refine w_t (np := 23) (l2 := [some (eJ (zJ x)), none, some (eJ (zJ 18446462598732840960)), none]) (s2 := [eJ (zJ (z_lxor (z_lsub (z_lor x 9223512776490647552) (z_land 18446462598732840960 9223231297218904063)) (z_land (z_lxor x (z_lxor 18446462598732840960 18446744073709551615)) 9223512776490647552)))]) rfl (s_lxor rfl) rfl ?_
  exact b_rl rfl rfl (K _ (k_min_18446462598732840960 h))
theorem t76_18446462607322710017 {fg : eG} {rc rs d : Nat} {f : eFr} {F : List eFr} {μ : eM} {x n0 n1 n2 n3 : Nat} (h : KR x n0 n1 n2 n3) (K : ∀ c2 : Nat, KR c2 ((n0 + 65536 - 65535) % 65536) ((n1 + 65536 - 1) % 65536) ((n2 + 65536 - 65535) % 65536) ((n3 + 65536 - 1) % 65536) → ex_fine fg rc rs (d + 1, (f.1, f.2.1, f.2.2.1, eJ (zJ c2) :: f.2.2.2), F, μ)) : ex_fine fg rc rs (d, (76, 0, [some (eJ (zJ x)), none, some (eJ (zJ 18446462607322710017)), none], []), f :: F, μ) := by
  refine w_t (np := 1) (l2 := [some (eJ (zJ x)), none, some (eJ (zJ 18446462607322710017)), none]) (s2 := [eJ (zJ x)]) rfl rfl rfl ?_
  refine v_l2 (np := 4) (c := 9223512776490647552) rfl rfl (by decide) ?_
  refine w_t (np := 5) (l2 := [some (eJ (zJ x)), none, some (eJ (zJ 18446462607322710017)), none]) (s2 := [eJ (zJ (z_lor x 9223512776490647552))]) rfl (s_lor rfl) rfl ?_
  refine w_t (np := 6) (l2 := [some (eJ (zJ x)), none, some (eJ (zJ 18446462607322710017)), none]) (s2 := [eJ (zJ 18446462607322710017), eJ (zJ (z_lor x 9223512776490647552))]) rfl rfl rfl ?_
  refine v_l2 (np := 9) (c := 9223231297218904063) rfl rfl (by decide) ?_
  refine w_t (np := 10) (l2 := [some (eJ (zJ x)), none, some (eJ (zJ 18446462607322710017)), none]) (s2 := [eJ (zJ (z_land 18446462607322710017 9223231297218904063)), eJ (zJ (z_lor x 9223512776490647552))]) rfl (s_land rfl) rfl ?_
  refine w_t (np := 11) (l2 := [some (eJ (zJ x)), none, some (eJ (zJ 18446462607322710017)), none]) (s2 := [eJ (zJ (z_lsub (z_lor x 9223512776490647552) (z_land 18446462607322710017 9223231297218904063)))]) rfl (s_lsub rfl) rfl ?_
  refine w_t (np := 12) (l2 := [some (eJ (zJ x)), none, some (eJ (zJ 18446462607322710017)), none]) (s2 := [eJ (zJ x), eJ (zJ (z_lsub (z_lor x 9223512776490647552) (z_land 18446462607322710017 9223231297218904063)))]) rfl rfl rfl ?_
  refine w_t (np := 13) (l2 := [some (eJ (zJ x)), none, some (eJ (zJ 18446462607322710017)), none]) (s2 := [eJ (zJ 18446462607322710017), eJ (zJ x), eJ (zJ (z_lsub (z_lor x 9223512776490647552) (z_land 18446462607322710017 9223231297218904063)))]) rfl rfl rfl ?_
  refine v_l2 (np := 16) (c := 18446744073709551615) rfl rfl (by decide) ?_
  refine w_t (np := 17) (l2 := [some (eJ (zJ x)), none, some (eJ (zJ 18446462607322710017)), none]) (s2 := [eJ (zJ (z_lxor 18446462607322710017 18446744073709551615)), eJ (zJ x), eJ (zJ (z_lsub (z_lor x 9223512776490647552) (z_land 18446462607322710017 9223231297218904063)))]) rfl (s_lxor rfl) rfl ?_
  refine w_t (np := 18) (l2 := [some (eJ (zJ x)), none, some (eJ (zJ 18446462607322710017)), none]) (s2 := [eJ (zJ (z_lxor x (z_lxor 18446462607322710017 18446744073709551615))), eJ (zJ (z_lsub (z_lor x 9223512776490647552) (z_land 18446462607322710017 9223231297218904063)))]) rfl (s_lxor rfl) rfl ?_
  refine v_l2 (np := 21) (c := 9223512776490647552) rfl rfl (by decide) ?_
  refine w_t (np := 22) (l2 := [some (eJ (zJ x)), none, some (eJ (zJ 18446462607322710017)), none]) (s2 := [eJ (zJ (z_land (z_lxor x (z_lxor 18446462607322710017 18446744073709551615)) 9223512776490647552)), eJ (zJ (z_lsub (z_lor x 9223512776490647552) (z_land 18446462607322710017 9223231297218904063)))]) rfl (s_land rfl) rfl ?_
  refine w_t (np := 23) (l2 := [some (eJ (zJ x)), none, some (eJ (zJ 18446462607322710017)), none]) (s2 := [eJ (zJ (z_lxor (z_lsub (z_lor x 9223512776490647552) (z_land 18446462607322710017 9223231297218904063)) (z_land (z_lxor x (z_lxor 18446462607322710017 18446744073709551615)) 9223512776490647552)))]) rfl (s_lxor rfl) rfl ?_
  exact b_rl rfl rfl (K _ (k_min_18446462607322710017 h))
