/-! methods, walked -/
theorem s_41 {L : Nat} {ρ : Nat → Int} {rc : eQ} {d : Nat} {f : eFr} {F : List eFr} {μ : eM} {g : Nat → Nat} {a0 : Nat} {a1 : Int} {a2 : Int} (hI : SI g μ) (gA0 : g a0 = 2) (bA1 : 0 ≤ a1 ∧ a1 ≤ 49) (bA2 : -9223372036854775808 ≤ a2 ∧ a2 ≤ 9223372036854775807) (K : ∀ (v : Int), (0 ≤ v ∧ v ≤ 1) → ex_q (dt_fg L ρ) rc (d + 3, (f.1, f.2.1, f.2.2.1, eI v :: f.2.2.2), F, μ)) : ex_q (dt_fg L ρ) rc (d + 2, (41, 0, [some (eR a0), some (eI (a1)), some (eJ (a2)), none, none, none, none, none, none, none, none, none, none], []), f :: F, μ) := by
  refine w_t (np := 1) (l2 := [some (eR a0), some (eI (a1)), some (eJ (a2)), none, none, none, none, none, none, none, none, none, none]) (s2 := [eR a0]) rfl (s_an rfl (pos_g hI gA0 (by decide))) rfl ?_
  refine j_gr (np := 4) rfl rfl hI gA0 (by decide) (n := 8) rfl rfl rfl ?_
  intro v1 e2 b3 z4
  have b3 : g v1 = 6 := Nat.eq_of_beq_eq_true b3
  refine w_t (np := 5) (l2 := [some (eR a0), some (eI (a1)), some (eJ (a2)), none, none, none, none, none, none, none, none, none, none]) (s2 := [eI (2), eR v1]) rfl rfl rfl ?_
  refine w_t (np := 6) (l2 := [some (eR a0), some (eI (a1)), some (eJ (a2)), none, none, none, none, none, none, none, none, none, none]) (s2 := [eI (a1), eI (2), eR v1]) rfl rfl rfl ?_
  obtain ⟨v5, e6⟩ : ∃ zz : Int, zz = (2) * (a1) := ⟨_, rfl⟩
  have b7 : 0 ≤ v5 ∧ v5 ≤ 98 := by omega
  refine w_t (np := 7) (l2 := [some (eR a0), some (eI (a1)), some (eJ (a2)), none, none, none, none, none, none, none, none, none, none]) (s2 := [eI (v5), eR v1]) rfl (b_imul (by rw [← e6]; exact ev_w_in (by omega) (by omega))) rfl ?_
  refine j_al (np := 8) rfl rfl hI b3 (by decide) (n := 100) rfl rfl (lo := 0) (hi := 9) (fun _ => rfl) (by omega) (by omega) ?_
  intro v8 e9 b10
  refine w_t (np := 10) (l2 := [some (eR a0), some (eI (a1)), some (eJ (a2)), none, some (eI (v8)), none, none, none, none, none, none, none, none]) (s2 := []) rfl rfl rfl ?_
  refine w_t (np := 11) (l2 := [some (eR a0), some (eI (a1)), some (eJ (a2)), none, some (eI (v8)), none, none, none, none, none, none, none, none]) (s2 := [eR a0]) rfl (s_an rfl (pos_g hI gA0 (by decide))) rfl ?_
  refine w_gf (np := 14) (v := eR v1) rfl rfl (hI.kd gA0 (by decide) (n := 8) rfl) (by rw [e2]; rfl) ?_
  refine w_t (np := 15) (l2 := [some (eR a0), some (eI (a1)), some (eJ (a2)), none, some (eI (v8)), none, none, none, none, none, none, none, none]) (s2 := [eI (2), eR v1]) rfl rfl rfl ?_
  refine w_t (np := 16) (l2 := [some (eR a0), some (eI (a1)), some (eJ (a2)), none, some (eI (v8)), none, none, none, none, none, none, none, none]) (s2 := [eI (a1), eI (2), eR v1]) rfl rfl rfl ?_
  obtain ⟨v11, e12⟩ : ∃ zz : Int, zz = (2) * (a1) := ⟨_, rfl⟩
  have b13 : 0 ≤ v11 ∧ v11 ≤ 98 := by omega
  refine w_t (np := 17) (l2 := [some (eR a0), some (eI (a1)), some (eJ (a2)), none, some (eI (v8)), none, none, none, none, none, none, none, none]) (s2 := [eI (v11), eR v1]) rfl (b_imul (by rw [← e12]; exact ev_w_in (by omega) (by omega))) rfl ?_
  refine w_t (np := 18) (l2 := [some (eR a0), some (eI (a1)), some (eJ (a2)), none, some (eI (v8)), none, none, none, none, none, none, none, none]) (s2 := [eI (1), eI (v11), eR v1]) rfl rfl rfl ?_
  obtain ⟨v14, e15⟩ : ∃ zz : Int, zz = (v11) + (1) := ⟨_, rfl⟩
  have b16 : 1 ≤ v14 ∧ v14 ≤ 99 := by omega
  refine w_t (np := 19) (l2 := [some (eR a0), some (eI (a1)), some (eJ (a2)), none, some (eI (v8)), none, none, none, none, none, none, none, none]) (s2 := [eI (v14), eR v1]) rfl (b_iadd (by rw [← e15]; exact ev_w_in (by omega) (by omega))) rfl ?_
  refine j_al (np := 20) rfl rfl hI b3 (by decide) (n := 100) rfl rfl (lo := 0) (hi := 9) (fun _ => rfl) (by omega) (by omega) ?_
  intro v17 e18 b19
  refine w_t (np := 22) (l2 := [some (eR a0), some (eI (a1)), some (eJ (a2)), none, some (eI (v8)), some (eI (v17)), none, none, none, none, none, none, none]) (s2 := []) rfl rfl rfl ?_
  refine w_t (np := 23) (l2 := [some (eR a0), some (eI (a1)), some (eJ (a2)), none, some (eI (v8)), some (eI (v17)), none, none, none, none, none, none, none]) (s2 := [eR a0]) rfl (s_an rfl (pos_g hI gA0 (by decide))) rfl ?_
  refine w_t (np := 24) (l2 := [some (eR a0), some (eI (a1)), some (eJ (a2)), none, some (eI (v8)), some (eI (v17)), none, none, none, none, none, none, none]) (s2 := [eI (a1), eR a0]) rfl rfl rfl ?_
  refine w_cw (np := 27) (as := [eI (a1)]) (l2 := [some (eR a0), some (eI (a1))]) (rest := []) rfl rfl rfl (Nat.ble_eq.mp rfl) rfl rfl rfl (hI.kd gA0 (by decide) (n := 8) rfl) rfl ?_
  refine s_24 (a1 := a1) hI gA0 (by omega) ?_
  intro v20 b21
  show ex_q (dt_fg L ρ) rc (d + 2, (41, 27, [some (eR a0), some (eI (a1)), some (eJ (a2)), none, some (eI (v8)), some (eI (v17)), none, none, none, none, none, none, none], [eI (v20)]), f :: F, μ)
  refine w_t (np := 29) (l2 := [some (eR a0), some (eI (a1)), some (eJ (a2)), none, some (eI (v8)), some (eI (v17)), some (eI (v20)), none, none, none, none, none, none]) (s2 := []) rfl rfl rfl ?_
  refine w_t (np := 30) (l2 := [some (eR a0), some (eI (a1)), some (eJ (a2)), none, some (eI (v8)), some (eI (v17)), some (eI (v20)), none, none, none, none, none, none]) (s2 := [eJ (a2)]) rfl rfl rfl ?_
  refine w_t (np := 31) (l2 := [some (eR a0), some (eI (a1)), some (eJ (a2)), none, some (eI (v8)), some (eI (v17)), some (eI (v20)), none, none, none, none, none, none]) (s2 := [eR a0, eJ (a2)]) rfl (s_an rfl (pos_g hI gA0 (by decide))) rfl ?_
  refine w_t (np := 32) (l2 := [some (eR a0), some (eI (a1)), some (eJ (a2)), none, some (eI (v8)), some (eI (v17)), some (eI (v20)), none, none, none, none, none, none]) (s2 := [eI (a1), eR a0, eJ (a2)]) rfl rfl rfl ?_
  refine w_t (np := 33) (l2 := [some (eR a0), some (eI (a1)), some (eJ (a2)), none, some (eI (v8)), some (eI (v17)), some (eI (v20)), none, none, none, none, none, none]) (s2 := [eI (0), eI (a1), eR a0, eJ (a2)]) rfl rfl rfl ?_
  refine w_cw (np := 36) (as := [eI (a1), eI (0)]) (l2 := [some (eR a0), some (eI (a1)), some (eI (0))]) (rest := [eJ (a2)]) rfl rfl rfl (Nat.ble_eq.mp rfl) rfl rfl rfl (hI.kd gA0 (by decide) (n := 8) rfl) rfl ?_
  refine s_22 (a1 := a1) (a2 := 0) hI gA0 (by omega) (by decide) ?_
  intro v22 b23
  show ex_q (dt_fg L ρ) rc (d + 2, (41, 36, [some (eR a0), some (eI (a1)), some (eJ (a2)), none, some (eI (v8)), some (eI (v17)), some (eI (v20)), none, none, none, none, none, none], [eJ (v22), eJ (a2)]), f :: F, μ)
  refine w_cu (np := 39) (as := [eJ (a2), eJ (v22)]) (l2 := [some (eJ (a2)), none, some (eJ (v22)), none]) (rest := []) rfl rfl rfl (Nat.ble_eq.mp rfl) rfl rfl rfl rfl ?_
  refine s_76 hI bA2 b23 ?_
  intro v24 b25
  show ex_q (dt_fg L ρ) rc (d + 2, (41, 39, [some (eR a0), some (eI (a1)), some (eJ (a2)), none, some (eI (v8)), some (eI (v17)), some (eI (v20)), none, none, none, none, none, none], [eJ (v24)]), f :: F, μ)
  refine w_t (np := 41) (l2 := [some (eR a0), some (eI (a1)), some (eJ (a2)), none, some (eI (v8)), some (eI (v17)), some (eI (v20)), some (eJ (v24)), none, none, none, none, none]) (s2 := []) rfl rfl rfl ?_
  refine w_t (np := 43) (l2 := [some (eR a0), some (eI (a1)), some (eJ (a2)), none, some (eI (v8)), some (eI (v17)), some (eI (v20)), some (eJ (v24)), none, none, none, none, none]) (s2 := [eI (v20)]) rfl rfl rfl ?_
  refine w_t (np := 45) (l2 := [some (eR a0), some (eI (a1)), some (eJ (a2)), none, some (eI (v8)), some (eI (v17)), some (eI (v20)), some (eJ (v24)), none, none, none, none, none]) (s2 := [eI (v8), eI (v20)]) rfl rfl rfl ?_
  refine w_t (np := 47) (l2 := [some (eR a0), some (eI (a1)), some (eJ (a2)), none, some (eI (v8)), some (eI (v17)), some (eI (v20)), some (eJ (v24)), none, none, none, none, none]) (s2 := [eJ (v24), eI (v8), eI (v20)]) rfl rfl rfl ?_
  refine w_cu (np := 50) (as := [eI (v8), eJ (v24)]) (l2 := [some (eI (v8)), some (eJ (v24)), none]) (rest := [eI (v20)]) rfl rfl rfl (Nat.ble_eq.mp rfl) rfl rfl rfl rfl ?_
  refine s_83 (a0 := v8) hI (by omega) b25 ?_
  intro v26 b27
  show ex_q (dt_fg L ρ) rc (d + 2, (41, 50, [some (eR a0), some (eI (a1)), some (eJ (a2)), none, some (eI (v8)), some (eI (v17)), some (eI (v20)), some (eJ (v24)), none, none, none, none, none], [eI (v26), eI (v20)]), f :: F, μ)
  obtain ⟨v28, e29⟩ : ∃ zz : Int, zz = (v20) * (v26) := ⟨_, rfl⟩
  have b30 : -1 ≤ v28 ∧ v28 ≤ 1 := by
    have hm := i_mulb (a := v20) (b := v26) (A := 1) (B := 1) (by omega) (by omega)
    rw [e29]
    omega
  refine w_t (np := 51) (l2 := [some (eR a0), some (eI (a1)), some (eJ (a2)), none, some (eI (v8)), some (eI (v17)), some (eI (v20)), some (eJ (v24)), none, none, none, none, none]) (s2 := [eI (v28)]) rfl (b_imul (by rw [← e29]; exact ev_w_in (by omega) (by omega))) rfl ?_
  refine b_ilt (t1 := 67) (t2 := 54) rfl rfl rfl (ev_w_in (by omega) (by omega)) (fun g31 => ?_) (fun g31 => ?_)
  · have b32 : -1 ≤ v28 ∧ v28 ≤ -1 := by omega
    refine w_t (np := 68) (l2 := [some (eR a0), some (eI (a1)), some (eJ (a2)), none, some (eI (v8)), some (eI (v17)), some (eI (v20)), some (eJ (v24)), none, none, none, none, none]) (s2 := [eI (0)]) rfl rfl rfl ?_
    exact b_rz rfl rfl (Or.inl rfl) (K (0) (by decide))
  · have b32 : 0 ≤ v28 ∧ v28 ≤ 1 := by omega
    refine w_t (np := 56) (l2 := [some (eR a0), some (eI (a1)), some (eJ (a2)), none, some (eI (v8)), some (eI (v17)), some (eI (v20)), some (eJ (v24)), none, none, none, none, none]) (s2 := [eI (v20)]) rfl rfl rfl ?_
    refine w_t (np := 58) (l2 := [some (eR a0), some (eI (a1)), some (eJ (a2)), none, some (eI (v8)), some (eI (v17)), some (eI (v20)), some (eJ (v24)), none, none, none, none, none]) (s2 := [eI (v17), eI (v20)]) rfl rfl rfl ?_
    refine w_t (np := 60) (l2 := [some (eR a0), some (eI (a1)), some (eJ (a2)), none, some (eI (v8)), some (eI (v17)), some (eI (v20)), some (eJ (v24)), none, none, none, none, none]) (s2 := [eJ (v24), eI (v17), eI (v20)]) rfl rfl rfl ?_
    refine w_cu (np := 63) (as := [eI (v17), eJ (v24)]) (l2 := [some (eI (v17)), some (eJ (v24)), none]) (rest := [eI (v20)]) rfl rfl rfl (Nat.ble_eq.mp rfl) rfl rfl rfl rfl ?_
    refine s_83 (a0 := v17) hI (by omega) b25 ?_
    intro v32 b33
    show ex_q (dt_fg L ρ) rc (d + 2, (41, 63, [some (eR a0), some (eI (a1)), some (eJ (a2)), none, some (eI (v8)), some (eI (v17)), some (eI (v20)), some (eJ (v24)), none, none, none, none, none], [eI (v32), eI (v20)]), f :: F, μ)
    obtain ⟨v34, e35⟩ : ∃ zz : Int, zz = (v20) * (v32) := ⟨_, rfl⟩
    have b36 : -1 ≤ v34 ∧ v34 ≤ 1 := by
      have hm := i_mulb (a := v20) (b := v32) (A := 1) (B := 1) (by omega) (by omega)
      rw [e35]
      omega
    refine w_t (np := 64) (l2 := [some (eR a0), some (eI (a1)), some (eJ (a2)), none, some (eI (v8)), some (eI (v17)), some (eI (v20)), some (eJ (v24)), none, none, none, none, none]) (s2 := [eI (v34)]) rfl (b_imul (by rw [← e35]; exact ev_w_in (by omega) (by omega))) rfl ?_
    refine b_ile (t1 := 69) (t2 := 67) rfl rfl rfl (ev_w_in (by omega) (by omega)) (fun g37 => ?_) (fun g37 => ?_)
    · have b38 : -1 ≤ v34 ∧ v34 ≤ 0 := by omega
      refine w_t (np := 70) (l2 := [some (eR a0), some (eI (a1)), some (eJ (a2)), none, some (eI (v8)), some (eI (v17)), some (eI (v20)), some (eJ (v24)), none, none, none, none, none]) (s2 := [eJ (a2)]) rfl rfl rfl ?_
      refine w_t (np := 71) (l2 := [some (eR a0), some (eI (a1)), some (eJ (a2)), none, some (eI (v8)), some (eI (v17)), some (eI (v20)), some (eJ (v24)), none, none, none, none, none]) (s2 := [eR a0, eJ (a2)]) rfl (s_an rfl (pos_g hI gA0 (by decide))) rfl ?_
      refine w_t (np := 72) (l2 := [some (eR a0), some (eI (a1)), some (eJ (a2)), none, some (eI (v8)), some (eI (v17)), some (eI (v20)), some (eJ (v24)), none, none, none, none, none]) (s2 := [eI (a1), eR a0, eJ (a2)]) rfl rfl rfl ?_
      refine w_t (np := 73) (l2 := [some (eR a0), some (eI (a1)), some (eJ (a2)), none, some (eI (v8)), some (eI (v17)), some (eI (v20)), some (eJ (v24)), none, none, none, none, none]) (s2 := [eI (1), eI (a1), eR a0, eJ (a2)]) rfl rfl rfl ?_
      refine w_cw (np := 76) (as := [eI (a1), eI (1)]) (l2 := [some (eR a0), some (eI (a1)), some (eI (1))]) (rest := [eJ (a2)]) rfl rfl rfl (Nat.ble_eq.mp rfl) rfl rfl rfl (hI.kd gA0 (by decide) (n := 8) rfl) rfl ?_
      refine s_22 (a1 := a1) (a2 := 1) hI gA0 (by omega) (by decide) ?_
      intro v38 b39
      show ex_q (dt_fg L ρ) rc (d + 2, (41, 76, [some (eR a0), some (eI (a1)), some (eJ (a2)), none, some (eI (v8)), some (eI (v17)), some (eI (v20)), some (eJ (v24)), none, none, none, none, none], [eJ (v38), eJ (a2)]), f :: F, μ)
      refine w_cu (np := 79) (as := [eJ (a2), eJ (v38)]) (l2 := [some (eJ (a2)), none, some (eJ (v38)), none]) (rest := []) rfl rfl rfl (Nat.ble_eq.mp rfl) rfl rfl rfl rfl ?_
      refine s_76 hI bA2 b39 ?_
      intro v40 b41
      show ex_q (dt_fg L ρ) rc (d + 2, (41, 79, [some (eR a0), some (eI (a1)), some (eJ (a2)), none, some (eI (v8)), some (eI (v17)), some (eI (v20)), some (eJ (v24)), none, none, none, none, none], [eJ (v40)]), f :: F, μ)
      refine w_t (np := 81) (l2 := [some (eR a0), some (eI (a1)), some (eJ (a2)), none, some (eI (v8)), some (eI (v17)), some (eI (v20)), some (eJ (v24)), none, some (eJ (v40)), none, none, none]) (s2 := []) rfl rfl rfl ?_
      refine w_t (np := 83) (l2 := [some (eR a0), some (eI (a1)), some (eJ (a2)), none, some (eI (v8)), some (eI (v17)), some (eI (v20)), some (eJ (v24)), none, some (eJ (v40)), none, none, none]) (s2 := [eI (v17)]) rfl rfl rfl ?_
      refine w_t (np := 85) (l2 := [some (eR a0), some (eI (a1)), some (eJ (a2)), none, some (eI (v8)), some (eI (v17)), some (eI (v20)), some (eJ (v24)), none, some (eJ (v40)), none, none, none]) (s2 := [eJ (v40), eI (v17)]) rfl rfl rfl ?_
      refine w_cu (np := 88) (as := [eI (v17), eJ (v40)]) (l2 := [some (eI (v17)), some (eJ (v40)), none]) (rest := []) rfl rfl rfl (Nat.ble_eq.mp rfl) rfl rfl rfl rfl ?_
      refine s_81 (a0 := v17) hI (by omega) b41 ?_
      intro v42 b43
      show ex_q (dt_fg L ρ) rc (d + 2, (41, 88, [some (eR a0), some (eI (a1)), some (eJ (a2)), none, some (eI (v8)), some (eI (v17)), some (eI (v20)), some (eJ (v24)), none, some (eJ (v40)), none, none, none], [eI (v42)]), f :: F, μ)
      refine w_t (np := 90) (l2 := [some (eR a0), some (eI (a1)), some (eJ (a2)), none, some (eI (v8)), some (eI (v17)), some (eI (v20)), some (eJ (v24)), none, some (eJ (v40)), none, none, none]) (s2 := [eI (v8), eI (v42)]) rfl rfl rfl ?_
      refine w_t (np := 92) (l2 := [some (eR a0), some (eI (a1)), some (eJ (a2)), none, some (eI (v8)), some (eI (v17)), some (eI (v20)), some (eJ (v24)), none, some (eJ (v40)), none, none, none]) (s2 := [eJ (v40), eI (v8), eI (v42)]) rfl rfl rfl ?_
      refine w_cu (np := 95) (as := [eI (v8), eJ (v40)]) (l2 := [some (eI (v8)), some (eJ (v40)), none]) (rest := [eI (v42)]) rfl rfl rfl (Nat.ble_eq.mp rfl) rfl rfl rfl rfl ?_
      refine s_81 (a0 := v8) hI (by omega) b41 ?_
      intro v44 b45
      show ex_q (dt_fg L ρ) rc (d + 2, (41, 95, [some (eR a0), some (eI (a1)), some (eJ (a2)), none, some (eI (v8)), some (eI (v17)), some (eI (v20)), some (eJ (v24)), none, some (eJ (v40)), none, none, none], [eI (v44), eI (v42)]), f :: F, μ)
      obtain ⟨v46, e47, b48⟩ : ∃ zz : Int, ev_w ((v42) - (v44)) = zz ∧ (-2147483648 ≤ zz ∧ zz ≤ 2147483647) := ⟨_, rfl, hw_bd _⟩
      refine w_t (np := 96) (l2 := [some (eR a0), some (eI (a1)), some (eJ (a2)), none, some (eI (v8)), some (eI (v17)), some (eI (v20)), some (eJ (v24)), none, some (eJ (v40)), none, none, none]) (s2 := [eI (v46)]) rfl (b_isub e47) rfl ?_
      refine w_t (np := 98) (l2 := [some (eR a0), some (eI (a1)), some (eJ (a2)), none, some (eI (v8)), some (eI (v17)), some (eI (v20)), some (eJ (v24)), none, some (eJ (v40)), none, some (eI (v46)), none]) (s2 := []) rfl rfl rfl ?_
      refine w_t (np := 100) (l2 := [some (eR a0), some (eI (a1)), some (eJ (a2)), none, some (eI (v8)), some (eI (v17)), some (eI (v20)), some (eJ (v24)), none, some (eJ (v40)), none, some (eI (v46)), none]) (s2 := [eI (v17)]) rfl rfl rfl ?_
      refine w_t (np := 102) (l2 := [some (eR a0), some (eI (a1)), some (eJ (a2)), none, some (eI (v8)), some (eI (v17)), some (eI (v20)), some (eJ (v24)), none, some (eJ (v40)), none, some (eI (v46)), none]) (s2 := [eJ (v40), eI (v17)]) rfl rfl rfl ?_
      refine w_cu (np := 105) (as := [eI (v17), eJ (v40)]) (l2 := [some (eI (v17)), some (eJ (v40)), none]) (rest := []) rfl rfl rfl (Nat.ble_eq.mp rfl) rfl rfl rfl rfl ?_
      refine s_82 (a0 := v17) hI (by omega) b41 ?_
      intro v49 b50
      show ex_q (dt_fg L ρ) rc (d + 2, (41, 105, [some (eR a0), some (eI (a1)), some (eJ (a2)), none, some (eI (v8)), some (eI (v17)), some (eI (v20)), some (eJ (v24)), none, some (eJ (v40)), none, some (eI (v46)), none], [eI (v49)]), f :: F, μ)
      refine w_t (np := 107) (l2 := [some (eR a0), some (eI (a1)), some (eJ (a2)), none, some (eI (v8)), some (eI (v17)), some (eI (v20)), some (eJ (v24)), none, some (eJ (v40)), none, some (eI (v46)), none]) (s2 := [eI (v8), eI (v49)]) rfl rfl rfl ?_
      refine w_t (np := 109) (l2 := [some (eR a0), some (eI (a1)), some (eJ (a2)), none, some (eI (v8)), some (eI (v17)), some (eI (v20)), some (eJ (v24)), none, some (eJ (v40)), none, some (eI (v46)), none]) (s2 := [eJ (v40), eI (v8), eI (v49)]) rfl rfl rfl ?_
      refine w_cu (np := 112) (as := [eI (v8), eJ (v40)]) (l2 := [some (eI (v8)), some (eJ (v40)), none]) (rest := [eI (v49)]) rfl rfl rfl (Nat.ble_eq.mp rfl) rfl rfl rfl rfl ?_
      refine s_82 (a0 := v8) hI (by omega) b41 ?_
      intro v51 b52
      show ex_q (dt_fg L ρ) rc (d + 2, (41, 112, [some (eR a0), some (eI (a1)), some (eJ (a2)), none, some (eI (v8)), some (eI (v17)), some (eI (v20)), some (eJ (v24)), none, some (eJ (v40)), none, some (eI (v46)), none], [eI (v51), eI (v49)]), f :: F, μ)
      obtain ⟨v53, e54, b55⟩ : ∃ zz : Int, ev_w ((v49) - (v51)) = zz ∧ (-2147483648 ≤ zz ∧ zz ≤ 2147483647) := ⟨_, rfl, hw_bd _⟩
      refine w_t (np := 113) (l2 := [some (eR a0), some (eI (a1)), some (eJ (a2)), none, some (eI (v8)), some (eI (v17)), some (eI (v20)), some (eJ (v24)), none, some (eJ (v40)), none, some (eI (v46)), none]) (s2 := [eI (v53)]) rfl (b_isub e54) rfl ?_
      refine w_t (np := 115) (l2 := [some (eR a0), some (eI (a1)), some (eJ (a2)), none, some (eI (v8)), some (eI (v17)), some (eI (v20)), some (eJ (v24)), none, some (eJ (v40)), none, some (eI (v46)), some (eI (v53))]) (s2 := []) rfl rfl rfl ?_
      refine w_t (np := 117) (l2 := [some (eR a0), some (eI (a1)), some (eJ (a2)), none, some (eI (v8)), some (eI (v17)), some (eI (v20)), some (eJ (v24)), none, some (eJ (v40)), none, some (eI (v46)), some (eI (v53))]) (s2 := [eI (v20)]) rfl rfl rfl ?_
      refine w_t (np := 119) (l2 := [some (eR a0), some (eI (a1)), some (eJ (a2)), none, some (eI (v8)), some (eI (v17)), some (eI (v20)), some (eJ (v24)), none, some (eJ (v40)), none, some (eI (v46)), some (eI (v53))]) (s2 := [eI (v46), eI (v20)]) rfl rfl rfl ?_
      refine w_t (np := 121) (l2 := [some (eR a0), some (eI (a1)), some (eJ (a2)), none, some (eI (v8)), some (eI (v17)), some (eI (v20)), some (eJ (v24)), none, some (eJ (v40)), none, some (eI (v46)), some (eI (v53))]) (s2 := [eI (v53), eI (v46), eI (v20)]) rfl rfl rfl ?_
      refine w_cu (np := 124) (as := [eI (v46), eI (v53)]) (l2 := [some (eI (v46)), some (eI (v53)), none, none, none, none, none]) (rest := [eI (v20)]) rfl rfl rfl (Nat.ble_eq.mp rfl) rfl rfl rfl rfl ?_
      refine s_85 (a0 := v46) (a1 := v53) hI (by omega) (by omega) ?_
      intro v56 b57
      show ex_q (dt_fg L ρ) rc (d + 2, (41, 124, [some (eR a0), some (eI (a1)), some (eJ (a2)), none, some (eI (v8)), some (eI (v17)), some (eI (v20)), some (eJ (v24)), none, some (eJ (v40)), none, some (eI (v46)), some (eI (v53))], [eI (v56), eI (v20)]), f :: F, μ)
      obtain ⟨v58, e59⟩ : ∃ zz : Int, zz = (v20) * (v56) := ⟨_, rfl⟩
      have b60 : -1 ≤ v58 ∧ v58 ≤ 1 := by
        have hm := i_mulb (a := v20) (b := v56) (A := 1) (B := 1) (by omega) (by omega)
        rw [e59]
        omega
      refine w_t (np := 125) (l2 := [some (eR a0), some (eI (a1)), some (eJ (a2)), none, some (eI (v8)), some (eI (v17)), some (eI (v20)), some (eJ (v24)), none, some (eJ (v40)), none, some (eI (v46)), some (eI (v53))]) (s2 := [eI (v58)]) rfl (b_imul (by rw [← e59]; exact ev_w_in (by omega) (by omega))) rfl ?_
      refine b_ilt (t1 := 132) (t2 := 128) rfl rfl rfl (ev_w_in (by omega) (by omega)) (fun g61 => ?_) (fun g61 => ?_)
      · have b62 : -1 ≤ v58 ∧ v58 ≤ -1 := by omega
        refine w_t (np := 133) (l2 := [some (eR a0), some (eI (a1)), some (eJ (a2)), none, some (eI (v8)), some (eI (v17)), some (eI (v20)), some (eJ (v24)), none, some (eJ (v40)), none, some (eI (v46)), some (eI (v53))]) (s2 := [eI (0)]) rfl rfl rfl ?_
        exact b_rz rfl rfl (Or.inl rfl) (K (0) (by decide))
      · have b62 : 0 ≤ v58 ∧ v58 ≤ 1 := by omega
        refine w_t (np := 129) (l2 := [some (eR a0), some (eI (a1)), some (eJ (a2)), none, some (eI (v8)), some (eI (v17)), some (eI (v20)), some (eJ (v24)), none, some (eJ (v40)), none, some (eI (v46)), some (eI (v53))]) (s2 := [eI (1)]) rfl rfl rfl ?_
        refine w_go (t1 := 133) rfl rfl ?_
        exact b_rz rfl rfl (Or.inr rfl) (K (1) (by decide))
    · have b38 : 1 ≤ v34 ∧ v34 ≤ 1 := by omega
      refine w_t (np := 68) (l2 := [some (eR a0), some (eI (a1)), some (eJ (a2)), none, some (eI (v8)), some (eI (v17)), some (eI (v20)), some (eJ (v24)), none, none, none, none, none]) (s2 := [eI (0)]) rfl rfl rfl ?_
      exact b_rz rfl rfl (Or.inl rfl) (K (0) (by decide))
theorem s_41_2 {L : Nat} {ρ : Nat → Int} {rc : eQ} {d : Nat} {f : eFr} {F : List eFr} {μ : eM} {g : Nat → Nat} {a0 : Nat} {a1 : Int} {a2 : Int} (hI : SI g μ) (gA0 : g a0 = 7) (bA1 : 0 ≤ a1 ∧ a1 ≤ 889) (bA2 : -9223372036854775808 ≤ a2 ∧ a2 ≤ 9223372036854775807) (K : ∀ (v : Int), (0 ≤ v ∧ v ≤ 1) → ex_q (dt_fg L ρ) rc (d + 3, (f.1, f.2.1, f.2.2.1, eI v :: f.2.2.2), F, μ)) : ex_q (dt_fg L ρ) rc (d + 2, (41, 0, [some (eR a0), some (eI (a1)), some (eJ (a2)), none, none, none, none, none, none, none, none, none, none], []), f :: F, μ) := by
  refine w_t (np := 1) (l2 := [some (eR a0), some (eI (a1)), some (eJ (a2)), none, none, none, none, none, none, none, none, none, none]) (s2 := [eR a0]) rfl (s_an rfl (pos_g hI gA0 (by decide))) rfl ?_
  refine j_gr (np := 4) rfl rfl hI gA0 (by decide) (n := 8) rfl rfl rfl ?_
  intro v1 e2 b3 z4
  have b3 : g v1 = 11 := Nat.eq_of_beq_eq_true b3
  refine w_t (np := 5) (l2 := [some (eR a0), some (eI (a1)), some (eJ (a2)), none, none, none, none, none, none, none, none, none, none]) (s2 := [eI (2), eR v1]) rfl rfl rfl ?_
  refine w_t (np := 6) (l2 := [some (eR a0), some (eI (a1)), some (eJ (a2)), none, none, none, none, none, none, none, none, none, none]) (s2 := [eI (a1), eI (2), eR v1]) rfl rfl rfl ?_
  obtain ⟨v5, e6⟩ : ∃ zz : Int, zz = (2) * (a1) := ⟨_, rfl⟩
  have b7 : 0 ≤ v5 ∧ v5 ≤ 1778 := by omega
  refine w_t (np := 7) (l2 := [some (eR a0), some (eI (a1)), some (eJ (a2)), none, none, none, none, none, none, none, none, none, none]) (s2 := [eI (v5), eR v1]) rfl (b_imul (by rw [← e6]; exact ev_w_in (by omega) (by omega))) rfl ?_
  refine j_al (np := 8) rfl rfl hI b3 (by decide) (n := 1780) rfl rfl (lo := 0) (hi := 9) (fun _ => rfl) (by omega) (by omega) ?_
  intro v8 e9 b10
  refine w_t (np := 10) (l2 := [some (eR a0), some (eI (a1)), some (eJ (a2)), none, some (eI (v8)), none, none, none, none, none, none, none, none]) (s2 := []) rfl rfl rfl ?_
  refine w_t (np := 11) (l2 := [some (eR a0), some (eI (a1)), some (eJ (a2)), none, some (eI (v8)), none, none, none, none, none, none, none, none]) (s2 := [eR a0]) rfl (s_an rfl (pos_g hI gA0 (by decide))) rfl ?_
  refine w_gf (np := 14) (v := eR v1) rfl rfl (hI.kd gA0 (by decide) (n := 8) rfl) (by rw [e2]; rfl) ?_
  refine w_t (np := 15) (l2 := [some (eR a0), some (eI (a1)), some (eJ (a2)), none, some (eI (v8)), none, none, none, none, none, none, none, none]) (s2 := [eI (2), eR v1]) rfl rfl rfl ?_
  refine w_t (np := 16) (l2 := [some (eR a0), some (eI (a1)), some (eJ (a2)), none, some (eI (v8)), none, none, none, none, none, none, none, none]) (s2 := [eI (a1), eI (2), eR v1]) rfl rfl rfl ?_
  obtain ⟨v11, e12⟩ : ∃ zz : Int, zz = (2) * (a1) := ⟨_, rfl⟩
  have b13 : 0 ≤ v11 ∧ v11 ≤ 1778 := by omega
  refine w_t (np := 17) (l2 := [some (eR a0), some (eI (a1)), some (eJ (a2)), none, some (eI (v8)), none, none, none, none, none, none, none, none]) (s2 := [eI (v11), eR v1]) rfl (b_imul (by rw [← e12]; exact ev_w_in (by omega) (by omega))) rfl ?_
  refine w_t (np := 18) (l2 := [some (eR a0), some (eI (a1)), some (eJ (a2)), none, some (eI (v8)), none, none, none, none, none, none, none, none]) (s2 := [eI (1), eI (v11), eR v1]) rfl rfl rfl ?_
  obtain ⟨v14, e15⟩ : ∃ zz : Int, zz = (v11) + (1) := ⟨_, rfl⟩
  have b16 : 1 ≤ v14 ∧ v14 ≤ 1779 := by omega
  refine w_t (np := 19) (l2 := [some (eR a0), some (eI (a1)), some (eJ (a2)), none, some (eI (v8)), none, none, none, none, none, none, none, none]) (s2 := [eI (v14), eR v1]) rfl (b_iadd (by rw [← e15]; exact ev_w_in (by omega) (by omega))) rfl ?_
  refine j_al (np := 20) rfl rfl hI b3 (by decide) (n := 1780) rfl rfl (lo := 0) (hi := 9) (fun _ => rfl) (by omega) (by omega) ?_
  intro v17 e18 b19
  refine w_t (np := 22) (l2 := [some (eR a0), some (eI (a1)), some (eJ (a2)), none, some (eI (v8)), some (eI (v17)), none, none, none, none, none, none, none]) (s2 := []) rfl rfl rfl ?_
  refine w_t (np := 23) (l2 := [some (eR a0), some (eI (a1)), some (eJ (a2)), none, some (eI (v8)), some (eI (v17)), none, none, none, none, none, none, none]) (s2 := [eR a0]) rfl (s_an rfl (pos_g hI gA0 (by decide))) rfl ?_
  refine w_t (np := 24) (l2 := [some (eR a0), some (eI (a1)), some (eJ (a2)), none, some (eI (v8)), some (eI (v17)), none, none, none, none, none, none, none]) (s2 := [eI (a1), eR a0]) rfl rfl rfl ?_
  refine w_cw (np := 27) (as := [eI (a1)]) (l2 := [some (eR a0), some (eI (a1))]) (rest := []) rfl rfl rfl (Nat.ble_eq.mp rfl) rfl rfl rfl (hI.kd gA0 (by decide) (n := 8) rfl) rfl ?_
  refine s_24_2 (a1 := a1) hI gA0 (by omega) ?_
  intro v20 b21
  show ex_q (dt_fg L ρ) rc (d + 2, (41, 27, [some (eR a0), some (eI (a1)), some (eJ (a2)), none, some (eI (v8)), some (eI (v17)), none, none, none, none, none, none, none], [eI (v20)]), f :: F, μ)
  refine w_t (np := 29) (l2 := [some (eR a0), some (eI (a1)), some (eJ (a2)), none, some (eI (v8)), some (eI (v17)), some (eI (v20)), none, none, none, none, none, none]) (s2 := []) rfl rfl rfl ?_
  refine w_t (np := 30) (l2 := [some (eR a0), some (eI (a1)), some (eJ (a2)), none, some (eI (v8)), some (eI (v17)), some (eI (v20)), none, none, none, none, none, none]) (s2 := [eJ (a2)]) rfl rfl rfl ?_
  refine w_t (np := 31) (l2 := [some (eR a0), some (eI (a1)), some (eJ (a2)), none, some (eI (v8)), some (eI (v17)), some (eI (v20)), none, none, none, none, none, none]) (s2 := [eR a0, eJ (a2)]) rfl (s_an rfl (pos_g hI gA0 (by decide))) rfl ?_
  refine w_t (np := 32) (l2 := [some (eR a0), some (eI (a1)), some (eJ (a2)), none, some (eI (v8)), some (eI (v17)), some (eI (v20)), none, none, none, none, none, none]) (s2 := [eI (a1), eR a0, eJ (a2)]) rfl rfl rfl ?_
  refine w_t (np := 33) (l2 := [some (eR a0), some (eI (a1)), some (eJ (a2)), none, some (eI (v8)), some (eI (v17)), some (eI (v20)), none, none, none, none, none, none]) (s2 := [eI (0), eI (a1), eR a0, eJ (a2)]) rfl rfl rfl ?_
  refine w_cw (np := 36) (as := [eI (a1), eI (0)]) (l2 := [some (eR a0), some (eI (a1)), some (eI (0))]) (rest := [eJ (a2)]) rfl rfl rfl (Nat.ble_eq.mp rfl) rfl rfl rfl (hI.kd gA0 (by decide) (n := 8) rfl) rfl ?_
  refine s_22_2 (a1 := a1) (a2 := 0) hI gA0 (by omega) (by decide) ?_
  intro v22 b23
  show ex_q (dt_fg L ρ) rc (d + 2, (41, 36, [some (eR a0), some (eI (a1)), some (eJ (a2)), none, some (eI (v8)), some (eI (v17)), some (eI (v20)), none, none, none, none, none, none], [eJ (v22), eJ (a2)]), f :: F, μ)
  refine w_cu (np := 39) (as := [eJ (a2), eJ (v22)]) (l2 := [some (eJ (a2)), none, some (eJ (v22)), none]) (rest := []) rfl rfl rfl (Nat.ble_eq.mp rfl) rfl rfl rfl rfl ?_
  refine s_76 hI bA2 b23 ?_
  intro v24 b25
  show ex_q (dt_fg L ρ) rc (d + 2, (41, 39, [some (eR a0), some (eI (a1)), some (eJ (a2)), none, some (eI (v8)), some (eI (v17)), some (eI (v20)), none, none, none, none, none, none], [eJ (v24)]), f :: F, μ)
  refine w_t (np := 41) (l2 := [some (eR a0), some (eI (a1)), some (eJ (a2)), none, some (eI (v8)), some (eI (v17)), some (eI (v20)), some (eJ (v24)), none, none, none, none, none]) (s2 := []) rfl rfl rfl ?_
  refine w_t (np := 43) (l2 := [some (eR a0), some (eI (a1)), some (eJ (a2)), none, some (eI (v8)), some (eI (v17)), some (eI (v20)), some (eJ (v24)), none, none, none, none, none]) (s2 := [eI (v20)]) rfl rfl rfl ?_
  refine w_t (np := 45) (l2 := [some (eR a0), some (eI (a1)), some (eJ (a2)), none, some (eI (v8)), some (eI (v17)), some (eI (v20)), some (eJ (v24)), none, none, none, none, none]) (s2 := [eI (v8), eI (v20)]) rfl rfl rfl ?_
  refine w_t (np := 47) (l2 := [some (eR a0), some (eI (a1)), some (eJ (a2)), none, some (eI (v8)), some (eI (v17)), some (eI (v20)), some (eJ (v24)), none, none, none, none, none]) (s2 := [eJ (v24), eI (v8), eI (v20)]) rfl rfl rfl ?_
  refine w_cu (np := 50) (as := [eI (v8), eJ (v24)]) (l2 := [some (eI (v8)), some (eJ (v24)), none]) (rest := [eI (v20)]) rfl rfl rfl (Nat.ble_eq.mp rfl) rfl rfl rfl rfl ?_
  refine s_83 (a0 := v8) hI (by omega) b25 ?_
  intro v26 b27
  show ex_q (dt_fg L ρ) rc (d + 2, (41, 50, [some (eR a0), some (eI (a1)), some (eJ (a2)), none, some (eI (v8)), some (eI (v17)), some (eI (v20)), some (eJ (v24)), none, none, none, none, none], [eI (v26), eI (v20)]), f :: F, μ)
  obtain ⟨v28, e29⟩ : ∃ zz : Int, zz = (v20) * (v26) := ⟨_, rfl⟩
  have b30 : -1 ≤ v28 ∧ v28 ≤ 1 := by
    have hm := i_mulb (a := v20) (b := v26) (A := 1) (B := 1) (by omega) (by omega)
    rw [e29]
    omega
  refine w_t (np := 51) (l2 := [some (eR a0), some (eI (a1)), some (eJ (a2)), none, some (eI (v8)), some (eI (v17)), some (eI (v20)), some (eJ (v24)), none, none, none, none, none]) (s2 := [eI (v28)]) rfl (b_imul (by rw [← e29]; exact ev_w_in (by omega) (by omega))) rfl ?_
  refine b_ilt (t1 := 67) (t2 := 54) rfl rfl rfl (ev_w_in (by omega) (by omega)) (fun g31 => ?_) (fun g31 => ?_)
  · have b32 : -1 ≤ v28 ∧ v28 ≤ -1 := by omega
    refine w_t (np := 68) (l2 := [some (eR a0), some (eI (a1)), some (eJ (a2)), none, some (eI (v8)), some (eI (v17)), some (eI (v20)), some (eJ (v24)), none, none, none, none, none]) (s2 := [eI (0)]) rfl rfl rfl ?_
    exact b_rz rfl rfl (Or.inl rfl) (K (0) (by decide))
  · have b32 : 0 ≤ v28 ∧ v28 ≤ 1 := by omega
    refine w_t (np := 56) (l2 := [some (eR a0), some (eI (a1)), some (eJ (a2)), none, some (eI (v8)), some (eI (v17)), some (eI (v20)), some (eJ (v24)), none, none, none, none, none]) (s2 := [eI (v20)]) rfl rfl rfl ?_
    refine w_t (np := 58) (l2 := [some (eR a0), some (eI (a1)), some (eJ (a2)), none, some (eI (v8)), some (eI (v17)), some (eI (v20)), some (eJ (v24)), none, none, none, none, none]) (s2 := [eI (v17), eI (v20)]) rfl rfl rfl ?_
    refine w_t (np := 60) (l2 := [some (eR a0), some (eI (a1)), some (eJ (a2)), none, some (eI (v8)), some (eI (v17)), some (eI (v20)), some (eJ (v24)), none, none, none, none, none]) (s2 := [eJ (v24), eI (v17), eI (v20)]) rfl rfl rfl ?_
    refine w_cu (np := 63) (as := [eI (v17), eJ (v24)]) (l2 := [some (eI (v17)), some (eJ (v24)), none]) (rest := [eI (v20)]) rfl rfl rfl (Nat.ble_eq.mp rfl) rfl rfl rfl rfl ?_
    refine s_83 (a0 := v17) hI (by omega) b25 ?_
    intro v32 b33
    show ex_q (dt_fg L ρ) rc (d + 2, (41, 63, [some (eR a0), some (eI (a1)), some (eJ (a2)), none, some (eI (v8)), some (eI (v17)), some (eI (v20)), some (eJ (v24)), none, none, none, none, none], [eI (v32), eI (v20)]), f :: F, μ)
    obtain ⟨v34, e35⟩ : ∃ zz : Int, zz = (v20) * (v32) := ⟨_, rfl⟩
    have b36 : -1 ≤ v34 ∧ v34 ≤ 1 := by
      have hm := i_mulb (a := v20) (b := v32) (A := 1) (B := 1) (by omega) (by omega)
      rw [e35]
      omega
    refine w_t (np := 64) (l2 := [some (eR a0), some (eI (a1)), some (eJ (a2)), none, some (eI (v8)), some (eI (v17)), some (eI (v20)), some (eJ (v24)), none, none, none, none, none]) (s2 := [eI (v34)]) rfl (b_imul (by rw [← e35]; exact ev_w_in (by omega) (by omega))) rfl ?_
    refine b_ile (t1 := 69) (t2 := 67) rfl rfl rfl (ev_w_in (by omega) (by omega)) (fun g37 => ?_) (fun g37 => ?_)
    · have b38 : -1 ≤ v34 ∧ v34 ≤ 0 := by omega
      refine w_t (np := 70) (l2 := [some (eR a0), some (eI (a1)), some (eJ (a2)), none, some (eI (v8)), some (eI (v17)), some (eI (v20)), some (eJ (v24)), none, none, none, none, none]) (s2 := [eJ (a2)]) rfl rfl rfl ?_
      refine w_t (np := 71) (l2 := [some (eR a0), some (eI (a1)), some (eJ (a2)), none, some (eI (v8)), some (eI (v17)), some (eI (v20)), some (eJ (v24)), none, none, none, none, none]) (s2 := [eR a0, eJ (a2)]) rfl (s_an rfl (pos_g hI gA0 (by decide))) rfl ?_
      refine w_t (np := 72) (l2 := [some (eR a0), some (eI (a1)), some (eJ (a2)), none, some (eI (v8)), some (eI (v17)), some (eI (v20)), some (eJ (v24)), none, none, none, none, none]) (s2 := [eI (a1), eR a0, eJ (a2)]) rfl rfl rfl ?_
      refine w_t (np := 73) (l2 := [some (eR a0), some (eI (a1)), some (eJ (a2)), none, some (eI (v8)), some (eI (v17)), some (eI (v20)), some (eJ (v24)), none, none, none, none, none]) (s2 := [eI (1), eI (a1), eR a0, eJ (a2)]) rfl rfl rfl ?_
      refine w_cw (np := 76) (as := [eI (a1), eI (1)]) (l2 := [some (eR a0), some (eI (a1)), some (eI (1))]) (rest := [eJ (a2)]) rfl rfl rfl (Nat.ble_eq.mp rfl) rfl rfl rfl (hI.kd gA0 (by decide) (n := 8) rfl) rfl ?_
      refine s_22_2 (a1 := a1) (a2 := 1) hI gA0 (by omega) (by decide) ?_
      intro v38 b39
      show ex_q (dt_fg L ρ) rc (d + 2, (41, 76, [some (eR a0), some (eI (a1)), some (eJ (a2)), none, some (eI (v8)), some (eI (v17)), some (eI (v20)), some (eJ (v24)), none, none, none, none, none], [eJ (v38), eJ (a2)]), f :: F, μ)
      refine w_cu (np := 79) (as := [eJ (a2), eJ (v38)]) (l2 := [some (eJ (a2)), none, some (eJ (v38)), none]) (rest := []) rfl rfl rfl (Nat.ble_eq.mp rfl) rfl rfl rfl rfl ?_
      refine s_76 hI bA2 b39 ?_
      intro v40 b41
      show ex_q (dt_fg L ρ) rc (d + 2, (41, 79, [some (eR a0), some (eI (a1)), some (eJ (a2)), none, some (eI (v8)), some (eI (v17)), some (eI (v20)), some (eJ (v24)), none, none, none, none, none], [eJ (v40)]), f :: F, μ)
      refine w_t (np := 81) (l2 := [some (eR a0), some (eI (a1)), some (eJ (a2)), none, some (eI (v8)), some (eI (v17)), some (eI (v20)), some (eJ (v24)), none, some (eJ (v40)), none, none, none]) (s2 := []) rfl rfl rfl ?_
      refine w_t (np := 83) (l2 := [some (eR a0), some (eI (a1)), some (eJ (a2)), none, some (eI (v8)), some (eI (v17)), some (eI (v20)), some (eJ (v24)), none, some (eJ (v40)), none, none, none]) (s2 := [eI (v17)]) rfl rfl rfl ?_
      refine w_t (np := 85) (l2 := [some (eR a0), some (eI (a1)), some (eJ (a2)), none, some (eI (v8)), some (eI (v17)), some (eI (v20)), some (eJ (v24)), none, some (eJ (v40)), none, none, none]) (s2 := [eJ (v40), eI (v17)]) rfl rfl rfl ?_
      refine w_cu (np := 88) (as := [eI (v17), eJ (v40)]) (l2 := [some (eI (v17)), some (eJ (v40)), none]) (rest := []) rfl rfl rfl (Nat.ble_eq.mp rfl) rfl rfl rfl rfl ?_
      refine s_81 (a0 := v17) hI (by omega) b41 ?_
      intro v42 b43
      show ex_q (dt_fg L ρ) rc (d + 2, (41, 88, [some (eR a0), some (eI (a1)), some (eJ (a2)), none, some (eI (v8)), some (eI (v17)), some (eI (v20)), some (eJ (v24)), none, some (eJ (v40)), none, none, none], [eI (v42)]), f :: F, μ)
      refine w_t (np := 90) (l2 := [some (eR a0), some (eI (a1)), some (eJ (a2)), none, some (eI (v8)), some (eI (v17)), some (eI (v20)), some (eJ (v24)), none, some (eJ (v40)), none, none, none]) (s2 := [eI (v8), eI (v42)]) rfl rfl rfl ?_
      refine w_t (np := 92) (l2 := [some (eR a0), some (eI (a1)), some (eJ (a2)), none, some (eI (v8)), some (eI (v17)), some (eI (v20)), some (eJ (v24)), none, some (eJ (v40)), none, none, none]) (s2 := [eJ (v40), eI (v8), eI (v42)]) rfl rfl rfl ?_
      refine w_cu (np := 95) (as := [eI (v8), eJ (v40)]) (l2 := [some (eI (v8)), some (eJ (v40)), none]) (rest := [eI (v42)]) rfl rfl rfl (Nat.ble_eq.mp rfl) rfl rfl rfl rfl ?_
      refine s_81 (a0 := v8) hI (by omega) b41 ?_
      intro v44 b45
      show ex_q (dt_fg L ρ) rc (d + 2, (41, 95, [some (eR a0), some (eI (a1)), some (eJ (a2)), none, some (eI (v8)), some (eI (v17)), some (eI (v20)), some (eJ (v24)), none, some (eJ (v40)), none, none, none], [eI (v44), eI (v42)]), f :: F, μ)
      obtain ⟨v46, e47, b48⟩ : ∃ zz : Int, ev_w ((v42) - (v44)) = zz ∧ (-2147483648 ≤ zz ∧ zz ≤ 2147483647) := ⟨_, rfl, hw_bd _⟩
      refine w_t (np := 96) (l2 := [some (eR a0), some (eI (a1)), some (eJ (a2)), none, some (eI (v8)), some (eI (v17)), some (eI (v20)), some (eJ (v24)), none, some (eJ (v40)), none, none, none]) (s2 := [eI (v46)]) rfl (b_isub e47) rfl ?_
      refine w_t (np := 98) (l2 := [some (eR a0), some (eI (a1)), some (eJ (a2)), none, some (eI (v8)), some (eI (v17)), some (eI (v20)), some (eJ (v24)), none, some (eJ (v40)), none, some (eI (v46)), none]) (s2 := []) rfl rfl rfl ?_
      refine w_t (np := 100) (l2 := [some (eR a0), some (eI (a1)), some (eJ (a2)), none, some (eI (v8)), some (eI (v17)), some (eI (v20)), some (eJ (v24)), none, some (eJ (v40)), none, some (eI (v46)), none]) (s2 := [eI (v17)]) rfl rfl rfl ?_
      refine w_t (np := 102) (l2 := [some (eR a0), some (eI (a1)), some (eJ (a2)), none, some (eI (v8)), some (eI (v17)), some (eI (v20)), some (eJ (v24)), none, some (eJ (v40)), none, some (eI (v46)), none]) (s2 := [eJ (v40), eI (v17)]) rfl rfl rfl ?_
      refine w_cu (np := 105) (as := [eI (v17), eJ (v40)]) (l2 := [some (eI (v17)), some (eJ (v40)), none]) (rest := []) rfl rfl rfl (Nat.ble_eq.mp rfl) rfl rfl rfl rfl ?_
      refine s_82 (a0 := v17) hI (by omega) b41 ?_
      intro v49 b50
      show ex_q (dt_fg L ρ) rc (d + 2, (41, 105, [some (eR a0), some (eI (a1)), some (eJ (a2)), none, some (eI (v8)), some (eI (v17)), some (eI (v20)), some (eJ (v24)), none, some (eJ (v40)), none, some (eI (v46)), none], [eI (v49)]), f :: F, μ)
      refine w_t (np := 107) (l2 := [some (eR a0), some (eI (a1)), some (eJ (a2)), none, some (eI (v8)), some (eI (v17)), some (eI (v20)), some (eJ (v24)), none, some (eJ (v40)), none, some (eI (v46)), none]) (s2 := [eI (v8), eI (v49)]) rfl rfl rfl ?_
      refine w_t (np := 109) (l2 := [some (eR a0), some (eI (a1)), some (eJ (a2)), none, some (eI (v8)), some (eI (v17)), some (eI (v20)), some (eJ (v24)), none, some (eJ (v40)), none, some (eI (v46)), none]) (s2 := [eJ (v40), eI (v8), eI (v49)]) rfl rfl rfl ?_
      refine w_cu (np := 112) (as := [eI (v8), eJ (v40)]) (l2 := [some (eI (v8)), some (eJ (v40)), none]) (rest := [eI (v49)]) rfl rfl rfl (Nat.ble_eq.mp rfl) rfl rfl rfl rfl ?_
      refine s_82 (a0 := v8) hI (by omega) b41 ?_
      intro v51 b52
      show ex_q (dt_fg L ρ) rc (d + 2, (41, 112, [some (eR a0), some (eI (a1)), some (eJ (a2)), none, some (eI (v8)), some (eI (v17)), some (eI (v20)), some (eJ (v24)), none, some (eJ (v40)), none, some (eI (v46)), none], [eI (v51), eI (v49)]), f :: F, μ)
      obtain ⟨v53, e54, b55⟩ : ∃ zz : Int, ev_w ((v49) - (v51)) = zz ∧ (-2147483648 ≤ zz ∧ zz ≤ 2147483647) := ⟨_, rfl, hw_bd _⟩
      refine w_t (np := 113) (l2 := [some (eR a0), some (eI (a1)), some (eJ (a2)), none, some (eI (v8)), some (eI (v17)), some (eI (v20)), some (eJ (v24)), none, some (eJ (v40)), none, some (eI (v46)), none]) (s2 := [eI (v53)]) rfl (b_isub e54) rfl ?_
      refine w_t (np := 115) (l2 := [some (eR a0), some (eI (a1)), some (eJ (a2)), none, some (eI (v8)), some (eI (v17)), some (eI (v20)), some (eJ (v24)), none, some (eJ (v40)), none, some (eI (v46)), some (eI (v53))]) (s2 := []) rfl rfl rfl ?_
      refine w_t (np := 117) (l2 := [some (eR a0), some (eI (a1)), some (eJ (a2)), none, some (eI (v8)), some (eI (v17)), some (eI (v20)), some (eJ (v24)), none, some (eJ (v40)), none, some (eI (v46)), some (eI (v53))]) (s2 := [eI (v20)]) rfl rfl rfl ?_
      refine w_t (np := 119) (l2 := [some (eR a0), some (eI (a1)), some (eJ (a2)), none, some (eI (v8)), some (eI (v17)), some (eI (v20)), some (eJ (v24)), none, some (eJ (v40)), none, some (eI (v46)), some (eI (v53))]) (s2 := [eI (v46), eI (v20)]) rfl rfl rfl ?_
      refine w_t (np := 121) (l2 := [some (eR a0), some (eI (a1)), some (eJ (a2)), none, some (eI (v8)), some (eI (v17)), some (eI (v20)), some (eJ (v24)), none, some (eJ (v40)), none, some (eI (v46)), some (eI (v53))]) (s2 := [eI (v53), eI (v46), eI (v20)]) rfl rfl rfl ?_
      refine w_cu (np := 124) (as := [eI (v46), eI (v53)]) (l2 := [some (eI (v46)), some (eI (v53)), none, none, none, none, none]) (rest := [eI (v20)]) rfl rfl rfl (Nat.ble_eq.mp rfl) rfl rfl rfl rfl ?_
      refine s_85 (a0 := v46) (a1 := v53) hI (by omega) (by omega) ?_
      intro v56 b57
      show ex_q (dt_fg L ρ) rc (d + 2, (41, 124, [some (eR a0), some (eI (a1)), some (eJ (a2)), none, some (eI (v8)), some (eI (v17)), some (eI (v20)), some (eJ (v24)), none, some (eJ (v40)), none, some (eI (v46)), some (eI (v53))], [eI (v56), eI (v20)]), f :: F, μ)
      obtain ⟨v58, e59⟩ : ∃ zz : Int, zz = (v20) * (v56) := ⟨_, rfl⟩
      have b60 : -1 ≤ v58 ∧ v58 ≤ 1 := by
        have hm := i_mulb (a := v20) (b := v56) (A := 1) (B := 1) (by omega) (by omega)
        rw [e59]
        omega
      refine w_t (np := 125) (l2 := [some (eR a0), some (eI (a1)), some (eJ (a2)), none, some (eI (v8)), some (eI (v17)), some (eI (v20)), some (eJ (v24)), none, some (eJ (v40)), none, some (eI (v46)), some (eI (v53))]) (s2 := [eI (v58)]) rfl (b_imul (by rw [← e59]; exact ev_w_in (by omega) (by omega))) rfl ?_
      refine b_ilt (t1 := 132) (t2 := 128) rfl rfl rfl (ev_w_in (by omega) (by omega)) (fun g61 => ?_) (fun g61 => ?_)
      · have b62 : -1 ≤ v58 ∧ v58 ≤ -1 := by omega
        refine w_t (np := 133) (l2 := [some (eR a0), some (eI (a1)), some (eJ (a2)), none, some (eI (v8)), some (eI (v17)), some (eI (v20)), some (eJ (v24)), none, some (eJ (v40)), none, some (eI (v46)), some (eI (v53))]) (s2 := [eI (0)]) rfl rfl rfl ?_
        exact b_rz rfl rfl (Or.inl rfl) (K (0) (by decide))
      · have b62 : 0 ≤ v58 ∧ v58 ≤ 1 := by omega
        refine w_t (np := 129) (l2 := [some (eR a0), some (eI (a1)), some (eJ (a2)), none, some (eI (v8)), some (eI (v17)), some (eI (v20)), some (eJ (v24)), none, some (eJ (v40)), none, some (eI (v46)), some (eI (v53))]) (s2 := [eI (1)]) rfl rfl rfl ?_
        refine w_go (t1 := 133) rfl rfl ?_
        exact b_rz rfl rfl (Or.inr rfl) (K (1) (by decide))
    · have b38 : 1 ≤ v34 ∧ v34 ≤ 1 := by omega
      refine w_t (np := 68) (l2 := [some (eR a0), some (eI (a1)), some (eJ (a2)), none, some (eI (v8)), some (eI (v17)), some (eI (v20)), some (eJ (v24)), none, none, none, none, none]) (s2 := [eI (0)]) rfl rfl rfl ?_
      exact b_rz rfl rfl (Or.inl rfl) (K (0) (by decide))
def l_60 : List Nat := [6155, 6149, 6150, 6151, 6152, 6154, 6656]
theorem s_60 {L : Nat} {ρ : Nat → Int} {rc : eQ} {d : Nat} {f : eFr} {F : List eFr} {μ : eM} {g : Nat → Nat} {a0 : Nat} {a1 : Int} (hI : SI g μ) (gA0 : g a0 = 24) (bA1 : 0 ≤ a1 ∧ a1 ≤ 3) (K : ∀ (μ2 : eM) (v : Int), SI g μ2 → Fr l_60 0 0 g μ μ2 → (0 ≤ v ∧ v ≤ 1) → ex_q (dt_fg L ρ) rc (d + 4, (f.1, f.2.1, f.2.2.1, eI v :: f.2.2.2), F, μ2)) : ex_q (dt_fg L ρ) rc (d + 3, (60, 0, [some (eR a0), some (eI (a1)), none], []), f :: F, μ) := by
  have F0 : Fr l_60 0 0 g μ μ := Fr.r
  refine w_t (np := 1) (l2 := [some (eR a0), some (eI (a1)), none]) (s2 := [eR a0]) rfl (s_an rfl (pos_g hI gA0 (by decide))) rfl ?_
  refine w_t (np := 3) (l2 := [some (eR a0), some (eI (a1)), none]) (s2 := [eI (45), eR a0]) rfl rfl rfl ?_
  refine w_cw (np := 6) (as := [eI (45)]) (l2 := [some (eR a0), some (eI (45))]) (rest := []) rfl rfl rfl (Nat.ble_eq.mp rfl) rfl rfl rfl (hI.kd gA0 (by decide) (n := 11) rfl) rfl ?_
  refine s_69 (a1 := 45) hI gA0 (by decide) ?_
  intro v1 b2
  show ex_q (dt_fg L ρ) rc (d + 3, (60, 6, [some (eR a0), some (eI (a1)), none], [eI (v1)]), f :: F, μ)
  refine w_t (np := 7) (l2 := [some (eR a0), some (eI (a1)), some (eI (v1))]) (s2 := []) rfl rfl rfl ?_
  refine w_t (np := 8) (l2 := [some (eR a0), some (eI (a1)), some (eI (v1))]) (s2 := [eI (v1)]) rfl rfl rfl ?_
  refine b_ieq (t1 := 15) (t2 := 11) rfl rfl rfl (ev_w_in (by omega) (by omega)) (fun g3 => ?_) (fun g3 => ?_)
  · have b4 : 0 ≤ v1 ∧ v1 ≤ 0 := by omega
    refine w_t (np := 16) (l2 := [some (eR a0), some (eI (a1)), some (eI (v1))]) (s2 := [eR a0]) rfl (s_an rfl (pos_g hI gA0 (by decide))) rfl ?_
    refine j_gi (np := 19) rfl rfl rfl hI gA0 (by decide) (n := 11) rfl rfl (lo := -2147483648) (hi := 2147483647) rfl ?_
    intro v4 e5 b6
    refine w_t (np := 20) (l2 := [some (eR a0), some (eI (a1)), some (eI (v1))]) (s2 := [eI (2), eI (v4)]) rfl rfl rfl ?_
    refine b_ceq (t1 := 28) (t2 := 23) rfl rfl rfl (ev_w_in (by omega) (by omega)) rfl (fun g7 => ?_) (fun g7 => ?_)
    · have b8 : 2 ≤ v4 ∧ v4 ≤ 2 := by omega
      refine w_t (np := 29) (l2 := [some (eR a0), some (eI (a1)), some (eI (v1))]) (s2 := [eR a0]) rfl (s_an rfl (pos_g hI gA0 (by decide))) rfl ?_
      refine j_gr (np := 32) rfl rfl hI gA0 (by decide) (n := 11) rfl rfl rfl ?_
      intro v8 e9 b10 z11
      have b10 : g v8 = 26 := Nat.eq_of_beq_eq_true b10
      refine w_t (np := 33) (l2 := [some (eR a0), some (eI (a1)), some (eI (v1))]) (s2 := [eI (a1), eR v8]) rfl rfl rfl ?_
      refine w_t (np := 34) (l2 := [some (eR a0), some (eI (a1)), some (eI (v1))]) (s2 := [eI (v1), eI (a1), eR v8]) rfl rfl rfl ?_
      refine b_ieq (t1 := 45) (t2 := 37) rfl rfl rfl (ev_w_in (by omega) (by omega)) (fun g12 => ?_) (fun g12 => False.elim (by omega))
      refine w_t (np := 46) (l2 := [some (eR a0), some (eI (a1)), some (eI (v1))]) (s2 := [eR a0, eI (a1), eR v8]) rfl (s_an rfl (pos_g hI gA0 (by decide))) rfl ?_
      refine j_gi (np := 49) rfl rfl rfl hI gA0 (by decide) (n := 11) rfl rfl (lo := -2147483648) (hi := 2147483647) rfl ?_
      intro v13 e14 b15
      refine j_as (np := 50) rfl rfl hI b10 (by decide) (n := 4) rfl rfl (lo := -2147483648) (hi := 2147483647) (fun _ => rfl) (by omega) (by omega) (by omega) ?_
      intro m16 I17 W18
      have F19 : Fr l_60 0 0 g μ m16 := F0.v W18 b10 rfl rfl
      refine w_t (np := 51) (l2 := [some (eR a0), some (eI (a1)), some (eI (v1))]) (s2 := [eR a0]) rfl (s_an rfl (pos_g I17 gA0 (by decide))) rfl ?_
      refine w_cw (np := 54) (as := []) (l2 := [some (eR a0), none, none]) (rest := []) rfl rfl rfl (Nat.ble_eq.mp rfl) rfl rfl rfl (I17.kd gA0 (by decide) (n := 11) rfl) rfl ?_
      refine s_67 I17 gA0 ?_
      intro m20 I21 F22
      have F23 : Fr l_60 0 0 g μ m20 := F19.t F22 rfl
      show ex_q (dt_fg L ρ) rc (d + 3, (60, 54, [some (eR a0), some (eI (a1)), some (eI (v1))], []), f :: F, m20)
      refine w_t (np := 55) (l2 := [some (eR a0), some (eI (a1)), some (eI (v1))]) (s2 := [eI (1)]) rfl rfl rfl ?_
      exact b_rz rfl rfl (Or.inr rfl) (K m20 (1) I21 F23 (by decide))
    · refine w_t (np := 24) (l2 := [some (eR a0), some (eI (a1)), some (eI (v1))]) (s2 := [eR a0]) rfl (s_an rfl (pos_g hI gA0 (by decide))) rfl ?_
      refine w_cw (np := 27) (as := []) (l2 := [some (eR a0)]) (rest := []) rfl rfl rfl (Nat.ble_eq.mp rfl) rfl rfl rfl (hI.kd gA0 (by decide) (n := 11) rfl) rfl ?_
      refine w_t (np := 1) (l2 := [some (eR a0)]) (s2 := [eR a0]) rfl (s_an rfl (pos_g hI gA0 (by decide))) rfl ?_
      refine w_t (np := 2) (l2 := [some (eR a0)]) (s2 := [eR a0, eR a0]) rfl (s_an rfl (pos_g hI gA0 (by decide))) rfl ?_
      refine w_gf (np := 5) (v := eI (v4)) rfl rfl (hI.kd gA0 (by decide) (n := 11) rfl) (by rw [e5]; rfl) ?_
      refine w_t (np := 6) (l2 := [some (eR a0)]) (s2 := [eI (4), eI (v4), eR a0]) rfl rfl rfl ?_
      refine b_cne (t1 := 13) (t2 := 9) rfl rfl rfl (ev_w_in (by omega) (by omega)) rfl (fun g8 => ?_) (fun g8 => ?_)
      · refine w_t (np := 14) (l2 := [some (eR a0)]) (s2 := [eI (2), eR a0]) rfl rfl rfl ?_
        refine w_t (np := 15) (l2 := [some (eR a0)]) (s2 := [eR a0, eI (2), eR a0]) rfl (s_an rfl (pos_g hI gA0 (by decide))) rfl ?_
        refine j_gi (np := 18) rfl rfl rfl hI gA0 (by decide) (n := 11) rfl rfl (lo := 0) (hi := 900) rfl ?_
        intro v9 e10 b11
        refine w_cw (np := 21) (as := [eI (2), eI (v9)]) (l2 := [some (eR a0), some (eI (2)), some (eI (v9))]) (rest := []) rfl rfl rfl (Nat.ble_eq.mp rfl) rfl rfl rfl (hI.kd gA0 (by decide) (n := 11) rfl) rfl ?_
        refine w_t (np := 1) (l2 := [some (eR a0), some (eI (2)), some (eI (v9))]) (s2 := [eR a0]) rfl (s_an rfl (pos_g hI gA0 (by decide))) rfl ?_
        refine w_t (np := 2) (l2 := [some (eR a0), some (eI (2)), some (eI (v9))]) (s2 := [eI (2), eR a0]) rfl rfl rfl ?_
        refine j_pf (np := 5) (w := 2) rfl rfl hI gA0 (by decide) (n := 11) rfl rfl (hO_i (lo := -2147483648) (hi := 2147483647) rfl (by decide)) ?_
        intro m12 I13 W14
        have F15 : Fr l_60 0 0 g μ m12 := F0.w W14 gA0 rfl
        refine w_t (np := 6) (l2 := [some (eR a0), some (eI (2)), some (eI (v9))]) (s2 := [eR a0]) rfl (s_an rfl (pos_g I13 gA0 (by decide))) rfl ?_
        refine w_t (np := 7) (l2 := [some (eR a0), some (eI (2)), some (eI (v9))]) (s2 := [eI (v9), eR a0]) rfl rfl rfl ?_
        refine j_pf (np := 10) (w := v9) rfl rfl I13 gA0 (by decide) (n := 11) rfl rfl (hO_i (lo := -2147483648) (hi := 2147483647) rfl (by omega)) ?_
        intro m16 I17 W18
        have F19 : Fr l_60 0 0 g μ m16 := F15.w W18 gA0 rfl
        refine w_t (np := 11) (l2 := [some (eR a0), some (eI (2)), some (eI (v9))]) (s2 := [eI (0)]) rfl rfl rfl ?_
        refine b_rz rfl rfl (Or.inl rfl) ?_
        show ex_q (dt_fg L ρ) rc (d + 2, (62, 21, [some (eR a0)], [eI (0)]), (60, 27, [some (eR a0), some (eI (a1)), some (eI (v1))], []) :: f :: F, m16)
        refine b_rz rfl rfl (Or.inl rfl) ?_
        show ex_q (dt_fg L ρ) rc (d + 3, (60, 27, [some (eR a0), some (eI (a1)), some (eI (v1))], [eI (0)]), f :: F, m16)
        exact b_rz rfl rfl (Or.inl rfl) (K m16 (0) I17 F19 (by decide))
      · have b9 : 4 ≤ v4 ∧ v4 ≤ 4 := by omega
        refine w_t (np := 10) (l2 := [some (eR a0)]) (s2 := [eI (1), eR a0]) rfl rfl rfl ?_
        refine w_go (t1 := 14) rfl rfl ?_
        refine w_t (np := 15) (l2 := [some (eR a0)]) (s2 := [eR a0, eI (1), eR a0]) rfl (s_an rfl (pos_g hI gA0 (by decide))) rfl ?_
        refine j_gi (np := 18) rfl rfl rfl hI gA0 (by decide) (n := 11) rfl rfl (lo := 0) (hi := 900) rfl ?_
        intro v9 e10 b11
        refine w_cw (np := 21) (as := [eI (1), eI (v9)]) (l2 := [some (eR a0), some (eI (1)), some (eI (v9))]) (rest := []) rfl rfl rfl (Nat.ble_eq.mp rfl) rfl rfl rfl (hI.kd gA0 (by decide) (n := 11) rfl) rfl ?_
        refine w_t (np := 1) (l2 := [some (eR a0), some (eI (1)), some (eI (v9))]) (s2 := [eR a0]) rfl (s_an rfl (pos_g hI gA0 (by decide))) rfl ?_
        refine w_t (np := 2) (l2 := [some (eR a0), some (eI (1)), some (eI (v9))]) (s2 := [eI (1), eR a0]) rfl rfl rfl ?_
        refine j_pf (np := 5) (w := 1) rfl rfl hI gA0 (by decide) (n := 11) rfl rfl (hO_i (lo := -2147483648) (hi := 2147483647) rfl (by decide)) ?_
        intro m12 I13 W14
        have F15 : Fr l_60 0 0 g μ m12 := F0.w W14 gA0 rfl
        refine w_t (np := 6) (l2 := [some (eR a0), some (eI (1)), some (eI (v9))]) (s2 := [eR a0]) rfl (s_an rfl (pos_g I13 gA0 (by decide))) rfl ?_
        refine w_t (np := 7) (l2 := [some (eR a0), some (eI (1)), some (eI (v9))]) (s2 := [eI (v9), eR a0]) rfl rfl rfl ?_
        refine j_pf (np := 10) (w := v9) rfl rfl I13 gA0 (by decide) (n := 11) rfl rfl (hO_i (lo := -2147483648) (hi := 2147483647) rfl (by omega)) ?_
        intro m16 I17 W18
        have F19 : Fr l_60 0 0 g μ m16 := F15.w W18 gA0 rfl
        refine w_t (np := 11) (l2 := [some (eR a0), some (eI (1)), some (eI (v9))]) (s2 := [eI (0)]) rfl rfl rfl ?_
        refine b_rz rfl rfl (Or.inl rfl) ?_
        show ex_q (dt_fg L ρ) rc (d + 2, (62, 21, [some (eR a0)], [eI (0)]), (60, 27, [some (eR a0), some (eI (a1)), some (eI (v1))], []) :: f :: F, m16)
        refine b_rz rfl rfl (Or.inl rfl) ?_
        show ex_q (dt_fg L ρ) rc (d + 3, (60, 27, [some (eR a0), some (eI (a1)), some (eI (v1))], [eI (0)]), f :: F, m16)
        exact b_rz rfl rfl (Or.inl rfl) (K m16 (0) I17 F19 (by decide))
  · have b4 : 1 ≤ v1 ∧ v1 ≤ 1 := by omega
    refine w_t (np := 12) (l2 := [some (eR a0), some (eI (a1)), some (eI (v1))]) (s2 := [eR a0]) rfl (s_an rfl (pos_g hI gA0 (by decide))) rfl ?_
    refine w_cw (np := 15) (as := []) (l2 := [some (eR a0), none, none]) (rest := []) rfl rfl rfl (Nat.ble_eq.mp rfl) rfl rfl rfl (hI.kd gA0 (by decide) (n := 11) rfl) rfl ?_
    refine s_67 hI gA0 ?_
    intro m4 I5 F6
    have F7 : Fr l_60 0 0 g μ m4 := F0.t F6 rfl
    show ex_q (dt_fg L ρ) rc (d + 3, (60, 15, [some (eR a0), some (eI (a1)), some (eI (v1))], []), f :: F, m4)
    refine w_t (np := 16) (l2 := [some (eR a0), some (eI (a1)), some (eI (v1))]) (s2 := [eR a0]) rfl (s_an rfl (pos_g I5 gA0 (by decide))) rfl ?_
    refine j_gi (np := 19) rfl rfl rfl I5 gA0 (by decide) (n := 11) rfl rfl (lo := -2147483648) (hi := 2147483647) rfl ?_
    intro v8 e9 b10
    refine w_t (np := 20) (l2 := [some (eR a0), some (eI (a1)), some (eI (v1))]) (s2 := [eI (2), eI (v8)]) rfl rfl rfl ?_
    refine b_ceq (t1 := 28) (t2 := 23) rfl rfl rfl (ev_w_in (by omega) (by omega)) rfl (fun g11 => ?_) (fun g11 => ?_)
    · have b12 : 2 ≤ v8 ∧ v8 ≤ 2 := by omega
      refine w_t (np := 29) (l2 := [some (eR a0), some (eI (a1)), some (eI (v1))]) (s2 := [eR a0]) rfl (s_an rfl (pos_g I5 gA0 (by decide))) rfl ?_
      refine j_gr (np := 32) rfl rfl I5 gA0 (by decide) (n := 11) rfl rfl rfl ?_
      intro v12 e13 b14 z15
      have b14 : g v12 = 26 := Nat.eq_of_beq_eq_true b14
      refine w_t (np := 33) (l2 := [some (eR a0), some (eI (a1)), some (eI (v1))]) (s2 := [eI (a1), eR v12]) rfl rfl rfl ?_
      refine w_t (np := 34) (l2 := [some (eR a0), some (eI (a1)), some (eI (v1))]) (s2 := [eI (v1), eI (a1), eR v12]) rfl rfl rfl ?_
      refine b_ieq (t1 := 45) (t2 := 37) rfl rfl rfl (ev_w_in (by omega) (by omega)) (fun g16 => False.elim (by omega)) (fun g16 => ?_)
      refine w_t (np := 38) (l2 := [some (eR a0), some (eI (a1)), some (eI (v1))]) (s2 := [eR a0, eI (a1), eR v12]) rfl (s_an rfl (pos_g I5 gA0 (by decide))) rfl ?_
      refine j_gi (np := 41) rfl rfl rfl I5 gA0 (by decide) (n := 11) rfl rfl (lo := -2147483648) (hi := 2147483647) rfl ?_
      intro v17 e18 b19
      obtain ⟨v20, e21, b22⟩ : ∃ zz : Int, ev_w (-(v17)) = zz ∧ (-2147483648 ≤ zz ∧ zz ≤ 2147483647) := ⟨_, rfl, hw_bd _⟩
      refine w_t (np := 42) (l2 := [some (eR a0), some (eI (a1)), some (eI (v1))]) (s2 := [eI (v20), eI (a1), eR v12]) rfl (b_ineg e21) rfl ?_
      refine w_go (t1 := 49) rfl rfl ?_
      refine j_as (np := 50) rfl rfl I5 b14 (by decide) (n := 4) rfl rfl (lo := -2147483648) (hi := 2147483647) (fun _ => rfl) (by omega) (by omega) (by omega) ?_
      intro m23 I24 W25
      have F26 : Fr l_60 0 0 g μ m23 := F7.v W25 b14 rfl rfl
      refine w_t (np := 51) (l2 := [some (eR a0), some (eI (a1)), some (eI (v1))]) (s2 := [eR a0]) rfl (s_an rfl (pos_g I24 gA0 (by decide))) rfl ?_
      refine w_cw (np := 54) (as := []) (l2 := [some (eR a0), none, none]) (rest := []) rfl rfl rfl (Nat.ble_eq.mp rfl) rfl rfl rfl (I24.kd gA0 (by decide) (n := 11) rfl) rfl ?_
      refine s_67 I24 gA0 ?_
      intro m27 I28 F29
      have F30 : Fr l_60 0 0 g μ m27 := F26.t F29 rfl
      show ex_q (dt_fg L ρ) rc (d + 3, (60, 54, [some (eR a0), some (eI (a1)), some (eI (v1))], []), f :: F, m27)
      refine w_t (np := 55) (l2 := [some (eR a0), some (eI (a1)), some (eI (v1))]) (s2 := [eI (1)]) rfl rfl rfl ?_
      exact b_rz rfl rfl (Or.inr rfl) (K m27 (1) I28 F30 (by decide))
    · refine w_t (np := 24) (l2 := [some (eR a0), some (eI (a1)), some (eI (v1))]) (s2 := [eR a0]) rfl (s_an rfl (pos_g I5 gA0 (by decide))) rfl ?_
      refine w_cw (np := 27) (as := []) (l2 := [some (eR a0)]) (rest := []) rfl rfl rfl (Nat.ble_eq.mp rfl) rfl rfl rfl (I5.kd gA0 (by decide) (n := 11) rfl) rfl ?_
      refine w_t (np := 1) (l2 := [some (eR a0)]) (s2 := [eR a0]) rfl (s_an rfl (pos_g I5 gA0 (by decide))) rfl ?_
      refine w_t (np := 2) (l2 := [some (eR a0)]) (s2 := [eR a0, eR a0]) rfl (s_an rfl (pos_g I5 gA0 (by decide))) rfl ?_
      refine w_gf (np := 5) (v := eI (v8)) rfl rfl (I5.kd gA0 (by decide) (n := 11) rfl) (by rw [e9]; rfl) ?_
      refine w_t (np := 6) (l2 := [some (eR a0)]) (s2 := [eI (4), eI (v8), eR a0]) rfl rfl rfl ?_
      refine b_cne (t1 := 13) (t2 := 9) rfl rfl rfl (ev_w_in (by omega) (by omega)) rfl (fun g12 => ?_) (fun g12 => ?_)
      · refine w_t (np := 14) (l2 := [some (eR a0)]) (s2 := [eI (2), eR a0]) rfl rfl rfl ?_
        refine w_t (np := 15) (l2 := [some (eR a0)]) (s2 := [eR a0, eI (2), eR a0]) rfl (s_an rfl (pos_g I5 gA0 (by decide))) rfl ?_
        refine j_gi (np := 18) rfl rfl rfl I5 gA0 (by decide) (n := 11) rfl rfl (lo := 0) (hi := 900) rfl ?_
        intro v13 e14 b15
        refine w_cw (np := 21) (as := [eI (2), eI (v13)]) (l2 := [some (eR a0), some (eI (2)), some (eI (v13))]) (rest := []) rfl rfl rfl (Nat.ble_eq.mp rfl) rfl rfl rfl (I5.kd gA0 (by decide) (n := 11) rfl) rfl ?_
        refine w_t (np := 1) (l2 := [some (eR a0), some (eI (2)), some (eI (v13))]) (s2 := [eR a0]) rfl (s_an rfl (pos_g I5 gA0 (by decide))) rfl ?_
        refine w_t (np := 2) (l2 := [some (eR a0), some (eI (2)), some (eI (v13))]) (s2 := [eI (2), eR a0]) rfl rfl rfl ?_
        refine j_pf (np := 5) (w := 2) rfl rfl I5 gA0 (by decide) (n := 11) rfl rfl (hO_i (lo := -2147483648) (hi := 2147483647) rfl (by decide)) ?_
        intro m16 I17 W18
        have F19 : Fr l_60 0 0 g μ m16 := F7.w W18 gA0 rfl
        refine w_t (np := 6) (l2 := [some (eR a0), some (eI (2)), some (eI (v13))]) (s2 := [eR a0]) rfl (s_an rfl (pos_g I17 gA0 (by decide))) rfl ?_
        refine w_t (np := 7) (l2 := [some (eR a0), some (eI (2)), some (eI (v13))]) (s2 := [eI (v13), eR a0]) rfl rfl rfl ?_
        refine j_pf (np := 10) (w := v13) rfl rfl I17 gA0 (by decide) (n := 11) rfl rfl (hO_i (lo := -2147483648) (hi := 2147483647) rfl (by omega)) ?_
        intro m20 I21 W22
        have F23 : Fr l_60 0 0 g μ m20 := F19.w W22 gA0 rfl
        refine w_t (np := 11) (l2 := [some (eR a0), some (eI (2)), some (eI (v13))]) (s2 := [eI (0)]) rfl rfl rfl ?_
        refine b_rz rfl rfl (Or.inl rfl) ?_
        show ex_q (dt_fg L ρ) rc (d + 2, (62, 21, [some (eR a0)], [eI (0)]), (60, 27, [some (eR a0), some (eI (a1)), some (eI (v1))], []) :: f :: F, m20)
        refine b_rz rfl rfl (Or.inl rfl) ?_
        show ex_q (dt_fg L ρ) rc (d + 3, (60, 27, [some (eR a0), some (eI (a1)), some (eI (v1))], [eI (0)]), f :: F, m20)
        exact b_rz rfl rfl (Or.inl rfl) (K m20 (0) I21 F23 (by decide))
      · have b13 : 4 ≤ v8 ∧ v8 ≤ 4 := by omega
        refine w_t (np := 10) (l2 := [some (eR a0)]) (s2 := [eI (1), eR a0]) rfl rfl rfl ?_
        refine w_go (t1 := 14) rfl rfl ?_
        refine w_t (np := 15) (l2 := [some (eR a0)]) (s2 := [eR a0, eI (1), eR a0]) rfl (s_an rfl (pos_g I5 gA0 (by decide))) rfl ?_
        refine j_gi (np := 18) rfl rfl rfl I5 gA0 (by decide) (n := 11) rfl rfl (lo := 0) (hi := 900) rfl ?_
        intro v13 e14 b15
        refine w_cw (np := 21) (as := [eI (1), eI (v13)]) (l2 := [some (eR a0), some (eI (1)), some (eI (v13))]) (rest := []) rfl rfl rfl (Nat.ble_eq.mp rfl) rfl rfl rfl (I5.kd gA0 (by decide) (n := 11) rfl) rfl ?_
        refine w_t (np := 1) (l2 := [some (eR a0), some (eI (1)), some (eI (v13))]) (s2 := [eR a0]) rfl (s_an rfl (pos_g I5 gA0 (by decide))) rfl ?_
        refine w_t (np := 2) (l2 := [some (eR a0), some (eI (1)), some (eI (v13))]) (s2 := [eI (1), eR a0]) rfl rfl rfl ?_
        refine j_pf (np := 5) (w := 1) rfl rfl I5 gA0 (by decide) (n := 11) rfl rfl (hO_i (lo := -2147483648) (hi := 2147483647) rfl (by decide)) ?_
        intro m16 I17 W18
        have F19 : Fr l_60 0 0 g μ m16 := F7.w W18 gA0 rfl
        refine w_t (np := 6) (l2 := [some (eR a0), some (eI (1)), some (eI (v13))]) (s2 := [eR a0]) rfl (s_an rfl (pos_g I17 gA0 (by decide))) rfl ?_
        refine w_t (np := 7) (l2 := [some (eR a0), some (eI (1)), some (eI (v13))]) (s2 := [eI (v13), eR a0]) rfl rfl rfl ?_
        refine j_pf (np := 10) (w := v13) rfl rfl I17 gA0 (by decide) (n := 11) rfl rfl (hO_i (lo := -2147483648) (hi := 2147483647) rfl (by omega)) ?_
        intro m20 I21 W22
        have F23 : Fr l_60 0 0 g μ m20 := F19.w W22 gA0 rfl
        refine w_t (np := 11) (l2 := [some (eR a0), some (eI (1)), some (eI (v13))]) (s2 := [eI (0)]) rfl rfl rfl ?_
        refine b_rz rfl rfl (Or.inl rfl) ?_
        show ex_q (dt_fg L ρ) rc (d + 2, (62, 21, [some (eR a0)], [eI (0)]), (60, 27, [some (eR a0), some (eI (a1)), some (eI (v1))], []) :: f :: F, m20)
        refine b_rz rfl rfl (Or.inl rfl) ?_
        show ex_q (dt_fg L ρ) rc (d + 3, (60, 27, [some (eR a0), some (eI (a1)), some (eI (v1))], [eI (0)]), f :: F, m20)
        exact b_rz rfl rfl (Or.inl rfl) (K m20 (0) I21 F23 (by decide))
def l_93 : List Nat := [5124, 5125, 5126, 5127, 5128, 5129, 5632, 5888]
theorem s_93 {L : Nat} {ρ : Nat → Int} {rc : eQ} {d : Nat} {f : eFr} {F : List eFr} {μ : eM} {g : Nat → Nat} {a0 : Nat} {a1 : Nat} {a2 : Int} (hI : SI g μ) (gA0 : g a0 = 20) (gA1 : g a1 = 29) (bA2 : -2147483648 ≤ a2 ∧ a2 ≤ 2147483647) (K : ∀ (μ2 : eM), SI g μ2 → Fr l_93 0 0 g μ μ2 → ex_q (dt_fg L ρ) rc (d + 5, (f.1, f.2.1, f.2.2.1, f.2.2.2), F, μ2)) : ex_q (dt_fg L ρ) rc (d + 4, (93, 0, [some (eR a0), some (eR a1), some (eI (a2)), none, none, none, none], []), f :: F, μ) := by
  have F0 : Fr l_93 0 0 g μ μ := Fr.r
  refine w_t (np := 1) (l2 := [some (eR a0), some (eR a1), some (eI (a2)), none, none, none, none]) (s2 := [eI (0)]) rfl rfl rfl ?_
  refine w_t (np := 2) (l2 := [some (eR a0), some (eR a1), some (eI (a2)), some (eI (0)), none, none, none]) (s2 := []) rfl rfl rfl ?_
  have hL2 : ∀ (n1 : Nat) (m5 : eM) (i3 : Int), SI g m5 → Fr l_93 0 0 g μ m5 → (0 ≤ i3 ∧ i3 ≤ 10) → n1 = (10 - i3).toNat → ex_q (dt_fg L ρ) rc (d + 4, (93, 2, [some (eR a0), some (eR a1), some (eI (a2)), some (eI (i3)), none, none, none], []), f :: F, m5) := by
    intro n1
    induction n1 using Nat.strongRecOn with
    | _ n1 ih2 =>
    intro m5 i3 I6 F7 b4 hn8
    refine w_t (np := 3) (l2 := [some (eR a0), some (eR a1), some (eI (a2)), some (eI (i3)), none, none, none]) (s2 := [eI (i3)]) rfl rfl rfl ?_
    refine w_t (np := 5) (l2 := [some (eR a0), some (eR a1), some (eI (a2)), some (eI (i3)), none, none, none]) (s2 := [eI (10), eI (i3)]) rfl rfl rfl ?_
    refine b_cge (t1 := 28) (t2 := 8) rfl rfl rfl (ev_w_in (by omega) (by omega)) rfl (fun g9 => ?_) (fun g9 => ?_)
    · have b10 : 10 ≤ i3 ∧ i3 ≤ 10 := by omega
      refine w_t (np := 29) (l2 := [some (eR a0), some (eR a1), some (eI (a2)), some (eI (i3)), none, none, none]) (s2 := [eR a0]) rfl (s_an rfl (pos_g I6 gA0 (by decide))) rfl ?_
      refine w_t (np := 30) (l2 := [some (eR a0), some (eR a1), some (eI (a2)), some (eI (i3)), none, none, none]) (s2 := [eI (0), eR a0]) rfl rfl rfl ?_
      refine j_pf (np := 33) (w := 0) rfl rfl I6 gA0 (by decide) (n := 9) rfl rfl (hO_i (lo := -2147483648) (hi := 2147483647) rfl (by decide)) ?_
      intro m10 I11 W12
      have F13 : Fr l_93 0 0 g μ m10 := F7.w W12 gA0 rfl
      refine w_t (np := 34) (l2 := [some (eR a0), some (eR a1), some (eI (a2)), some (eI (i3)), none, none, none]) (s2 := [eR a1]) rfl (s_an rfl (pos_g I11 gA1 (by decide))) rfl ?_
      refine w_t (np := 35) (l2 := [some (eR a0), some (eR a1), some (eI (a2)), some (eI (i3)), none, none, none]) (s2 := [eI (a2), eR a1]) rfl rfl rfl ?_
      refine w_cw (np := 38) (as := [eI (a2)]) (l2 := [some (eR a1), some (eI (a2))]) (rest := []) rfl rfl rfl (Nat.ble_eq.mp rfl) rfl rfl rfl (I11.kd gA1 (by decide) (n := 7) rfl) rfl ?_
      refine s_132 (a1 := a2) I11 gA1 (by omega) ?_
      intro v14 b15
      show ex_q (dt_fg L ρ) rc (d + 4, (93, 38, [some (eR a0), some (eR a1), some (eI (a2)), some (eI (i3)), none, none, none], [eJ (v14)]), f :: F, m10)
      refine w_t (np := 39) (l2 := [some (eR a0), some (eR a1), some (eI (a2)), some (eJ (v14)), none, none, none]) (s2 := []) rfl rfl rfl ?_
      refine w_t (np := 40) (l2 := [some (eR a0), some (eR a1), some (eI (a2)), some (eJ (v14)), none, none, none]) (s2 := [eI (0)]) rfl rfl rfl ?_
      refine w_t (np := 42) (l2 := [some (eR a0), some (eR a1), some (eI (a2)), some (eJ (v14)), none, some (eI (0)), none]) (s2 := []) rfl rfl rfl ?_
      have hL42 : ∀ (n16 : Nat) (m21 : eM) (i18 : Int) (o20 : Option eV), SI g m21 → Fr l_93 0 0 g μ m21 → (0 ≤ i18 ∧ i18 ≤ 24) → n16 = (24 - i18).toNat → ex_q (dt_fg L ρ) rc (d + 4, (93, 42, [some (eR a0), some (eR a1), some (eI (a2)), some (eJ (v14)), none, some (eI (i18)), o20], []), f :: F, m21) := by
        intro n16
        induction n16 using Nat.strongRecOn with
        | _ n16 ih17 =>
        intro m21 i18 o20 I22 F23 b19 hn24
        refine w_t (np := 44) (l2 := [some (eR a0), some (eR a1), some (eI (a2)), some (eJ (v14)), none, some (eI (i18)), o20]) (s2 := [eI (i18)]) rfl rfl rfl ?_
        refine w_t (np := 45) (l2 := [some (eR a0), some (eR a1), some (eI (a2)), some (eJ (v14)), none, some (eI (i18)), o20]) (s2 := [eR a1, eI (i18)]) rfl (s_an rfl (pos_g I22 gA1 (by decide))) rfl ?_
        refine j_gi (np := 48) rfl rfl rfl I22 gA1 (by decide) (n := 7) rfl rfl (lo := 0) (hi := 24) rfl ?_
        intro v25 e26 b27
        refine b_cge (t1 := 94) (t2 := 51) rfl rfl rfl (ev_w_in (by omega) (by omega)) (ev_w_in (by omega) (by omega)) (fun g28 => ?_) (fun g28 => ?_)
        · refine w_t (np := 95) (l2 := [some (eR a0), some (eR a1), some (eI (a2)), some (eJ (v14)), none, some (eI (i18)), o20]) (s2 := [eR a0]) rfl (s_an rfl (pos_g I22 gA0 (by decide))) rfl ?_
          refine w_cw (np := 98) (as := []) (l2 := [some (eR a0), none, none]) (rest := []) rfl rfl rfl (Nat.ble_eq.mp rfl) rfl rfl rfl (I22.kd gA0 (by decide) (n := 9) rfl) rfl ?_
          refine s_95 I22 gA0 ?_
          intro m29 I30 F31
          have F32 : Fr l_93 0 0 g μ m29 := F23.t F31 rfl
          show ex_q (dt_fg L ρ) rc (d + 4, (93, 98, [some (eR a0), some (eR a1), some (eI (a2)), some (eJ (v14)), none, some (eI (i18)), o20], []), f :: F, m29)
          exact v_rv rfl rfl (K m29 I30 F32)
        · have b29 : 0 ≤ i18 ∧ i18 ≤ 23 := by omega
          have b30 : 1 ≤ v25 ∧ v25 ≤ 24 := by omega
          refine w_t (np := 52) (l2 := [some (eR a0), some (eR a1), some (eI (a2)), some (eJ (v14)), none, some (eI (i18)), o20]) (s2 := [eI (0)]) rfl rfl rfl ?_
          refine w_t (np := 54) (l2 := [some (eR a0), some (eR a1), some (eI (a2)), some (eJ (v14)), none, some (eI (i18)), some (eI (0))]) (s2 := []) rfl rfl rfl ?_
          have hL54 : ∀ (n29 : Nat) (m33 : eM) (i31 : Int), SI g m33 → Fr l_93 0 0 g μ m33 → (0 ≤ i31 ∧ i31 ≤ 4) → m33.1 a1 5 = v25 → n29 = (4 - i31).toNat → ex_q (dt_fg L ρ) rc (d + 4, (93, 54, [some (eR a0), some (eR a1), some (eI (a2)), some (eJ (v14)), none, some (eI (i18)), some (eI (i31))], []), f :: F, m33) := by
            intro n29
            induction n29 using Nat.strongRecOn with
            | _ n29 ih30 =>
            intro m33 i31 I34 F35 b32 k36 hn37
            refine w_t (np := 56) (l2 := [some (eR a0), some (eR a1), some (eI (a2)), some (eJ (v14)), none, some (eI (i18)), some (eI (i31))]) (s2 := [eI (i31)]) rfl rfl rfl ?_
            refine w_t (np := 57) (l2 := [some (eR a0), some (eR a1), some (eI (a2)), some (eJ (v14)), none, some (eI (i18)), some (eI (i31))]) (s2 := [eI (4), eI (i31)]) rfl rfl rfl ?_
            refine b_cge (t1 := 88) (t2 := 60) rfl rfl rfl (ev_w_in (by omega) (by omega)) rfl (fun g38 => ?_) (fun g38 => ?_)
            · have b39 : 4 ≤ i31 ∧ i31 ≤ 4 := by omega
              obtain ⟨v39, e40⟩ : ∃ zz : Int, zz = (i18) + (1) := ⟨_, rfl⟩
              have b41 : 1 ≤ v39 ∧ v39 ≤ 24 := by omega
              refine w_t (np := 91) (l2 := [some (eR a0), some (eR a1), some (eI (a2)), some (eJ (v14)), none, some (eI (v39)), some (eI (i31))]) (s2 := []) rfl (b_iinc rfl (by rw [← e40]; exact ev_w_in (by omega) (by omega)) rfl) rfl ?_
              refine w_go (t1 := 42) rfl rfl ?_
              exact ih17 (24 - (v39)).toNat (by omega) m33 (v39) (some (eI (i31))) I34 F35 (by omega)     rfl
            · have b39 : 0 ≤ i31 ∧ i31 ≤ 3 := by omega
              refine w_t (np := 61) (l2 := [some (eR a0), some (eR a1), some (eI (a2)), some (eJ (v14)), none, some (eI (i18)), some (eI (i31))]) (s2 := [eR a1]) rfl (s_an rfl (pos_g I34 gA1 (by decide))) rfl ?_
              refine w_t (np := 63) (l2 := [some (eR a0), some (eR a1), some (eI (a2)), some (eJ (v14)), none, some (eI (i18)), some (eI (i31))]) (s2 := [eI (i18), eR a1]) rfl rfl rfl ?_
              refine w_t (np := 65) (l2 := [some (eR a0), some (eR a1), some (eI (a2)), some (eJ (v14)), none, some (eI (i18)), some (eI (i31))]) (s2 := [eI (i31), eI (i18), eR a1]) rfl rfl rfl ?_
              refine w_cw (np := 68) (as := [eI (i18), eI (i31)]) (l2 := [some (eR a1), some (eI (i18)), some (eI (i31))]) (rest := []) rfl rfl rfl (Nat.ble_eq.mp rfl) rfl rfl rfl (I34.kd gA1 (by decide) (n := 7) rfl) rfl ?_
              refine s_131 (a1 := i18) (a2 := i31) I34 gA1 (by omega) (by omega) ?_
              intro v39 b40
              show ex_q (dt_fg L ρ) rc (d + 4, (93, 68, [some (eR a0), some (eR a1), some (eI (a2)), some (eJ (v14)), none, some (eI (i18)), some (eI (i31))], [eJ (v39)]), f :: F, m33)
              refine w_t (np := 69) (l2 := [some (eR a0), some (eR a1), some (eI (a2)), some (eJ (v14)), none, some (eI (i18)), some (eI (i31))]) (s2 := [eJ (v14), eJ (v39)]) rfl rfl rfl ?_
              obtain ⟨v41, e42, b43⟩ := h_lcmp (v39) (v14)
              refine w_t (np := 70) (l2 := [some (eR a0), some (eR a1), some (eI (a2)), some (eJ (v14)), none, some (eI (i18)), some (eI (i31))]) (s2 := [eI (v41)]) rfl (e42 _ _) rfl ?_
              refine b_ine (t1 := 82) (t2 := 73) rfl rfl rfl (ev_w_in (by omega) (by omega)) (fun g44 => ?_) (fun g44 => ?_)
              · obtain ⟨v45, e46⟩ : ∃ zz : Int, zz = (i31) + (1) := ⟨_, rfl⟩
                have b47 : 1 ≤ v45 ∧ v45 ≤ 4 := by omega
                refine w_t (np := 85) (l2 := [some (eR a0), some (eR a1), some (eI (a2)), some (eJ (v14)), none, some (eI (i18)), some (eI (v45))]) (s2 := []) rfl (b_iinc rfl (by rw [← e46]; exact ev_w_in (by omega) (by omega)) rfl) rfl ?_
                refine w_go (t1 := 54) rfl rfl ?_
                exact ih30 (4 - (v45)).toNat (by omega) m33 (v45) I34 F35 (by omega) k36    rfl
              · have b45 : 0 ≤ v41 ∧ v41 ≤ 0 := by omega
                refine w_t (np := 74) (l2 := [some (eR a0), some (eR a1), some (eI (a2)), some (eJ (v14)), none, some (eI (i18)), some (eI (i31))]) (s2 := [eR a0]) rfl (s_an rfl (pos_g I34 gA0 (by decide))) rfl ?_
                refine w_t (np := 75) (l2 := [some (eR a0), some (eR a1), some (eI (a2)), some (eJ (v14)), none, some (eI (i18)), some (eI (i31))]) (s2 := [eR a1, eR a0]) rfl (s_an rfl (pos_g I34 gA1 (by decide))) rfl ?_
                refine w_t (np := 77) (l2 := [some (eR a0), some (eR a1), some (eI (a2)), some (eJ (v14)), none, some (eI (i18)), some (eI (i31))]) (s2 := [eI (i18), eR a1, eR a0]) rfl rfl rfl ?_
                refine w_t (np := 79) (l2 := [some (eR a0), some (eR a1), some (eI (a2)), some (eJ (v14)), none, some (eI (i18)), some (eI (i31))]) (s2 := [eI (i31), eI (i18), eR a1, eR a0]) rfl rfl rfl ?_
                refine w_cw (np := 82) (as := [eR a1, eI (i18), eI (i31)]) (l2 := [some (eR a0), some (eR a1), some (eI (i18)), some (eI (i31)), none, none, none]) (rest := []) rfl rfl rfl (Nat.ble_eq.mp rfl) rfl rfl rfl (I34.kd gA0 (by decide) (n := 9) rfl) rfl ?_
                refine s_94 (a2 := i18) (a3 := i31) I34 gA0 gA1 (by omega) (by omega) ?_
                intro m45 I46 F47
                have F48 : Fr l_93 0 0 g μ m45 := F35.t F47 rfl
                show ex_q (dt_fg L ρ) rc (d + 4, (93, 82, [some (eR a0), some (eR a1), some (eI (a2)), some (eJ (v14)), none, some (eI (i18)), some (eI (i31))], []), f :: F, m45)
                obtain ⟨v49, e50⟩ : ∃ zz : Int, zz = (i31) + (1) := ⟨_, rfl⟩
                have b51 : 1 ≤ v49 ∧ v49 ≤ 4 := by omega
                refine w_t (np := 85) (l2 := [some (eR a0), some (eR a1), some (eI (a2)), some (eJ (v14)), none, some (eI (i18)), some (eI (v49))]) (s2 := []) rfl (b_iinc rfl (by rw [← e50]; exact ev_w_in (by omega) (by omega)) rfl) rfl ?_
                refine w_go (t1 := 54) rfl rfl ?_
                exact ih30 (4 - (v49)).toNat (by omega) m45 (v49) I46 F48 (by omega) (F47.k k36 gA1 (by decide) rfl)    rfl
          exact hL54 _ m21 (0) I22 F23 (by decide) e26    rfl
      exact hL42 _ m10 (0) (none) I11 F13 (by decide)     rfl
    · have b10 : 0 ≤ i3 ∧ i3 ≤ 9 := by omega
      refine w_t (np := 9) (l2 := [some (eR a0), some (eR a1), some (eI (a2)), some (eI (i3)), none, none, none]) (s2 := [eR a0]) rfl (s_an rfl (pos_g I6 gA0 (by decide))) rfl ?_
      refine j_gr (np := 12) rfl rfl I6 gA0 (by decide) (n := 9) rfl rfl rfl ?_
      intro v10 e11 b12 z13
      have b12 : g v10 = 22 := Nat.eq_of_beq_eq_true b12
      refine w_t (np := 13) (l2 := [some (eR a0), some (eR a1), some (eI (a2)), some (eI (i3)), none, none, none]) (s2 := [eI (i3), eR v10]) rfl rfl rfl ?_
      refine w_t (np := 14) (l2 := [some (eR a0), some (eR a1), some (eI (a2)), some (eI (i3)), none, none, none]) (s2 := [eI (0), eI (i3), eR v10]) rfl rfl rfl ?_
      refine j_sb3 (np := 15) rfl rfl I6 b12 (by decide) (n := 10) rfl rfl (lo := 0) (hi := 1) (fun _ => rfl) (by omega) (by omega) (by decide) (by decide) ?_
      intro m14 I15 W16
      have F17 : Fr l_93 0 0 g μ m14 := F7.v W16 b12 rfl rfl
      refine w_t (np := 16) (l2 := [some (eR a0), some (eR a1), some (eI (a2)), some (eI (i3)), none, none, none]) (s2 := [eR a0]) rfl (s_an rfl (pos_g I15 gA0 (by decide))) rfl ?_
      refine j_gr (np := 19) rfl rfl I15 gA0 (by decide) (n := 9) rfl rfl rfl ?_
      intro v18 e19 b20 z21
      have b20 : g v18 = 23 := Nat.eq_of_beq_eq_true b20
      refine w_t (np := 20) (l2 := [some (eR a0), some (eR a1), some (eI (a2)), some (eI (i3)), none, none, none]) (s2 := [eI (i3), eR v18]) rfl rfl rfl ?_
      refine w_t (np := 21) (l2 := [some (eR a0), some (eR a1), some (eI (a2)), some (eI (i3)), none, none, none]) (s2 := [eI (0), eI (i3), eR v18]) rfl rfl rfl ?_
      refine j_as (np := 22) rfl rfl I15 b20 (by decide) (n := 10) rfl rfl (lo := 0) (hi := 3) (fun _ => rfl) (by omega) (by omega) (by decide) ?_
      intro m22 I23 W24
      have F25 : Fr l_93 0 0 g μ m22 := F17.v W24 b20 rfl rfl
      obtain ⟨v26, e27⟩ : ∃ zz : Int, zz = (i3) + (1) := ⟨_, rfl⟩
      have b28 : 1 ≤ v26 ∧ v26 ≤ 10 := by omega
      refine w_t (np := 25) (l2 := [some (eR a0), some (eR a1), some (eI (a2)), some (eI (v26)), none, none, none]) (s2 := []) rfl (b_iinc rfl (by rw [← e27]; exact ev_w_in (by omega) (by omega)) rfl) rfl ?_
      refine w_go (t1 := 2) rfl rfl ?_
      exact ih2 (10 - (v26)).toNat (by omega) m22 (v26) I23 F25 (by omega)     rfl
  exact hL2 _ μ (0) hI F0 (by decide)     rfl
def l_96 : List Nat := [5124, 5125, 5126, 5127, 5128, 5129, 5632, 5888]
theorem s_96 {L : Nat} {ρ : Nat → Int} {rc : eQ} {d : Nat} {f : eFr} {F : List eFr} {μ : eM} {g : Nat → Nat} {a0 : Nat} {a1 : Nat} {a2 : Int} (hI : SI g μ) (gA0 : g a0 = 20) (gA1 : g a1 = 29) (bA2 : -2147483648 ≤ a2 ∧ a2 ≤ 2147483647) (K : ∀ (μ2 : eM) (v : Int), SI g μ2 → Fr l_96 0 0 g μ μ2 → (0 ≤ v ∧ v ≤ 3) → ex_q (dt_fg L ρ) rc (d + 6, (f.1, f.2.1, f.2.2.1, eI v :: f.2.2.2), F, μ2)) : ex_q (dt_fg L ρ) rc (d + 5, (96, 0, [some (eR a0), some (eR a1), some (eI (a2))], []), f :: F, μ) := by
  have F0 : Fr l_96 0 0 g μ μ := Fr.r
  refine w_t (np := 1) (l2 := [some (eR a0), some (eR a1), some (eI (a2))]) (s2 := [eR a0]) rfl (s_an rfl (pos_g hI gA0 (by decide))) rfl ?_
  refine w_t (np := 2) (l2 := [some (eR a0), some (eR a1), some (eI (a2))]) (s2 := [eR a1, eR a0]) rfl (s_an rfl (pos_g hI gA1 (by decide))) rfl ?_
  refine w_t (np := 3) (l2 := [some (eR a0), some (eR a1), some (eI (a2))]) (s2 := [eI (a2), eR a1, eR a0]) rfl rfl rfl ?_
  refine w_cw (np := 6) (as := [eR a1, eI (a2)]) (l2 := [some (eR a0), some (eR a1), some (eI (a2)), none, none, none, none]) (rest := []) rfl rfl rfl (Nat.ble_eq.mp rfl) rfl rfl rfl (hI.kd gA0 (by decide) (n := 9) rfl) rfl ?_
  refine s_93 (a2 := a2) hI gA0 gA1 (by omega) ?_
  intro m1 I2 F3
  have F4 : Fr l_96 0 0 g μ m1 := F0.t F3 rfl
  show ex_q (dt_fg L ρ) rc (d + 5, (96, 6, [some (eR a0), some (eR a1), some (eI (a2))], []), f :: F, m1)
  refine w_t (np := 7) (l2 := [some (eR a0), some (eR a1), some (eI (a2))]) (s2 := [eR a0]) rfl (s_an rfl (pos_g I2 gA0 (by decide))) rfl ?_
  refine j_gi (np := 10) rfl rfl rfl I2 gA0 (by decide) (n := 9) rfl rfl (lo := -2147483648) (hi := 2147483647) rfl ?_
  intro v5 e6 b7
  refine w_t (np := 12) (l2 := [some (eR a0), some (eR a1), some (eI (a2))]) (s2 := [eI (10), eI (v5)]) rfl rfl rfl ?_
  refine b_clt (t1 := 17) (t2 := 15) rfl rfl rfl (ev_w_in (by omega) (by omega)) rfl (fun g8 => ?_) (fun g8 => ?_)
  · have b9 : -2147483648 ≤ v5 ∧ v5 ≤ 9 := by omega
    refine w_t (np := 18) (l2 := [some (eR a0), some (eR a1), some (eI (a2))]) (s2 := [eR a0]) rfl (s_an rfl (pos_g I2 gA0 (by decide))) rfl ?_
    refine j_gi (np := 21) rfl rfl rfl I2 gA0 (by decide) (n := 9) rfl rfl (lo := -2147483648) (hi := 2147483647) rfl ?_
    intro v9 e10 b11
    refine b_ine (t1 := 28) (t2 := 24) rfl rfl rfl (ev_w_in (by omega) (by omega)) (fun g12 => ?_) (fun g12 => ?_)
    · refine w_t (np := 29) (l2 := [some (eR a0), some (eR a1), some (eI (a2))]) (s2 := [eR a0]) rfl (s_an rfl (pos_g I2 gA0 (by decide))) rfl ?_
      refine w_gf (np := 32) (v := eI (v9)) rfl rfl (I2.kd gA0 (by decide) (n := 9) rfl) (by rw [e10]; rfl) ?_
      refine w_t (np := 33) (l2 := [some (eR a0), some (eR a1), some (eI (a2))]) (s2 := [eI (1), eI (v9)]) rfl rfl rfl ?_
      refine b_cne (t1 := 40) (t2 := 36) rfl rfl rfl (ev_w_in (by omega) (by omega)) rfl (fun g13 => ?_) (fun g13 => ?_)
      · refine w_t (np := 41) (l2 := [some (eR a0), some (eR a1), some (eI (a2))]) (s2 := [eI (3)]) rfl rfl rfl ?_
        exact b_ri rfl rfl (K m1 (3) I2 F4 (by decide))
      · have b14 : 1 ≤ v9 ∧ v9 ≤ 1 := by omega
        refine w_t (np := 37) (l2 := [some (eR a0), some (eR a1), some (eI (a2))]) (s2 := [eI (1)]) rfl rfl rfl ?_
        refine w_go (t1 := 41) rfl rfl ?_
        exact b_ri rfl rfl (K m1 (1) I2 F4 (by decide))
    · have b13 : 0 ≤ v9 ∧ v9 ≤ 0 := by omega
      refine w_t (np := 25) (l2 := [some (eR a0), some (eR a1), some (eI (a2))]) (s2 := [eI (2)]) rfl rfl rfl ?_
      refine w_go (t1 := 41) rfl rfl ?_
      exact b_ri rfl rfl (K m1 (2) I2 F4 (by decide))
  · have b9 : 10 ≤ v5 ∧ v5 ≤ 2147483647 := by omega
    refine w_t (np := 16) (l2 := [some (eR a0), some (eR a1), some (eI (a2))]) (s2 := [eI (0)]) rfl rfl rfl ?_
    exact b_ri rfl rfl (K m1 (0) I2 F4 (by decide))
def l_97 : List Nat := [5124, 5125, 5126, 5127, 5128, 5129, 5632, 5888]
theorem s_97 {L : Nat} {ρ : Nat → Int} {rc : eQ} {d : Nat} {f : eFr} {F : List eFr} {μ : eM} {g : Nat → Nat} {a0 : Nat} {a1 : Nat} {a2 : Int} (hI : SI g μ) (gA0 : g a0 = 20) (gA1 : g a1 = 29) (bA2 : -2147483648 ≤ a2 ∧ a2 ≤ 2147483647) (K : ∀ (μ2 : eM) (v : Int), SI g μ2 → Fr l_97 0 0 g μ μ2 → (-2147483648 ≤ v ∧ v ≤ 2147483647) → ex_q (dt_fg L ρ) rc (d + 7, (f.1, f.2.1, f.2.2.1, eI v :: f.2.2.2), F, μ2)) : ex_q (dt_fg L ρ) rc (d + 6, (97, 0, [some (eR a0), some (eR a1), some (eI (a2)), none, none], []), f :: F, μ) := by
  have F0 : Fr l_97 0 0 g μ μ := Fr.r
  refine w_t (np := 1) (l2 := [some (eR a0), some (eR a1), some (eI (a2)), none, none]) (s2 := [eI (0)]) rfl rfl rfl ?_
  refine w_t (np := 2) (l2 := [some (eR a0), some (eR a1), some (eI (a2)), some (eI (0)), none]) (s2 := []) rfl rfl rfl ?_
  refine w_t (np := 3) (l2 := [some (eR a0), some (eR a1), some (eI (a2)), some (eI (0)), none]) (s2 := [eI (0)]) rfl rfl rfl ?_
  refine w_t (np := 5) (l2 := [some (eR a0), some (eR a1), some (eI (a2)), some (eI (0)), some (eI (0))]) (s2 := []) rfl rfl rfl ?_
  have hL5 : ∀ (n1 : Nat) (m7 : eM) (i3 : Int) (i5 : Int), SI g m7 → Fr l_97 0 0 g μ m7 → (-2147483648 ≤ i3 ∧ i3 ≤ 2147483647) → (0 ≤ i5 ∧ i5 ≤ 96) → n1 = (96 - i5).toNat → ex_q (dt_fg L ρ) rc (d + 6, (97, 5, [some (eR a0), some (eR a1), some (eI (a2)), some (eI (i3)), some (eI (i5))], []), f :: F, m7) := by
    intro n1
    induction n1 using Nat.strongRecOn with
    | _ n1 ih2 =>
    intro m7 i3 i5 I8 F9 b4 b6 hn10
    refine w_t (np := 7) (l2 := [some (eR a0), some (eR a1), some (eI (a2)), some (eI (i3)), some (eI (i5))]) (s2 := [eI (i5)]) rfl rfl rfl ?_
    refine w_t (np := 8) (l2 := [some (eR a0), some (eR a1), some (eI (a2)), some (eI (i3)), some (eI (i5))]) (s2 := [eR a1, eI (i5)]) rfl (s_an rfl (pos_g I8 gA1 (by decide))) rfl ?_
    refine j_gi (np := 11) rfl rfl rfl I8 gA1 (by decide) (n := 7) rfl rfl (lo := 0) (hi := 96) rfl ?_
    intro v11 e12 b13
    refine b_cge (t1 := 34) (t2 := 14) rfl rfl rfl (ev_w_in (by omega) (by omega)) (ev_w_in (by omega) (by omega)) (fun g14 => ?_) (fun g14 => ?_)
    · refine w_t (np := 35) (l2 := [some (eR a0), some (eR a1), some (eI (a2)), some (eI (i3)), some (eI (i5))]) (s2 := [eI (i3)]) rfl rfl rfl ?_
      exact b_ri rfl rfl (K m7 (i3) I8 F9 (by omega))
    · have b15 : 0 ≤ i5 ∧ i5 ≤ 95 := by omega
      have b16 : 1 ≤ v11 ∧ v11 ≤ 96 := by omega
      refine w_t (np := 15) (l2 := [some (eR a0), some (eR a1), some (eI (a2)), some (eI (i3)), some (eI (i5))]) (s2 := [eR a0]) rfl (s_an rfl (pos_g I8 gA0 (by decide))) rfl ?_
      refine w_t (np := 16) (l2 := [some (eR a0), some (eR a1), some (eI (a2)), some (eI (i3)), some (eI (i5))]) (s2 := [eR a1, eR a0]) rfl (s_an rfl (pos_g I8 gA1 (by decide))) rfl ?_
      refine w_t (np := 18) (l2 := [some (eR a0), some (eR a1), some (eI (a2)), some (eI (i3)), some (eI (i5))]) (s2 := [eI (i5), eR a1, eR a0]) rfl rfl rfl ?_
      refine w_cw (np := 21) (as := [eR a1, eI (i5)]) (l2 := [some (eR a0), some (eR a1), some (eI (i5))]) (rest := []) rfl rfl rfl (Nat.ble_eq.mp rfl) rfl rfl rfl (I8.kd gA0 (by decide) (n := 9) rfl) rfl ?_
      refine s_96 (a2 := i5) I8 gA0 gA1 (by omega) ?_
      intro m15 v18 I16 F17 b19
      have F20 : Fr l_97 0 0 g μ m15 := F9.t F17 rfl
      show ex_q (dt_fg L ρ) rc (d + 6, (97, 21, [some (eR a0), some (eR a1), some (eI (a2)), some (eI (i3)), some (eI (i5))], [eI (v18)]), f :: F, m15)
      refine w_t (np := 22) (l2 := [some (eR a0), some (eR a1), some (eI (a2)), some (eI (i3)), some (eI (i5))]) (s2 := [eI (a2), eI (v18)]) rfl rfl rfl ?_
      refine b_cne (t1 := 28) (t2 := 25) rfl rfl rfl (ev_w_in (by omega) (by omega)) (ev_w_in (by omega) (by omega)) (fun g21 => ?_) (fun g21 => ?_)
      · obtain ⟨v22, e23⟩ : ∃ zz : Int, zz = (i5) + (1) := ⟨_, rfl⟩
        have b24 : 1 ≤ v22 ∧ v22 ≤ 96 := by omega
        refine w_t (np := 31) (l2 := [some (eR a0), some (eR a1), some (eI (a2)), some (eI (i3)), some (eI (v22))]) (s2 := []) rfl (b_iinc rfl (by rw [← e23]; exact ev_w_in (by omega) (by omega)) rfl) rfl ?_
        refine w_go (t1 := 5) rfl rfl ?_
        exact ih2 (96 - (v22)).toNat (by omega) m15 (i3) (v22) I16 F20 (by omega) (by omega)     rfl
      · have b22 : 0 ≤ a2 ∧ a2 ≤ 3 := by omega
        obtain ⟨v22, e23, b24⟩ : ∃ zz : Int, ev_w ((i3) + (1)) = zz ∧ (-2147483648 ≤ zz ∧ zz ≤ 2147483647) := ⟨_, rfl, hw_bd _⟩
        refine w_t (np := 28) (l2 := [some (eR a0), some (eR a1), some (eI (a2)), some (eI (v22)), some (eI (i5))]) (s2 := []) rfl (b_iinc rfl e23 rfl) rfl ?_
        obtain ⟨v25, e26⟩ : ∃ zz : Int, zz = (i5) + (1) := ⟨_, rfl⟩
        have b27 : 1 ≤ v25 ∧ v25 ≤ 96 := by omega
        refine w_t (np := 31) (l2 := [some (eR a0), some (eR a1), some (eI (a2)), some (eI (v22)), some (eI (v25))]) (s2 := []) rfl (b_iinc rfl (by rw [← e26]; exact ev_w_in (by omega) (by omega)) rfl) rfl ?_
        refine w_go (t1 := 5) rfl rfl ?_
        exact ih2 (96 - (v25)).toNat (by omega) m15 (v22) (v25) I16 F20 (by omega) (by omega)     rfl
  exact hL5 _ μ (0) (0) hI F0 (by decide) (by decide)     rfl
def l_98 : List Nat := [5124, 5125, 5126, 5127, 5128, 5129, 5632, 5888]
theorem s_98 {L : Nat} {ρ : Nat → Int} {rc : eQ} {d : Nat} {f : eFr} {F : List eFr} {μ : eM} {g : Nat → Nat} {a0 : Nat} {a1 : Nat} {a2 : Int} (hI : SI g μ) (gA0 : g a0 = 20) (gA1 : g a1 = 29) (bA2 : -2147483648 ≤ a2 ∧ a2 ≤ 2147483647) (K : ∀ (μ2 : eM) (v : Int), SI g μ2 → Fr l_98 0 0 g μ μ2 → (-2147483648 ≤ v ∧ v ≤ 2147483647) → ex_q (dt_fg L ρ) rc (d + 7, (f.1, f.2.1, f.2.2.1, eI v :: f.2.2.2), F, μ2)) : ex_q (dt_fg L ρ) rc (d + 6, (98, 0, [some (eR a0), some (eR a1), some (eI (a2)), none], []), f :: F, μ) := by
  have F0 : Fr l_98 0 0 g μ μ := Fr.r
  refine w_t (np := 1) (l2 := [some (eR a0), some (eR a1), some (eI (a2)), none]) (s2 := [eI (0)]) rfl rfl rfl ?_
  refine w_t (np := 2) (l2 := [some (eR a0), some (eR a1), some (eI (a2)), some (eI (0))]) (s2 := []) rfl rfl rfl ?_
  have hL2 : ∀ (n1 : Nat) (m5 : eM) (i3 : Int), SI g m5 → Fr l_98 0 0 g μ m5 → (0 ≤ i3 ∧ i3 ≤ 96) → n1 = (96 - i3).toNat → ex_q (dt_fg L ρ) rc (d + 6, (98, 2, [some (eR a0), some (eR a1), some (eI (a2)), some (eI (i3))], []), f :: F, m5) := by
    intro n1
    induction n1 using Nat.strongRecOn with
    | _ n1 ih2 =>
    intro m5 i3 I6 F7 b4 hn8
    refine w_t (np := 3) (l2 := [some (eR a0), some (eR a1), some (eI (a2)), some (eI (i3))]) (s2 := [eI (i3)]) rfl rfl rfl ?_
    refine w_t (np := 4) (l2 := [some (eR a0), some (eR a1), some (eI (a2)), some (eI (i3))]) (s2 := [eR a1, eI (i3)]) rfl (s_an rfl (pos_g I6 gA1 (by decide))) rfl ?_
    refine j_gi (np := 7) rfl rfl rfl I6 gA1 (by decide) (n := 7) rfl rfl (lo := 0) (hi := 96) rfl ?_
    intro v9 e10 b11
    refine b_cge (t1 := 28) (t2 := 10) rfl rfl rfl (ev_w_in (by omega) (by omega)) (ev_w_in (by omega) (by omega)) (fun g12 => ?_) (fun g12 => ?_)
    · refine w_t (np := 29) (l2 := [some (eR a0), some (eR a1), some (eI (a2)), some (eI (i3))]) (s2 := [eI (-1)]) rfl rfl rfl ?_
      exact b_ri rfl rfl (K m5 (-1) I6 F7 (by decide))
    · have b13 : 0 ≤ i3 ∧ i3 ≤ 95 := by omega
      have b14 : 1 ≤ v9 ∧ v9 ≤ 96 := by omega
      refine w_t (np := 11) (l2 := [some (eR a0), some (eR a1), some (eI (a2)), some (eI (i3))]) (s2 := [eR a0]) rfl (s_an rfl (pos_g I6 gA0 (by decide))) rfl ?_
      refine w_t (np := 12) (l2 := [some (eR a0), some (eR a1), some (eI (a2)), some (eI (i3))]) (s2 := [eR a1, eR a0]) rfl (s_an rfl (pos_g I6 gA1 (by decide))) rfl ?_
      refine w_t (np := 13) (l2 := [some (eR a0), some (eR a1), some (eI (a2)), some (eI (i3))]) (s2 := [eI (i3), eR a1, eR a0]) rfl rfl rfl ?_
      refine w_cw (np := 16) (as := [eR a1, eI (i3)]) (l2 := [some (eR a0), some (eR a1), some (eI (i3))]) (rest := []) rfl rfl rfl (Nat.ble_eq.mp rfl) rfl rfl rfl (I6.kd gA0 (by decide) (n := 9) rfl) rfl ?_
      refine s_96 (a2 := i3) I6 gA0 gA1 (by omega) ?_
      intro m13 v16 I14 F15 b17
      have F18 : Fr l_98 0 0 g μ m13 := F7.t F15 rfl
      show ex_q (dt_fg L ρ) rc (d + 6, (98, 16, [some (eR a0), some (eR a1), some (eI (a2)), some (eI (i3))], [eI (v16)]), f :: F, m13)
      refine w_t (np := 17) (l2 := [some (eR a0), some (eR a1), some (eI (a2)), some (eI (i3))]) (s2 := [eI (a2), eI (v16)]) rfl rfl rfl ?_
      refine b_cne (t1 := 22) (t2 := 20) rfl rfl rfl (ev_w_in (by omega) (by omega)) (ev_w_in (by omega) (by omega)) (fun g19 => ?_) (fun g19 => ?_)
      · obtain ⟨v20, e21⟩ : ∃ zz : Int, zz = (i3) + (1) := ⟨_, rfl⟩
        have b22 : 1 ≤ v20 ∧ v20 ≤ 96 := by omega
        refine w_t (np := 25) (l2 := [some (eR a0), some (eR a1), some (eI (a2)), some (eI (v20))]) (s2 := []) rfl (b_iinc rfl (by rw [← e21]; exact ev_w_in (by omega) (by omega)) rfl) rfl ?_
        refine w_go (t1 := 2) rfl rfl ?_
        exact ih2 (96 - (v20)).toNat (by omega) m13 (v20) I14 F18 (by omega)     rfl
      · have b20 : 0 ≤ a2 ∧ a2 ≤ 3 := by omega
        refine w_t (np := 21) (l2 := [some (eR a0), some (eR a1), some (eI (a2)), some (eI (i3))]) (s2 := [eI (i3)]) rfl rfl rfl ?_
        exact b_ri rfl rfl (K m13 (i3) I14 F18 (by omega))
  exact hL2 _ μ (0) hI F0 (by decide)     rfl
def l_112 : List Nat := [8971, 8972, 8973, 8968, 8969, 8970]
theorem s_112 {L : Nat} {ρ : Nat → Int} {rc : eQ} {d : Nat} {f : eFr} {F : List eFr} {μ : eM} {g : Nat → Nat} {a0 : Nat} (hI : SI g μ) (gA0 : g a0 = 35) (K : ∀ (μ2 : eM), SI g μ2 → Fr l_112 0 0 g μ μ2 → ex_q (dt_fg L ρ) rc (d + 4, (f.1, f.2.1, f.2.2.1, f.2.2.2), F, μ2)) : ex_q (dt_fg L ρ) rc (d + 3, (112, 0, [some (eR a0), none], []), f :: F, μ) := by
  have F0 : Fr l_112 0 0 g μ μ := Fr.r
  refine w_t (np := 1) (l2 := [some (eR a0), none]) (s2 := [eR a0]) rfl (s_an rfl (pos_g hI gA0 (by decide))) rfl ?_
  refine w_t (np := 2) (l2 := [some (eR a0), none]) (s2 := [eI (0), eR a0]) rfl rfl rfl ?_
  refine j_pf (np := 5) (w := 0) rfl rfl hI gA0 (by decide) (n := 15) rfl rfl (hO_i (lo := -2147483648) (hi := 2147483647) rfl (by decide)) ?_
  intro m1 I2 W3
  have F4 : Fr l_112 0 0 g μ m1 := F0.w W3 gA0 rfl
  refine w_t (np := 6) (l2 := [some (eR a0), none]) (s2 := [eR a0]) rfl (s_an rfl (pos_g I2 gA0 (by decide))) rfl ?_
  refine w_t (np := 7) (l2 := [some (eR a0), none]) (s2 := [eI (0), eR a0]) rfl rfl rfl ?_
  refine j_pf (np := 10) (w := 0) rfl rfl I2 gA0 (by decide) (n := 15) rfl rfl (hO_i (lo := -2147483648) (hi := 2147483647) rfl (by decide)) ?_
  intro m5 I6 W7
  have F8 : Fr l_112 0 0 g μ m5 := F4.w W7 gA0 rfl
  refine w_t (np := 11) (l2 := [some (eR a0), none]) (s2 := [eR a0]) rfl (s_an rfl (pos_g I6 gA0 (by decide))) rfl ?_
  refine w_t (np := 12) (l2 := [some (eR a0), none]) (s2 := [eI (0), eR a0]) rfl rfl rfl ?_
  refine j_pf (np := 15) (w := 0) rfl rfl I6 gA0 (by decide) (n := 15) rfl rfl (hO_i (lo := -2147483648) (hi := 2147483647) rfl (by decide)) ?_
  intro m9 I10 W11
  have F12 : Fr l_112 0 0 g μ m9 := F8.w W11 gA0 rfl
  refine w_t (np := 16) (l2 := [some (eR a0), none]) (s2 := [eR a0]) rfl (s_an rfl (pos_g I10 gA0 (by decide))) rfl ?_
  refine w_t (np := 17) (l2 := [some (eR a0), none]) (s2 := [eI (0), eR a0]) rfl rfl rfl ?_
  refine j_pf (np := 20) (w := 0) rfl rfl I10 gA0 (by decide) (n := 15) rfl rfl (hO_i (lo := -2147483648) (hi := 2147483647) rfl (by decide)) ?_
  intro m13 I14 W15
  have F16 : Fr l_112 0 0 g μ m13 := F12.w W15 gA0 rfl
  refine w_t (np := 21) (l2 := [some (eR a0), none]) (s2 := [eR a0]) rfl (s_an rfl (pos_g I14 gA0 (by decide))) rfl ?_
  refine w_t (np := 22) (l2 := [some (eR a0), none]) (s2 := [eI (0), eR a0]) rfl rfl rfl ?_
  refine j_pf (np := 25) (w := 0) rfl rfl I14 gA0 (by decide) (n := 15) rfl rfl (hO_i (lo := -2147483648) (hi := 2147483647) rfl (by decide)) ?_
  intro m17 I18 W19
  have F20 : Fr l_112 0 0 g μ m17 := F16.w W19 gA0 rfl
  refine w_t (np := 26) (l2 := [some (eR a0), none]) (s2 := [eR a0]) rfl (s_an rfl (pos_g I18 gA0 (by decide))) rfl ?_
  refine w_t (np := 27) (l2 := [some (eR a0), none]) (s2 := [eI (0), eR a0]) rfl rfl rfl ?_
  refine j_pf (np := 30) (w := 0) rfl rfl I18 gA0 (by decide) (n := 15) rfl rfl (hO_i (lo := -2147483648) (hi := 2147483647) rfl (by decide)) ?_
  intro m21 I22 W23
  have F24 : Fr l_112 0 0 g μ m21 := F20.w W23 gA0 rfl
  refine w_t (np := 31) (l2 := [some (eR a0), none]) (s2 := [eI (0)]) rfl rfl rfl ?_
  refine w_t (np := 32) (l2 := [some (eR a0), some (eI (0))]) (s2 := []) rfl rfl rfl ?_
  have hL32 : ∀ (n25 : Nat) (m29 : eM) (i27 : Int), SI g m29 → Fr l_112 0 0 g μ m29 → (0 ≤ i27 ∧ i27 ≤ 2670) → n25 = (2670 - i27).toNat → ex_q (dt_fg L ρ) rc (d + 3, (112, 32, [some (eR a0), some (eI (i27))], []), f :: F, m29) := by
    intro n25
    induction n25 using Nat.strongRecOn with
    | _ n25 ih26 =>
    intro m29 i27 I30 F31 b28 hn32
    refine w_t (np := 33) (l2 := [some (eR a0), some (eI (i27))]) (s2 := [eI (i27)]) rfl rfl rfl ?_
    refine w_t (np := 34) (l2 := [some (eR a0), some (eI (i27))]) (s2 := [eI (3), eI (i27)]) rfl rfl rfl ?_
    refine w_t (np := 35) (l2 := [some (eR a0), some (eI (i27))]) (s2 := [eR a0, eI (3), eI (i27)]) rfl (s_an rfl (pos_g I30 gA0 (by decide))) rfl ?_
    refine j_gr (np := 38) rfl rfl I30 gA0 (by decide) (n := 15) rfl rfl rfl ?_
    intro v33 e34 b35 z36
    rcases hor2 b35 with b35 | b35
    · refine j_gi (np := 41) rfl rfl rfl I30 b35 (by decide) (n := 8) rfl rfl (lo := 0) (hi := 50) rfl ?_
      intro v37 e38 b39
      obtain ⟨v40, e41⟩ : ∃ zz : Int, zz = (3) * (v37) := ⟨_, rfl⟩
      have b42 : 0 ≤ v40 ∧ v40 ≤ 150 := by omega
      refine w_t (np := 42) (l2 := [some (eR a0), some (eI (i27))]) (s2 := [eI (v40), eI (i27)]) rfl (b_imul (by rw [← e41]; exact ev_w_in (by omega) (by omega))) rfl ?_
      refine b_cge (t1 := 145) (t2 := 45) rfl rfl rfl (ev_w_in (by omega) (by omega)) (ev_w_in (by omega) (by omega)) (fun g43 => ?_) (fun g43 => ?_)
      · exact v_rv rfl rfl (K m29 I30 F31)
      · have b44 : 0 ≤ i27 ∧ i27 ≤ 149 := by omega
        have b45 : 1 ≤ v40 ∧ v40 ≤ 150 := by omega
        refine w_t (np := 46) (l2 := [some (eR a0), some (eI (i27))]) (s2 := [eI (i27)]) rfl rfl rfl ?_
        refine w_t (np := 47) (l2 := [some (eR a0), some (eI (i27))]) (s2 := [eI (3), eI (i27)]) rfl rfl rfl ?_
        obtain ⟨v44, e45, b46⟩ := h_irem (a := i27) (k := 3) (by decide) (by decide) (show (-2147483648 : Int) ≤ i27 ∧ (i27 : Int) ≤ 2147483647 by omega)
        have b47 : 0 ≤ v44 ∧ v44 ≤ 2 := by omega
        refine w_t (np := 48) (l2 := [some (eR a0), some (eI (i27))]) (s2 := [eI (v44)]) rfl (e45 _ _) rfl ?_
        refine w_t (np := 49) (l2 := [some (eR a0), some (eI (i27))]) (s2 := [eI (2), eI (v44)]) rfl rfl rfl ?_
        refine b_cne (t1 := 110) (t2 := 52) rfl rfl rfl (ev_w_in (by omega) (by omega)) rfl (fun g48 => ?_) (fun g48 => ?_)
        · have b49 : 0 ≤ v44 ∧ v44 ≤ 1 := by omega
          refine w_t (np := 111) (l2 := [some (eR a0), some (eI (i27))]) (s2 := [eR a0]) rfl (s_an rfl (pos_g I30 gA0 (by decide))) rfl ?_
          refine w_t (np := 112) (l2 := [some (eR a0), some (eI (i27))]) (s2 := [eI (i27), eR a0]) rfl rfl rfl ?_
          refine w_cw (np := 115) (as := [eI (i27)]) (l2 := [some (eR a0), some (eI (i27))]) (rest := []) rfl rfl rfl (Nat.ble_eq.mp rfl) rfl rfl rfl (I30.kd gA0 (by decide) (n := 15) rfl) rfl ?_
          refine w_t (np := 1) (l2 := [some (eR a0), some (eI (i27))]) (s2 := [eR a0]) rfl (s_an rfl (pos_g I30 gA0 (by decide))) rfl ?_
          refine j_gr (np := 4) rfl rfl I30 gA0 (by decide) (n := 15) rfl rfl rfl ?_
          intro v49 e50 b51 z52
          have b51 : g v49 = 36 := Nat.eq_of_beq_eq_true b51
          refine w_t (np := 5) (l2 := [some (eR a0), some (eI (i27))]) (s2 := [eI (i27), eR v49]) rfl rfl rfl ?_
          refine j_al (np := 6) rfl rfl I30 b51 (by decide) (n := 2670) rfl rfl (lo := -1) (hi := 2669) (fun _ => rfl) (by omega) (by omega) ?_
          intro v53 e54 b55
          refine b_ilt (t1 := 19) (t2 := 9) rfl rfl rfl (ev_w_in (by omega) (by omega)) (fun g56 => ?_) (fun g56 => ?_)
          · have b57 : -1 ≤ v53 ∧ v53 ≤ -1 := by omega
            refine w_t (np := 20) (l2 := [some (eR a0), some (eI (i27))]) (s2 := [eI (1)]) rfl rfl rfl ?_
            refine w_go (t1 := 24) rfl rfl ?_
            refine b_rz rfl rfl (Or.inr rfl) ?_
            show ex_q (dt_fg L ρ) rc (d + 3, (112, 115, [some (eR a0), some (eI (i27))], [eI (1)]), f :: F, m29)
            refine b_ieq (t1 := 139) (t2 := 118) rfl rfl rfl rfl (fun g57 => absurd g57 (by decide)) (fun g57 => ?_)
            refine w_t (np := 119) (l2 := [some (eR a0), some (eI (i27))]) (s2 := [eR a0]) rfl (s_an rfl (pos_g I30 gA0 (by decide))) rfl ?_
            refine w_t (np := 120) (l2 := [some (eR a0), some (eI (i27))]) (s2 := [eR a0, eR a0]) rfl rfl rfl ?_
            refine j_gi (np := 123) rfl rfl rfl I30 gA0 (by decide) (n := 15) rfl rfl (lo := -2147483648) (hi := 2147483647) rfl ?_
            intro v58 e59 b60
            refine w_t (np := 124) (l2 := [some (eR a0), some (eI (i27))]) (s2 := [eI (1), eI (v58), eR a0]) rfl rfl rfl ?_
            obtain ⟨v61, e62, b63⟩ : ∃ zz : Int, ev_w ((v58) + (1)) = zz ∧ (-2147483648 ≤ zz ∧ zz ≤ 2147483647) := ⟨_, rfl, hw_bd _⟩
            refine w_t (np := 125) (l2 := [some (eR a0), some (eI (i27))]) (s2 := [eI (v61), eR a0]) rfl (b_iadd e62) rfl ?_
            refine j_pf (np := 128) (w := v61) rfl rfl I30 gA0 (by decide) (n := 15) rfl rfl (hO_i (lo := -2147483648) (hi := 2147483647) rfl (by omega)) ?_
            intro m64 I65 W66
            have F67 : Fr l_112 0 0 g μ m64 := F31.w W66 gA0 rfl
            refine w_t (np := 129) (l2 := [some (eR a0), some (eI (i27))]) (s2 := [eR a0]) rfl (s_an rfl (pos_g I65 gA0 (by decide))) rfl ?_
            refine w_t (np := 130) (l2 := [some (eR a0), some (eI (i27))]) (s2 := [eI (i27), eR a0]) rfl rfl rfl ?_
            refine w_t (np := 131) (l2 := [some (eR a0), some (eI (i27))]) (s2 := [eR a0, eI (i27), eR a0]) rfl (s_an rfl (pos_g I65 gA0 (by decide))) rfl ?_
            refine w_gf (np := 134) (v := eR v49) rfl rfl (I65.kd gA0 (by decide) (n := 15) rfl) (by rw [(W66.slot e50 (by decide))]; rfl) ?_
            refine w_t (np := 135) (l2 := [some (eR a0), some (eI (i27))]) (s2 := [eI (i27), eR v49, eI (i27), eR a0]) rfl rfl rfl ?_
            refine j_al (np := 136) rfl rfl I65 b51 (by decide) (n := 2670) rfl rfl (lo := -1) (hi := 2669) (fun _ => rfl) (by omega) (by omega) ?_
            intro v68 e69 b70
            have e69 := e69.symm.trans (W66.addr e54 gA0 b51 (by decide))
            rw [e69]
            refine w_cw (np := 139) (as := [eI (i27), eI (v53)]) (l2 := [some (eR a0), some (eI (i27)), some (eI (v53))]) (rest := []) rfl rfl rfl (Nat.ble_eq.mp rfl) rfl rfl rfl (I65.kd gA0 (by decide) (n := 15) rfl) rfl ?_
            refine s_114 (a1 := i27) (a2 := v53) I65 gA0 (by omega) (by omega) ?_
            intro m71 I72 F73
            have F74 : Fr l_112 0 0 g μ m71 := F67.t F73 rfl
            show ex_q (dt_fg L ρ) rc (d + 3, (112, 139, [some (eR a0), some (eI (i27))], []), f :: F, m71)
            obtain ⟨v75, e76⟩ : ∃ zz : Int, zz = (i27) + (1) := ⟨_, rfl⟩
            have b77 : 1 ≤ v75 ∧ v75 ≤ 150 := by omega
            refine w_t (np := 142) (l2 := [some (eR a0), some (eI (v75))]) (s2 := []) rfl (b_iinc rfl (by rw [← e76]; exact ev_w_in (by omega) (by omega)) rfl) rfl ?_
            refine w_go (t1 := 32) rfl rfl ?_
            exact ih26 (2670 - (v75)).toNat (by omega) m71 (v75) I72 F74 (by omega)     rfl
          · have b57 : 0 ≤ v53 ∧ v53 ≤ 2669 := by omega
            refine w_t (np := 10) (l2 := [some (eR a0), some (eI (i27))]) (s2 := [eR a0]) rfl (s_an rfl (pos_g I30 gA0 (by decide))) rfl ?_
            refine w_gf (np := 13) (v := eR v49) rfl rfl (I30.kd gA0 (by decide) (n := 15) rfl) (by rw [e50]; rfl) ?_
            refine w_t (np := 14) (l2 := [some (eR a0), some (eI (i27))]) (s2 := [eI (i27), eR v49]) rfl rfl rfl ?_
            refine j_al (np := 15) rfl rfl I30 b51 (by decide) (n := 2670) rfl rfl (lo := -1) (hi := 2669) (fun _ => rfl) (by omega) (by omega) ?_
            intro v57 e58 b59
            have e58 := e58.symm.trans e54
            rw [e58]
            refine w_t (np := 16) (l2 := [some (eR a0), some (eI (i27))]) (s2 := [eI (i27), eI (v53)]) rfl rfl rfl ?_
            refine b_cle (t1 := 23) (t2 := 19) rfl rfl rfl (ev_w_in (by omega) (by omega)) (ev_w_in (by omega) (by omega)) (fun g60 => ?_) (fun g60 => ?_)
            · have b61 : 0 ≤ v53 ∧ v53 ≤ 149 := by omega
              refine w_t (np := 24) (l2 := [some (eR a0), some (eI (i27))]) (s2 := [eI (0)]) rfl rfl rfl ?_
              refine b_rz rfl rfl (Or.inl rfl) ?_
              show ex_q (dt_fg L ρ) rc (d + 3, (112, 115, [some (eR a0), some (eI (i27))], [eI (0)]), f :: F, m29)
              refine b_ieq (t1 := 139) (t2 := 118) rfl rfl rfl rfl (fun g61 => ?_) (fun g61 => absurd g61 (by decide))
              obtain ⟨v62, e63⟩ : ∃ zz : Int, zz = (i27) + (1) := ⟨_, rfl⟩
              have b64 : 1 ≤ v62 ∧ v62 ≤ 150 := by omega
              refine w_t (np := 142) (l2 := [some (eR a0), some (eI (v62))]) (s2 := []) rfl (b_iinc rfl (by rw [← e63]; exact ev_w_in (by omega) (by omega)) rfl) rfl ?_
              refine w_go (t1 := 32) rfl rfl ?_
              exact ih26 (2670 - (v62)).toNat (by omega) m29 (v62) I30 F31 (by omega)     rfl
            · have b61 : 1 ≤ v53 ∧ v53 ≤ 2669 := by omega
              refine w_t (np := 20) (l2 := [some (eR a0), some (eI (i27))]) (s2 := [eI (1)]) rfl rfl rfl ?_
              refine w_go (t1 := 24) rfl rfl ?_
              refine b_rz rfl rfl (Or.inr rfl) ?_
              show ex_q (dt_fg L ρ) rc (d + 3, (112, 115, [some (eR a0), some (eI (i27))], [eI (1)]), f :: F, m29)
              refine b_ieq (t1 := 139) (t2 := 118) rfl rfl rfl rfl (fun g61 => absurd g61 (by decide)) (fun g61 => ?_)
              refine w_t (np := 119) (l2 := [some (eR a0), some (eI (i27))]) (s2 := [eR a0]) rfl (s_an rfl (pos_g I30 gA0 (by decide))) rfl ?_
              refine w_t (np := 120) (l2 := [some (eR a0), some (eI (i27))]) (s2 := [eR a0, eR a0]) rfl rfl rfl ?_
              refine j_gi (np := 123) rfl rfl rfl I30 gA0 (by decide) (n := 15) rfl rfl (lo := -2147483648) (hi := 2147483647) rfl ?_
              intro v62 e63 b64
              refine w_t (np := 124) (l2 := [some (eR a0), some (eI (i27))]) (s2 := [eI (1), eI (v62), eR a0]) rfl rfl rfl ?_
              obtain ⟨v65, e66, b67⟩ : ∃ zz : Int, ev_w ((v62) + (1)) = zz ∧ (-2147483648 ≤ zz ∧ zz ≤ 2147483647) := ⟨_, rfl, hw_bd _⟩
              refine w_t (np := 125) (l2 := [some (eR a0), some (eI (i27))]) (s2 := [eI (v65), eR a0]) rfl (b_iadd e66) rfl ?_
              refine j_pf (np := 128) (w := v65) rfl rfl I30 gA0 (by decide) (n := 15) rfl rfl (hO_i (lo := -2147483648) (hi := 2147483647) rfl (by omega)) ?_
              intro m68 I69 W70
              have F71 : Fr l_112 0 0 g μ m68 := F31.w W70 gA0 rfl
              refine w_t (np := 129) (l2 := [some (eR a0), some (eI (i27))]) (s2 := [eR a0]) rfl (s_an rfl (pos_g I69 gA0 (by decide))) rfl ?_
              refine w_t (np := 130) (l2 := [some (eR a0), some (eI (i27))]) (s2 := [eI (i27), eR a0]) rfl rfl rfl ?_
              refine w_t (np := 131) (l2 := [some (eR a0), some (eI (i27))]) (s2 := [eR a0, eI (i27), eR a0]) rfl (s_an rfl (pos_g I69 gA0 (by decide))) rfl ?_
              refine w_gf (np := 134) (v := eR v49) rfl rfl (I69.kd gA0 (by decide) (n := 15) rfl) (by rw [(W70.slot e50 (by decide))]; rfl) ?_
              refine w_t (np := 135) (l2 := [some (eR a0), some (eI (i27))]) (s2 := [eI (i27), eR v49, eI (i27), eR a0]) rfl rfl rfl ?_
              refine j_al (np := 136) rfl rfl I69 b51 (by decide) (n := 2670) rfl rfl (lo := -1) (hi := 2669) (fun _ => rfl) (by omega) (by omega) ?_
              intro v72 e73 b74
              have e73 := e73.symm.trans (W70.addr e54 gA0 b51 (by decide))
              rw [e73]
              refine w_cw (np := 139) (as := [eI (i27), eI (v53)]) (l2 := [some (eR a0), some (eI (i27)), some (eI (v53))]) (rest := []) rfl rfl rfl (Nat.ble_eq.mp rfl) rfl rfl rfl (I69.kd gA0 (by decide) (n := 15) rfl) rfl ?_
              refine s_114 (a1 := i27) (a2 := v53) I69 gA0 (by omega) (by omega) ?_
              intro m75 I76 F77
              have F78 : Fr l_112 0 0 g μ m75 := F71.t F77 rfl
              show ex_q (dt_fg L ρ) rc (d + 3, (112, 139, [some (eR a0), some (eI (i27))], []), f :: F, m75)
              obtain ⟨v79, e80⟩ : ∃ zz : Int, zz = (i27) + (1) := ⟨_, rfl⟩
              have b81 : 1 ≤ v79 ∧ v79 ≤ 150 := by omega
              refine w_t (np := 142) (l2 := [some (eR a0), some (eI (v79))]) (s2 := []) rfl (b_iinc rfl (by rw [← e80]; exact ev_w_in (by omega) (by omega)) rfl) rfl ?_
              refine w_go (t1 := 32) rfl rfl ?_
              exact ih26 (2670 - (v79)).toNat (by omega) m75 (v79) I76 F78 (by omega)     rfl
        · have b49 : 2 ≤ v44 ∧ v44 ≤ 2 := by omega
          refine w_t (np := 53) (l2 := [some (eR a0), some (eI (i27))]) (s2 := [eR a0]) rfl (s_an rfl (pos_g I30 gA0 (by decide))) rfl ?_
          refine w_t (np := 54) (l2 := [some (eR a0), some (eI (i27))]) (s2 := [eR a0, eR a0]) rfl rfl rfl ?_
          refine j_gi (np := 57) rfl rfl rfl I30 gA0 (by decide) (n := 15) rfl rfl (lo := -2147483648) (hi := 2147483647) rfl ?_
          intro v49 e50 b51
          refine w_t (np := 58) (l2 := [some (eR a0), some (eI (i27))]) (s2 := [eR a0, eI (v49), eR a0]) rfl (s_an rfl (pos_g I30 gA0 (by decide))) rfl ?_
          refine j_gr (np := 61) rfl rfl I30 gA0 (by decide) (n := 15) rfl rfl rfl ?_
          intro v52 e53 b54 z55
          have b54 : g v52 = 36 := Nat.eq_of_beq_eq_true b54
          refine w_t (np := 62) (l2 := [some (eR a0), some (eI (i27))]) (s2 := [eI (i27), eR v52, eI (v49), eR a0]) rfl rfl rfl ?_
          refine j_al (np := 63) rfl rfl I30 b54 (by decide) (n := 2670) rfl rfl (lo := -1) (hi := 2669) (fun _ => rfl) (by omega) (by omega) ?_
          intro v56 e57 b58
          refine b_ige (t1 := 70) (t2 := 66) rfl rfl rfl (ev_w_in (by omega) (by omega)) (fun g59 => ?_) (fun g59 => ?_)
          · have b60 : 0 ≤ v56 ∧ v56 ≤ 2669 := by omega
            refine w_t (np := 71) (l2 := [some (eR a0), some (eI (i27))]) (s2 := [eI (0), eI (v49), eR a0]) rfl rfl rfl ?_
            refine w_t (np := 72) (l2 := [some (eR a0), some (eI (i27))]) (s2 := [eI (v49), eR a0]) rfl (b_iadd (by rw [Int.add_zero]; exact ev_w_in (by omega) (by omega))) rfl ?_
            refine j_pf (np := 75) (w := v49) rfl rfl I30 gA0 (by decide) (n := 15) rfl rfl (hO_i (lo := -2147483648) (hi := 2147483647) rfl (by omega)) ?_
            intro m60 I61 W62
            have F63 : Fr l_112 0 0 g μ m60 := F31.w W62 gA0 rfl
            refine w_t (np := 76) (l2 := [some (eR a0), some (eI (i27))]) (s2 := [eR a0]) rfl (s_an rfl (pos_g I61 gA0 (by decide))) rfl ?_
            refine w_t (np := 77) (l2 := [some (eR a0), some (eI (i27))]) (s2 := [eR a0, eR a0]) rfl rfl rfl ?_
            refine j_gi (np := 80) rfl rfl rfl I61 gA0 (by decide) (n := 15) rfl rfl (lo := -2147483648) (hi := 2147483647) rfl ?_
            intro v64 e65 b66
            refine w_t (np := 81) (l2 := [some (eR a0), some (eI (i27))]) (s2 := [eR a0, eI (v64), eR a0]) rfl (s_an rfl (pos_g I61 gA0 (by decide))) rfl ?_
            refine w_t (np := 82) (l2 := [some (eR a0), some (eI (i27))]) (s2 := [eI (i27), eR a0, eI (v64), eR a0]) rfl rfl rfl ?_
            refine w_cw (np := 85) (as := [eI (i27)]) (l2 := [some (eR a0), some (eI (i27))]) (rest := [eI (v64), eR a0]) rfl rfl rfl (Nat.ble_eq.mp rfl) rfl rfl rfl (I61.kd gA0 (by decide) (n := 15) rfl) rfl ?_
            refine w_t (np := 1) (l2 := [some (eR a0), some (eI (i27))]) (s2 := [eR a0]) rfl (s_an rfl (pos_g I61 gA0 (by decide))) rfl ?_
            refine w_gf (np := 4) (v := eR v52) rfl rfl (I61.kd gA0 (by decide) (n := 15) rfl) (by rw [(W62.slot e53 (by decide))]; rfl) ?_
            refine w_t (np := 5) (l2 := [some (eR a0), some (eI (i27))]) (s2 := [eI (i27), eR v52]) rfl rfl rfl ?_
            refine j_al (np := 6) rfl rfl I61 b54 (by decide) (n := 2670) rfl rfl (lo := -1) (hi := 2669) (fun _ => rfl) (by omega) (by omega) ?_
            intro v67 e68 b69
            have e68 := e68.symm.trans (W62.addr e57 gA0 b54 (by decide))
            rw [e68]
            refine b_ilt (t1 := 19) (t2 := 9) rfl rfl rfl (ev_w_in (by omega) (by omega)) (fun g70 => False.elim (by omega)) (fun g70 => ?_)
            refine w_t (np := 10) (l2 := [some (eR a0), some (eI (i27))]) (s2 := [eR a0]) rfl (s_an rfl (pos_g I61 gA0 (by decide))) rfl ?_
            refine w_gf (np := 13) (v := eR v52) rfl rfl (I61.kd gA0 (by decide) (n := 15) rfl) (by rw [(W62.slot e53 (by decide))]; rfl) ?_
            refine w_t (np := 14) (l2 := [some (eR a0), some (eI (i27))]) (s2 := [eI (i27), eR v52]) rfl rfl rfl ?_
            refine j_al (np := 15) rfl rfl I61 b54 (by decide) (n := 2670) rfl rfl (lo := -1) (hi := 2669) (fun _ => rfl) (by omega) (by omega) ?_
            intro v71 e72 b73
            have e72 := e72.symm.trans (W62.addr e57 gA0 b54 (by decide))
            rw [e72]
            refine w_t (np := 16) (l2 := [some (eR a0), some (eI (i27))]) (s2 := [eI (i27), eI (v56)]) rfl rfl rfl ?_
            refine b_cle (t1 := 23) (t2 := 19) rfl rfl rfl (ev_w_in (by omega) (by omega)) (ev_w_in (by omega) (by omega)) (fun g74 => ?_) (fun g74 => ?_)
            · have b75 : 0 ≤ v56 ∧ v56 ≤ 149 := by omega
              refine w_t (np := 24) (l2 := [some (eR a0), some (eI (i27))]) (s2 := [eI (0)]) rfl rfl rfl ?_
              refine b_rz rfl rfl (Or.inl rfl) ?_
              show ex_q (dt_fg L ρ) rc (d + 3, (112, 85, [some (eR a0), some (eI (i27))], [eI (0), eI (v64), eR a0]), f :: F, m60)
              refine b_ieq (t1 := 102) (t2 := 88) rfl rfl rfl rfl (fun g75 => ?_) (fun g75 => absurd g75 (by decide))
              refine w_t (np := 103) (l2 := [some (eR a0), some (eI (i27))]) (s2 := [eI (0), eI (v64), eR a0]) rfl rfl rfl ?_
              refine w_t (np := 104) (l2 := [some (eR a0), some (eI (i27))]) (s2 := [eI (v64), eR a0]) rfl (b_iadd (by rw [Int.add_zero]; exact ev_w_in (by omega) (by omega))) rfl ?_
              refine j_pf (np := 107) (w := v64) rfl rfl I61 gA0 (by decide) (n := 15) rfl rfl (hO_i (lo := -2147483648) (hi := 2147483647) rfl (by omega)) ?_
              intro m76 I77 W78
              have F79 : Fr l_112 0 0 g μ m76 := F63.w W78 gA0 rfl
              refine w_go (t1 := 139) rfl rfl ?_
              obtain ⟨v80, e81⟩ : ∃ zz : Int, zz = (i27) + (1) := ⟨_, rfl⟩
              have b82 : 1 ≤ v80 ∧ v80 ≤ 150 := by omega
              refine w_t (np := 142) (l2 := [some (eR a0), some (eI (v80))]) (s2 := []) rfl (b_iinc rfl (by rw [← e81]; exact ev_w_in (by omega) (by omega)) rfl) rfl ?_
              refine w_go (t1 := 32) rfl rfl ?_
              exact ih26 (2670 - (v80)).toNat (by omega) m76 (v80) I77 F79 (by omega)     rfl
            · have b75 : 1 ≤ v56 ∧ v56 ≤ 2669 := by omega
              refine w_t (np := 20) (l2 := [some (eR a0), some (eI (i27))]) (s2 := [eI (1)]) rfl rfl rfl ?_
              refine w_go (t1 := 24) rfl rfl ?_
              refine b_rz rfl rfl (Or.inr rfl) ?_
              show ex_q (dt_fg L ρ) rc (d + 3, (112, 85, [some (eR a0), some (eI (i27))], [eI (1), eI (v64), eR a0]), f :: F, m60)
              refine b_ieq (t1 := 102) (t2 := 88) rfl rfl rfl rfl (fun g75 => absurd g75 (by decide)) (fun g75 => ?_)
              refine w_t (np := 89) (l2 := [some (eR a0), some (eI (i27))]) (s2 := [eR a0, eI (v64), eR a0]) rfl (s_an rfl (pos_g I61 gA0 (by decide))) rfl ?_
              refine w_t (np := 90) (l2 := [some (eR a0), some (eI (i27))]) (s2 := [eI (i27), eR a0, eI (v64), eR a0]) rfl rfl rfl ?_
              refine w_t (np := 91) (l2 := [some (eR a0), some (eI (i27))]) (s2 := [eI (3), eI (i27), eR a0, eI (v64), eR a0]) rfl rfl rfl ?_
              obtain ⟨v76, e77, b78⟩ := h_idiv (a := i27) (k := 3) (by decide) (by decide) (show (-2147483648 : Int) ≤ i27 ∧ (i27 : Int) ≤ 2147483647 by omega)
              have b79 : 0 ≤ v76 ∧ v76 ≤ 49 := by omega
              refine w_t (np := 92) (l2 := [some (eR a0), some (eI (i27))]) (s2 := [eI (v76), eR a0, eI (v64), eR a0]) rfl (e77 _ _) rfl ?_
              refine w_cw (np := 95) (as := [eI (v76)]) (l2 := [some (eR a0), some (eI (v76)), none, none]) (rest := [eI (v64), eR a0]) rfl rfl rfl (Nat.ble_eq.mp rfl) rfl rfl rfl (I61.kd gA0 (by decide) (n := 15) rfl) rfl ?_
              refine s_117 (a1 := v76) I61 gA0 (by omega) ?_
              intro v80 b81
              show ex_q (dt_fg L ρ) rc (d + 3, (112, 95, [some (eR a0), some (eI (i27))], [eI (v80), eI (v64), eR a0]), f :: F, m60)
              refine b_ilt (t1 := 102) (t2 := 98) rfl rfl rfl (ev_w_in (by omega) (by omega)) (fun g82 => ?_) (fun g82 => ?_)
              · have b83 : -1 ≤ v80 ∧ v80 ≤ -1 := by omega
                refine w_t (np := 103) (l2 := [some (eR a0), some (eI (i27))]) (s2 := [eI (0), eI (v64), eR a0]) rfl rfl rfl ?_
                refine w_t (np := 104) (l2 := [some (eR a0), some (eI (i27))]) (s2 := [eI (v64), eR a0]) rfl (b_iadd (by rw [Int.add_zero]; exact ev_w_in (by omega) (by omega))) rfl ?_
                refine j_pf (np := 107) (w := v64) rfl rfl I61 gA0 (by decide) (n := 15) rfl rfl (hO_i (lo := -2147483648) (hi := 2147483647) rfl (by omega)) ?_
                intro m83 I84 W85
                have F86 : Fr l_112 0 0 g μ m83 := F63.w W85 gA0 rfl
                refine w_go (t1 := 139) rfl rfl ?_
                obtain ⟨v87, e88⟩ : ∃ zz : Int, zz = (i27) + (1) := ⟨_, rfl⟩
                have b89 : 1 ≤ v87 ∧ v87 ≤ 150 := by omega
                refine w_t (np := 142) (l2 := [some (eR a0), some (eI (v87))]) (s2 := []) rfl (b_iinc rfl (by rw [← e88]; exact ev_w_in (by omega) (by omega)) rfl) rfl ?_
                refine w_go (t1 := 32) rfl rfl ?_
                exact ih26 (2670 - (v87)).toNat (by omega) m83 (v87) I84 F86 (by omega)     rfl
              · have b83 : 0 ≤ v80 ∧ v80 ≤ 889 := by omega
                refine w_t (np := 99) (l2 := [some (eR a0), some (eI (i27))]) (s2 := [eI (1), eI (v64), eR a0]) rfl rfl rfl ?_
                refine w_go (t1 := 103) rfl rfl ?_
                obtain ⟨v83, e84, b85⟩ : ∃ zz : Int, ev_w ((v64) + (1)) = zz ∧ (-2147483648 ≤ zz ∧ zz ≤ 2147483647) := ⟨_, rfl, hw_bd _⟩
                refine w_t (np := 104) (l2 := [some (eR a0), some (eI (i27))]) (s2 := [eI (v83), eR a0]) rfl (b_iadd e84) rfl ?_
                refine j_pf (np := 107) (w := v83) rfl rfl I61 gA0 (by decide) (n := 15) rfl rfl (hO_i (lo := -2147483648) (hi := 2147483647) rfl (by omega)) ?_
                intro m86 I87 W88
                have F89 : Fr l_112 0 0 g μ m86 := F63.w W88 gA0 rfl
                refine w_go (t1 := 139) rfl rfl ?_
                obtain ⟨v90, e91⟩ : ∃ zz : Int, zz = (i27) + (1) := ⟨_, rfl⟩
                have b92 : 1 ≤ v90 ∧ v90 ≤ 150 := by omega
                refine w_t (np := 142) (l2 := [some (eR a0), some (eI (v90))]) (s2 := []) rfl (b_iinc rfl (by rw [← e91]; exact ev_w_in (by omega) (by omega)) rfl) rfl ?_
                refine w_go (t1 := 32) rfl rfl ?_
                exact ih26 (2670 - (v90)).toNat (by omega) m86 (v90) I87 F89 (by omega)     rfl
          · have b60 : -1 ≤ v56 ∧ v56 ≤ -1 := by omega
            refine w_t (np := 67) (l2 := [some (eR a0), some (eI (i27))]) (s2 := [eI (1), eI (v49), eR a0]) rfl rfl rfl ?_
            refine w_go (t1 := 71) rfl rfl ?_
            obtain ⟨v60, e61, b62⟩ : ∃ zz : Int, ev_w ((v49) + (1)) = zz ∧ (-2147483648 ≤ zz ∧ zz ≤ 2147483647) := ⟨_, rfl, hw_bd _⟩
            refine w_t (np := 72) (l2 := [some (eR a0), some (eI (i27))]) (s2 := [eI (v60), eR a0]) rfl (b_iadd e61) rfl ?_
            refine j_pf (np := 75) (w := v60) rfl rfl I30 gA0 (by decide) (n := 15) rfl rfl (hO_i (lo := -2147483648) (hi := 2147483647) rfl (by omega)) ?_
            intro m63 I64 W65
            have F66 : Fr l_112 0 0 g μ m63 := F31.w W65 gA0 rfl
            refine w_t (np := 76) (l2 := [some (eR a0), some (eI (i27))]) (s2 := [eR a0]) rfl (s_an rfl (pos_g I64 gA0 (by decide))) rfl ?_
            refine w_t (np := 77) (l2 := [some (eR a0), some (eI (i27))]) (s2 := [eR a0, eR a0]) rfl rfl rfl ?_
            refine j_gi (np := 80) rfl rfl rfl I64 gA0 (by decide) (n := 15) rfl rfl (lo := -2147483648) (hi := 2147483647) rfl ?_
            intro v67 e68 b69
            refine w_t (np := 81) (l2 := [some (eR a0), some (eI (i27))]) (s2 := [eR a0, eI (v67), eR a0]) rfl (s_an rfl (pos_g I64 gA0 (by decide))) rfl ?_
            refine w_t (np := 82) (l2 := [some (eR a0), some (eI (i27))]) (s2 := [eI (i27), eR a0, eI (v67), eR a0]) rfl rfl rfl ?_
            refine w_cw (np := 85) (as := [eI (i27)]) (l2 := [some (eR a0), some (eI (i27))]) (rest := [eI (v67), eR a0]) rfl rfl rfl (Nat.ble_eq.mp rfl) rfl rfl rfl (I64.kd gA0 (by decide) (n := 15) rfl) rfl ?_
            refine w_t (np := 1) (l2 := [some (eR a0), some (eI (i27))]) (s2 := [eR a0]) rfl (s_an rfl (pos_g I64 gA0 (by decide))) rfl ?_
            refine w_gf (np := 4) (v := eR v52) rfl rfl (I64.kd gA0 (by decide) (n := 15) rfl) (by rw [(W65.slot e53 (by decide))]; rfl) ?_
            refine w_t (np := 5) (l2 := [some (eR a0), some (eI (i27))]) (s2 := [eI (i27), eR v52]) rfl rfl rfl ?_
            refine j_al (np := 6) rfl rfl I64 b54 (by decide) (n := 2670) rfl rfl (lo := -1) (hi := 2669) (fun _ => rfl) (by omega) (by omega) ?_
            intro v70 e71 b72
            have e71 := e71.symm.trans (W65.addr e57 gA0 b54 (by decide))
            rw [e71]
            refine b_ilt (t1 := 19) (t2 := 9) rfl rfl rfl (ev_w_in (by omega) (by omega)) (fun g73 => ?_) (fun g73 => False.elim (by omega))
            refine w_t (np := 20) (l2 := [some (eR a0), some (eI (i27))]) (s2 := [eI (1)]) rfl rfl rfl ?_
            refine w_go (t1 := 24) rfl rfl ?_
            refine b_rz rfl rfl (Or.inr rfl) ?_
            show ex_q (dt_fg L ρ) rc (d + 3, (112, 85, [some (eR a0), some (eI (i27))], [eI (1), eI (v67), eR a0]), f :: F, m63)
            refine b_ieq (t1 := 102) (t2 := 88) rfl rfl rfl rfl (fun g74 => absurd g74 (by decide)) (fun g74 => ?_)
            refine w_t (np := 89) (l2 := [some (eR a0), some (eI (i27))]) (s2 := [eR a0, eI (v67), eR a0]) rfl (s_an rfl (pos_g I64 gA0 (by decide))) rfl ?_
            refine w_t (np := 90) (l2 := [some (eR a0), some (eI (i27))]) (s2 := [eI (i27), eR a0, eI (v67), eR a0]) rfl rfl rfl ?_
            refine w_t (np := 91) (l2 := [some (eR a0), some (eI (i27))]) (s2 := [eI (3), eI (i27), eR a0, eI (v67), eR a0]) rfl rfl rfl ?_
            obtain ⟨v75, e76, b77⟩ := h_idiv (a := i27) (k := 3) (by decide) (by decide) (show (-2147483648 : Int) ≤ i27 ∧ (i27 : Int) ≤ 2147483647 by omega)
            have b78 : 0 ≤ v75 ∧ v75 ≤ 49 := by omega
            refine w_t (np := 92) (l2 := [some (eR a0), some (eI (i27))]) (s2 := [eI (v75), eR a0, eI (v67), eR a0]) rfl (e76 _ _) rfl ?_
            refine w_cw (np := 95) (as := [eI (v75)]) (l2 := [some (eR a0), some (eI (v75)), none, none]) (rest := [eI (v67), eR a0]) rfl rfl rfl (Nat.ble_eq.mp rfl) rfl rfl rfl (I64.kd gA0 (by decide) (n := 15) rfl) rfl ?_
            refine s_117 (a1 := v75) I64 gA0 (by omega) ?_
            intro v79 b80
            show ex_q (dt_fg L ρ) rc (d + 3, (112, 95, [some (eR a0), some (eI (i27))], [eI (v79), eI (v67), eR a0]), f :: F, m63)
            refine b_ilt (t1 := 102) (t2 := 98) rfl rfl rfl (ev_w_in (by omega) (by omega)) (fun g81 => ?_) (fun g81 => ?_)
            · have b82 : -1 ≤ v79 ∧ v79 ≤ -1 := by omega
              refine w_t (np := 103) (l2 := [some (eR a0), some (eI (i27))]) (s2 := [eI (0), eI (v67), eR a0]) rfl rfl rfl ?_
              refine w_t (np := 104) (l2 := [some (eR a0), some (eI (i27))]) (s2 := [eI (v67), eR a0]) rfl (b_iadd (by rw [Int.add_zero]; exact ev_w_in (by omega) (by omega))) rfl ?_
              refine j_pf (np := 107) (w := v67) rfl rfl I64 gA0 (by decide) (n := 15) rfl rfl (hO_i (lo := -2147483648) (hi := 2147483647) rfl (by omega)) ?_
              intro m82 I83 W84
              have F85 : Fr l_112 0 0 g μ m82 := F66.w W84 gA0 rfl
              refine w_go (t1 := 139) rfl rfl ?_
              obtain ⟨v86, e87⟩ : ∃ zz : Int, zz = (i27) + (1) := ⟨_, rfl⟩
              have b88 : 1 ≤ v86 ∧ v86 ≤ 150 := by omega
              refine w_t (np := 142) (l2 := [some (eR a0), some (eI (v86))]) (s2 := []) rfl (b_iinc rfl (by rw [← e87]; exact ev_w_in (by omega) (by omega)) rfl) rfl ?_
              refine w_go (t1 := 32) rfl rfl ?_
              exact ih26 (2670 - (v86)).toNat (by omega) m82 (v86) I83 F85 (by omega)     rfl
            · have b82 : 0 ≤ v79 ∧ v79 ≤ 889 := by omega
              refine w_t (np := 99) (l2 := [some (eR a0), some (eI (i27))]) (s2 := [eI (1), eI (v67), eR a0]) rfl rfl rfl ?_
              refine w_go (t1 := 103) rfl rfl ?_
              obtain ⟨v82, e83, b84⟩ : ∃ zz : Int, ev_w ((v67) + (1)) = zz ∧ (-2147483648 ≤ zz ∧ zz ≤ 2147483647) := ⟨_, rfl, hw_bd _⟩
              refine w_t (np := 104) (l2 := [some (eR a0), some (eI (i27))]) (s2 := [eI (v82), eR a0]) rfl (b_iadd e83) rfl ?_
              refine j_pf (np := 107) (w := v82) rfl rfl I64 gA0 (by decide) (n := 15) rfl rfl (hO_i (lo := -2147483648) (hi := 2147483647) rfl (by omega)) ?_
              intro m85 I86 W87
              have F88 : Fr l_112 0 0 g μ m85 := F66.w W87 gA0 rfl
              refine w_go (t1 := 139) rfl rfl ?_
              obtain ⟨v89, e90⟩ : ∃ zz : Int, zz = (i27) + (1) := ⟨_, rfl⟩
              have b91 : 1 ≤ v89 ∧ v89 ≤ 150 := by omega
              refine w_t (np := 142) (l2 := [some (eR a0), some (eI (v89))]) (s2 := []) rfl (b_iinc rfl (by rw [← e90]; exact ev_w_in (by omega) (by omega)) rfl) rfl ?_
              refine w_go (t1 := 32) rfl rfl ?_
              exact ih26 (2670 - (v89)).toNat (by omega) m85 (v89) I86 F88 (by omega)     rfl
    · refine j_gi (np := 41) rfl rfl rfl I30 b35 (by decide) (n := 8) rfl rfl (lo := 0) (hi := 890) rfl ?_
      intro v37 e38 b39
      obtain ⟨v40, e41⟩ : ∃ zz : Int, zz = (3) * (v37) := ⟨_, rfl⟩
      have b42 : 0 ≤ v40 ∧ v40 ≤ 2670 := by omega
      refine w_t (np := 42) (l2 := [some (eR a0), some (eI (i27))]) (s2 := [eI (v40), eI (i27)]) rfl (b_imul (by rw [← e41]; exact ev_w_in (by omega) (by omega))) rfl ?_
      refine b_cge (t1 := 145) (t2 := 45) rfl rfl rfl (ev_w_in (by omega) (by omega)) (ev_w_in (by omega) (by omega)) (fun g43 => ?_) (fun g43 => ?_)
      · exact v_rv rfl rfl (K m29 I30 F31)
      · have b44 : 0 ≤ i27 ∧ i27 ≤ 2669 := by omega
        have b45 : 1 ≤ v40 ∧ v40 ≤ 2670 := by omega
        refine w_t (np := 46) (l2 := [some (eR a0), some (eI (i27))]) (s2 := [eI (i27)]) rfl rfl rfl ?_
        refine w_t (np := 47) (l2 := [some (eR a0), some (eI (i27))]) (s2 := [eI (3), eI (i27)]) rfl rfl rfl ?_
        obtain ⟨v44, e45, b46⟩ := h_irem (a := i27) (k := 3) (by decide) (by decide) (show (-2147483648 : Int) ≤ i27 ∧ (i27 : Int) ≤ 2147483647 by omega)
        have b47 : 0 ≤ v44 ∧ v44 ≤ 2 := by omega
        refine w_t (np := 48) (l2 := [some (eR a0), some (eI (i27))]) (s2 := [eI (v44)]) rfl (e45 _ _) rfl ?_
        refine w_t (np := 49) (l2 := [some (eR a0), some (eI (i27))]) (s2 := [eI (2), eI (v44)]) rfl rfl rfl ?_
        refine b_cne (t1 := 110) (t2 := 52) rfl rfl rfl (ev_w_in (by omega) (by omega)) rfl (fun g48 => ?_) (fun g48 => ?_)
        · have b49 : 0 ≤ v44 ∧ v44 ≤ 1 := by omega
          refine w_t (np := 111) (l2 := [some (eR a0), some (eI (i27))]) (s2 := [eR a0]) rfl (s_an rfl (pos_g I30 gA0 (by decide))) rfl ?_
          refine w_t (np := 112) (l2 := [some (eR a0), some (eI (i27))]) (s2 := [eI (i27), eR a0]) rfl rfl rfl ?_
          refine w_cw (np := 115) (as := [eI (i27)]) (l2 := [some (eR a0), some (eI (i27))]) (rest := []) rfl rfl rfl (Nat.ble_eq.mp rfl) rfl rfl rfl (I30.kd gA0 (by decide) (n := 15) rfl) rfl ?_
          refine w_t (np := 1) (l2 := [some (eR a0), some (eI (i27))]) (s2 := [eR a0]) rfl (s_an rfl (pos_g I30 gA0 (by decide))) rfl ?_
          refine j_gr (np := 4) rfl rfl I30 gA0 (by decide) (n := 15) rfl rfl rfl ?_
          intro v49 e50 b51 z52
          have b51 : g v49 = 36 := Nat.eq_of_beq_eq_true b51
          refine w_t (np := 5) (l2 := [some (eR a0), some (eI (i27))]) (s2 := [eI (i27), eR v49]) rfl rfl rfl ?_
          refine j_al (np := 6) rfl rfl I30 b51 (by decide) (n := 2670) rfl rfl (lo := -1) (hi := 2669) (fun _ => rfl) (by omega) (by omega) ?_
          intro v53 e54 b55
          refine b_ilt (t1 := 19) (t2 := 9) rfl rfl rfl (ev_w_in (by omega) (by omega)) (fun g56 => ?_) (fun g56 => ?_)
          · have b57 : -1 ≤ v53 ∧ v53 ≤ -1 := by omega
            refine w_t (np := 20) (l2 := [some (eR a0), some (eI (i27))]) (s2 := [eI (1)]) rfl rfl rfl ?_
            refine w_go (t1 := 24) rfl rfl ?_
            refine b_rz rfl rfl (Or.inr rfl) ?_
            show ex_q (dt_fg L ρ) rc (d + 3, (112, 115, [some (eR a0), some (eI (i27))], [eI (1)]), f :: F, m29)
            refine b_ieq (t1 := 139) (t2 := 118) rfl rfl rfl rfl (fun g57 => absurd g57 (by decide)) (fun g57 => ?_)
            refine w_t (np := 119) (l2 := [some (eR a0), some (eI (i27))]) (s2 := [eR a0]) rfl (s_an rfl (pos_g I30 gA0 (by decide))) rfl ?_
            refine w_t (np := 120) (l2 := [some (eR a0), some (eI (i27))]) (s2 := [eR a0, eR a0]) rfl rfl rfl ?_
            refine j_gi (np := 123) rfl rfl rfl I30 gA0 (by decide) (n := 15) rfl rfl (lo := -2147483648) (hi := 2147483647) rfl ?_
            intro v58 e59 b60
            refine w_t (np := 124) (l2 := [some (eR a0), some (eI (i27))]) (s2 := [eI (1), eI (v58), eR a0]) rfl rfl rfl ?_
            obtain ⟨v61, e62, b63⟩ : ∃ zz : Int, ev_w ((v58) + (1)) = zz ∧ (-2147483648 ≤ zz ∧ zz ≤ 2147483647) := ⟨_, rfl, hw_bd _⟩
            refine w_t (np := 125) (l2 := [some (eR a0), some (eI (i27))]) (s2 := [eI (v61), eR a0]) rfl (b_iadd e62) rfl ?_
            refine j_pf (np := 128) (w := v61) rfl rfl I30 gA0 (by decide) (n := 15) rfl rfl (hO_i (lo := -2147483648) (hi := 2147483647) rfl (by omega)) ?_
            intro m64 I65 W66
            have F67 : Fr l_112 0 0 g μ m64 := F31.w W66 gA0 rfl
            refine w_t (np := 129) (l2 := [some (eR a0), some (eI (i27))]) (s2 := [eR a0]) rfl (s_an rfl (pos_g I65 gA0 (by decide))) rfl ?_
            refine w_t (np := 130) (l2 := [some (eR a0), some (eI (i27))]) (s2 := [eI (i27), eR a0]) rfl rfl rfl ?_
            refine w_t (np := 131) (l2 := [some (eR a0), some (eI (i27))]) (s2 := [eR a0, eI (i27), eR a0]) rfl (s_an rfl (pos_g I65 gA0 (by decide))) rfl ?_
            refine w_gf (np := 134) (v := eR v49) rfl rfl (I65.kd gA0 (by decide) (n := 15) rfl) (by rw [(W66.slot e50 (by decide))]; rfl) ?_
            refine w_t (np := 135) (l2 := [some (eR a0), some (eI (i27))]) (s2 := [eI (i27), eR v49, eI (i27), eR a0]) rfl rfl rfl ?_
            refine j_al (np := 136) rfl rfl I65 b51 (by decide) (n := 2670) rfl rfl (lo := -1) (hi := 2669) (fun _ => rfl) (by omega) (by omega) ?_
            intro v68 e69 b70
            have e69 := e69.symm.trans (W66.addr e54 gA0 b51 (by decide))
            rw [e69]
            refine w_cw (np := 139) (as := [eI (i27), eI (v53)]) (l2 := [some (eR a0), some (eI (i27)), some (eI (v53))]) (rest := []) rfl rfl rfl (Nat.ble_eq.mp rfl) rfl rfl rfl (I65.kd gA0 (by decide) (n := 15) rfl) rfl ?_
            refine s_114 (a1 := i27) (a2 := v53) I65 gA0 (by omega) (by omega) ?_
            intro m71 I72 F73
            have F74 : Fr l_112 0 0 g μ m71 := F67.t F73 rfl
            show ex_q (dt_fg L ρ) rc (d + 3, (112, 139, [some (eR a0), some (eI (i27))], []), f :: F, m71)
            obtain ⟨v75, e76⟩ : ∃ zz : Int, zz = (i27) + (1) := ⟨_, rfl⟩
            have b77 : 1 ≤ v75 ∧ v75 ≤ 2670 := by omega
            refine w_t (np := 142) (l2 := [some (eR a0), some (eI (v75))]) (s2 := []) rfl (b_iinc rfl (by rw [← e76]; exact ev_w_in (by omega) (by omega)) rfl) rfl ?_
            refine w_go (t1 := 32) rfl rfl ?_
            exact ih26 (2670 - (v75)).toNat (by omega) m71 (v75) I72 F74 (by omega)     rfl
          · have b57 : 0 ≤ v53 ∧ v53 ≤ 2669 := by omega
            refine w_t (np := 10) (l2 := [some (eR a0), some (eI (i27))]) (s2 := [eR a0]) rfl (s_an rfl (pos_g I30 gA0 (by decide))) rfl ?_
            refine w_gf (np := 13) (v := eR v49) rfl rfl (I30.kd gA0 (by decide) (n := 15) rfl) (by rw [e50]; rfl) ?_
            refine w_t (np := 14) (l2 := [some (eR a0), some (eI (i27))]) (s2 := [eI (i27), eR v49]) rfl rfl rfl ?_
            refine j_al (np := 15) rfl rfl I30 b51 (by decide) (n := 2670) rfl rfl (lo := -1) (hi := 2669) (fun _ => rfl) (by omega) (by omega) ?_
            intro v57 e58 b59
            have e58 := e58.symm.trans e54
            rw [e58]
            refine w_t (np := 16) (l2 := [some (eR a0), some (eI (i27))]) (s2 := [eI (i27), eI (v53)]) rfl rfl rfl ?_
            refine b_cle (t1 := 23) (t2 := 19) rfl rfl rfl (ev_w_in (by omega) (by omega)) (ev_w_in (by omega) (by omega)) (fun g60 => ?_) (fun g60 => ?_)
            · refine w_t (np := 24) (l2 := [some (eR a0), some (eI (i27))]) (s2 := [eI (0)]) rfl rfl rfl ?_
              refine b_rz rfl rfl (Or.inl rfl) ?_
              show ex_q (dt_fg L ρ) rc (d + 3, (112, 115, [some (eR a0), some (eI (i27))], [eI (0)]), f :: F, m29)
              refine b_ieq (t1 := 139) (t2 := 118) rfl rfl rfl rfl (fun g61 => ?_) (fun g61 => absurd g61 (by decide))
              obtain ⟨v62, e63⟩ : ∃ zz : Int, zz = (i27) + (1) := ⟨_, rfl⟩
              have b64 : 1 ≤ v62 ∧ v62 ≤ 2670 := by omega
              refine w_t (np := 142) (l2 := [some (eR a0), some (eI (v62))]) (s2 := []) rfl (b_iinc rfl (by rw [← e63]; exact ev_w_in (by omega) (by omega)) rfl) rfl ?_
              refine w_go (t1 := 32) rfl rfl ?_
              exact ih26 (2670 - (v62)).toNat (by omega) m29 (v62) I30 F31 (by omega)     rfl
            · have b61 : 1 ≤ v53 ∧ v53 ≤ 2669 := by omega
              have b62 : 0 ≤ i27 ∧ i27 ≤ 2668 := by omega
              refine w_t (np := 20) (l2 := [some (eR a0), some (eI (i27))]) (s2 := [eI (1)]) rfl rfl rfl ?_
              refine w_go (t1 := 24) rfl rfl ?_
              refine b_rz rfl rfl (Or.inr rfl) ?_
              show ex_q (dt_fg L ρ) rc (d + 3, (112, 115, [some (eR a0), some (eI (i27))], [eI (1)]), f :: F, m29)
              refine b_ieq (t1 := 139) (t2 := 118) rfl rfl rfl rfl (fun g61 => absurd g61 (by decide)) (fun g61 => ?_)
              refine w_t (np := 119) (l2 := [some (eR a0), some (eI (i27))]) (s2 := [eR a0]) rfl (s_an rfl (pos_g I30 gA0 (by decide))) rfl ?_
              refine w_t (np := 120) (l2 := [some (eR a0), some (eI (i27))]) (s2 := [eR a0, eR a0]) rfl rfl rfl ?_
              refine j_gi (np := 123) rfl rfl rfl I30 gA0 (by decide) (n := 15) rfl rfl (lo := -2147483648) (hi := 2147483647) rfl ?_
              intro v62 e63 b64
              refine w_t (np := 124) (l2 := [some (eR a0), some (eI (i27))]) (s2 := [eI (1), eI (v62), eR a0]) rfl rfl rfl ?_
              obtain ⟨v65, e66, b67⟩ : ∃ zz : Int, ev_w ((v62) + (1)) = zz ∧ (-2147483648 ≤ zz ∧ zz ≤ 2147483647) := ⟨_, rfl, hw_bd _⟩
              refine w_t (np := 125) (l2 := [some (eR a0), some (eI (i27))]) (s2 := [eI (v65), eR a0]) rfl (b_iadd e66) rfl ?_
              refine j_pf (np := 128) (w := v65) rfl rfl I30 gA0 (by decide) (n := 15) rfl rfl (hO_i (lo := -2147483648) (hi := 2147483647) rfl (by omega)) ?_
              intro m68 I69 W70
              have F71 : Fr l_112 0 0 g μ m68 := F31.w W70 gA0 rfl
              refine w_t (np := 129) (l2 := [some (eR a0), some (eI (i27))]) (s2 := [eR a0]) rfl (s_an rfl (pos_g I69 gA0 (by decide))) rfl ?_
              refine w_t (np := 130) (l2 := [some (eR a0), some (eI (i27))]) (s2 := [eI (i27), eR a0]) rfl rfl rfl ?_
              refine w_t (np := 131) (l2 := [some (eR a0), some (eI (i27))]) (s2 := [eR a0, eI (i27), eR a0]) rfl (s_an rfl (pos_g I69 gA0 (by decide))) rfl ?_
              refine w_gf (np := 134) (v := eR v49) rfl rfl (I69.kd gA0 (by decide) (n := 15) rfl) (by rw [(W70.slot e50 (by decide))]; rfl) ?_
              refine w_t (np := 135) (l2 := [some (eR a0), some (eI (i27))]) (s2 := [eI (i27), eR v49, eI (i27), eR a0]) rfl rfl rfl ?_
              refine j_al (np := 136) rfl rfl I69 b51 (by decide) (n := 2670) rfl rfl (lo := -1) (hi := 2669) (fun _ => rfl) (by omega) (by omega) ?_
              intro v72 e73 b74
              have e73 := e73.symm.trans (W70.addr e54 gA0 b51 (by decide))
              rw [e73]
              refine w_cw (np := 139) (as := [eI (i27), eI (v53)]) (l2 := [some (eR a0), some (eI (i27)), some (eI (v53))]) (rest := []) rfl rfl rfl (Nat.ble_eq.mp rfl) rfl rfl rfl (I69.kd gA0 (by decide) (n := 15) rfl) rfl ?_
              refine s_114 (a1 := i27) (a2 := v53) I69 gA0 (by omega) (by omega) ?_
              intro m75 I76 F77
              have F78 : Fr l_112 0 0 g μ m75 := F71.t F77 rfl
              show ex_q (dt_fg L ρ) rc (d + 3, (112, 139, [some (eR a0), some (eI (i27))], []), f :: F, m75)
              obtain ⟨v79, e80⟩ : ∃ zz : Int, zz = (i27) + (1) := ⟨_, rfl⟩
              have b81 : 1 ≤ v79 ∧ v79 ≤ 2669 := by omega
              refine w_t (np := 142) (l2 := [some (eR a0), some (eI (v79))]) (s2 := []) rfl (b_iinc rfl (by rw [← e80]; exact ev_w_in (by omega) (by omega)) rfl) rfl ?_
              refine w_go (t1 := 32) rfl rfl ?_
              exact ih26 (2670 - (v79)).toNat (by omega) m75 (v79) I76 F78 (by omega)     rfl
        · have b49 : 2 ≤ v44 ∧ v44 ≤ 2 := by omega
          refine w_t (np := 53) (l2 := [some (eR a0), some (eI (i27))]) (s2 := [eR a0]) rfl (s_an rfl (pos_g I30 gA0 (by decide))) rfl ?_
          refine w_t (np := 54) (l2 := [some (eR a0), some (eI (i27))]) (s2 := [eR a0, eR a0]) rfl rfl rfl ?_
          refine j_gi (np := 57) rfl rfl rfl I30 gA0 (by decide) (n := 15) rfl rfl (lo := -2147483648) (hi := 2147483647) rfl ?_
          intro v49 e50 b51
          refine w_t (np := 58) (l2 := [some (eR a0), some (eI (i27))]) (s2 := [eR a0, eI (v49), eR a0]) rfl (s_an rfl (pos_g I30 gA0 (by decide))) rfl ?_
          refine j_gr (np := 61) rfl rfl I30 gA0 (by decide) (n := 15) rfl rfl rfl ?_
          intro v52 e53 b54 z55
          have b54 : g v52 = 36 := Nat.eq_of_beq_eq_true b54
          refine w_t (np := 62) (l2 := [some (eR a0), some (eI (i27))]) (s2 := [eI (i27), eR v52, eI (v49), eR a0]) rfl rfl rfl ?_
          refine j_al (np := 63) rfl rfl I30 b54 (by decide) (n := 2670) rfl rfl (lo := -1) (hi := 2669) (fun _ => rfl) (by omega) (by omega) ?_
          intro v56 e57 b58
          refine b_ige (t1 := 70) (t2 := 66) rfl rfl rfl (ev_w_in (by omega) (by omega)) (fun g59 => ?_) (fun g59 => ?_)
          · have b60 : 0 ≤ v56 ∧ v56 ≤ 2669 := by omega
            refine w_t (np := 71) (l2 := [some (eR a0), some (eI (i27))]) (s2 := [eI (0), eI (v49), eR a0]) rfl rfl rfl ?_
            refine w_t (np := 72) (l2 := [some (eR a0), some (eI (i27))]) (s2 := [eI (v49), eR a0]) rfl (b_iadd (by rw [Int.add_zero]; exact ev_w_in (by omega) (by omega))) rfl ?_
            refine j_pf (np := 75) (w := v49) rfl rfl I30 gA0 (by decide) (n := 15) rfl rfl (hO_i (lo := -2147483648) (hi := 2147483647) rfl (by omega)) ?_
            intro m60 I61 W62
            have F63 : Fr l_112 0 0 g μ m60 := F31.w W62 gA0 rfl
            refine w_t (np := 76) (l2 := [some (eR a0), some (eI (i27))]) (s2 := [eR a0]) rfl (s_an rfl (pos_g I61 gA0 (by decide))) rfl ?_
            refine w_t (np := 77) (l2 := [some (eR a0), some (eI (i27))]) (s2 := [eR a0, eR a0]) rfl rfl rfl ?_
            refine j_gi (np := 80) rfl rfl rfl I61 gA0 (by decide) (n := 15) rfl rfl (lo := -2147483648) (hi := 2147483647) rfl ?_
            intro v64 e65 b66
            refine w_t (np := 81) (l2 := [some (eR a0), some (eI (i27))]) (s2 := [eR a0, eI (v64), eR a0]) rfl (s_an rfl (pos_g I61 gA0 (by decide))) rfl ?_
            refine w_t (np := 82) (l2 := [some (eR a0), some (eI (i27))]) (s2 := [eI (i27), eR a0, eI (v64), eR a0]) rfl rfl rfl ?_
            refine w_cw (np := 85) (as := [eI (i27)]) (l2 := [some (eR a0), some (eI (i27))]) (rest := [eI (v64), eR a0]) rfl rfl rfl (Nat.ble_eq.mp rfl) rfl rfl rfl (I61.kd gA0 (by decide) (n := 15) rfl) rfl ?_
            refine w_t (np := 1) (l2 := [some (eR a0), some (eI (i27))]) (s2 := [eR a0]) rfl (s_an rfl (pos_g I61 gA0 (by decide))) rfl ?_
            refine w_gf (np := 4) (v := eR v52) rfl rfl (I61.kd gA0 (by decide) (n := 15) rfl) (by rw [(W62.slot e53 (by decide))]; rfl) ?_
            refine w_t (np := 5) (l2 := [some (eR a0), some (eI (i27))]) (s2 := [eI (i27), eR v52]) rfl rfl rfl ?_
            refine j_al (np := 6) rfl rfl I61 b54 (by decide) (n := 2670) rfl rfl (lo := -1) (hi := 2669) (fun _ => rfl) (by omega) (by omega) ?_
            intro v67 e68 b69
            have e68 := e68.symm.trans (W62.addr e57 gA0 b54 (by decide))
            rw [e68]
            refine b_ilt (t1 := 19) (t2 := 9) rfl rfl rfl (ev_w_in (by omega) (by omega)) (fun g70 => False.elim (by omega)) (fun g70 => ?_)
            refine w_t (np := 10) (l2 := [some (eR a0), some (eI (i27))]) (s2 := [eR a0]) rfl (s_an rfl (pos_g I61 gA0 (by decide))) rfl ?_
            refine w_gf (np := 13) (v := eR v52) rfl rfl (I61.kd gA0 (by decide) (n := 15) rfl) (by rw [(W62.slot e53 (by decide))]; rfl) ?_
            refine w_t (np := 14) (l2 := [some (eR a0), some (eI (i27))]) (s2 := [eI (i27), eR v52]) rfl rfl rfl ?_
            refine j_al (np := 15) rfl rfl I61 b54 (by decide) (n := 2670) rfl rfl (lo := -1) (hi := 2669) (fun _ => rfl) (by omega) (by omega) ?_
            intro v71 e72 b73
            have e72 := e72.symm.trans (W62.addr e57 gA0 b54 (by decide))
            rw [e72]
            refine w_t (np := 16) (l2 := [some (eR a0), some (eI (i27))]) (s2 := [eI (i27), eI (v56)]) rfl rfl rfl ?_
            refine b_cle (t1 := 23) (t2 := 19) rfl rfl rfl (ev_w_in (by omega) (by omega)) (ev_w_in (by omega) (by omega)) (fun g74 => ?_) (fun g74 => ?_)
            · refine w_t (np := 24) (l2 := [some (eR a0), some (eI (i27))]) (s2 := [eI (0)]) rfl rfl rfl ?_
              refine b_rz rfl rfl (Or.inl rfl) ?_
              show ex_q (dt_fg L ρ) rc (d + 3, (112, 85, [some (eR a0), some (eI (i27))], [eI (0), eI (v64), eR a0]), f :: F, m60)
              refine b_ieq (t1 := 102) (t2 := 88) rfl rfl rfl rfl (fun g75 => ?_) (fun g75 => absurd g75 (by decide))
              refine w_t (np := 103) (l2 := [some (eR a0), some (eI (i27))]) (s2 := [eI (0), eI (v64), eR a0]) rfl rfl rfl ?_
              refine w_t (np := 104) (l2 := [some (eR a0), some (eI (i27))]) (s2 := [eI (v64), eR a0]) rfl (b_iadd (by rw [Int.add_zero]; exact ev_w_in (by omega) (by omega))) rfl ?_
              refine j_pf (np := 107) (w := v64) rfl rfl I61 gA0 (by decide) (n := 15) rfl rfl (hO_i (lo := -2147483648) (hi := 2147483647) rfl (by omega)) ?_
              intro m76 I77 W78
              have F79 : Fr l_112 0 0 g μ m76 := F63.w W78 gA0 rfl
              refine w_go (t1 := 139) rfl rfl ?_
              obtain ⟨v80, e81⟩ : ∃ zz : Int, zz = (i27) + (1) := ⟨_, rfl⟩
              have b82 : 1 ≤ v80 ∧ v80 ≤ 2670 := by omega
              refine w_t (np := 142) (l2 := [some (eR a0), some (eI (v80))]) (s2 := []) rfl (b_iinc rfl (by rw [← e81]; exact ev_w_in (by omega) (by omega)) rfl) rfl ?_
              refine w_go (t1 := 32) rfl rfl ?_
              exact ih26 (2670 - (v80)).toNat (by omega) m76 (v80) I77 F79 (by omega)     rfl
            · have b75 : 1 ≤ v56 ∧ v56 ≤ 2669 := by omega
              have b76 : 0 ≤ i27 ∧ i27 ≤ 2668 := by omega
              refine w_t (np := 20) (l2 := [some (eR a0), some (eI (i27))]) (s2 := [eI (1)]) rfl rfl rfl ?_
              refine w_go (t1 := 24) rfl rfl ?_
              refine b_rz rfl rfl (Or.inr rfl) ?_
              show ex_q (dt_fg L ρ) rc (d + 3, (112, 85, [some (eR a0), some (eI (i27))], [eI (1), eI (v64), eR a0]), f :: F, m60)
              refine b_ieq (t1 := 102) (t2 := 88) rfl rfl rfl rfl (fun g75 => absurd g75 (by decide)) (fun g75 => ?_)
              refine w_t (np := 89) (l2 := [some (eR a0), some (eI (i27))]) (s2 := [eR a0, eI (v64), eR a0]) rfl (s_an rfl (pos_g I61 gA0 (by decide))) rfl ?_
              refine w_t (np := 90) (l2 := [some (eR a0), some (eI (i27))]) (s2 := [eI (i27), eR a0, eI (v64), eR a0]) rfl rfl rfl ?_
              refine w_t (np := 91) (l2 := [some (eR a0), some (eI (i27))]) (s2 := [eI (3), eI (i27), eR a0, eI (v64), eR a0]) rfl rfl rfl ?_
              obtain ⟨v76, e77, b78⟩ := h_idiv (a := i27) (k := 3) (by decide) (by decide) (show (-2147483648 : Int) ≤ i27 ∧ (i27 : Int) ≤ 2147483647 by omega)
              have b79 : 0 ≤ v76 ∧ v76 ≤ 889 := by omega
              refine w_t (np := 92) (l2 := [some (eR a0), some (eI (i27))]) (s2 := [eI (v76), eR a0, eI (v64), eR a0]) rfl (e77 _ _) rfl ?_
              refine w_cw (np := 95) (as := [eI (v76)]) (l2 := [some (eR a0), some (eI (v76)), none, none]) (rest := [eI (v64), eR a0]) rfl rfl rfl (Nat.ble_eq.mp rfl) rfl rfl rfl (I61.kd gA0 (by decide) (n := 15) rfl) rfl ?_
              refine s_117 (a1 := v76) I61 gA0 (by omega) ?_
              intro v80 b81
              show ex_q (dt_fg L ρ) rc (d + 3, (112, 95, [some (eR a0), some (eI (i27))], [eI (v80), eI (v64), eR a0]), f :: F, m60)
              refine b_ilt (t1 := 102) (t2 := 98) rfl rfl rfl (ev_w_in (by omega) (by omega)) (fun g82 => ?_) (fun g82 => ?_)
              · have b83 : -1 ≤ v80 ∧ v80 ≤ -1 := by omega
                refine w_t (np := 103) (l2 := [some (eR a0), some (eI (i27))]) (s2 := [eI (0), eI (v64), eR a0]) rfl rfl rfl ?_
                refine w_t (np := 104) (l2 := [some (eR a0), some (eI (i27))]) (s2 := [eI (v64), eR a0]) rfl (b_iadd (by rw [Int.add_zero]; exact ev_w_in (by omega) (by omega))) rfl ?_
                refine j_pf (np := 107) (w := v64) rfl rfl I61 gA0 (by decide) (n := 15) rfl rfl (hO_i (lo := -2147483648) (hi := 2147483647) rfl (by omega)) ?_
                intro m83 I84 W85
                have F86 : Fr l_112 0 0 g μ m83 := F63.w W85 gA0 rfl
                refine w_go (t1 := 139) rfl rfl ?_
                obtain ⟨v87, e88⟩ : ∃ zz : Int, zz = (i27) + (1) := ⟨_, rfl⟩
                have b89 : 1 ≤ v87 ∧ v87 ≤ 2669 := by omega
                refine w_t (np := 142) (l2 := [some (eR a0), some (eI (v87))]) (s2 := []) rfl (b_iinc rfl (by rw [← e88]; exact ev_w_in (by omega) (by omega)) rfl) rfl ?_
                refine w_go (t1 := 32) rfl rfl ?_
                exact ih26 (2670 - (v87)).toNat (by omega) m83 (v87) I84 F86 (by omega)     rfl
              · have b83 : 0 ≤ v80 ∧ v80 ≤ 889 := by omega
                refine w_t (np := 99) (l2 := [some (eR a0), some (eI (i27))]) (s2 := [eI (1), eI (v64), eR a0]) rfl rfl rfl ?_
                refine w_go (t1 := 103) rfl rfl ?_
                obtain ⟨v83, e84, b85⟩ : ∃ zz : Int, ev_w ((v64) + (1)) = zz ∧ (-2147483648 ≤ zz ∧ zz ≤ 2147483647) := ⟨_, rfl, hw_bd _⟩
                refine w_t (np := 104) (l2 := [some (eR a0), some (eI (i27))]) (s2 := [eI (v83), eR a0]) rfl (b_iadd e84) rfl ?_
                refine j_pf (np := 107) (w := v83) rfl rfl I61 gA0 (by decide) (n := 15) rfl rfl (hO_i (lo := -2147483648) (hi := 2147483647) rfl (by omega)) ?_
                intro m86 I87 W88
                have F89 : Fr l_112 0 0 g μ m86 := F63.w W88 gA0 rfl
                refine w_go (t1 := 139) rfl rfl ?_
                obtain ⟨v90, e91⟩ : ∃ zz : Int, zz = (i27) + (1) := ⟨_, rfl⟩
                have b92 : 1 ≤ v90 ∧ v90 ≤ 2669 := by omega
                refine w_t (np := 142) (l2 := [some (eR a0), some (eI (v90))]) (s2 := []) rfl (b_iinc rfl (by rw [← e91]; exact ev_w_in (by omega) (by omega)) rfl) rfl ?_
                refine w_go (t1 := 32) rfl rfl ?_
                exact ih26 (2670 - (v90)).toNat (by omega) m86 (v90) I87 F89 (by omega)     rfl
          · have b60 : -1 ≤ v56 ∧ v56 ≤ -1 := by omega
            refine w_t (np := 67) (l2 := [some (eR a0), some (eI (i27))]) (s2 := [eI (1), eI (v49), eR a0]) rfl rfl rfl ?_
            refine w_go (t1 := 71) rfl rfl ?_
            obtain ⟨v60, e61, b62⟩ : ∃ zz : Int, ev_w ((v49) + (1)) = zz ∧ (-2147483648 ≤ zz ∧ zz ≤ 2147483647) := ⟨_, rfl, hw_bd _⟩
            refine w_t (np := 72) (l2 := [some (eR a0), some (eI (i27))]) (s2 := [eI (v60), eR a0]) rfl (b_iadd e61) rfl ?_
            refine j_pf (np := 75) (w := v60) rfl rfl I30 gA0 (by decide) (n := 15) rfl rfl (hO_i (lo := -2147483648) (hi := 2147483647) rfl (by omega)) ?_
            intro m63 I64 W65
            have F66 : Fr l_112 0 0 g μ m63 := F31.w W65 gA0 rfl
            refine w_t (np := 76) (l2 := [some (eR a0), some (eI (i27))]) (s2 := [eR a0]) rfl (s_an rfl (pos_g I64 gA0 (by decide))) rfl ?_
            refine w_t (np := 77) (l2 := [some (eR a0), some (eI (i27))]) (s2 := [eR a0, eR a0]) rfl rfl rfl ?_
            refine j_gi (np := 80) rfl rfl rfl I64 gA0 (by decide) (n := 15) rfl rfl (lo := -2147483648) (hi := 2147483647) rfl ?_
            intro v67 e68 b69
            refine w_t (np := 81) (l2 := [some (eR a0), some (eI (i27))]) (s2 := [eR a0, eI (v67), eR a0]) rfl (s_an rfl (pos_g I64 gA0 (by decide))) rfl ?_
            refine w_t (np := 82) (l2 := [some (eR a0), some (eI (i27))]) (s2 := [eI (i27), eR a0, eI (v67), eR a0]) rfl rfl rfl ?_
            refine w_cw (np := 85) (as := [eI (i27)]) (l2 := [some (eR a0), some (eI (i27))]) (rest := [eI (v67), eR a0]) rfl rfl rfl (Nat.ble_eq.mp rfl) rfl rfl rfl (I64.kd gA0 (by decide) (n := 15) rfl) rfl ?_
            refine w_t (np := 1) (l2 := [some (eR a0), some (eI (i27))]) (s2 := [eR a0]) rfl (s_an rfl (pos_g I64 gA0 (by decide))) rfl ?_
            refine w_gf (np := 4) (v := eR v52) rfl rfl (I64.kd gA0 (by decide) (n := 15) rfl) (by rw [(W65.slot e53 (by decide))]; rfl) ?_
            refine w_t (np := 5) (l2 := [some (eR a0), some (eI (i27))]) (s2 := [eI (i27), eR v52]) rfl rfl rfl ?_
            refine j_al (np := 6) rfl rfl I64 b54 (by decide) (n := 2670) rfl rfl (lo := -1) (hi := 2669) (fun _ => rfl) (by omega) (by omega) ?_
            intro v70 e71 b72
            have e71 := e71.symm.trans (W65.addr e57 gA0 b54 (by decide))
            rw [e71]
            refine b_ilt (t1 := 19) (t2 := 9) rfl rfl rfl (ev_w_in (by omega) (by omega)) (fun g73 => ?_) (fun g73 => False.elim (by omega))
            refine w_t (np := 20) (l2 := [some (eR a0), some (eI (i27))]) (s2 := [eI (1)]) rfl rfl rfl ?_
            refine w_go (t1 := 24) rfl rfl ?_
            refine b_rz rfl rfl (Or.inr rfl) ?_
            show ex_q (dt_fg L ρ) rc (d + 3, (112, 85, [some (eR a0), some (eI (i27))], [eI (1), eI (v67), eR a0]), f :: F, m63)
            refine b_ieq (t1 := 102) (t2 := 88) rfl rfl rfl rfl (fun g74 => absurd g74 (by decide)) (fun g74 => ?_)
            refine w_t (np := 89) (l2 := [some (eR a0), some (eI (i27))]) (s2 := [eR a0, eI (v67), eR a0]) rfl (s_an rfl (pos_g I64 gA0 (by decide))) rfl ?_
            refine w_t (np := 90) (l2 := [some (eR a0), some (eI (i27))]) (s2 := [eI (i27), eR a0, eI (v67), eR a0]) rfl rfl rfl ?_
            refine w_t (np := 91) (l2 := [some (eR a0), some (eI (i27))]) (s2 := [eI (3), eI (i27), eR a0, eI (v67), eR a0]) rfl rfl rfl ?_
            obtain ⟨v75, e76, b77⟩ := h_idiv (a := i27) (k := 3) (by decide) (by decide) (show (-2147483648 : Int) ≤ i27 ∧ (i27 : Int) ≤ 2147483647 by omega)
            have b78 : 0 ≤ v75 ∧ v75 ≤ 889 := by omega
            refine w_t (np := 92) (l2 := [some (eR a0), some (eI (i27))]) (s2 := [eI (v75), eR a0, eI (v67), eR a0]) rfl (e76 _ _) rfl ?_
            refine w_cw (np := 95) (as := [eI (v75)]) (l2 := [some (eR a0), some (eI (v75)), none, none]) (rest := [eI (v67), eR a0]) rfl rfl rfl (Nat.ble_eq.mp rfl) rfl rfl rfl (I64.kd gA0 (by decide) (n := 15) rfl) rfl ?_
            refine s_117 (a1 := v75) I64 gA0 (by omega) ?_
            intro v79 b80
            show ex_q (dt_fg L ρ) rc (d + 3, (112, 95, [some (eR a0), some (eI (i27))], [eI (v79), eI (v67), eR a0]), f :: F, m63)
            refine b_ilt (t1 := 102) (t2 := 98) rfl rfl rfl (ev_w_in (by omega) (by omega)) (fun g81 => ?_) (fun g81 => ?_)
            · have b82 : -1 ≤ v79 ∧ v79 ≤ -1 := by omega
              refine w_t (np := 103) (l2 := [some (eR a0), some (eI (i27))]) (s2 := [eI (0), eI (v67), eR a0]) rfl rfl rfl ?_
              refine w_t (np := 104) (l2 := [some (eR a0), some (eI (i27))]) (s2 := [eI (v67), eR a0]) rfl (b_iadd (by rw [Int.add_zero]; exact ev_w_in (by omega) (by omega))) rfl ?_
              refine j_pf (np := 107) (w := v67) rfl rfl I64 gA0 (by decide) (n := 15) rfl rfl (hO_i (lo := -2147483648) (hi := 2147483647) rfl (by omega)) ?_
              intro m82 I83 W84
              have F85 : Fr l_112 0 0 g μ m82 := F66.w W84 gA0 rfl
              refine w_go (t1 := 139) rfl rfl ?_
              obtain ⟨v86, e87⟩ : ∃ zz : Int, zz = (i27) + (1) := ⟨_, rfl⟩
              have b88 : 1 ≤ v86 ∧ v86 ≤ 2670 := by omega
              refine w_t (np := 142) (l2 := [some (eR a0), some (eI (v86))]) (s2 := []) rfl (b_iinc rfl (by rw [← e87]; exact ev_w_in (by omega) (by omega)) rfl) rfl ?_
              refine w_go (t1 := 32) rfl rfl ?_
              exact ih26 (2670 - (v86)).toNat (by omega) m82 (v86) I83 F85 (by omega)     rfl
            · have b82 : 0 ≤ v79 ∧ v79 ≤ 889 := by omega
              refine w_t (np := 99) (l2 := [some (eR a0), some (eI (i27))]) (s2 := [eI (1), eI (v67), eR a0]) rfl rfl rfl ?_
              refine w_go (t1 := 103) rfl rfl ?_
              obtain ⟨v82, e83, b84⟩ : ∃ zz : Int, ev_w ((v67) + (1)) = zz ∧ (-2147483648 ≤ zz ∧ zz ≤ 2147483647) := ⟨_, rfl, hw_bd _⟩
              refine w_t (np := 104) (l2 := [some (eR a0), some (eI (i27))]) (s2 := [eI (v82), eR a0]) rfl (b_iadd e83) rfl ?_
              refine j_pf (np := 107) (w := v82) rfl rfl I64 gA0 (by decide) (n := 15) rfl rfl (hO_i (lo := -2147483648) (hi := 2147483647) rfl (by omega)) ?_
              intro m85 I86 W87
              have F88 : Fr l_112 0 0 g μ m85 := F66.w W87 gA0 rfl
              refine w_go (t1 := 139) rfl rfl ?_
              obtain ⟨v89, e90⟩ : ∃ zz : Int, zz = (i27) + (1) := ⟨_, rfl⟩
              have b91 : 1 ≤ v89 ∧ v89 ≤ 2670 := by omega
              refine w_t (np := 142) (l2 := [some (eR a0), some (eI (v89))]) (s2 := []) rfl (b_iinc rfl (by rw [← e90]; exact ev_w_in (by omega) (by omega)) rfl) rfl ?_
              refine w_go (t1 := 32) rfl rfl ?_
              exact ih26 (2670 - (v89)).toNat (by omega) m85 (v89) I86 F88 (by omega)     rfl
  exact hL32 _ m21 (0) I22 F24 (by decide)     rfl
theorem s_141 {L : Nat} {ρ : Nat → Int} {rc : eQ} {d : Nat} {f : eFr} {F : List eFr} {μ : eM} {g : Nat → Nat} {a0 : Nat} {a1 : Int} {a2 : Int} (hI : SI g μ) (gA0 : g a0 = 29) (bA1 : 0 ≤ a1 ∧ a1 ≤ 23) (bA2 : 0 ≤ a2 ∧ a2 ≤ 23) (K : ∀ (v : Int), (0 ≤ v ∧ v ≤ 1) → ex_q (dt_fg L ρ) rc (d + 4, (f.1, f.2.1, f.2.2.1, eI v :: f.2.2.2), F, μ)) : ex_q (dt_fg L ρ) rc (d + 3, (141, 0, [some (eR a0), some (eI (a1)), some (eI (a2))], []), f :: F, μ) := by
  refine w_t (np := 1) (l2 := [some (eR a0), some (eI (a1)), some (eI (a2))]) (s2 := [eR a0]) rfl (s_an rfl (pos_g hI gA0 (by decide))) rfl ?_
  refine w_t (np := 2) (l2 := [some (eR a0), some (eI (a1)), some (eI (a2))]) (s2 := [eI (a1), eR a0]) rfl rfl rfl ?_
  refine w_t (np := 3) (l2 := [some (eR a0), some (eI (a1)), some (eI (a2))]) (s2 := [eI (a2), eI (a1), eR a0]) rfl rfl rfl ?_
  refine w_cw (np := 6) (as := [eI (a1), eI (a2)]) (l2 := [some (eR a0), some (eI (a1)), some (eI (a2)), none, none, none, none, none, none]) (rest := []) rfl rfl rfl (Nat.ble_eq.mp rfl) rfl rfl rfl (hI.kd gA0 (by decide) (n := 7) rfl) rfl ?_
  refine s_142 (a1 := a1) (a2 := a2) hI gA0 (by omega) (by omega) ?_
  intro v1 b2
  show ex_q (dt_fg L ρ) rc (d + 3, (141, 6, [some (eR a0), some (eI (a1)), some (eI (a2))], [eI (v1)]), f :: F, μ)
  refine b_ine (t1 := 18) (t2 := 9) rfl rfl rfl (ev_w_in (by omega) (by omega)) (fun g3 => ?_) (fun g3 => ?_)
  · have b4 : 1 ≤ v1 ∧ v1 ≤ 1 := by omega
    refine w_t (np := 19) (l2 := [some (eR a0), some (eI (a1)), some (eI (a2))]) (s2 := [eR a0]) rfl (s_an rfl (pos_g hI gA0 (by decide))) rfl ?_
    refine w_t (np := 20) (l2 := [some (eR a0), some (eI (a1)), some (eI (a2))]) (s2 := [eI (a1), eR a0]) rfl rfl rfl ?_
    refine w_t (np := 21) (l2 := [some (eR a0), some (eI (a1)), some (eI (a2))]) (s2 := [eI (a2), eI (a1), eR a0]) rfl rfl rfl ?_
    refine w_cw (np := 24) (as := [eI (a1), eI (a2)]) (l2 := [some (eR a0), some (eI (a1)), some (eI (a2)), none, none, none, none]) (rest := []) rfl rfl rfl (Nat.ble_eq.mp rfl) rfl rfl rfl (hI.kd gA0 (by decide) (n := 7) rfl) rfl ?_
    refine s_143 (a1 := a1) (a2 := a2) hI gA0 (by omega) (by omega) ?_
    intro v4 b5
    show ex_q (dt_fg L ρ) rc (d + 3, (141, 24, [some (eR a0), some (eI (a1)), some (eI (a2))], [eI (v4)]), f :: F, μ)
    refine b_ine (t1 := 36) (t2 := 27) rfl rfl rfl (ev_w_in (by omega) (by omega)) (fun g6 => ?_) (fun g6 => ?_)
    · have b7 : 1 ≤ v4 ∧ v4 ≤ 1 := by omega
      refine w_t (np := 37) (l2 := [some (eR a0), some (eI (a1)), some (eI (a2))]) (s2 := [eI (1)]) rfl rfl rfl ?_
      refine w_go (t1 := 41) rfl rfl ?_
      exact b_rz rfl rfl (Or.inr rfl) (K (1) (by decide))
    · have b7 : 0 ≤ v4 ∧ v4 ≤ 0 := by omega
      refine w_t (np := 28) (l2 := [some (eR a0), some (eI (a1)), some (eI (a2))]) (s2 := [eR a0]) rfl (s_an rfl (pos_g hI gA0 (by decide))) rfl ?_
      refine w_t (np := 29) (l2 := [some (eR a0), some (eI (a1)), some (eI (a2))]) (s2 := [eI (a2), eR a0]) rfl rfl rfl ?_
      refine w_t (np := 30) (l2 := [some (eR a0), some (eI (a1)), some (eI (a2))]) (s2 := [eI (a1), eI (a2), eR a0]) rfl rfl rfl ?_
      refine w_cw (np := 33) (as := [eI (a2), eI (a1)]) (l2 := [some (eR a0), some (eI (a2)), some (eI (a1)), none, none, none, none]) (rest := []) rfl rfl rfl (Nat.ble_eq.mp rfl) rfl rfl rfl (hI.kd gA0 (by decide) (n := 7) rfl) rfl ?_
      refine s_143 (a1 := a2) (a2 := a1) hI gA0 (by omega) (by omega) ?_
      intro v7 b8
      show ex_q (dt_fg L ρ) rc (d + 3, (141, 33, [some (eR a0), some (eI (a1)), some (eI (a2))], [eI (v7)]), f :: F, μ)
      refine b_ieq (t1 := 40) (t2 := 36) rfl rfl rfl (ev_w_in (by omega) (by omega)) (fun g9 => ?_) (fun g9 => ?_)
      · have b10 : 0 ≤ v7 ∧ v7 ≤ 0 := by omega
        refine w_t (np := 41) (l2 := [some (eR a0), some (eI (a1)), some (eI (a2))]) (s2 := [eI (0)]) rfl rfl rfl ?_
        exact b_rz rfl rfl (Or.inl rfl) (K (0) (by decide))
      · have b10 : 1 ≤ v7 ∧ v7 ≤ 1 := by omega
        refine w_t (np := 37) (l2 := [some (eR a0), some (eI (a1)), some (eI (a2))]) (s2 := [eI (1)]) rfl rfl rfl ?_
        refine w_go (t1 := 41) rfl rfl ?_
        exact b_rz rfl rfl (Or.inr rfl) (K (1) (by decide))
  · have b4 : 0 ≤ v1 ∧ v1 ≤ 0 := by omega
    refine w_t (np := 10) (l2 := [some (eR a0), some (eI (a1)), some (eI (a2))]) (s2 := [eR a0]) rfl (s_an rfl (pos_g hI gA0 (by decide))) rfl ?_
    refine w_t (np := 11) (l2 := [some (eR a0), some (eI (a1)), some (eI (a2))]) (s2 := [eI (a2), eR a0]) rfl rfl rfl ?_
    refine w_t (np := 12) (l2 := [some (eR a0), some (eI (a1)), some (eI (a2))]) (s2 := [eI (a1), eI (a2), eR a0]) rfl rfl rfl ?_
    refine w_cw (np := 15) (as := [eI (a2), eI (a1)]) (l2 := [some (eR a0), some (eI (a2)), some (eI (a1)), none, none, none, none, none, none]) (rest := []) rfl rfl rfl (Nat.ble_eq.mp rfl) rfl rfl rfl (hI.kd gA0 (by decide) (n := 7) rfl) rfl ?_
    refine s_142 (a1 := a2) (a2 := a1) hI gA0 (by omega) (by omega) ?_
    intro v4 b5
    show ex_q (dt_fg L ρ) rc (d + 3, (141, 15, [some (eR a0), some (eI (a1)), some (eI (a2))], [eI (v4)]), f :: F, μ)
    refine b_ieq (t1 := 36) (t2 := 18) rfl rfl rfl (ev_w_in (by omega) (by omega)) (fun g6 => ?_) (fun g6 => ?_)
    · have b7 : 0 ≤ v4 ∧ v4 ≤ 0 := by omega
      refine w_t (np := 37) (l2 := [some (eR a0), some (eI (a1)), some (eI (a2))]) (s2 := [eI (1)]) rfl rfl rfl ?_
      refine w_go (t1 := 41) rfl rfl ?_
      exact b_rz rfl rfl (Or.inr rfl) (K (1) (by decide))
    · have b7 : 1 ≤ v4 ∧ v4 ≤ 1 := by omega
      refine w_t (np := 19) (l2 := [some (eR a0), some (eI (a1)), some (eI (a2))]) (s2 := [eR a0]) rfl (s_an rfl (pos_g hI gA0 (by decide))) rfl ?_
      refine w_t (np := 20) (l2 := [some (eR a0), some (eI (a1)), some (eI (a2))]) (s2 := [eI (a1), eR a0]) rfl rfl rfl ?_
      refine w_t (np := 21) (l2 := [some (eR a0), some (eI (a1)), some (eI (a2))]) (s2 := [eI (a2), eI (a1), eR a0]) rfl rfl rfl ?_
      refine w_cw (np := 24) (as := [eI (a1), eI (a2)]) (l2 := [some (eR a0), some (eI (a1)), some (eI (a2)), none, none, none, none]) (rest := []) rfl rfl rfl (Nat.ble_eq.mp rfl) rfl rfl rfl (hI.kd gA0 (by decide) (n := 7) rfl) rfl ?_
      refine s_143 (a1 := a1) (a2 := a2) hI gA0 (by omega) (by omega) ?_
      intro v7 b8
      show ex_q (dt_fg L ρ) rc (d + 3, (141, 24, [some (eR a0), some (eI (a1)), some (eI (a2))], [eI (v7)]), f :: F, μ)
      refine b_ine (t1 := 36) (t2 := 27) rfl rfl rfl (ev_w_in (by omega) (by omega)) (fun g9 => ?_) (fun g9 => ?_)
      · have b10 : 1 ≤ v7 ∧ v7 ≤ 1 := by omega
        refine w_t (np := 37) (l2 := [some (eR a0), some (eI (a1)), some (eI (a2))]) (s2 := [eI (1)]) rfl rfl rfl ?_
        refine w_go (t1 := 41) rfl rfl ?_
        exact b_rz rfl rfl (Or.inr rfl) (K (1) (by decide))
      · have b10 : 0 ≤ v7 ∧ v7 ≤ 0 := by omega
        refine w_t (np := 28) (l2 := [some (eR a0), some (eI (a1)), some (eI (a2))]) (s2 := [eR a0]) rfl (s_an rfl (pos_g hI gA0 (by decide))) rfl ?_
        refine w_t (np := 29) (l2 := [some (eR a0), some (eI (a1)), some (eI (a2))]) (s2 := [eI (a2), eR a0]) rfl rfl rfl ?_
        refine w_t (np := 30) (l2 := [some (eR a0), some (eI (a1)), some (eI (a2))]) (s2 := [eI (a1), eI (a2), eR a0]) rfl rfl rfl ?_
        refine w_cw (np := 33) (as := [eI (a2), eI (a1)]) (l2 := [some (eR a0), some (eI (a2)), some (eI (a1)), none, none, none, none]) (rest := []) rfl rfl rfl (Nat.ble_eq.mp rfl) rfl rfl rfl (hI.kd gA0 (by decide) (n := 7) rfl) rfl ?_
        refine s_143 (a1 := a2) (a2 := a1) hI gA0 (by omega) (by omega) ?_
        intro v10 b11
        show ex_q (dt_fg L ρ) rc (d + 3, (141, 33, [some (eR a0), some (eI (a1)), some (eI (a2))], [eI (v10)]), f :: F, μ)
        refine b_ieq (t1 := 40) (t2 := 36) rfl rfl rfl (ev_w_in (by omega) (by omega)) (fun g12 => ?_) (fun g12 => ?_)
        · have b13 : 0 ≤ v10 ∧ v10 ≤ 0 := by omega
          refine w_t (np := 41) (l2 := [some (eR a0), some (eI (a1)), some (eI (a2))]) (s2 := [eI (0)]) rfl rfl rfl ?_
          exact b_rz rfl rfl (Or.inl rfl) (K (0) (by decide))
        · have b13 : 1 ≤ v10 ∧ v10 ≤ 1 := by omega
          refine w_t (np := 37) (l2 := [some (eR a0), some (eI (a1)), some (eI (a2))]) (s2 := [eI (1)]) rfl rfl rfl ?_
          refine w_go (t1 := 41) rfl rfl ?_
          exact b_rz rfl rfl (Or.inr rfl) (K (1) (by decide))
def l_192 : List Nat := [270, 5124, 5125, 5126, 5127, 5128, 5129, 5632, 5888]
theorem s_192 {L : Nat} {ρ : Nat → Int} {rc : eQ} {d : Nat} {f : eFr} {F : List eFr} {μ : eM} {g : Nat → Nat} {a0 : Nat} {a1 : Int} (hI : SI g μ) (gA0 : g a0 = 1) (bA1 : -2147483648 ≤ a1 ∧ a1 ≤ 2147483647) (K : ∀ (μ2 : eM) (v : Int), SI g μ2 → Fr l_192 0 0 g μ μ2 → (-2147483648 ≤ v ∧ v ≤ 2147483647) → ex_q (dt_fg L ρ) rc (d + 6, (f.1, f.2.1, f.2.2.1, eI v :: f.2.2.2), F, μ2)) : ex_q (dt_fg L ρ) rc (d + 5, (192, 0, [some (eR a0), some (eI (a1))], []), f :: F, μ) := by
  have F0 : Fr l_192 0 0 g μ μ := Fr.r
  refine w_t (np := 1) (l2 := [some (eR a0), some (eI (a1))]) (s2 := [eR a0]) rfl (s_an rfl (pos_g hI gA0 (by decide))) rfl ?_
  refine j_gr (np := 4) rfl rfl hI gA0 (by decide) (n := 14) rfl rfl rfl ?_
  intro v1 e2 b3 z4
  have b3 : g v1 = 29 := Nat.eq_of_beq_eq_true b3
  refine w_t (np := 5) (l2 := [some (eR a0), some (eI (a1))]) (s2 := [eI (a1), eR v1]) rfl rfl rfl ?_
  refine w_cw (np := 8) (as := [eI (a1)]) (l2 := [some (eR v1), some (eI (a1))]) (rest := []) rfl rfl rfl (Nat.ble_eq.mp rfl) rfl rfl rfl (hI.kd b3 (by decide) (n := 7) rfl) rfl ?_
  refine w_t (np := 1) (l2 := [some (eR v1), some (eI (a1))]) (s2 := [eI (a1)]) rfl rfl rfl ?_
  refine b_ilt (t1 := 12) (t2 := 4) rfl rfl rfl (ev_w_in (by omega) (by omega)) (fun g5 => ?_) (fun g5 => ?_)
  · have b6 : -2147483648 ≤ a1 ∧ a1 ≤ -1 := by omega
    refine w_t (np := 13) (l2 := [some (eR v1), some (eI (a1))]) (s2 := [eI (1)]) rfl rfl rfl ?_
    refine w_go (t1 := 17) rfl rfl ?_
    refine b_rz rfl rfl (Or.inr rfl) ?_
    show ex_q (dt_fg L ρ) rc (d + 5, (192, 8, [some (eR a0), some (eI (a1))], [eI (1)]), f :: F, μ)
    refine b_ieq (t1 := 17) (t2 := 11) rfl rfl rfl rfl (fun g6 => absurd g6 (by decide)) (fun g6 => ?_)
    refine w_t (np := 12) (l2 := [some (eR a0), some (eI (a1))]) (s2 := [eR a0]) rfl (s_an rfl (pos_g hI gA0 (by decide))) rfl ?_
    refine w_t (np := 13) (l2 := [some (eR a0), some (eI (a1))]) (s2 := [eI (2), eR a0]) rfl rfl rfl ?_
    refine w_cw (np := 16) (as := [eI (2)]) (l2 := [some (eR a0), some (eI (2))]) (rest := []) rfl rfl rfl (Nat.ble_eq.mp rfl) rfl rfl rfl (hI.kd gA0 (by decide) (n := 14) rfl) rfl ?_
    refine w_t (np := 1) (l2 := [some (eR a0), some (eI (2))]) (s2 := [eR a0]) rfl (s_an rfl (pos_g hI gA0 (by decide))) rfl ?_
    refine w_t (np := 2) (l2 := [some (eR a0), some (eI (2))]) (s2 := [eI (2), eR a0]) rfl rfl rfl ?_
    refine j_pf (np := 5) (w := 2) rfl rfl hI gA0 (by decide) (n := 14) rfl rfl (hO_i (lo := -2147483648) (hi := 2147483647) rfl (by decide)) ?_
    intro m7 I8 W9
    have F10 : Fr l_192 0 0 g μ m7 := F0.w W9 gA0 rfl
    refine w_t (np := 6) (l2 := [some (eR a0), some (eI (2))]) (s2 := [eI (-1)]) rfl rfl rfl ?_
    refine b_ri rfl rfl ?_
    show ex_q (dt_fg L ρ) rc (d + 5, (192, 16, [some (eR a0), some (eI (a1))], [eI (-1)]), f :: F, m7)
    exact b_ri rfl rfl (K m7 (-1) I8 F10 (by decide))
  · have b6 : 0 ≤ a1 ∧ a1 ≤ 2147483647 := by omega
    refine w_t (np := 5) (l2 := [some (eR v1), some (eI (a1))]) (s2 := [eI (a1)]) rfl rfl rfl ?_
    refine w_t (np := 6) (l2 := [some (eR v1), some (eI (a1))]) (s2 := [eR v1, eI (a1)]) rfl (s_an rfl (pos_g hI b3 (by decide))) rfl ?_
    refine j_gi (np := 9) rfl rfl rfl hI b3 (by decide) (n := 7) rfl rfl (lo := 0) (hi := 96) rfl ?_
    intro v6 e7 b8
    refine b_clt (t1 := 16) (t2 := 12) rfl rfl rfl (ev_w_in (by omega) (by omega)) (ev_w_in (by omega) (by omega)) (fun g9 => ?_) (fun g9 => ?_)
    · have b10 : 0 ≤ a1 ∧ a1 ≤ 95 := by omega
      have b11 : 1 ≤ v6 ∧ v6 ≤ 96 := by omega
      refine w_t (np := 17) (l2 := [some (eR v1), some (eI (a1))]) (s2 := [eI (0)]) rfl rfl rfl ?_
      refine b_rz rfl rfl (Or.inl rfl) ?_
      show ex_q (dt_fg L ρ) rc (d + 5, (192, 8, [some (eR a0), some (eI (a1))], [eI (0)]), f :: F, μ)
      refine b_ieq (t1 := 17) (t2 := 11) rfl rfl rfl rfl (fun g10 => ?_) (fun g10 => absurd g10 (by decide))
      refine w_t (np := 18) (l2 := [some (eR a0), some (eI (a1))]) (s2 := [eR a0]) rfl (s_an rfl (pos_g hI gA0 (by decide))) rfl ?_
      refine j_gr (np := 21) rfl rfl hI gA0 (by decide) (n := 14) rfl rfl rfl ?_
      intro v11 e12 b13 z14
      have b13 : g v11 = 20 := Nat.eq_of_beq_eq_true b13
      refine w_t (np := 22) (l2 := [some (eR a0), some (eI (a1))]) (s2 := [eR a0, eR v11]) rfl (s_an rfl (pos_g hI gA0 (by decide))) rfl ?_
      refine w_gf (np := 25) (v := eR v1) rfl rfl (hI.kd gA0 (by decide) (n := 14) rfl) (by rw [e2]; rfl) ?_
      refine w_t (np := 26) (l2 := [some (eR a0), some (eI (a1))]) (s2 := [eI (a1), eR v1, eR v11]) rfl rfl rfl ?_
      refine w_cw (np := 29) (as := [eR v1, eI (a1)]) (l2 := [some (eR v11), some (eR v1), some (eI (a1)), none, none, none, none]) (rest := []) rfl rfl rfl (Nat.ble_eq.mp rfl) rfl rfl rfl (hI.kd b13 (by decide) (n := 9) rfl) rfl ?_
      refine s_93 (a2 := a1) hI b13 b3 (by omega) ?_
      intro m15 I16 F17
      have F18 : Fr l_192 0 0 g μ m15 := F0.t F17 rfl
      show ex_q (dt_fg L ρ) rc (d + 5, (192, 29, [some (eR a0), some (eI (a1))], []), f :: F, m15)
      refine w_t (np := 30) (l2 := [some (eR a0), some (eI (a1))]) (s2 := [eR a0]) rfl (s_an rfl (pos_g I16 gA0 (by decide))) rfl ?_
      refine w_t (np := 31) (l2 := [some (eR a0), some (eI (a1))]) (s2 := [eR a0, eR a0]) rfl (s_an rfl (pos_g I16 gA0 (by decide))) rfl ?_
      refine w_gf (np := 34) (v := eR v11) rfl rfl (I16.kd gA0 (by decide) (n := 14) rfl) (by rw [(F17.k e12 gA0 (by decide) rfl)]; rfl) ?_
      refine j_gi (np := 37) rfl rfl rfl I16 b13 (by decide) (n := 9) rfl rfl (lo := -2147483648) (hi := 2147483647) rfl ?_
      intro v19 e20 b21
      refine w_cw (np := 40) (as := [eI (v19)]) (l2 := [some (eR a0), some (eI (v19))]) (rest := []) rfl rfl rfl (Nat.ble_eq.mp rfl) rfl rfl rfl (I16.kd gA0 (by decide) (n := 14) rfl) rfl ?_
      refine w_t (np := 1) (l2 := [some (eR a0), some (eI (v19))]) (s2 := [eR a0]) rfl (s_an rfl (pos_g I16 gA0 (by decide))) rfl ?_
      refine w_t (np := 2) (l2 := [some (eR a0), some (eI (v19))]) (s2 := [eI (0), eR a0]) rfl rfl rfl ?_
      refine j_pf (np := 5) (w := 0) rfl rfl I16 gA0 (by decide) (n := 14) rfl rfl (hO_i (lo := -2147483648) (hi := 2147483647) rfl (by decide)) ?_
      intro m22 I23 W24
      have F25 : Fr l_192 0 0 g μ m22 := F18.w W24 gA0 rfl
      refine w_t (np := 6) (l2 := [some (eR a0), some (eI (v19))]) (s2 := [eI (v19)]) rfl rfl rfl ?_
      refine b_ri rfl rfl ?_
      show ex_q (dt_fg L ρ) rc (d + 5, (192, 40, [some (eR a0), some (eI (a1))], [eI (v19)]), f :: F, m22)
      exact b_ri rfl rfl (K m22 (v19) I23 F25 (by omega))
    · refine w_t (np := 13) (l2 := [some (eR v1), some (eI (a1))]) (s2 := [eI (1)]) rfl rfl rfl ?_
      refine w_go (t1 := 17) rfl rfl ?_
      refine b_rz rfl rfl (Or.inr rfl) ?_
      show ex_q (dt_fg L ρ) rc (d + 5, (192, 8, [some (eR a0), some (eI (a1))], [eI (1)]), f :: F, μ)
      refine b_ieq (t1 := 17) (t2 := 11) rfl rfl rfl rfl (fun g10 => absurd g10 (by decide)) (fun g10 => ?_)
      refine w_t (np := 12) (l2 := [some (eR a0), some (eI (a1))]) (s2 := [eR a0]) rfl (s_an rfl (pos_g hI gA0 (by decide))) rfl ?_
      refine w_t (np := 13) (l2 := [some (eR a0), some (eI (a1))]) (s2 := [eI (2), eR a0]) rfl rfl rfl ?_
      refine w_cw (np := 16) (as := [eI (2)]) (l2 := [some (eR a0), some (eI (2))]) (rest := []) rfl rfl rfl (Nat.ble_eq.mp rfl) rfl rfl rfl (hI.kd gA0 (by decide) (n := 14) rfl) rfl ?_
      refine w_t (np := 1) (l2 := [some (eR a0), some (eI (2))]) (s2 := [eR a0]) rfl (s_an rfl (pos_g hI gA0 (by decide))) rfl ?_
      refine w_t (np := 2) (l2 := [some (eR a0), some (eI (2))]) (s2 := [eI (2), eR a0]) rfl rfl rfl ?_
      refine j_pf (np := 5) (w := 2) rfl rfl hI gA0 (by decide) (n := 14) rfl rfl (hO_i (lo := -2147483648) (hi := 2147483647) rfl (by decide)) ?_
      intro m11 I12 W13
      have F14 : Fr l_192 0 0 g μ m11 := F0.w W13 gA0 rfl
      refine w_t (np := 6) (l2 := [some (eR a0), some (eI (2))]) (s2 := [eI (-1)]) rfl rfl rfl ?_
      refine b_ri rfl rfl ?_
      show ex_q (dt_fg L ρ) rc (d + 5, (192, 16, [some (eR a0), some (eI (a1))], [eI (-1)]), f :: F, m11)
      exact b_ri rfl rfl (K m11 (-1) I12 F14 (by decide))
def l_193 : List Nat := [270, 5124, 5125, 5126, 5127, 5128, 5129, 5632, 5888]
theorem s_193 {L : Nat} {ρ : Nat → Int} {rc : eQ} {d : Nat} {f : eFr} {F : List eFr} {μ : eM} {g : Nat → Nat} {a0 : Nat} {a1 : Int} {a2 : Int} (hI : SI g μ) (gA0 : g a0 = 1) (bA1 : -2147483648 ≤ a1 ∧ a1 ≤ 2147483647) (bA2 : -2147483648 ≤ a2 ∧ a2 ≤ 2147483647) (K : ∀ (μ2 : eM) (v : Int), SI g μ2 → Fr l_193 0 0 g μ μ2 → (-2147483648 ≤ v ∧ v ≤ 2147483647) → ex_q (dt_fg L ρ) rc (d + 6, (f.1, f.2.1, f.2.2.1, eI v :: f.2.2.2), F, μ2)) : ex_q (dt_fg L ρ) rc (d + 5, (193, 0, [some (eR a0), some (eI (a1)), some (eI (a2))], []), f :: F, μ) := by
  have F0 : Fr l_193 0 0 g μ μ := Fr.r
  refine w_t (np := 1) (l2 := [some (eR a0), some (eI (a1)), some (eI (a2))]) (s2 := [eI (a2)]) rfl rfl rfl ?_
  refine b_ilt (t1 := 9) (t2 := 4) rfl rfl rfl (ev_w_in (by omega) (by omega)) (fun g1 => ?_) (fun g1 => ?_)
  · have b2 : -2147483648 ≤ a2 ∧ a2 ≤ -1 := by omega
    refine w_t (np := 10) (l2 := [some (eR a0), some (eI (a1)), some (eI (a2))]) (s2 := [eR a0]) rfl (s_an rfl (pos_g hI gA0 (by decide))) rfl ?_
    refine w_t (np := 11) (l2 := [some (eR a0), some (eI (a1)), some (eI (a2))]) (s2 := [eI (1), eR a0]) rfl rfl rfl ?_
    refine w_cw (np := 14) (as := [eI (1)]) (l2 := [some (eR a0), some (eI (1))]) (rest := []) rfl rfl rfl (Nat.ble_eq.mp rfl) rfl rfl rfl (hI.kd gA0 (by decide) (n := 14) rfl) rfl ?_
    refine w_t (np := 1) (l2 := [some (eR a0), some (eI (1))]) (s2 := [eR a0]) rfl (s_an rfl (pos_g hI gA0 (by decide))) rfl ?_
    refine w_t (np := 2) (l2 := [some (eR a0), some (eI (1))]) (s2 := [eI (1), eR a0]) rfl rfl rfl ?_
    refine j_pf (np := 5) (w := 1) rfl rfl hI gA0 (by decide) (n := 14) rfl rfl (hO_i (lo := -2147483648) (hi := 2147483647) rfl (by decide)) ?_
    intro m2 I3 W4
    have F5 : Fr l_193 0 0 g μ m2 := F0.w W4 gA0 rfl
    refine w_t (np := 6) (l2 := [some (eR a0), some (eI (1))]) (s2 := [eI (-1)]) rfl rfl rfl ?_
    refine b_ri rfl rfl ?_
    show ex_q (dt_fg L ρ) rc (d + 5, (193, 14, [some (eR a0), some (eI (a1)), some (eI (a2))], [eI (-1)]), f :: F, m2)
    exact b_ri rfl rfl (K m2 (-1) I3 F5 (by decide))
  · have b2 : 0 ≤ a2 ∧ a2 ≤ 2147483647 := by omega
    refine w_t (np := 5) (l2 := [some (eR a0), some (eI (a1)), some (eI (a2))]) (s2 := [eI (a2)]) rfl rfl rfl ?_
    refine w_t (np := 6) (l2 := [some (eR a0), some (eI (a1)), some (eI (a2))]) (s2 := [eI (1), eI (a2)]) rfl rfl rfl ?_
    refine b_cle (t1 := 15) (t2 := 9) rfl rfl rfl (ev_w_in (by omega) (by omega)) rfl (fun g2 => ?_) (fun g2 => ?_)
    · have b3 : 0 ≤ a2 ∧ a2 ≤ 1 := by omega
      refine w_t (np := 16) (l2 := [some (eR a0), some (eI (a1)), some (eI (a2))]) (s2 := [eR a0]) rfl (s_an rfl (pos_g hI gA0 (by decide))) rfl ?_
      refine j_gr (np := 19) rfl rfl hI gA0 (by decide) (n := 14) rfl rfl rfl ?_
      intro v3 e4 b5 z6
      have b5 : g v3 = 29 := Nat.eq_of_beq_eq_true b5
      refine w_t (np := 20) (l2 := [some (eR a0), some (eI (a1)), some (eI (a2))]) (s2 := [eI (a1), eR v3]) rfl rfl rfl ?_
      refine w_cw (np := 23) (as := [eI (a1)]) (l2 := [some (eR v3), some (eI (a1))]) (rest := []) rfl rfl rfl (Nat.ble_eq.mp rfl) rfl rfl rfl (hI.kd b5 (by decide) (n := 7) rfl) rfl ?_
      refine w_t (np := 1) (l2 := [some (eR v3), some (eI (a1))]) (s2 := [eI (a1)]) rfl rfl rfl ?_
      refine b_ilt (t1 := 12) (t2 := 4) rfl rfl rfl (ev_w_in (by omega) (by omega)) (fun g7 => ?_) (fun g7 => ?_)
      · have b8 : -2147483648 ≤ a1 ∧ a1 ≤ -1 := by omega
        refine w_t (np := 13) (l2 := [some (eR v3), some (eI (a1))]) (s2 := [eI (1)]) rfl rfl rfl ?_
        refine w_go (t1 := 17) rfl rfl ?_
        refine b_rz rfl rfl (Or.inr rfl) ?_
        show ex_q (dt_fg L ρ) rc (d + 5, (193, 23, [some (eR a0), some (eI (a1)), some (eI (a2))], [eI (1)]), f :: F, μ)
        refine b_ieq (t1 := 32) (t2 := 26) rfl rfl rfl rfl (fun g8 => absurd g8 (by decide)) (fun g8 => ?_)
        refine w_t (np := 27) (l2 := [some (eR a0), some (eI (a1)), some (eI (a2))]) (s2 := [eR a0]) rfl (s_an rfl (pos_g hI gA0 (by decide))) rfl ?_
        refine w_t (np := 28) (l2 := [some (eR a0), some (eI (a1)), some (eI (a2))]) (s2 := [eI (2), eR a0]) rfl rfl rfl ?_
        refine w_cw (np := 31) (as := [eI (2)]) (l2 := [some (eR a0), some (eI (2))]) (rest := []) rfl rfl rfl (Nat.ble_eq.mp rfl) rfl rfl rfl (hI.kd gA0 (by decide) (n := 14) rfl) rfl ?_
        refine w_t (np := 1) (l2 := [some (eR a0), some (eI (2))]) (s2 := [eR a0]) rfl (s_an rfl (pos_g hI gA0 (by decide))) rfl ?_
        refine w_t (np := 2) (l2 := [some (eR a0), some (eI (2))]) (s2 := [eI (2), eR a0]) rfl rfl rfl ?_
        refine j_pf (np := 5) (w := 2) rfl rfl hI gA0 (by decide) (n := 14) rfl rfl (hO_i (lo := -2147483648) (hi := 2147483647) rfl (by decide)) ?_
        intro m9 I10 W11
        have F12 : Fr l_193 0 0 g μ m9 := F0.w W11 gA0 rfl
        refine w_t (np := 6) (l2 := [some (eR a0), some (eI (2))]) (s2 := [eI (-1)]) rfl rfl rfl ?_
        refine b_ri rfl rfl ?_
        show ex_q (dt_fg L ρ) rc (d + 5, (193, 31, [some (eR a0), some (eI (a1)), some (eI (a2))], [eI (-1)]), f :: F, m9)
        exact b_ri rfl rfl (K m9 (-1) I10 F12 (by decide))
      · have b8 : 0 ≤ a1 ∧ a1 ≤ 2147483647 := by omega
        refine w_t (np := 5) (l2 := [some (eR v3), some (eI (a1))]) (s2 := [eI (a1)]) rfl rfl rfl ?_
        refine w_t (np := 6) (l2 := [some (eR v3), some (eI (a1))]) (s2 := [eR v3, eI (a1)]) rfl (s_an rfl (pos_g hI b5 (by decide))) rfl ?_
        refine j_gi (np := 9) rfl rfl rfl hI b5 (by decide) (n := 7) rfl rfl (lo := 0) (hi := 96) rfl ?_
        intro v8 e9 b10
        refine b_clt (t1 := 16) (t2 := 12) rfl rfl rfl (ev_w_in (by omega) (by omega)) (ev_w_in (by omega) (by omega)) (fun g11 => ?_) (fun g11 => ?_)
        · have b12 : 0 ≤ a1 ∧ a1 ≤ 95 := by omega
          have b13 : 1 ≤ v8 ∧ v8 ≤ 96 := by omega
          refine w_t (np := 17) (l2 := [some (eR v3), some (eI (a1))]) (s2 := [eI (0)]) rfl rfl rfl ?_
          refine b_rz rfl rfl (Or.inl rfl) ?_
          show ex_q (dt_fg L ρ) rc (d + 5, (193, 23, [some (eR a0), some (eI (a1)), some (eI (a2))], [eI (0)]), f :: F, μ)
          refine b_ieq (t1 := 32) (t2 := 26) rfl rfl rfl rfl (fun g12 => ?_) (fun g12 => absurd g12 (by decide))
          refine w_t (np := 33) (l2 := [some (eR a0), some (eI (a1)), some (eI (a2))]) (s2 := [eR a0]) rfl (s_an rfl (pos_g hI gA0 (by decide))) rfl ?_
          refine j_gr (np := 36) rfl rfl hI gA0 (by decide) (n := 14) rfl rfl rfl ?_
          intro v13 e14 b15 z16
          have b15 : g v13 = 20 := Nat.eq_of_beq_eq_true b15
          refine w_t (np := 37) (l2 := [some (eR a0), some (eI (a1)), some (eI (a2))]) (s2 := [eR a0, eR v13]) rfl (s_an rfl (pos_g hI gA0 (by decide))) rfl ?_
          refine w_gf (np := 40) (v := eR v3) rfl rfl (hI.kd gA0 (by decide) (n := 14) rfl) (by rw [e4]; rfl) ?_
          refine w_t (np := 41) (l2 := [some (eR a0), some (eI (a1)), some (eI (a2))]) (s2 := [eI (a1), eR v3, eR v13]) rfl rfl rfl ?_
          refine w_cw (np := 44) (as := [eR v3, eI (a1)]) (l2 := [some (eR v13), some (eR v3), some (eI (a1)), none, none, none, none]) (rest := []) rfl rfl rfl (Nat.ble_eq.mp rfl) rfl rfl rfl (hI.kd b15 (by decide) (n := 9) rfl) rfl ?_
          refine s_93 (a2 := a1) hI b15 b5 (by omega) ?_
          intro m17 I18 F19
          have F20 : Fr l_193 0 0 g μ m17 := F0.t F19 rfl
          show ex_q (dt_fg L ρ) rc (d + 5, (193, 44, [some (eR a0), some (eI (a1)), some (eI (a2))], []), f :: F, m17)
          refine w_t (np := 45) (l2 := [some (eR a0), some (eI (a1)), some (eI (a2))]) (s2 := [eR a0]) rfl (s_an rfl (pos_g I18 gA0 (by decide))) rfl ?_
          refine w_t (np := 46) (l2 := [some (eR a0), some (eI (a1)), some (eI (a2))]) (s2 := [eI (a2), eR a0]) rfl rfl rfl ?_
          refine b_ine (t1 := 59) (t2 := 49) rfl rfl rfl (ev_w_in (by omega) (by omega)) (fun g21 => ?_) (fun g21 => ?_)
          · have b22 : 1 ≤ a2 ∧ a2 ≤ 1 := by omega
            refine w_t (np := 60) (l2 := [some (eR a0), some (eI (a1)), some (eI (a2))]) (s2 := [eR a0, eR a0]) rfl (s_an rfl (pos_g I18 gA0 (by decide))) rfl ?_
            refine w_gf (np := 63) (v := eR v13) rfl rfl (I18.kd gA0 (by decide) (n := 14) rfl) (by rw [(F19.k e14 gA0 (by decide) rfl)]; rfl) ?_
            refine j_gi (np := 66) rfl rfl rfl I18 b15 (by decide) (n := 9) rfl rfl (lo := -2147483648) (hi := 2147483647) rfl ?_
            intro v22 e23 b24
            refine w_cw (np := 69) (as := [eI (v22)]) (l2 := [some (eR a0), some (eI (v22))]) (rest := []) rfl rfl rfl (Nat.ble_eq.mp rfl) rfl rfl rfl (I18.kd gA0 (by decide) (n := 14) rfl) rfl ?_
            refine w_t (np := 1) (l2 := [some (eR a0), some (eI (v22))]) (s2 := [eR a0]) rfl (s_an rfl (pos_g I18 gA0 (by decide))) rfl ?_
            refine w_t (np := 2) (l2 := [some (eR a0), some (eI (v22))]) (s2 := [eI (0), eR a0]) rfl rfl rfl ?_
            refine j_pf (np := 5) (w := 0) rfl rfl I18 gA0 (by decide) (n := 14) rfl rfl (hO_i (lo := -2147483648) (hi := 2147483647) rfl (by decide)) ?_
            intro m25 I26 W27
            have F28 : Fr l_193 0 0 g μ m25 := F20.w W27 gA0 rfl
            refine w_t (np := 6) (l2 := [some (eR a0), some (eI (v22))]) (s2 := [eI (v22)]) rfl rfl rfl ?_
            refine b_ri rfl rfl ?_
            show ex_q (dt_fg L ρ) rc (d + 5, (193, 69, [some (eR a0), some (eI (a1)), some (eI (a2))], [eI (v22)]), f :: F, m25)
            exact b_ri rfl rfl (K m25 (v22) I26 F28 (by omega))
          · have b22 : 0 ≤ a2 ∧ a2 ≤ 0 := by omega
            refine w_t (np := 50) (l2 := [some (eR a0), some (eI (a1)), some (eI (a2))]) (s2 := [eR a0, eR a0]) rfl (s_an rfl (pos_g I18 gA0 (by decide))) rfl ?_
            refine w_gf (np := 53) (v := eR v13) rfl rfl (I18.kd gA0 (by decide) (n := 14) rfl) (by rw [(F19.k e14 gA0 (by decide) rfl)]; rfl) ?_
            refine j_gi (np := 56) rfl rfl rfl I18 b15 (by decide) (n := 9) rfl rfl (lo := -2147483648) (hi := 2147483647) rfl ?_
            intro v22 e23 b24
            refine w_go (t1 := 66) rfl rfl ?_
            refine w_cw (np := 69) (as := [eI (v22)]) (l2 := [some (eR a0), some (eI (v22))]) (rest := []) rfl rfl rfl (Nat.ble_eq.mp rfl) rfl rfl rfl (I18.kd gA0 (by decide) (n := 14) rfl) rfl ?_
            refine w_t (np := 1) (l2 := [some (eR a0), some (eI (v22))]) (s2 := [eR a0]) rfl (s_an rfl (pos_g I18 gA0 (by decide))) rfl ?_
            refine w_t (np := 2) (l2 := [some (eR a0), some (eI (v22))]) (s2 := [eI (0), eR a0]) rfl rfl rfl ?_
            refine j_pf (np := 5) (w := 0) rfl rfl I18 gA0 (by decide) (n := 14) rfl rfl (hO_i (lo := -2147483648) (hi := 2147483647) rfl (by decide)) ?_
            intro m25 I26 W27
            have F28 : Fr l_193 0 0 g μ m25 := F20.w W27 gA0 rfl
            refine w_t (np := 6) (l2 := [some (eR a0), some (eI (v22))]) (s2 := [eI (v22)]) rfl rfl rfl ?_
            refine b_ri rfl rfl ?_
            show ex_q (dt_fg L ρ) rc (d + 5, (193, 69, [some (eR a0), some (eI (a1)), some (eI (a2))], [eI (v22)]), f :: F, m25)
            exact b_ri rfl rfl (K m25 (v22) I26 F28 (by omega))
        · refine w_t (np := 13) (l2 := [some (eR v3), some (eI (a1))]) (s2 := [eI (1)]) rfl rfl rfl ?_
          refine w_go (t1 := 17) rfl rfl ?_
          refine b_rz rfl rfl (Or.inr rfl) ?_
          show ex_q (dt_fg L ρ) rc (d + 5, (193, 23, [some (eR a0), some (eI (a1)), some (eI (a2))], [eI (1)]), f :: F, μ)
          refine b_ieq (t1 := 32) (t2 := 26) rfl rfl rfl rfl (fun g12 => absurd g12 (by decide)) (fun g12 => ?_)
          refine w_t (np := 27) (l2 := [some (eR a0), some (eI (a1)), some (eI (a2))]) (s2 := [eR a0]) rfl (s_an rfl (pos_g hI gA0 (by decide))) rfl ?_
          refine w_t (np := 28) (l2 := [some (eR a0), some (eI (a1)), some (eI (a2))]) (s2 := [eI (2), eR a0]) rfl rfl rfl ?_
          refine w_cw (np := 31) (as := [eI (2)]) (l2 := [some (eR a0), some (eI (2))]) (rest := []) rfl rfl rfl (Nat.ble_eq.mp rfl) rfl rfl rfl (hI.kd gA0 (by decide) (n := 14) rfl) rfl ?_
          refine w_t (np := 1) (l2 := [some (eR a0), some (eI (2))]) (s2 := [eR a0]) rfl (s_an rfl (pos_g hI gA0 (by decide))) rfl ?_
          refine w_t (np := 2) (l2 := [some (eR a0), some (eI (2))]) (s2 := [eI (2), eR a0]) rfl rfl rfl ?_
          refine j_pf (np := 5) (w := 2) rfl rfl hI gA0 (by decide) (n := 14) rfl rfl (hO_i (lo := -2147483648) (hi := 2147483647) rfl (by decide)) ?_
          intro m13 I14 W15
          have F16 : Fr l_193 0 0 g μ m13 := F0.w W15 gA0 rfl
          refine w_t (np := 6) (l2 := [some (eR a0), some (eI (2))]) (s2 := [eI (-1)]) rfl rfl rfl ?_
          refine b_ri rfl rfl ?_
          show ex_q (dt_fg L ρ) rc (d + 5, (193, 31, [some (eR a0), some (eI (a1)), some (eI (a2))], [eI (-1)]), f :: F, m13)
          exact b_ri rfl rfl (K m13 (-1) I14 F16 (by decide))
    · have b3 : 2 ≤ a2 ∧ a2 ≤ 2147483647 := by omega
      refine w_t (np := 10) (l2 := [some (eR a0), some (eI (a1)), some (eI (a2))]) (s2 := [eR a0]) rfl (s_an rfl (pos_g hI gA0 (by decide))) rfl ?_
      refine w_t (np := 11) (l2 := [some (eR a0), some (eI (a1)), some (eI (a2))]) (s2 := [eI (1), eR a0]) rfl rfl rfl ?_
      refine w_cw (np := 14) (as := [eI (1)]) (l2 := [some (eR a0), some (eI (1))]) (rest := []) rfl rfl rfl (Nat.ble_eq.mp rfl) rfl rfl rfl (hI.kd gA0 (by decide) (n := 14) rfl) rfl ?_
      refine w_t (np := 1) (l2 := [some (eR a0), some (eI (1))]) (s2 := [eR a0]) rfl (s_an rfl (pos_g hI gA0 (by decide))) rfl ?_
      refine w_t (np := 2) (l2 := [some (eR a0), some (eI (1))]) (s2 := [eI (1), eR a0]) rfl rfl rfl ?_
      refine j_pf (np := 5) (w := 1) rfl rfl hI gA0 (by decide) (n := 14) rfl rfl (hO_i (lo := -2147483648) (hi := 2147483647) rfl (by decide)) ?_
      intro m3 I4 W5
      have F6 : Fr l_193 0 0 g μ m3 := F0.w W5 gA0 rfl
      refine w_t (np := 6) (l2 := [some (eR a0), some (eI (1))]) (s2 := [eI (-1)]) rfl rfl rfl ?_
      refine b_ri rfl rfl ?_
      show ex_q (dt_fg L ρ) rc (d + 5, (193, 14, [some (eR a0), some (eI (a1)), some (eI (a2))], [eI (-1)]), f :: F, m3)
      exact b_ri rfl rfl (K m3 (-1) I4 F6 (by decide))
