/-! methods, walked -/
def l_27 : List Nat := [1024, 1280, 1536, 768, 520, 4096, 3328, 4352, 3584, 3843, 3075]
theorem s_27 {L : Nat} {ρ : Nat → Int} {rc : eQ} {d : Nat} {f : eFr} {F : List eFr} {μ : eM} {g : Nat → Nat} {a0 : Nat} {a1 : Int} {a2 : Int} {a4 : Int} {a5 : Int} {co : Int} (hI : SI g μ) (gA0 : g a0 = 2) (bA1 : 0 ≤ a1 ∧ a1 ≤ 1) (bA2 : -9223372036854775808 ≤ a2 ∧ a2 ≤ 9223372036854775807) (bA4 : -2147483648 ≤ a4 ∧ a4 ≤ 2147483647) (bA5 : -2147483648 ≤ a5 ∧ a5 ≤ 2147483647) (h_co : μ.1 a0 7 = co) (hp0 : co ≤ 49) (K : ∀ (μ2 : eM) (co2 : Int), SI g μ2 → Fr l_27 0 0 g μ μ2 → μ2.1 a0 7 = co2 → (co2 = co + 1) → ex_q (dt_fg L ρ) rc (d + 3, (f.1, f.2.1, f.2.2.1, f.2.2.2), F, μ2)) : ex_q (dt_fg L ρ) rc (d + 2, (27, 0, [some (eR a0), some (eI (a1)), some (eJ (a2)), none, some (eI (a4)), some (eI (a5)), none, none], []), f :: F, μ) := by
  have F0 : Fr l_27 0 0 g μ μ := Fr.r
  have b_co : 0 ≤ co ∧ co ≤ 50 := by
    rw [← h_co]
    exact hI.int gA0 (by decide) (n := 8) rfl (by decide) rfl
  refine w_t (np := 1) (l2 := [some (eR a0), some (eI (a1)), some (eJ (a2)), none, some (eI (a4)), some (eI (a5)), none, none]) (s2 := [eR a0]) rfl (s_an rfl (pos_g hI gA0 (by decide))) rfl ?_
  refine j_gr (np := 4) rfl rfl hI gA0 (by decide) (n := 8) rfl rfl rfl ?_
  intro v1 e2 b3 z4
  rcases hor2 b3 with b3 | b3
  · refine w_t (np := 5) (l2 := [some (eR a0), some (eI (a1)), some (eJ (a2)), none, some (eI (a4)), some (eI (a5)), none, none]) (s2 := [eJ (a2), eR v1]) rfl rfl rfl ?_
    refine w_t (np := 7) (l2 := [some (eR a0), some (eI (a1)), some (eJ (a2)), none, some (eI (a4)), some (eI (a5)), none, none]) (s2 := [eI (a4), eJ (a2), eR v1]) rfl rfl rfl ?_
    refine w_cu (np := 10) (as := [eI (a4)]) (l2 := [some (eI (a4))]) (rest := [eJ (a2), eR v1]) rfl rfl rfl (Nat.ble_eq.mp rfl) rfl rfl rfl rfl ?_
    refine s_74 (a0 := a4) hI (by omega) ?_
    intro v5 b6
    show ex_q (dt_fg L ρ) rc (d + 2, (27, 10, [some (eR a0), some (eI (a1)), some (eJ (a2)), none, some (eI (a4)), some (eI (a5)), none, none], [eJ (v5), eJ (a2), eR v1]), f :: F, μ)
    refine w_cu (np := 13) (as := [eJ (a2), eJ (v5)]) (l2 := [some (eJ (a2)), none, some (eJ (v5)), none]) (rest := [eR v1]) rfl rfl rfl (Nat.ble_eq.mp rfl) rfl rfl rfl rfl ?_
    refine s_75 hI bA2 b6 ?_
    intro v7 b8
    show ex_q (dt_fg L ρ) rc (d + 2, (27, 13, [some (eR a0), some (eI (a1)), some (eJ (a2)), none, some (eI (a4)), some (eI (a5)), none, none], [eJ (v7), eR v1]), f :: F, μ)
    refine w_cw (np := 16) (as := [eJ (v7)]) (l2 := [some (eR v1), some (eJ (v7)), none, none]) (rest := []) rfl rfl rfl (Nat.ble_eq.mp rfl) rfl rfl rfl (hI.kd b3 (by decide) (n := 3) rfl) rfl ?_
    refine s_46 hI b3 b8 ?_
    intro m9 v12 I10 F11 b13
    have F14 : Fr l_27 0 0 g μ m9 := F0.t F11 rfl
    show ex_q (dt_fg L ρ) rc (d + 2, (27, 16, [some (eR a0), some (eI (a1)), some (eJ (a2)), none, some (eI (a4)), some (eI (a5)), none, none], [eI (v12)]), f :: F, m9)
    refine w_t (np := 18) (l2 := [some (eR a0), some (eI (a1)), some (eJ (a2)), none, some (eI (a4)), some (eI (a5)), some (eI (v12)), none]) (s2 := []) rfl rfl rfl ?_
    refine w_t (np := 19) (l2 := [some (eR a0), some (eI (a1)), some (eJ (a2)), none, some (eI (a4)), some (eI (a5)), some (eI (v12)), none]) (s2 := [eR a0]) rfl (s_an rfl (pos_g I10 gA0 (by decide))) rfl ?_
    refine w_gf (np := 22) (v := eR v1) rfl rfl (I10.kd gA0 (by decide) (n := 8) rfl) (by rw [(F11.k e2 gA0 (by decide) rfl)]; rfl) ?_
    refine w_t (np := 23) (l2 := [some (eR a0), some (eI (a1)), some (eJ (a2)), none, some (eI (a4)), some (eI (a5)), some (eI (v12)), none]) (s2 := [eJ (a2), eR v1]) rfl rfl rfl ?_
    refine w_t (np := 25) (l2 := [some (eR a0), some (eI (a1)), some (eJ (a2)), none, some (eI (a4)), some (eI (a5)), some (eI (v12)), none]) (s2 := [eI (a5), eJ (a2), eR v1]) rfl rfl rfl ?_
    refine w_cu (np := 28) (as := [eI (a5)]) (l2 := [some (eI (a5))]) (rest := [eJ (a2), eR v1]) rfl rfl rfl (Nat.ble_eq.mp rfl) rfl rfl rfl rfl ?_
    refine s_74 (a0 := a5) I10 (by omega) ?_
    intro v15 b16
    show ex_q (dt_fg L ρ) rc (d + 2, (27, 28, [some (eR a0), some (eI (a1)), some (eJ (a2)), none, some (eI (a4)), some (eI (a5)), some (eI (v12)), none], [eJ (v15), eJ (a2), eR v1]), f :: F, m9)
    refine w_cu (np := 31) (as := [eJ (a2), eJ (v15)]) (l2 := [some (eJ (a2)), none, some (eJ (v15)), none]) (rest := [eR v1]) rfl rfl rfl (Nat.ble_eq.mp rfl) rfl rfl rfl rfl ?_
    refine s_75 I10 bA2 b16 ?_
    intro v17 b18
    show ex_q (dt_fg L ρ) rc (d + 2, (27, 31, [some (eR a0), some (eI (a1)), some (eJ (a2)), none, some (eI (a4)), some (eI (a5)), some (eI (v12)), none], [eJ (v17), eR v1]), f :: F, m9)
    refine w_cw (np := 34) (as := [eJ (v17)]) (l2 := [some (eR v1), some (eJ (v17)), none, none]) (rest := []) rfl rfl rfl (Nat.ble_eq.mp rfl) rfl rfl rfl (I10.kd b3 (by decide) (n := 3) rfl) rfl ?_
    refine s_46 I10 b3 b18 ?_
    intro m19 v22 I20 F21 b23
    have F24 : Fr l_27 0 0 g μ m19 := F14.t F21 rfl
    show ex_q (dt_fg L ρ) rc (d + 2, (27, 34, [some (eR a0), some (eI (a1)), some (eJ (a2)), none, some (eI (a4)), some (eI (a5)), some (eI (v12)), none], [eI (v22)]), f :: F, m19)
    refine w_t (np := 36) (l2 := [some (eR a0), some (eI (a1)), some (eJ (a2)), none, some (eI (a4)), some (eI (a5)), some (eI (v12)), some (eI (v22))]) (s2 := []) rfl rfl rfl ?_
    refine w_t (np := 37) (l2 := [some (eR a0), some (eI (a1)), some (eJ (a2)), none, some (eI (a4)), some (eI (a5)), some (eI (v12)), some (eI (v22))]) (s2 := [eR a0]) rfl (s_an rfl (pos_g I20 gA0 (by decide))) rfl ?_
    refine w_t (np := 38) (l2 := [some (eR a0), some (eI (a1)), some (eJ (a2)), none, some (eI (a4)), some (eI (a5)), some (eI (v12)), some (eI (v22))]) (s2 := [eR a0, eR a0]) rfl (s_an rfl (pos_g I20 gA0 (by decide))) rfl ?_
    refine w_gf (np := 41) (v := eI (co)) rfl rfl (I20.kd gA0 (by decide) (n := 8) rfl) (by rw [(F21.k (F11.k h_co gA0 (by decide) rfl) gA0 (by decide) rfl)]; rfl) ?_
    refine w_t (np := 42) (l2 := [some (eR a0), some (eI (a1)), some (eJ (a2)), none, some (eI (a4)), some (eI (a5)), some (eI (v12)), some (eI (v22))]) (s2 := [eI (a1), eI (co), eR a0]) rfl rfl rfl ?_
    refine w_t (np := 43) (l2 := [some (eR a0), some (eI (a1)), some (eJ (a2)), none, some (eI (a4)), some (eI (a5)), some (eI (v12)), some (eI (v22))]) (s2 := [eR a0, eI (a1), eI (co), eR a0]) rfl (s_an rfl (pos_g I20 gA0 (by decide))) rfl ?_
    refine w_gf (np := 46) (v := eI (co)) rfl rfl (I20.kd gA0 (by decide) (n := 8) rfl) (by rw [(F21.k (F11.k h_co gA0 (by decide) rfl) gA0 (by decide) rfl)]; rfl) ?_
    refine w_t (np := 48) (l2 := [some (eR a0), some (eI (a1)), some (eJ (a2)), none, some (eI (a4)), some (eI (a5)), some (eI (v12)), some (eI (v22))]) (s2 := [eI (a4), eI (co), eI (a1), eI (co), eR a0]) rfl rfl rfl ?_
    refine w_t (np := 50) (l2 := [some (eR a0), some (eI (a1)), some (eJ (a2)), none, some (eI (a4)), some (eI (a5)), some (eI (v12)), some (eI (v22))]) (s2 := [eI (a5), eI (a4), eI (co), eI (a1), eI (co), eR a0]) rfl rfl rfl ?_
    refine w_cw (np := 53) (as := [eI (co), eI (a1), eI (co), eI (a4), eI (a5)]) (l2 := [some (eR a0), some (eI (co)), some (eI (a1)), some (eI (co)), some (eI (a4)), some (eI (a5))]) (rest := []) rfl rfl rfl (Nat.ble_eq.mp rfl) rfl rfl rfl (I20.kd gA0 (by decide) (n := 8) rfl) rfl ?_
    refine s_28 (a1 := co) (a2 := a1) (a3 := co) (a4 := a4) (a5 := a5) I20 gA0 (by omega) (by omega) (by omega) (by omega) (by omega) ?_
    intro m25 I26 F27
    have F28 : Fr l_27 0 0 g μ m25 := F24.t F27 rfl
    show ex_q (dt_fg L ρ) rc (d + 2, (27, 53, [some (eR a0), some (eI (a1)), some (eJ (a2)), none, some (eI (a4)), some (eI (a5)), some (eI (v12)), some (eI (v22))], []), f :: F, m25)
    refine w_t (np := 54) (l2 := [some (eR a0), some (eI (a1)), some (eJ (a2)), none, some (eI (a4)), some (eI (a5)), some (eI (v12)), some (eI (v22))]) (s2 := [eR a0]) rfl (s_an rfl (pos_g I26 gA0 (by decide))) rfl ?_
    refine w_t (np := 55) (l2 := [some (eR a0), some (eI (a1)), some (eJ (a2)), none, some (eI (a4)), some (eI (a5)), some (eI (v12)), some (eI (v22))]) (s2 := [eR a0, eR a0]) rfl (s_an rfl (pos_g I26 gA0 (by decide))) rfl ?_
    refine w_gf (np := 58) (v := eI (co)) rfl rfl (I26.kd gA0 (by decide) (n := 8) rfl) (by rw [(F27.k (F21.k (F11.k h_co gA0 (by decide) rfl) gA0 (by decide) rfl) gA0 (by decide) rfl)]; rfl) ?_
    refine w_t (np := 59) (l2 := [some (eR a0), some (eI (a1)), some (eJ (a2)), none, some (eI (a4)), some (eI (a5)), some (eI (v12)), some (eI (v22))]) (s2 := [eR a0, eI (co), eR a0]) rfl (s_an rfl (pos_g I26 gA0 (by decide))) rfl ?_
    refine w_gf (np := 62) (v := eR v1) rfl rfl (I26.kd gA0 (by decide) (n := 8) rfl) (by rw [(F27.k (F21.k (F11.k e2 gA0 (by decide) rfl) gA0 (by decide) rfl) gA0 (by decide) rfl)]; rfl) ?_
    refine w_t (np := 63) (l2 := [some (eR a0), some (eI (a1)), some (eJ (a2)), none, some (eI (a4)), some (eI (a5)), some (eI (v12)), some (eI (v22))]) (s2 := [eJ (a2), eR v1, eI (co), eR a0]) rfl rfl rfl ?_
    refine w_cw (np := 66) (as := [eJ (a2)]) (l2 := [some (eR v1), some (eJ (a2)), none, none]) (rest := [eI (co), eR a0]) rfl rfl rfl (Nat.ble_eq.mp rfl) rfl rfl rfl (I26.kd b3 (by decide) (n := 3) rfl) rfl ?_
    refine s_46 I26 b3 bA2 ?_
    intro m29 v32 I30 F31 b33
    have F34 : Fr l_27 0 0 g μ m29 := F28.t F31 rfl
    show ex_q (dt_fg L ρ) rc (d + 2, (27, 66, [some (eR a0), some (eI (a1)), some (eJ (a2)), none, some (eI (a4)), some (eI (a5)), some (eI (v12)), some (eI (v22))], [eI (v32), eI (co), eR a0]), f :: F, m29)
    refine w_t (np := 68) (l2 := [some (eR a0), some (eI (a1)), some (eJ (a2)), none, some (eI (a4)), some (eI (a5)), some (eI (v12)), some (eI (v22))]) (s2 := [eI (v12), eI (v32), eI (co), eR a0]) rfl rfl rfl ?_
    refine w_t (np := 70) (l2 := [some (eR a0), some (eI (a1)), some (eJ (a2)), none, some (eI (a4)), some (eI (a5)), some (eI (v12)), some (eI (v22))]) (s2 := [eI (v22), eI (v12), eI (v32), eI (co), eR a0]) rfl rfl rfl ?_
    refine w_cw (np := 73) (as := [eI (co), eI (v32), eI (v12), eI (v22)]) (l2 := [some (eR a0), some (eI (co)), some (eI (v32)), some (eI (v12)), some (eI (v22))]) (rest := []) rfl rfl rfl (Nat.ble_eq.mp rfl) rfl rfl rfl (I30.kd gA0 (by decide) (n := 8) rfl) rfl ?_
    refine s_29 (a1 := co) (a2 := v32) (a3 := v12) (a4 := v22) I30 gA0 (by omega) (by omega) (by omega) (by omega) ?_
    intro m35 I36 F37
    have F38 : Fr l_27 0 0 g μ m35 := F34.t F37 rfl
    show ex_q (dt_fg L ρ) rc (d + 2, (27, 73, [some (eR a0), some (eI (a1)), some (eJ (a2)), none, some (eI (a4)), some (eI (a5)), some (eI (v12)), some (eI (v22))], []), f :: F, m35)
    refine w_t (np := 74) (l2 := [some (eR a0), some (eI (a1)), some (eJ (a2)), none, some (eI (a4)), some (eI (a5)), some (eI (v12)), some (eI (v22))]) (s2 := [eR a0]) rfl (s_an rfl (pos_g I36 gA0 (by decide))) rfl ?_
    refine w_t (np := 75) (l2 := [some (eR a0), some (eI (a1)), some (eJ (a2)), none, some (eI (a4)), some (eI (a5)), some (eI (v12)), some (eI (v22))]) (s2 := [eR a0, eR a0]) rfl rfl rfl ?_
    refine w_gf (np := 78) (v := eI (co)) rfl rfl (I36.kd gA0 (by decide) (n := 8) rfl) (by rw [(F37.k (F31.k (F27.k (F21.k (F11.k h_co gA0 (by decide) rfl) gA0 (by decide) rfl) gA0 (by decide) rfl) gA0 (by decide) rfl) gA0 (by decide) rfl)]; rfl) ?_
    refine w_t (np := 79) (l2 := [some (eR a0), some (eI (a1)), some (eJ (a2)), none, some (eI (a4)), some (eI (a5)), some (eI (v12)), some (eI (v22))]) (s2 := [eI (1), eI (co), eR a0]) rfl rfl rfl ?_
    obtain ⟨v39, e40⟩ : ∃ zz : Int, zz = (co) + (1) := ⟨_, rfl⟩
    have b41 : 1 ≤ v39 ∧ v39 ≤ 51 := by omega
    refine w_t (np := 80) (l2 := [some (eR a0), some (eI (a1)), some (eJ (a2)), none, some (eI (a4)), some (eI (a5)), some (eI (v12)), some (eI (v22))]) (s2 := [eI (v39), eR a0]) rfl (b_iadd (by rw [← e40]; exact ev_w_in (by omega) (by omega))) rfl ?_
    refine j_pf (np := 83) (w := v39) rfl rfl I36 gA0 (by decide) (n := 8) rfl rfl (hO_i (lo := 0) (hi := 50) rfl (by omega)) ?_
    intro m42 I43 W44
    have F45 : Fr l_27 0 0 g μ m42 := F38.w W44 gA0 rfl
    exact v_rv rfl rfl (K m42 (v39) I43 F45 W44.at (by omega))
  · refine w_t (np := 5) (l2 := [some (eR a0), some (eI (a1)), some (eJ (a2)), none, some (eI (a4)), some (eI (a5)), none, none]) (s2 := [eJ (a2), eR v1]) rfl rfl rfl ?_
    refine w_t (np := 7) (l2 := [some (eR a0), some (eI (a1)), some (eJ (a2)), none, some (eI (a4)), some (eI (a5)), none, none]) (s2 := [eI (a4), eJ (a2), eR v1]) rfl rfl rfl ?_
    refine w_cu (np := 10) (as := [eI (a4)]) (l2 := [some (eI (a4))]) (rest := [eJ (a2), eR v1]) rfl rfl rfl (Nat.ble_eq.mp rfl) rfl rfl rfl rfl ?_
    refine s_74 (a0 := a4) hI (by omega) ?_
    intro v5 b6
    show ex_q (dt_fg L ρ) rc (d + 2, (27, 10, [some (eR a0), some (eI (a1)), some (eJ (a2)), none, some (eI (a4)), some (eI (a5)), none, none], [eJ (v5), eJ (a2), eR v1]), f :: F, μ)
    refine w_cu (np := 13) (as := [eJ (a2), eJ (v5)]) (l2 := [some (eJ (a2)), none, some (eJ (v5)), none]) (rest := [eR v1]) rfl rfl rfl (Nat.ble_eq.mp rfl) rfl rfl rfl rfl ?_
    refine s_75 hI bA2 b6 ?_
    intro v7 b8
    show ex_q (dt_fg L ρ) rc (d + 2, (27, 13, [some (eR a0), some (eI (a1)), some (eJ (a2)), none, some (eI (a4)), some (eI (a5)), none, none], [eJ (v7), eR v1]), f :: F, μ)
    refine w_cw (np := 16) (as := [eJ (v7)]) (l2 := [some (eR v1), some (eJ (v7)), none, none]) (rest := []) rfl rfl rfl (Nat.ble_eq.mp rfl) rfl rfl rfl (hI.kd b3 (by decide) (n := 3) rfl) rfl ?_
    refine s_46_2 hI b3 b8 ?_
    intro m9 v12 I10 F11 b13
    have F14 : Fr l_27 0 0 g μ m9 := F0.t F11 rfl
    show ex_q (dt_fg L ρ) rc (d + 2, (27, 16, [some (eR a0), some (eI (a1)), some (eJ (a2)), none, some (eI (a4)), some (eI (a5)), none, none], [eI (v12)]), f :: F, m9)
    refine w_t (np := 18) (l2 := [some (eR a0), some (eI (a1)), some (eJ (a2)), none, some (eI (a4)), some (eI (a5)), some (eI (v12)), none]) (s2 := []) rfl rfl rfl ?_
    refine w_t (np := 19) (l2 := [some (eR a0), some (eI (a1)), some (eJ (a2)), none, some (eI (a4)), some (eI (a5)), some (eI (v12)), none]) (s2 := [eR a0]) rfl (s_an rfl (pos_g I10 gA0 (by decide))) rfl ?_
    refine w_gf (np := 22) (v := eR v1) rfl rfl (I10.kd gA0 (by decide) (n := 8) rfl) (by rw [(F11.k e2 gA0 (by decide) rfl)]; rfl) ?_
    refine w_t (np := 23) (l2 := [some (eR a0), some (eI (a1)), some (eJ (a2)), none, some (eI (a4)), some (eI (a5)), some (eI (v12)), none]) (s2 := [eJ (a2), eR v1]) rfl rfl rfl ?_
    refine w_t (np := 25) (l2 := [some (eR a0), some (eI (a1)), some (eJ (a2)), none, some (eI (a4)), some (eI (a5)), some (eI (v12)), none]) (s2 := [eI (a5), eJ (a2), eR v1]) rfl rfl rfl ?_
    refine w_cu (np := 28) (as := [eI (a5)]) (l2 := [some (eI (a5))]) (rest := [eJ (a2), eR v1]) rfl rfl rfl (Nat.ble_eq.mp rfl) rfl rfl rfl rfl ?_
    refine s_74 (a0 := a5) I10 (by omega) ?_
    intro v15 b16
    show ex_q (dt_fg L ρ) rc (d + 2, (27, 28, [some (eR a0), some (eI (a1)), some (eJ (a2)), none, some (eI (a4)), some (eI (a5)), some (eI (v12)), none], [eJ (v15), eJ (a2), eR v1]), f :: F, m9)
    refine w_cu (np := 31) (as := [eJ (a2), eJ (v15)]) (l2 := [some (eJ (a2)), none, some (eJ (v15)), none]) (rest := [eR v1]) rfl rfl rfl (Nat.ble_eq.mp rfl) rfl rfl rfl rfl ?_
    refine s_75 I10 bA2 b16 ?_
    intro v17 b18
    show ex_q (dt_fg L ρ) rc (d + 2, (27, 31, [some (eR a0), some (eI (a1)), some (eJ (a2)), none, some (eI (a4)), some (eI (a5)), some (eI (v12)), none], [eJ (v17), eR v1]), f :: F, m9)
    refine w_cw (np := 34) (as := [eJ (v17)]) (l2 := [some (eR v1), some (eJ (v17)), none, none]) (rest := []) rfl rfl rfl (Nat.ble_eq.mp rfl) rfl rfl rfl (I10.kd b3 (by decide) (n := 3) rfl) rfl ?_
    refine s_46_2 I10 b3 b18 ?_
    intro m19 v22 I20 F21 b23
    have F24 : Fr l_27 0 0 g μ m19 := F14.t F21 rfl
    show ex_q (dt_fg L ρ) rc (d + 2, (27, 34, [some (eR a0), some (eI (a1)), some (eJ (a2)), none, some (eI (a4)), some (eI (a5)), some (eI (v12)), none], [eI (v22)]), f :: F, m19)
    refine w_t (np := 36) (l2 := [some (eR a0), some (eI (a1)), some (eJ (a2)), none, some (eI (a4)), some (eI (a5)), some (eI (v12)), some (eI (v22))]) (s2 := []) rfl rfl rfl ?_
    refine w_t (np := 37) (l2 := [some (eR a0), some (eI (a1)), some (eJ (a2)), none, some (eI (a4)), some (eI (a5)), some (eI (v12)), some (eI (v22))]) (s2 := [eR a0]) rfl (s_an rfl (pos_g I20 gA0 (by decide))) rfl ?_
    refine w_t (np := 38) (l2 := [some (eR a0), some (eI (a1)), some (eJ (a2)), none, some (eI (a4)), some (eI (a5)), some (eI (v12)), some (eI (v22))]) (s2 := [eR a0, eR a0]) rfl (s_an rfl (pos_g I20 gA0 (by decide))) rfl ?_
    refine w_gf (np := 41) (v := eI (co)) rfl rfl (I20.kd gA0 (by decide) (n := 8) rfl) (by rw [(F21.k (F11.k h_co gA0 (by decide) rfl) gA0 (by decide) rfl)]; rfl) ?_
    refine w_t (np := 42) (l2 := [some (eR a0), some (eI (a1)), some (eJ (a2)), none, some (eI (a4)), some (eI (a5)), some (eI (v12)), some (eI (v22))]) (s2 := [eI (a1), eI (co), eR a0]) rfl rfl rfl ?_
    refine w_t (np := 43) (l2 := [some (eR a0), some (eI (a1)), some (eJ (a2)), none, some (eI (a4)), some (eI (a5)), some (eI (v12)), some (eI (v22))]) (s2 := [eR a0, eI (a1), eI (co), eR a0]) rfl (s_an rfl (pos_g I20 gA0 (by decide))) rfl ?_
    refine w_gf (np := 46) (v := eI (co)) rfl rfl (I20.kd gA0 (by decide) (n := 8) rfl) (by rw [(F21.k (F11.k h_co gA0 (by decide) rfl) gA0 (by decide) rfl)]; rfl) ?_
    refine w_t (np := 48) (l2 := [some (eR a0), some (eI (a1)), some (eJ (a2)), none, some (eI (a4)), some (eI (a5)), some (eI (v12)), some (eI (v22))]) (s2 := [eI (a4), eI (co), eI (a1), eI (co), eR a0]) rfl rfl rfl ?_
    refine w_t (np := 50) (l2 := [some (eR a0), some (eI (a1)), some (eJ (a2)), none, some (eI (a4)), some (eI (a5)), some (eI (v12)), some (eI (v22))]) (s2 := [eI (a5), eI (a4), eI (co), eI (a1), eI (co), eR a0]) rfl rfl rfl ?_
    refine w_cw (np := 53) (as := [eI (co), eI (a1), eI (co), eI (a4), eI (a5)]) (l2 := [some (eR a0), some (eI (co)), some (eI (a1)), some (eI (co)), some (eI (a4)), some (eI (a5))]) (rest := []) rfl rfl rfl (Nat.ble_eq.mp rfl) rfl rfl rfl (I20.kd gA0 (by decide) (n := 8) rfl) rfl ?_
    refine s_28 (a1 := co) (a2 := a1) (a3 := co) (a4 := a4) (a5 := a5) I20 gA0 (by omega) (by omega) (by omega) (by omega) (by omega) ?_
    intro m25 I26 F27
    have F28 : Fr l_27 0 0 g μ m25 := F24.t F27 rfl
    show ex_q (dt_fg L ρ) rc (d + 2, (27, 53, [some (eR a0), some (eI (a1)), some (eJ (a2)), none, some (eI (a4)), some (eI (a5)), some (eI (v12)), some (eI (v22))], []), f :: F, m25)
    refine w_t (np := 54) (l2 := [some (eR a0), some (eI (a1)), some (eJ (a2)), none, some (eI (a4)), some (eI (a5)), some (eI (v12)), some (eI (v22))]) (s2 := [eR a0]) rfl (s_an rfl (pos_g I26 gA0 (by decide))) rfl ?_
    refine w_t (np := 55) (l2 := [some (eR a0), some (eI (a1)), some (eJ (a2)), none, some (eI (a4)), some (eI (a5)), some (eI (v12)), some (eI (v22))]) (s2 := [eR a0, eR a0]) rfl (s_an rfl (pos_g I26 gA0 (by decide))) rfl ?_
    refine w_gf (np := 58) (v := eI (co)) rfl rfl (I26.kd gA0 (by decide) (n := 8) rfl) (by rw [(F27.k (F21.k (F11.k h_co gA0 (by decide) rfl) gA0 (by decide) rfl) gA0 (by decide) rfl)]; rfl) ?_
    refine w_t (np := 59) (l2 := [some (eR a0), some (eI (a1)), some (eJ (a2)), none, some (eI (a4)), some (eI (a5)), some (eI (v12)), some (eI (v22))]) (s2 := [eR a0, eI (co), eR a0]) rfl (s_an rfl (pos_g I26 gA0 (by decide))) rfl ?_
    refine w_gf (np := 62) (v := eR v1) rfl rfl (I26.kd gA0 (by decide) (n := 8) rfl) (by rw [(F27.k (F21.k (F11.k e2 gA0 (by decide) rfl) gA0 (by decide) rfl) gA0 (by decide) rfl)]; rfl) ?_
    refine w_t (np := 63) (l2 := [some (eR a0), some (eI (a1)), some (eJ (a2)), none, some (eI (a4)), some (eI (a5)), some (eI (v12)), some (eI (v22))]) (s2 := [eJ (a2), eR v1, eI (co), eR a0]) rfl rfl rfl ?_
    refine w_cw (np := 66) (as := [eJ (a2)]) (l2 := [some (eR v1), some (eJ (a2)), none, none]) (rest := [eI (co), eR a0]) rfl rfl rfl (Nat.ble_eq.mp rfl) rfl rfl rfl (I26.kd b3 (by decide) (n := 3) rfl) rfl ?_
    refine s_46_2 I26 b3 bA2 ?_
    intro m29 v32 I30 F31 b33
    have F34 : Fr l_27 0 0 g μ m29 := F28.t F31 rfl
    show ex_q (dt_fg L ρ) rc (d + 2, (27, 66, [some (eR a0), some (eI (a1)), some (eJ (a2)), none, some (eI (a4)), some (eI (a5)), some (eI (v12)), some (eI (v22))], [eI (v32), eI (co), eR a0]), f :: F, m29)
    refine w_t (np := 68) (l2 := [some (eR a0), some (eI (a1)), some (eJ (a2)), none, some (eI (a4)), some (eI (a5)), some (eI (v12)), some (eI (v22))]) (s2 := [eI (v12), eI (v32), eI (co), eR a0]) rfl rfl rfl ?_
    refine w_t (np := 70) (l2 := [some (eR a0), some (eI (a1)), some (eJ (a2)), none, some (eI (a4)), some (eI (a5)), some (eI (v12)), some (eI (v22))]) (s2 := [eI (v22), eI (v12), eI (v32), eI (co), eR a0]) rfl rfl rfl ?_
    refine w_cw (np := 73) (as := [eI (co), eI (v32), eI (v12), eI (v22)]) (l2 := [some (eR a0), some (eI (co)), some (eI (v32)), some (eI (v12)), some (eI (v22))]) (rest := []) rfl rfl rfl (Nat.ble_eq.mp rfl) rfl rfl rfl (I30.kd gA0 (by decide) (n := 8) rfl) rfl ?_
    refine s_29 (a1 := co) (a2 := v32) (a3 := v12) (a4 := v22) I30 gA0 (by omega) (by omega) (by omega) (by omega) ?_
    intro m35 I36 F37
    have F38 : Fr l_27 0 0 g μ m35 := F34.t F37 rfl
    show ex_q (dt_fg L ρ) rc (d + 2, (27, 73, [some (eR a0), some (eI (a1)), some (eJ (a2)), none, some (eI (a4)), some (eI (a5)), some (eI (v12)), some (eI (v22))], []), f :: F, m35)
    refine w_t (np := 74) (l2 := [some (eR a0), some (eI (a1)), some (eJ (a2)), none, some (eI (a4)), some (eI (a5)), some (eI (v12)), some (eI (v22))]) (s2 := [eR a0]) rfl (s_an rfl (pos_g I36 gA0 (by decide))) rfl ?_
    refine w_t (np := 75) (l2 := [some (eR a0), some (eI (a1)), some (eJ (a2)), none, some (eI (a4)), some (eI (a5)), some (eI (v12)), some (eI (v22))]) (s2 := [eR a0, eR a0]) rfl rfl rfl ?_
    refine w_gf (np := 78) (v := eI (co)) rfl rfl (I36.kd gA0 (by decide) (n := 8) rfl) (by rw [(F37.k (F31.k (F27.k (F21.k (F11.k h_co gA0 (by decide) rfl) gA0 (by decide) rfl) gA0 (by decide) rfl) gA0 (by decide) rfl) gA0 (by decide) rfl)]; rfl) ?_
    refine w_t (np := 79) (l2 := [some (eR a0), some (eI (a1)), some (eJ (a2)), none, some (eI (a4)), some (eI (a5)), some (eI (v12)), some (eI (v22))]) (s2 := [eI (1), eI (co), eR a0]) rfl rfl rfl ?_
    obtain ⟨v39, e40⟩ : ∃ zz : Int, zz = (co) + (1) := ⟨_, rfl⟩
    have b41 : 1 ≤ v39 ∧ v39 ≤ 51 := by omega
    refine w_t (np := 80) (l2 := [some (eR a0), some (eI (a1)), some (eJ (a2)), none, some (eI (a4)), some (eI (a5)), some (eI (v12)), some (eI (v22))]) (s2 := [eI (v39), eR a0]) rfl (b_iadd (by rw [← e40]; exact ev_w_in (by omega) (by omega))) rfl ?_
    refine j_pf (np := 83) (w := v39) rfl rfl I36 gA0 (by decide) (n := 8) rfl rfl (hO_i (lo := 0) (hi := 50) rfl (by omega)) ?_
    intro m42 I43 W44
    have F45 : Fr l_27 0 0 g μ m42 := F38.w W44 gA0 rfl
    exact v_rv rfl rfl (K m42 (v39) I43 F45 W44.at (by omega))
def l_27_2 : List Nat := [2304, 2560, 2816, 2048, 1800, 4096, 3328, 4352, 3584, 3843, 3075]
theorem s_27_2 {L : Nat} {ρ : Nat → Int} {rc : eQ} {d : Nat} {f : eFr} {F : List eFr} {μ : eM} {g : Nat → Nat} {a0 : Nat} {a1 : Int} {a2 : Int} {a4 : Int} {a5 : Int} {co : Int} (hI : SI g μ) (gA0 : g a0 = 7) (bA1 : 0 ≤ a1 ∧ a1 ≤ 1) (bA2 : -9223372036854775808 ≤ a2 ∧ a2 ≤ 9223372036854775807) (bA4 : -2147483648 ≤ a4 ∧ a4 ≤ 2147483647) (bA5 : -2147483648 ≤ a5 ∧ a5 ≤ 2147483647) (h_co : μ.1 a0 7 = co) (hp0 : co ≤ 49) (K : ∀ (μ2 : eM) (co2 : Int), SI g μ2 → Fr l_27_2 0 0 g μ μ2 → μ2.1 a0 7 = co2 → (co2 = co + 1) → ex_q (dt_fg L ρ) rc (d + 3, (f.1, f.2.1, f.2.2.1, f.2.2.2), F, μ2)) : ex_q (dt_fg L ρ) rc (d + 2, (27, 0, [some (eR a0), some (eI (a1)), some (eJ (a2)), none, some (eI (a4)), some (eI (a5)), none, none], []), f :: F, μ) := by
  have F0 : Fr l_27_2 0 0 g μ μ := Fr.r
  have b_co : 0 ≤ co ∧ co ≤ 890 := by
    rw [← h_co]
    exact hI.int gA0 (by decide) (n := 8) rfl (by decide) rfl
  refine w_t (np := 1) (l2 := [some (eR a0), some (eI (a1)), some (eJ (a2)), none, some (eI (a4)), some (eI (a5)), none, none]) (s2 := [eR a0]) rfl (s_an rfl (pos_g hI gA0 (by decide))) rfl ?_
  refine j_gr (np := 4) rfl rfl hI gA0 (by decide) (n := 8) rfl rfl rfl ?_
  intro v1 e2 b3 z4
  rcases hor2 b3 with b3 | b3
  · refine w_t (np := 5) (l2 := [some (eR a0), some (eI (a1)), some (eJ (a2)), none, some (eI (a4)), some (eI (a5)), none, none]) (s2 := [eJ (a2), eR v1]) rfl rfl rfl ?_
    refine w_t (np := 7) (l2 := [some (eR a0), some (eI (a1)), some (eJ (a2)), none, some (eI (a4)), some (eI (a5)), none, none]) (s2 := [eI (a4), eJ (a2), eR v1]) rfl rfl rfl ?_
    refine w_cu (np := 10) (as := [eI (a4)]) (l2 := [some (eI (a4))]) (rest := [eJ (a2), eR v1]) rfl rfl rfl (Nat.ble_eq.mp rfl) rfl rfl rfl rfl ?_
    refine s_74 (a0 := a4) hI (by omega) ?_
    intro v5 b6
    show ex_q (dt_fg L ρ) rc (d + 2, (27, 10, [some (eR a0), some (eI (a1)), some (eJ (a2)), none, some (eI (a4)), some (eI (a5)), none, none], [eJ (v5), eJ (a2), eR v1]), f :: F, μ)
    refine w_cu (np := 13) (as := [eJ (a2), eJ (v5)]) (l2 := [some (eJ (a2)), none, some (eJ (v5)), none]) (rest := [eR v1]) rfl rfl rfl (Nat.ble_eq.mp rfl) rfl rfl rfl rfl ?_
    refine s_75 hI bA2 b6 ?_
    intro v7 b8
    show ex_q (dt_fg L ρ) rc (d + 2, (27, 13, [some (eR a0), some (eI (a1)), some (eJ (a2)), none, some (eI (a4)), some (eI (a5)), none, none], [eJ (v7), eR v1]), f :: F, μ)
    refine w_cw (np := 16) (as := [eJ (v7)]) (l2 := [some (eR v1), some (eJ (v7)), none, none]) (rest := []) rfl rfl rfl (Nat.ble_eq.mp rfl) rfl rfl rfl (hI.kd b3 (by decide) (n := 3) rfl) rfl ?_
    refine s_46 hI b3 b8 ?_
    intro m9 v12 I10 F11 b13
    have F14 : Fr l_27_2 0 0 g μ m9 := F0.t F11 rfl
    show ex_q (dt_fg L ρ) rc (d + 2, (27, 16, [some (eR a0), some (eI (a1)), some (eJ (a2)), none, some (eI (a4)), some (eI (a5)), none, none], [eI (v12)]), f :: F, m9)
    refine w_t (np := 18) (l2 := [some (eR a0), some (eI (a1)), some (eJ (a2)), none, some (eI (a4)), some (eI (a5)), some (eI (v12)), none]) (s2 := []) rfl rfl rfl ?_
    refine w_t (np := 19) (l2 := [some (eR a0), some (eI (a1)), some (eJ (a2)), none, some (eI (a4)), some (eI (a5)), some (eI (v12)), none]) (s2 := [eR a0]) rfl (s_an rfl (pos_g I10 gA0 (by decide))) rfl ?_
    refine w_gf (np := 22) (v := eR v1) rfl rfl (I10.kd gA0 (by decide) (n := 8) rfl) (by rw [(F11.k e2 gA0 (by decide) rfl)]; rfl) ?_
    refine w_t (np := 23) (l2 := [some (eR a0), some (eI (a1)), some (eJ (a2)), none, some (eI (a4)), some (eI (a5)), some (eI (v12)), none]) (s2 := [eJ (a2), eR v1]) rfl rfl rfl ?_
    refine w_t (np := 25) (l2 := [some (eR a0), some (eI (a1)), some (eJ (a2)), none, some (eI (a4)), some (eI (a5)), some (eI (v12)), none]) (s2 := [eI (a5), eJ (a2), eR v1]) rfl rfl rfl ?_
    refine w_cu (np := 28) (as := [eI (a5)]) (l2 := [some (eI (a5))]) (rest := [eJ (a2), eR v1]) rfl rfl rfl (Nat.ble_eq.mp rfl) rfl rfl rfl rfl ?_
    refine s_74 (a0 := a5) I10 (by omega) ?_
    intro v15 b16
    show ex_q (dt_fg L ρ) rc (d + 2, (27, 28, [some (eR a0), some (eI (a1)), some (eJ (a2)), none, some (eI (a4)), some (eI (a5)), some (eI (v12)), none], [eJ (v15), eJ (a2), eR v1]), f :: F, m9)
    refine w_cu (np := 31) (as := [eJ (a2), eJ (v15)]) (l2 := [some (eJ (a2)), none, some (eJ (v15)), none]) (rest := [eR v1]) rfl rfl rfl (Nat.ble_eq.mp rfl) rfl rfl rfl rfl ?_
    refine s_75 I10 bA2 b16 ?_
    intro v17 b18
    show ex_q (dt_fg L ρ) rc (d + 2, (27, 31, [some (eR a0), some (eI (a1)), some (eJ (a2)), none, some (eI (a4)), some (eI (a5)), some (eI (v12)), none], [eJ (v17), eR v1]), f :: F, m9)
    refine w_cw (np := 34) (as := [eJ (v17)]) (l2 := [some (eR v1), some (eJ (v17)), none, none]) (rest := []) rfl rfl rfl (Nat.ble_eq.mp rfl) rfl rfl rfl (I10.kd b3 (by decide) (n := 3) rfl) rfl ?_
    refine s_46 I10 b3 b18 ?_
    intro m19 v22 I20 F21 b23
    have F24 : Fr l_27_2 0 0 g μ m19 := F14.t F21 rfl
    show ex_q (dt_fg L ρ) rc (d + 2, (27, 34, [some (eR a0), some (eI (a1)), some (eJ (a2)), none, some (eI (a4)), some (eI (a5)), some (eI (v12)), none], [eI (v22)]), f :: F, m19)
    refine w_t (np := 36) (l2 := [some (eR a0), some (eI (a1)), some (eJ (a2)), none, some (eI (a4)), some (eI (a5)), some (eI (v12)), some (eI (v22))]) (s2 := []) rfl rfl rfl ?_
    refine w_t (np := 37) (l2 := [some (eR a0), some (eI (a1)), some (eJ (a2)), none, some (eI (a4)), some (eI (a5)), some (eI (v12)), some (eI (v22))]) (s2 := [eR a0]) rfl (s_an rfl (pos_g I20 gA0 (by decide))) rfl ?_
    refine w_t (np := 38) (l2 := [some (eR a0), some (eI (a1)), some (eJ (a2)), none, some (eI (a4)), some (eI (a5)), some (eI (v12)), some (eI (v22))]) (s2 := [eR a0, eR a0]) rfl (s_an rfl (pos_g I20 gA0 (by decide))) rfl ?_
    refine w_gf (np := 41) (v := eI (co)) rfl rfl (I20.kd gA0 (by decide) (n := 8) rfl) (by rw [(F21.k (F11.k h_co gA0 (by decide) rfl) gA0 (by decide) rfl)]; rfl) ?_
    refine w_t (np := 42) (l2 := [some (eR a0), some (eI (a1)), some (eJ (a2)), none, some (eI (a4)), some (eI (a5)), some (eI (v12)), some (eI (v22))]) (s2 := [eI (a1), eI (co), eR a0]) rfl rfl rfl ?_
    refine w_t (np := 43) (l2 := [some (eR a0), some (eI (a1)), some (eJ (a2)), none, some (eI (a4)), some (eI (a5)), some (eI (v12)), some (eI (v22))]) (s2 := [eR a0, eI (a1), eI (co), eR a0]) rfl (s_an rfl (pos_g I20 gA0 (by decide))) rfl ?_
    refine w_gf (np := 46) (v := eI (co)) rfl rfl (I20.kd gA0 (by decide) (n := 8) rfl) (by rw [(F21.k (F11.k h_co gA0 (by decide) rfl) gA0 (by decide) rfl)]; rfl) ?_
    refine w_t (np := 48) (l2 := [some (eR a0), some (eI (a1)), some (eJ (a2)), none, some (eI (a4)), some (eI (a5)), some (eI (v12)), some (eI (v22))]) (s2 := [eI (a4), eI (co), eI (a1), eI (co), eR a0]) rfl rfl rfl ?_
    refine w_t (np := 50) (l2 := [some (eR a0), some (eI (a1)), some (eJ (a2)), none, some (eI (a4)), some (eI (a5)), some (eI (v12)), some (eI (v22))]) (s2 := [eI (a5), eI (a4), eI (co), eI (a1), eI (co), eR a0]) rfl rfl rfl ?_
    refine w_cw (np := 53) (as := [eI (co), eI (a1), eI (co), eI (a4), eI (a5)]) (l2 := [some (eR a0), some (eI (co)), some (eI (a1)), some (eI (co)), some (eI (a4)), some (eI (a5))]) (rest := []) rfl rfl rfl (Nat.ble_eq.mp rfl) rfl rfl rfl (I20.kd gA0 (by decide) (n := 8) rfl) rfl ?_
    refine s_28_2 (a1 := co) (a2 := a1) (a3 := co) (a4 := a4) (a5 := a5) I20 gA0 (by omega) (by omega) (by omega) (by omega) (by omega) ?_
    intro m25 I26 F27
    have F28 : Fr l_27_2 0 0 g μ m25 := F24.t F27 rfl
    show ex_q (dt_fg L ρ) rc (d + 2, (27, 53, [some (eR a0), some (eI (a1)), some (eJ (a2)), none, some (eI (a4)), some (eI (a5)), some (eI (v12)), some (eI (v22))], []), f :: F, m25)
    refine w_t (np := 54) (l2 := [some (eR a0), some (eI (a1)), some (eJ (a2)), none, some (eI (a4)), some (eI (a5)), some (eI (v12)), some (eI (v22))]) (s2 := [eR a0]) rfl (s_an rfl (pos_g I26 gA0 (by decide))) rfl ?_
    refine w_t (np := 55) (l2 := [some (eR a0), some (eI (a1)), some (eJ (a2)), none, some (eI (a4)), some (eI (a5)), some (eI (v12)), some (eI (v22))]) (s2 := [eR a0, eR a0]) rfl (s_an rfl (pos_g I26 gA0 (by decide))) rfl ?_
    refine w_gf (np := 58) (v := eI (co)) rfl rfl (I26.kd gA0 (by decide) (n := 8) rfl) (by rw [(F27.k (F21.k (F11.k h_co gA0 (by decide) rfl) gA0 (by decide) rfl) gA0 (by decide) rfl)]; rfl) ?_
    refine w_t (np := 59) (l2 := [some (eR a0), some (eI (a1)), some (eJ (a2)), none, some (eI (a4)), some (eI (a5)), some (eI (v12)), some (eI (v22))]) (s2 := [eR a0, eI (co), eR a0]) rfl (s_an rfl (pos_g I26 gA0 (by decide))) rfl ?_
    refine w_gf (np := 62) (v := eR v1) rfl rfl (I26.kd gA0 (by decide) (n := 8) rfl) (by rw [(F27.k (F21.k (F11.k e2 gA0 (by decide) rfl) gA0 (by decide) rfl) gA0 (by decide) rfl)]; rfl) ?_
    refine w_t (np := 63) (l2 := [some (eR a0), some (eI (a1)), some (eJ (a2)), none, some (eI (a4)), some (eI (a5)), some (eI (v12)), some (eI (v22))]) (s2 := [eJ (a2), eR v1, eI (co), eR a0]) rfl rfl rfl ?_
    refine w_cw (np := 66) (as := [eJ (a2)]) (l2 := [some (eR v1), some (eJ (a2)), none, none]) (rest := [eI (co), eR a0]) rfl rfl rfl (Nat.ble_eq.mp rfl) rfl rfl rfl (I26.kd b3 (by decide) (n := 3) rfl) rfl ?_
    refine s_46 I26 b3 bA2 ?_
    intro m29 v32 I30 F31 b33
    have F34 : Fr l_27_2 0 0 g μ m29 := F28.t F31 rfl
    show ex_q (dt_fg L ρ) rc (d + 2, (27, 66, [some (eR a0), some (eI (a1)), some (eJ (a2)), none, some (eI (a4)), some (eI (a5)), some (eI (v12)), some (eI (v22))], [eI (v32), eI (co), eR a0]), f :: F, m29)
    refine w_t (np := 68) (l2 := [some (eR a0), some (eI (a1)), some (eJ (a2)), none, some (eI (a4)), some (eI (a5)), some (eI (v12)), some (eI (v22))]) (s2 := [eI (v12), eI (v32), eI (co), eR a0]) rfl rfl rfl ?_
    refine w_t (np := 70) (l2 := [some (eR a0), some (eI (a1)), some (eJ (a2)), none, some (eI (a4)), some (eI (a5)), some (eI (v12)), some (eI (v22))]) (s2 := [eI (v22), eI (v12), eI (v32), eI (co), eR a0]) rfl rfl rfl ?_
    refine w_cw (np := 73) (as := [eI (co), eI (v32), eI (v12), eI (v22)]) (l2 := [some (eR a0), some (eI (co)), some (eI (v32)), some (eI (v12)), some (eI (v22))]) (rest := []) rfl rfl rfl (Nat.ble_eq.mp rfl) rfl rfl rfl (I30.kd gA0 (by decide) (n := 8) rfl) rfl ?_
    refine s_29_2 (a1 := co) (a2 := v32) (a3 := v12) (a4 := v22) I30 gA0 (by omega) (by omega) (by omega) (by omega) ?_
    intro m35 I36 F37
    have F38 : Fr l_27_2 0 0 g μ m35 := F34.t F37 rfl
    show ex_q (dt_fg L ρ) rc (d + 2, (27, 73, [some (eR a0), some (eI (a1)), some (eJ (a2)), none, some (eI (a4)), some (eI (a5)), some (eI (v12)), some (eI (v22))], []), f :: F, m35)
    refine w_t (np := 74) (l2 := [some (eR a0), some (eI (a1)), some (eJ (a2)), none, some (eI (a4)), some (eI (a5)), some (eI (v12)), some (eI (v22))]) (s2 := [eR a0]) rfl (s_an rfl (pos_g I36 gA0 (by decide))) rfl ?_
    refine w_t (np := 75) (l2 := [some (eR a0), some (eI (a1)), some (eJ (a2)), none, some (eI (a4)), some (eI (a5)), some (eI (v12)), some (eI (v22))]) (s2 := [eR a0, eR a0]) rfl rfl rfl ?_
    refine w_gf (np := 78) (v := eI (co)) rfl rfl (I36.kd gA0 (by decide) (n := 8) rfl) (by rw [(F37.k (F31.k (F27.k (F21.k (F11.k h_co gA0 (by decide) rfl) gA0 (by decide) rfl) gA0 (by decide) rfl) gA0 (by decide) rfl) gA0 (by decide) rfl)]; rfl) ?_
    refine w_t (np := 79) (l2 := [some (eR a0), some (eI (a1)), some (eJ (a2)), none, some (eI (a4)), some (eI (a5)), some (eI (v12)), some (eI (v22))]) (s2 := [eI (1), eI (co), eR a0]) rfl rfl rfl ?_
    obtain ⟨v39, e40⟩ : ∃ zz : Int, zz = (co) + (1) := ⟨_, rfl⟩
    have b41 : 1 ≤ v39 ∧ v39 ≤ 891 := by omega
    refine w_t (np := 80) (l2 := [some (eR a0), some (eI (a1)), some (eJ (a2)), none, some (eI (a4)), some (eI (a5)), some (eI (v12)), some (eI (v22))]) (s2 := [eI (v39), eR a0]) rfl (b_iadd (by rw [← e40]; exact ev_w_in (by omega) (by omega))) rfl ?_
    refine j_pf (np := 83) (w := v39) rfl rfl I36 gA0 (by decide) (n := 8) rfl rfl (hO_i (lo := 0) (hi := 890) rfl (by omega)) ?_
    intro m42 I43 W44
    have F45 : Fr l_27_2 0 0 g μ m42 := F38.w W44 gA0 rfl
    exact v_rv rfl rfl (K m42 (v39) I43 F45 W44.at (by omega))
  · refine w_t (np := 5) (l2 := [some (eR a0), some (eI (a1)), some (eJ (a2)), none, some (eI (a4)), some (eI (a5)), none, none]) (s2 := [eJ (a2), eR v1]) rfl rfl rfl ?_
    refine w_t (np := 7) (l2 := [some (eR a0), some (eI (a1)), some (eJ (a2)), none, some (eI (a4)), some (eI (a5)), none, none]) (s2 := [eI (a4), eJ (a2), eR v1]) rfl rfl rfl ?_
    refine w_cu (np := 10) (as := [eI (a4)]) (l2 := [some (eI (a4))]) (rest := [eJ (a2), eR v1]) rfl rfl rfl (Nat.ble_eq.mp rfl) rfl rfl rfl rfl ?_
    refine s_74 (a0 := a4) hI (by omega) ?_
    intro v5 b6
    show ex_q (dt_fg L ρ) rc (d + 2, (27, 10, [some (eR a0), some (eI (a1)), some (eJ (a2)), none, some (eI (a4)), some (eI (a5)), none, none], [eJ (v5), eJ (a2), eR v1]), f :: F, μ)
    refine w_cu (np := 13) (as := [eJ (a2), eJ (v5)]) (l2 := [some (eJ (a2)), none, some (eJ (v5)), none]) (rest := [eR v1]) rfl rfl rfl (Nat.ble_eq.mp rfl) rfl rfl rfl rfl ?_
    refine s_75 hI bA2 b6 ?_
    intro v7 b8
    show ex_q (dt_fg L ρ) rc (d + 2, (27, 13, [some (eR a0), some (eI (a1)), some (eJ (a2)), none, some (eI (a4)), some (eI (a5)), none, none], [eJ (v7), eR v1]), f :: F, μ)
    refine w_cw (np := 16) (as := [eJ (v7)]) (l2 := [some (eR v1), some (eJ (v7)), none, none]) (rest := []) rfl rfl rfl (Nat.ble_eq.mp rfl) rfl rfl rfl (hI.kd b3 (by decide) (n := 3) rfl) rfl ?_
    refine s_46_2 hI b3 b8 ?_
    intro m9 v12 I10 F11 b13
    have F14 : Fr l_27_2 0 0 g μ m9 := F0.t F11 rfl
    show ex_q (dt_fg L ρ) rc (d + 2, (27, 16, [some (eR a0), some (eI (a1)), some (eJ (a2)), none, some (eI (a4)), some (eI (a5)), none, none], [eI (v12)]), f :: F, m9)
    refine w_t (np := 18) (l2 := [some (eR a0), some (eI (a1)), some (eJ (a2)), none, some (eI (a4)), some (eI (a5)), some (eI (v12)), none]) (s2 := []) rfl rfl rfl ?_
    refine w_t (np := 19) (l2 := [some (eR a0), some (eI (a1)), some (eJ (a2)), none, some (eI (a4)), some (eI (a5)), some (eI (v12)), none]) (s2 := [eR a0]) rfl (s_an rfl (pos_g I10 gA0 (by decide))) rfl ?_
    refine w_gf (np := 22) (v := eR v1) rfl rfl (I10.kd gA0 (by decide) (n := 8) rfl) (by rw [(F11.k e2 gA0 (by decide) rfl)]; rfl) ?_
    refine w_t (np := 23) (l2 := [some (eR a0), some (eI (a1)), some (eJ (a2)), none, some (eI (a4)), some (eI (a5)), some (eI (v12)), none]) (s2 := [eJ (a2), eR v1]) rfl rfl rfl ?_
    refine w_t (np := 25) (l2 := [some (eR a0), some (eI (a1)), some (eJ (a2)), none, some (eI (a4)), some (eI (a5)), some (eI (v12)), none]) (s2 := [eI (a5), eJ (a2), eR v1]) rfl rfl rfl ?_
    refine w_cu (np := 28) (as := [eI (a5)]) (l2 := [some (eI (a5))]) (rest := [eJ (a2), eR v1]) rfl rfl rfl (Nat.ble_eq.mp rfl) rfl rfl rfl rfl ?_
    refine s_74 (a0 := a5) I10 (by omega) ?_
    intro v15 b16
    show ex_q (dt_fg L ρ) rc (d + 2, (27, 28, [some (eR a0), some (eI (a1)), some (eJ (a2)), none, some (eI (a4)), some (eI (a5)), some (eI (v12)), none], [eJ (v15), eJ (a2), eR v1]), f :: F, m9)
    refine w_cu (np := 31) (as := [eJ (a2), eJ (v15)]) (l2 := [some (eJ (a2)), none, some (eJ (v15)), none]) (rest := [eR v1]) rfl rfl rfl (Nat.ble_eq.mp rfl) rfl rfl rfl rfl ?_
    refine s_75 I10 bA2 b16 ?_
    intro v17 b18
    show ex_q (dt_fg L ρ) rc (d + 2, (27, 31, [some (eR a0), some (eI (a1)), some (eJ (a2)), none, some (eI (a4)), some (eI (a5)), some (eI (v12)), none], [eJ (v17), eR v1]), f :: F, m9)
    refine w_cw (np := 34) (as := [eJ (v17)]) (l2 := [some (eR v1), some (eJ (v17)), none, none]) (rest := []) rfl rfl rfl (Nat.ble_eq.mp rfl) rfl rfl rfl (I10.kd b3 (by decide) (n := 3) rfl) rfl ?_
    refine s_46_2 I10 b3 b18 ?_
    intro m19 v22 I20 F21 b23
    have F24 : Fr l_27_2 0 0 g μ m19 := F14.t F21 rfl
    show ex_q (dt_fg L ρ) rc (d + 2, (27, 34, [some (eR a0), some (eI (a1)), some (eJ (a2)), none, some (eI (a4)), some (eI (a5)), some (eI (v12)), none], [eI (v22)]), f :: F, m19)
    refine w_t (np := 36) (l2 := [some (eR a0), some (eI (a1)), some (eJ (a2)), none, some (eI (a4)), some (eI (a5)), some (eI (v12)), some (eI (v22))]) (s2 := []) rfl rfl rfl ?_
    refine w_t (np := 37) (l2 := [some (eR a0), some (eI (a1)), some (eJ (a2)), none, some (eI (a4)), some (eI (a5)), some (eI (v12)), some (eI (v22))]) (s2 := [eR a0]) rfl (s_an rfl (pos_g I20 gA0 (by decide))) rfl ?_
    refine w_t (np := 38) (l2 := [some (eR a0), some (eI (a1)), some (eJ (a2)), none, some (eI (a4)), some (eI (a5)), some (eI (v12)), some (eI (v22))]) (s2 := [eR a0, eR a0]) rfl (s_an rfl (pos_g I20 gA0 (by decide))) rfl ?_
    refine w_gf (np := 41) (v := eI (co)) rfl rfl (I20.kd gA0 (by decide) (n := 8) rfl) (by rw [(F21.k (F11.k h_co gA0 (by decide) rfl) gA0 (by decide) rfl)]; rfl) ?_
    refine w_t (np := 42) (l2 := [some (eR a0), some (eI (a1)), some (eJ (a2)), none, some (eI (a4)), some (eI (a5)), some (eI (v12)), some (eI (v22))]) (s2 := [eI (a1), eI (co), eR a0]) rfl rfl rfl ?_
    refine w_t (np := 43) (l2 := [some (eR a0), some (eI (a1)), some (eJ (a2)), none, some (eI (a4)), some (eI (a5)), some (eI (v12)), some (eI (v22))]) (s2 := [eR a0, eI (a1), eI (co), eR a0]) rfl (s_an rfl (pos_g I20 gA0 (by decide))) rfl ?_
    refine w_gf (np := 46) (v := eI (co)) rfl rfl (I20.kd gA0 (by decide) (n := 8) rfl) (by rw [(F21.k (F11.k h_co gA0 (by decide) rfl) gA0 (by decide) rfl)]; rfl) ?_
    refine w_t (np := 48) (l2 := [some (eR a0), some (eI (a1)), some (eJ (a2)), none, some (eI (a4)), some (eI (a5)), some (eI (v12)), some (eI (v22))]) (s2 := [eI (a4), eI (co), eI (a1), eI (co), eR a0]) rfl rfl rfl ?_
    refine w_t (np := 50) (l2 := [some (eR a0), some (eI (a1)), some (eJ (a2)), none, some (eI (a4)), some (eI (a5)), some (eI (v12)), some (eI (v22))]) (s2 := [eI (a5), eI (a4), eI (co), eI (a1), eI (co), eR a0]) rfl rfl rfl ?_
    refine w_cw (np := 53) (as := [eI (co), eI (a1), eI (co), eI (a4), eI (a5)]) (l2 := [some (eR a0), some (eI (co)), some (eI (a1)), some (eI (co)), some (eI (a4)), some (eI (a5))]) (rest := []) rfl rfl rfl (Nat.ble_eq.mp rfl) rfl rfl rfl (I20.kd gA0 (by decide) (n := 8) rfl) rfl ?_
    refine s_28_2 (a1 := co) (a2 := a1) (a3 := co) (a4 := a4) (a5 := a5) I20 gA0 (by omega) (by omega) (by omega) (by omega) (by omega) ?_
    intro m25 I26 F27
    have F28 : Fr l_27_2 0 0 g μ m25 := F24.t F27 rfl
    show ex_q (dt_fg L ρ) rc (d + 2, (27, 53, [some (eR a0), some (eI (a1)), some (eJ (a2)), none, some (eI (a4)), some (eI (a5)), some (eI (v12)), some (eI (v22))], []), f :: F, m25)
    refine w_t (np := 54) (l2 := [some (eR a0), some (eI (a1)), some (eJ (a2)), none, some (eI (a4)), some (eI (a5)), some (eI (v12)), some (eI (v22))]) (s2 := [eR a0]) rfl (s_an rfl (pos_g I26 gA0 (by decide))) rfl ?_
    refine w_t (np := 55) (l2 := [some (eR a0), some (eI (a1)), some (eJ (a2)), none, some (eI (a4)), some (eI (a5)), some (eI (v12)), some (eI (v22))]) (s2 := [eR a0, eR a0]) rfl (s_an rfl (pos_g I26 gA0 (by decide))) rfl ?_
    refine w_gf (np := 58) (v := eI (co)) rfl rfl (I26.kd gA0 (by decide) (n := 8) rfl) (by rw [(F27.k (F21.k (F11.k h_co gA0 (by decide) rfl) gA0 (by decide) rfl) gA0 (by decide) rfl)]; rfl) ?_
    refine w_t (np := 59) (l2 := [some (eR a0), some (eI (a1)), some (eJ (a2)), none, some (eI (a4)), some (eI (a5)), some (eI (v12)), some (eI (v22))]) (s2 := [eR a0, eI (co), eR a0]) rfl (s_an rfl (pos_g I26 gA0 (by decide))) rfl ?_
    refine w_gf (np := 62) (v := eR v1) rfl rfl (I26.kd gA0 (by decide) (n := 8) rfl) (by rw [(F27.k (F21.k (F11.k e2 gA0 (by decide) rfl) gA0 (by decide) rfl) gA0 (by decide) rfl)]; rfl) ?_
    refine w_t (np := 63) (l2 := [some (eR a0), some (eI (a1)), some (eJ (a2)), none, some (eI (a4)), some (eI (a5)), some (eI (v12)), some (eI (v22))]) (s2 := [eJ (a2), eR v1, eI (co), eR a0]) rfl rfl rfl ?_
    refine w_cw (np := 66) (as := [eJ (a2)]) (l2 := [some (eR v1), some (eJ (a2)), none, none]) (rest := [eI (co), eR a0]) rfl rfl rfl (Nat.ble_eq.mp rfl) rfl rfl rfl (I26.kd b3 (by decide) (n := 3) rfl) rfl ?_
    refine s_46_2 I26 b3 bA2 ?_
    intro m29 v32 I30 F31 b33
    have F34 : Fr l_27_2 0 0 g μ m29 := F28.t F31 rfl
    show ex_q (dt_fg L ρ) rc (d + 2, (27, 66, [some (eR a0), some (eI (a1)), some (eJ (a2)), none, some (eI (a4)), some (eI (a5)), some (eI (v12)), some (eI (v22))], [eI (v32), eI (co), eR a0]), f :: F, m29)
    refine w_t (np := 68) (l2 := [some (eR a0), some (eI (a1)), some (eJ (a2)), none, some (eI (a4)), some (eI (a5)), some (eI (v12)), some (eI (v22))]) (s2 := [eI (v12), eI (v32), eI (co), eR a0]) rfl rfl rfl ?_
    refine w_t (np := 70) (l2 := [some (eR a0), some (eI (a1)), some (eJ (a2)), none, some (eI (a4)), some (eI (a5)), some (eI (v12)), some (eI (v22))]) (s2 := [eI (v22), eI (v12), eI (v32), eI (co), eR a0]) rfl rfl rfl ?_
    refine w_cw (np := 73) (as := [eI (co), eI (v32), eI (v12), eI (v22)]) (l2 := [some (eR a0), some (eI (co)), some (eI (v32)), some (eI (v12)), some (eI (v22))]) (rest := []) rfl rfl rfl (Nat.ble_eq.mp rfl) rfl rfl rfl (I30.kd gA0 (by decide) (n := 8) rfl) rfl ?_
    refine s_29_2 (a1 := co) (a2 := v32) (a3 := v12) (a4 := v22) I30 gA0 (by omega) (by omega) (by omega) (by omega) ?_
    intro m35 I36 F37
    have F38 : Fr l_27_2 0 0 g μ m35 := F34.t F37 rfl
    show ex_q (dt_fg L ρ) rc (d + 2, (27, 73, [some (eR a0), some (eI (a1)), some (eJ (a2)), none, some (eI (a4)), some (eI (a5)), some (eI (v12)), some (eI (v22))], []), f :: F, m35)
    refine w_t (np := 74) (l2 := [some (eR a0), some (eI (a1)), some (eJ (a2)), none, some (eI (a4)), some (eI (a5)), some (eI (v12)), some (eI (v22))]) (s2 := [eR a0]) rfl (s_an rfl (pos_g I36 gA0 (by decide))) rfl ?_
    refine w_t (np := 75) (l2 := [some (eR a0), some (eI (a1)), some (eJ (a2)), none, some (eI (a4)), some (eI (a5)), some (eI (v12)), some (eI (v22))]) (s2 := [eR a0, eR a0]) rfl rfl rfl ?_
    refine w_gf (np := 78) (v := eI (co)) rfl rfl (I36.kd gA0 (by decide) (n := 8) rfl) (by rw [(F37.k (F31.k (F27.k (F21.k (F11.k h_co gA0 (by decide) rfl) gA0 (by decide) rfl) gA0 (by decide) rfl) gA0 (by decide) rfl) gA0 (by decide) rfl)]; rfl) ?_
    refine w_t (np := 79) (l2 := [some (eR a0), some (eI (a1)), some (eJ (a2)), none, some (eI (a4)), some (eI (a5)), some (eI (v12)), some (eI (v22))]) (s2 := [eI (1), eI (co), eR a0]) rfl rfl rfl ?_
    obtain ⟨v39, e40⟩ : ∃ zz : Int, zz = (co) + (1) := ⟨_, rfl⟩
    have b41 : 1 ≤ v39 ∧ v39 ≤ 891 := by omega
    refine w_t (np := 80) (l2 := [some (eR a0), some (eI (a1)), some (eJ (a2)), none, some (eI (a4)), some (eI (a5)), some (eI (v12)), some (eI (v22))]) (s2 := [eI (v39), eR a0]) rfl (b_iadd (by rw [← e40]; exact ev_w_in (by omega) (by omega))) rfl ?_
    refine j_pf (np := 83) (w := v39) rfl rfl I36 gA0 (by decide) (n := 8) rfl rfl (hO_i (lo := 0) (hi := 890) rfl (by omega)) ?_
    intro m42 I43 W44
    have F45 : Fr l_27_2 0 0 g μ m42 := F38.w W44 gA0 rfl
    exact v_rv rfl rfl (K m42 (v39) I43 F45 W44.at (by omega))
def l_136 : List Nat := [7430, 7431, 8448, 7936, 8192, 7680, 8704]
theorem s_136 {L : Nat} {ρ : Nat → Int} {rc : eQ} {d : Nat} {f : eFr} {F : List eFr} {μ : eM} {g : Nat → Nat} {a0 : Nat} {a1 : Int} {ct : Int} (hI : SI g μ) (gA0 : g a0 = 29) (bA1 : 0 ≤ a1 ∧ a1 ≤ 23) (h_ct : μ.1 a0 5 = ct) (hp0 : a1 < ct) (K : ∀ (μ2 : eM) (ct2 : Int), SI g μ2 → Fr l_136 0 0 g μ μ2 → μ2.1 a0 5 = ct2 → ex_q (dt_fg L ρ) rc (d + 3, (f.1, f.2.1, f.2.2.1, f.2.2.2), F, μ2)) : ex_q (dt_fg L ρ) rc (d + 2, (136, 0, [some (eR a0), some (eI (a1)), none], []), f :: F, μ) := by
  have F0 : Fr l_136 0 0 g μ μ := Fr.r
  have b_ct : 0 ≤ ct ∧ ct ≤ 24 := by
    rw [← h_ct]
    exact hI.int gA0 (by decide) (n := 7) rfl (by decide) rfl
  refine w_t (np := 1) (l2 := [some (eR a0), some (eI (a1)), none]) (s2 := [eI (a1)]) rfl rfl rfl ?_
  refine w_t (np := 2) (l2 := [some (eR a0), some (eI (a1)), some (eI (a1))]) (s2 := []) rfl rfl rfl ?_
  have hL2 : ∀ (n1 : Nat) (m5 : eM) (i3 : Int), SI g m5 → Fr l_136 0 0 g μ m5 → (0 ≤ i3 ∧ i3 ≤ 23) → m5.1 a0 5 = ct → n1 = (23 - i3).toNat → ex_q (dt_fg L ρ) rc (d + 2, (136, 2, [some (eR a0), some (eI (a1)), some (eI (i3))], []), f :: F, m5) := by
    intro n1
    induction n1 using Nat.strongRecOn with
    | _ n1 ih2 =>
    intro m5 i3 I6 F7 b4 k8 hn9
    refine w_t (np := 3) (l2 := [some (eR a0), some (eI (a1)), some (eI (i3))]) (s2 := [eI (i3)]) rfl rfl rfl ?_
    refine w_t (np := 4) (l2 := [some (eR a0), some (eI (a1)), some (eI (i3))]) (s2 := [eR a0, eI (i3)]) rfl (s_an rfl (pos_g I6 gA0 (by decide))) rfl ?_
    refine w_gf (np := 7) (v := eI (ct)) rfl rfl (I6.kd gA0 (by decide) (n := 7) rfl) (by rw [k8]; rfl) ?_
    refine w_t (np := 8) (l2 := [some (eR a0), some (eI (a1)), some (eI (i3))]) (s2 := [eI (1), eI (ct), eI (i3)]) rfl rfl rfl ?_
    obtain ⟨v10, e11⟩ : ∃ zz : Int, zz = (ct) - (1) := ⟨_, rfl⟩
    have b12 : -1 ≤ v10 ∧ v10 ≤ 23 := by omega
    refine w_t (np := 9) (l2 := [some (eR a0), some (eI (a1)), some (eI (i3))]) (s2 := [eI (v10), eI (i3)]) rfl (b_isub (by rw [← e11]; exact ev_w_in (by omega) (by omega))) rfl ?_
    refine b_cge (t1 := 80) (t2 := 12) rfl rfl rfl (ev_w_in (by omega) (by omega)) (ev_w_in (by omega) (by omega)) (fun g13 => ?_) (fun g13 => ?_)
    · refine w_t (np := 81) (l2 := [some (eR a0), some (eI (a1)), some (eI (i3))]) (s2 := [eR a0]) rfl (s_an rfl (pos_g I6 gA0 (by decide))) rfl ?_
      refine w_t (np := 82) (l2 := [some (eR a0), some (eI (a1)), some (eI (i3))]) (s2 := [eR a0, eR a0]) rfl rfl rfl ?_
      refine w_gf (np := 85) (v := eI (ct)) rfl rfl (I6.kd gA0 (by decide) (n := 7) rfl) (by rw [k8]; rfl) ?_
      refine w_t (np := 86) (l2 := [some (eR a0), some (eI (a1)), some (eI (i3))]) (s2 := [eI (1), eI (ct), eR a0]) rfl rfl rfl ?_
      obtain ⟨v14, e15⟩ : ∃ zz : Int, zz = (ct) - (1) := ⟨_, rfl⟩
      have b16 : -1 ≤ v14 ∧ v14 ≤ 23 := by omega
      refine w_t (np := 87) (l2 := [some (eR a0), some (eI (a1)), some (eI (i3))]) (s2 := [eI (v14), eR a0]) rfl (b_isub (by rw [← e15]; exact ev_w_in (by omega) (by omega))) rfl ?_
      refine j_pf (np := 90) (w := v14) rfl rfl I6 gA0 (by decide) (n := 7) rfl rfl (hO_i (lo := 0) (hi := 24) rfl (by omega)) ?_
      intro m17 I18 W19
      have F20 : Fr l_136 0 0 g μ m17 := F7.w W19 gA0 rfl
      refine w_t (np := 91) (l2 := [some (eR a0), some (eI (a1)), some (eI (i3))]) (s2 := [eR a0]) rfl (s_an rfl (pos_g I18 gA0 (by decide))) rfl ?_
      refine w_t (np := 92) (l2 := [some (eR a0), some (eI (a1)), some (eI (i3))]) (s2 := [eI (0), eR a0]) rfl rfl rfl ?_
      refine j_pf (np := 95) (w := 0) rfl rfl I18 gA0 (by decide) (n := 7) rfl rfl (hO_i (lo := 0) (hi := 96) rfl (by decide)) ?_
      intro m21 I22 W23
      have F24 : Fr l_136 0 0 g μ m21 := F20.w W23 gA0 rfl
      refine w_t (np := 96) (l2 := [some (eR a0), some (eI (a1)), some (eI (i3))]) (s2 := [eI (0)]) rfl rfl rfl ?_
      refine w_t (np := 97) (l2 := [some (eR a0), some (eI (a1)), some (eI (0))]) (s2 := []) rfl rfl rfl ?_
      have hL97 : ∀ (n25 : Nat) (m29 : eM) (i27 : Int), SI g m29 → Fr l_136 0 0 g μ m29 → (0 ≤ i27 ∧ i27 ≤ 24) → m29.1 a0 5 = v14 → n25 = (24 - i27).toNat → ex_q (dt_fg L ρ) rc (d + 2, (136, 97, [some (eR a0), some (eI (a1)), some (eI (i27))], []), f :: F, m29) := by
        intro n25
        induction n25 using Nat.strongRecOn with
        | _ n25 ih26 =>
        intro m29 i27 I30 F31 b28 k32 hn33
        refine w_t (np := 98) (l2 := [some (eR a0), some (eI (a1)), some (eI (i27))]) (s2 := [eI (i27)]) rfl rfl rfl ?_
        refine w_t (np := 99) (l2 := [some (eR a0), some (eI (a1)), some (eI (i27))]) (s2 := [eR a0, eI (i27)]) rfl (s_an rfl (pos_g I30 gA0 (by decide))) rfl ?_
        refine w_gf (np := 102) (v := eI (v14)) rfl rfl (I30.kd gA0 (by decide) (n := 7) rfl) (by rw [k32]; rfl) ?_
        refine b_cge (t1 := 116) (t2 := 105) rfl rfl rfl (ev_w_in (by omega) (by omega)) (ev_w_in (by omega) (by omega)) (fun g34 => ?_) (fun g34 => ?_)
        · exact v_rv rfl rfl (K m29 (v14) I30 F31 k32)
        · have b35 : 0 ≤ i27 ∧ i27 ≤ 22 := by omega
          have b36 : 1 ≤ v14 ∧ v14 ≤ 23 := by omega
          refine w_t (np := 106) (l2 := [some (eR a0), some (eI (a1)), some (eI (i27))]) (s2 := [eR a0]) rfl (s_an rfl (pos_g I30 gA0 (by decide))) rfl ?_
          refine w_t (np := 107) (l2 := [some (eR a0), some (eI (a1)), some (eI (i27))]) (s2 := [eI (i27), eR a0]) rfl rfl rfl ?_
          refine w_cw (np := 110) (as := [eI (i27)]) (l2 := [some (eR a0), some (eI (i27)), none, none, none]) (rest := []) rfl rfl rfl (Nat.ble_eq.mp rfl) rfl rfl rfl (I30.kd gA0 (by decide) (n := 7) rfl) rfl ?_
          refine s_137 (a1 := i27) I30 gA0 (by omega) ?_
          intro m35 I36 F37
          have F38 : Fr l_136 0 0 g μ m35 := F31.t F37 rfl
          show ex_q (dt_fg L ρ) rc (d + 2, (136, 110, [some (eR a0), some (eI (a1)), some (eI (i27))], []), f :: F, m35)
          obtain ⟨v39, e40⟩ : ∃ zz : Int, zz = (i27) + (1) := ⟨_, rfl⟩
          have b41 : 1 ≤ v39 ∧ v39 ≤ 23 := by omega
          refine w_t (np := 113) (l2 := [some (eR a0), some (eI (a1)), some (eI (v39))]) (s2 := []) rfl (b_iinc rfl (by rw [← e40]; exact ev_w_in (by omega) (by omega)) rfl) rfl ?_
          refine w_go (t1 := 97) rfl rfl ?_
          exact ih26 (24 - (v39)).toNat (by omega) m35 (v39) I36 F38 (by omega) (F37.k k32 gA0 (by decide) rfl)    rfl
      exact hL97 _ m21 (0) I22 F24 (by decide) (W23.slot W19.at (by decide))    rfl
    · have b14 : 0 ≤ i3 ∧ i3 ≤ 22 := by omega
      have b15 : 1 ≤ v10 ∧ v10 ≤ 23 := by omega
      refine w_t (np := 13) (l2 := [some (eR a0), some (eI (a1)), some (eI (i3))]) (s2 := [eR a0]) rfl (s_an rfl (pos_g I6 gA0 (by decide))) rfl ?_
      refine j_gr (np := 16) rfl rfl I6 gA0 (by decide) (n := 7) rfl rfl rfl ?_
      intro v14 e15 b16 z17
      have b16 : g v14 = 30 := Nat.eq_of_beq_eq_true b16
      refine w_t (np := 17) (l2 := [some (eR a0), some (eI (a1)), some (eI (i3))]) (s2 := [eI (i3), eR v14]) rfl rfl rfl ?_
      refine w_t (np := 18) (l2 := [some (eR a0), some (eI (a1)), some (eI (i3))]) (s2 := [eR a0, eI (i3), eR v14]) rfl (s_an rfl (pos_g I6 gA0 (by decide))) rfl ?_
      refine w_gf (np := 21) (v := eR v14) rfl rfl (I6.kd gA0 (by decide) (n := 7) rfl) (by rw [e15]; rfl) ?_
      refine w_t (np := 22) (l2 := [some (eR a0), some (eI (a1)), some (eI (i3))]) (s2 := [eI (i3), eR v14, eI (i3), eR v14]) rfl rfl rfl ?_
      refine w_t (np := 23) (l2 := [some (eR a0), some (eI (a1)), some (eI (i3))]) (s2 := [eI (1), eI (i3), eR v14, eI (i3), eR v14]) rfl rfl rfl ?_
      obtain ⟨v18, e19⟩ : ∃ zz : Int, zz = (i3) + (1) := ⟨_, rfl⟩
      have b20 : 1 ≤ v18 ∧ v18 ≤ 23 := by omega
      refine w_t (np := 24) (l2 := [some (eR a0), some (eI (a1)), some (eI (i3))]) (s2 := [eI (v18), eR v14, eI (i3), eR v14]) rfl (b_iadd (by rw [← e19]; exact ev_w_in (by omega) (by omega))) rfl ?_
      refine j_al (np := 25) rfl rfl I6 b16 (by decide) (n := 24) rfl rfl (lo := 0) (hi := 1) (fun _ => rfl) (by omega) (by omega) ?_
      intro v21 e22 b23
      refine j_as (np := 26) rfl rfl I6 b16 (by decide) (n := 24) rfl rfl (lo := 0) (hi := 1) (fun _ => rfl) (by omega) (by omega) (by omega) ?_
      intro m24 I25 W26
      have F27 : Fr l_136 0 0 g μ m24 := F7.v W26 b16 rfl rfl
      refine w_t (np := 27) (l2 := [some (eR a0), some (eI (a1)), some (eI (i3))]) (s2 := [eR a0]) rfl (s_an rfl (pos_g I25 gA0 (by decide))) rfl ?_
      refine j_gr (np := 30) rfl rfl I25 gA0 (by decide) (n := 7) rfl rfl rfl ?_
      intro v28 e29 b30 z31
      have b30 : g v28 = 31 := Nat.eq_of_beq_eq_true b30
      refine w_t (np := 31) (l2 := [some (eR a0), some (eI (a1)), some (eI (i3))]) (s2 := [eI (i3), eR v28]) rfl rfl rfl ?_
      refine w_t (np := 32) (l2 := [some (eR a0), some (eI (a1)), some (eI (i3))]) (s2 := [eR a0, eI (i3), eR v28]) rfl (s_an rfl (pos_g I25 gA0 (by decide))) rfl ?_
      refine w_gf (np := 35) (v := eR v28) rfl rfl (I25.kd gA0 (by decide) (n := 7) rfl) (by rw [e29]; rfl) ?_
      refine w_t (np := 36) (l2 := [some (eR a0), some (eI (a1)), some (eI (i3))]) (s2 := [eI (i3), eR v28, eI (i3), eR v28]) rfl rfl rfl ?_
      refine w_t (np := 37) (l2 := [some (eR a0), some (eI (a1)), some (eI (i3))]) (s2 := [eI (1), eI (i3), eR v28, eI (i3), eR v28]) rfl rfl rfl ?_
      obtain ⟨v32, e33⟩ : ∃ zz : Int, zz = (i3) + (1) := ⟨_, rfl⟩
      have b34 : 1 ≤ v32 ∧ v32 ≤ 23 := by omega
      refine w_t (np := 38) (l2 := [some (eR a0), some (eI (a1)), some (eI (i3))]) (s2 := [eI (v32), eR v28, eI (i3), eR v28]) rfl (b_iadd (by rw [← e33]; exact ev_w_in (by omega) (by omega))) rfl ?_
      refine j_al (np := 39) rfl rfl I25 b30 (by decide) (n := 24) rfl rfl (lo := 0) (hi := 9) (fun _ => rfl) (by omega) (by omega) ?_
      intro v35 e36 b37
      refine j_as (np := 40) rfl rfl I25 b30 (by decide) (n := 24) rfl rfl (lo := 0) (hi := 9) (fun _ => rfl) (by omega) (by omega) (by omega) ?_
      intro m38 I39 W40
      have F41 : Fr l_136 0 0 g μ m38 := F27.v W40 b30 rfl rfl
      refine w_t (np := 41) (l2 := [some (eR a0), some (eI (a1)), some (eI (i3))]) (s2 := [eR a0]) rfl (s_an rfl (pos_g I39 gA0 (by decide))) rfl ?_
      refine j_gr (np := 44) rfl rfl I39 gA0 (by decide) (n := 7) rfl rfl rfl ?_
      intro v42 e43 b44 z45
      have b44 : g v42 = 32 := Nat.eq_of_beq_eq_true b44
      refine w_t (np := 45) (l2 := [some (eR a0), some (eI (a1)), some (eI (i3))]) (s2 := [eI (i3), eR v42]) rfl rfl rfl ?_
      refine w_t (np := 46) (l2 := [some (eR a0), some (eI (a1)), some (eI (i3))]) (s2 := [eR a0, eI (i3), eR v42]) rfl (s_an rfl (pos_g I39 gA0 (by decide))) rfl ?_
      refine w_gf (np := 49) (v := eR v42) rfl rfl (I39.kd gA0 (by decide) (n := 7) rfl) (by rw [e43]; rfl) ?_
      refine w_t (np := 50) (l2 := [some (eR a0), some (eI (a1)), some (eI (i3))]) (s2 := [eI (i3), eR v42, eI (i3), eR v42]) rfl rfl rfl ?_
      refine w_t (np := 51) (l2 := [some (eR a0), some (eI (a1)), some (eI (i3))]) (s2 := [eI (1), eI (i3), eR v42, eI (i3), eR v42]) rfl rfl rfl ?_
      obtain ⟨v46, e47⟩ : ∃ zz : Int, zz = (i3) + (1) := ⟨_, rfl⟩
      have b48 : 1 ≤ v46 ∧ v46 ≤ 23 := by omega
      refine w_t (np := 52) (l2 := [some (eR a0), some (eI (a1)), some (eI (i3))]) (s2 := [eI (v46), eR v42, eI (i3), eR v42]) rfl (b_iadd (by rw [← e47]; exact ev_w_in (by omega) (by omega))) rfl ?_
      refine j_al (np := 53) rfl rfl I39 b44 (by decide) (n := 24) rfl rfl (lo := 0) (hi := 1) (fun _ => rfl) (by omega) (by omega) ?_
      intro v49 e50 b51
      refine j_as (np := 54) rfl rfl I39 b44 (by decide) (n := 24) rfl rfl (lo := 0) (hi := 1) (fun _ => rfl) (by omega) (by omega) (by omega) ?_
      intro m52 I53 W54
      have F55 : Fr l_136 0 0 g μ m52 := F41.v W54 b44 rfl rfl
      refine w_t (np := 55) (l2 := [some (eR a0), some (eI (a1)), some (eI (i3))]) (s2 := [eR a0]) rfl (s_an rfl (pos_g I53 gA0 (by decide))) rfl ?_
      refine j_gr (np := 58) rfl rfl I53 gA0 (by decide) (n := 7) rfl rfl rfl ?_
      intro v56 e57 b58 z59
      have b58 : g v56 = 33 := Nat.eq_of_beq_eq_true b58
      refine w_t (np := 59) (l2 := [some (eR a0), some (eI (a1)), some (eI (i3))]) (s2 := [eI (4), eR v56]) rfl rfl rfl ?_
      refine w_t (np := 60) (l2 := [some (eR a0), some (eI (a1)), some (eI (i3))]) (s2 := [eI (i3), eI (4), eR v56]) rfl rfl rfl ?_
      obtain ⟨v60, e61⟩ : ∃ zz : Int, zz = (4) * (i3) := ⟨_, rfl⟩
      have b62 : 0 ≤ v60 ∧ v60 ≤ 88 := by omega
      refine w_t (np := 61) (l2 := [some (eR a0), some (eI (a1)), some (eI (i3))]) (s2 := [eI (v60), eR v56]) rfl (b_imul (by rw [← e61]; exact ev_w_in (by omega) (by omega))) rfl ?_
      refine w_t (np := 62) (l2 := [some (eR a0), some (eI (a1)), some (eI (i3))]) (s2 := [eI (4), eI (v60), eR v56]) rfl rfl rfl ?_
      obtain ⟨v63, e64⟩ : ∃ zz : Int, zz = (v60) + (4) := ⟨_, rfl⟩
      have b65 : 4 ≤ v63 ∧ v63 ≤ 92 := by omega
      refine w_t (np := 63) (l2 := [some (eR a0), some (eI (a1)), some (eI (i3))]) (s2 := [eI (v63), eR v56]) rfl (b_iadd (by rw [← e64]; exact ev_w_in (by omega) (by omega))) rfl ?_
      refine w_t (np := 64) (l2 := [some (eR a0), some (eI (a1)), some (eI (i3))]) (s2 := [eR a0, eI (v63), eR v56]) rfl (s_an rfl (pos_g I53 gA0 (by decide))) rfl ?_
      refine w_gf (np := 67) (v := eR v56) rfl rfl (I53.kd gA0 (by decide) (n := 7) rfl) (by rw [e57]; rfl) ?_
      refine w_t (np := 68) (l2 := [some (eR a0), some (eI (a1)), some (eI (i3))]) (s2 := [eI (4), eR v56, eI (v63), eR v56]) rfl rfl rfl ?_
      refine w_t (np := 69) (l2 := [some (eR a0), some (eI (a1)), some (eI (i3))]) (s2 := [eI (i3), eI (4), eR v56, eI (v63), eR v56]) rfl rfl rfl ?_
      obtain ⟨v66, e67⟩ : ∃ zz : Int, zz = (4) * (i3) := ⟨_, rfl⟩
      have b68 : 0 ≤ v66 ∧ v66 ≤ 88 := by omega
      refine w_t (np := 70) (l2 := [some (eR a0), some (eI (a1)), some (eI (i3))]) (s2 := [eI (v66), eR v56, eI (v63), eR v56]) rfl (b_imul (by rw [← e67]; exact ev_w_in (by omega) (by omega))) rfl ?_
      refine w_t (np := 71) (l2 := [some (eR a0), some (eI (a1)), some (eI (i3))]) (s2 := [eI (4), eI (v66), eR v56, eI (v63), eR v56]) rfl rfl rfl ?_
      refine j_cp (np := 74) rfl rfl I53 b58 b58 (by decide) (n := 96) rfl (by decide) rfl (lo := -9223372036854775808) (hi := 9223372036854775807) (fun _ => rfl) (by omega) (by omega) (by decide) (by omega) (by omega) rfl ?_
      intro m69 I70 F71
      have F72 : Fr l_136 0 0 g μ m69 := F55.t F71 rfl
      show ex_q (dt_fg L ρ) rc (d + 2, (136, 74, [some (eR a0), some (eI (a1)), some (eI (i3))], []), f :: F, m69)
      obtain ⟨v73, e74⟩ : ∃ zz : Int, zz = (i3) + (1) := ⟨_, rfl⟩
      have b75 : 1 ≤ v73 ∧ v73 ≤ 23 := by omega
      refine w_t (np := 77) (l2 := [some (eR a0), some (eI (a1)), some (eI (v73))]) (s2 := []) rfl (b_iinc rfl (by rw [← e74]; exact ev_w_in (by omega) (by omega)) rfl) rfl ?_
      refine w_go (t1 := 2) rfl rfl ?_
      exact ih2 (23 - (v73)).toNat (by omega) m69 (v73) I70 F72 (by omega) (F71.k (W54.addr (W40.addr (W26.addr k8 b16 gA0 (by decide)) b30 gA0 (by decide)) b44 gA0 (by decide)) gA0 (by decide) rfl)    rfl
  exact hL2 _ μ (a1) hI F0 (by omega) h_ct    rfl
def l_187 : List Nat := [270, 7430, 7431, 8448, 7936, 8192, 7680, 8704]
theorem s_187 {L : Nat} {ρ : Nat → Int} {rc : eQ} {d : Nat} {f : eFr} {F : List eFr} {μ : eM} {g : Nat → Nat} {a0 : Nat} {a1 : Int} (hI : SI g μ) (gA0 : g a0 = 1) (bA1 : -2147483648 ≤ a1 ∧ a1 ≤ 2147483647) (K : ∀ (μ2 : eM) (v : Int), SI g μ2 → Fr l_187 0 0 g μ μ2 → (-2147483648 ≤ v ∧ v ≤ 2147483647) → ex_q (dt_fg L ρ) rc (d + 4, (f.1, f.2.1, f.2.2.1, eI v :: f.2.2.2), F, μ2)) : ex_q (dt_fg L ρ) rc (d + 3, (187, 0, [some (eR a0), some (eI (a1))], []), f :: F, μ) := by
  have F0 : Fr l_187 0 0 g μ μ := Fr.r
  refine w_t (np := 1) (l2 := [some (eR a0), some (eI (a1))]) (s2 := [eR a0]) rfl (s_an rfl (pos_g hI gA0 (by decide))) rfl ?_
  refine j_gr (np := 4) rfl rfl hI gA0 (by decide) (n := 14) rfl rfl rfl ?_
  intro v1 e2 b3 z4
  have b3 : g v1 = 29 := Nat.eq_of_beq_eq_true b3
  refine w_t (np := 5) (l2 := [some (eR a0), some (eI (a1))]) (s2 := [eI (a1), eR v1]) rfl rfl rfl ?_
  refine w_cw (np := 8) (as := [eI (a1)]) (l2 := [some (eR v1), some (eI (a1))]) (rest := []) rfl rfl rfl (Nat.ble_eq.mp rfl) rfl rfl rfl (hI.kd b3 (by decide) (n := 7) rfl) rfl ?_
  refine w_t (np := 1) (l2 := [some (eR v1), some (eI (a1))]) (s2 := [eI (a1)]) rfl rfl rfl ?_
  refine b_ilt (t1 := 12) (t2 := 4) rfl rfl rfl (ev_w_in (by omega) (by omega)) (fun g5 => ?_) (fun g5 => ?_)
  · have b6 : -2147483648 ≤ a1 ∧ a1 ≤ -1 := by omega
    refine w_t (np := 13) (l2 := [some (eR v1), some (eI (a1))]) (s2 := [eI (1)]) rfl rfl rfl ?_
    refine w_go (t1 := 17) rfl rfl ?_
    refine b_rz rfl rfl (Or.inr rfl) ?_
    show ex_q (dt_fg L ρ) rc (d + 3, (187, 8, [some (eR a0), some (eI (a1))], [eI (1)]), f :: F, μ)
    refine b_ieq (t1 := 17) (t2 := 11) rfl rfl rfl rfl (fun g6 => absurd g6 (by decide)) (fun g6 => ?_)
    refine w_t (np := 12) (l2 := [some (eR a0), some (eI (a1))]) (s2 := [eR a0]) rfl (s_an rfl (pos_g hI gA0 (by decide))) rfl ?_
    refine w_t (np := 13) (l2 := [some (eR a0), some (eI (a1))]) (s2 := [eI (2), eR a0]) rfl rfl rfl ?_
    refine w_cw (np := 16) (as := [eI (2)]) (l2 := [some (eR a0), some (eI (2))]) (rest := []) rfl rfl rfl (Nat.ble_eq.mp rfl) rfl rfl rfl (hI.kd gA0 (by decide) (n := 14) rfl) rfl ?_
    refine w_t (np := 1) (l2 := [some (eR a0), some (eI (2))]) (s2 := [eR a0]) rfl (s_an rfl (pos_g hI gA0 (by decide))) rfl ?_
    refine w_t (np := 2) (l2 := [some (eR a0), some (eI (2))]) (s2 := [eI (2), eR a0]) rfl rfl rfl ?_
    refine j_pf (np := 5) (w := 2) rfl rfl hI gA0 (by decide) (n := 14) rfl rfl (hO_i (lo := -2147483648) (hi := 2147483647) rfl (by decide)) ?_
    intro m7 I8 W9
    have F10 : Fr l_187 0 0 g μ m7 := F0.w W9 gA0 rfl
    refine w_t (np := 6) (l2 := [some (eR a0), some (eI (2))]) (s2 := [eI (-1)]) rfl rfl rfl ?_
    refine b_ri rfl rfl ?_
    show ex_q (dt_fg L ρ) rc (d + 3, (187, 16, [some (eR a0), some (eI (a1))], [eI (-1)]), f :: F, m7)
    exact b_ri rfl rfl (K m7 (-1) I8 F10 (by decide))
  · have b6 : 0 ≤ a1 ∧ a1 ≤ 2147483647 := by omega
    refine w_t (np := 5) (l2 := [some (eR v1), some (eI (a1))]) (s2 := [eI (a1)]) rfl rfl rfl ?_
    refine w_t (np := 6) (l2 := [some (eR v1), some (eI (a1))]) (s2 := [eR v1, eI (a1)]) rfl (s_an rfl (pos_g hI b3 (by decide))) rfl ?_
    refine j_gi (np := 9) rfl rfl rfl hI b3 (by decide) (n := 7) rfl rfl (lo := 0) (hi := 24) rfl ?_
    intro v6 e7 b8
    refine b_clt (t1 := 16) (t2 := 12) rfl rfl rfl (ev_w_in (by omega) (by omega)) (ev_w_in (by omega) (by omega)) (fun g9 => ?_) (fun g9 => ?_)
    · have b10 : 0 ≤ a1 ∧ a1 ≤ 23 := by omega
      have b11 : 1 ≤ v6 ∧ v6 ≤ 24 := by omega
      refine w_t (np := 17) (l2 := [some (eR v1), some (eI (a1))]) (s2 := [eI (0)]) rfl rfl rfl ?_
      refine b_rz rfl rfl (Or.inl rfl) ?_
      show ex_q (dt_fg L ρ) rc (d + 3, (187, 8, [some (eR a0), some (eI (a1))], [eI (0)]), f :: F, μ)
      refine b_ieq (t1 := 17) (t2 := 11) rfl rfl rfl rfl (fun g10 => ?_) (fun g10 => absurd g10 (by decide))
      refine w_t (np := 18) (l2 := [some (eR a0), some (eI (a1))]) (s2 := [eR a0]) rfl (s_an rfl (pos_g hI gA0 (by decide))) rfl ?_
      refine w_gf (np := 21) (v := eR v1) rfl rfl (hI.kd gA0 (by decide) (n := 14) rfl) (by rw [e2]; rfl) ?_
      refine w_t (np := 22) (l2 := [some (eR a0), some (eI (a1))]) (s2 := [eI (a1), eR v1]) rfl rfl rfl ?_
      refine w_cw (np := 25) (as := [eI (a1)]) (l2 := [some (eR v1), some (eI (a1)), none]) (rest := []) rfl rfl rfl (Nat.ble_eq.mp rfl) rfl rfl rfl (hI.kd b3 (by decide) (n := 7) rfl) rfl ?_
      refine s_136 (a1 := a1) hI b3 (by omega) e7 (by omega) ?_
      intro m11 v14 I12 F13 e15
      have F16 : Fr l_187 0 0 g μ m11 := F0.t F13 rfl
      have b17 : 0 ≤ v14 ∧ v14 ≤ 24 := by
        rw [← e15]
        exact I12.int b3 (by decide) (n := 7) rfl (by decide) rfl
      show ex_q (dt_fg L ρ) rc (d + 3, (187, 25, [some (eR a0), some (eI (a1))], []), f :: F, m11)
      refine w_t (np := 26) (l2 := [some (eR a0), some (eI (a1))]) (s2 := [eR a0]) rfl (s_an rfl (pos_g I12 gA0 (by decide))) rfl ?_
      refine w_t (np := 27) (l2 := [some (eR a0), some (eI (a1))]) (s2 := [eR a0, eR a0]) rfl (s_an rfl (pos_g I12 gA0 (by decide))) rfl ?_
      refine w_gf (np := 30) (v := eR v1) rfl rfl (I12.kd gA0 (by decide) (n := 14) rfl) (by rw [(F13.k e2 gA0 (by decide) rfl)]; rfl) ?_
      refine w_gf (np := 33) (v := eI (v14)) rfl rfl (I12.kd b3 (by decide) (n := 7) rfl) (by rw [e15]; rfl) ?_
      refine w_cw (np := 36) (as := [eI (v14)]) (l2 := [some (eR a0), some (eI (v14))]) (rest := []) rfl rfl rfl (Nat.ble_eq.mp rfl) rfl rfl rfl (I12.kd gA0 (by decide) (n := 14) rfl) rfl ?_
      refine w_t (np := 1) (l2 := [some (eR a0), some (eI (v14))]) (s2 := [eR a0]) rfl (s_an rfl (pos_g I12 gA0 (by decide))) rfl ?_
      refine w_t (np := 2) (l2 := [some (eR a0), some (eI (v14))]) (s2 := [eI (0), eR a0]) rfl rfl rfl ?_
      refine j_pf (np := 5) (w := 0) rfl rfl I12 gA0 (by decide) (n := 14) rfl rfl (hO_i (lo := -2147483648) (hi := 2147483647) rfl (by decide)) ?_
      intro m18 I19 W20
      have F21 : Fr l_187 0 0 g μ m18 := F16.w W20 gA0 rfl
      refine w_t (np := 6) (l2 := [some (eR a0), some (eI (v14))]) (s2 := [eI (v14)]) rfl rfl rfl ?_
      refine b_ri rfl rfl ?_
      show ex_q (dt_fg L ρ) rc (d + 3, (187, 36, [some (eR a0), some (eI (a1))], [eI (v14)]), f :: F, m18)
      exact b_ri rfl rfl (K m18 (v14) I19 F21 (by omega))
    · refine w_t (np := 13) (l2 := [some (eR v1), some (eI (a1))]) (s2 := [eI (1)]) rfl rfl rfl ?_
      refine w_go (t1 := 17) rfl rfl ?_
      refine b_rz rfl rfl (Or.inr rfl) ?_
      show ex_q (dt_fg L ρ) rc (d + 3, (187, 8, [some (eR a0), some (eI (a1))], [eI (1)]), f :: F, μ)
      refine b_ieq (t1 := 17) (t2 := 11) rfl rfl rfl rfl (fun g10 => absurd g10 (by decide)) (fun g10 => ?_)
      refine w_t (np := 12) (l2 := [some (eR a0), some (eI (a1))]) (s2 := [eR a0]) rfl (s_an rfl (pos_g hI gA0 (by decide))) rfl ?_
      refine w_t (np := 13) (l2 := [some (eR a0), some (eI (a1))]) (s2 := [eI (2), eR a0]) rfl rfl rfl ?_
      refine w_cw (np := 16) (as := [eI (2)]) (l2 := [some (eR a0), some (eI (2))]) (rest := []) rfl rfl rfl (Nat.ble_eq.mp rfl) rfl rfl rfl (hI.kd gA0 (by decide) (n := 14) rfl) rfl ?_
      refine w_t (np := 1) (l2 := [some (eR a0), some (eI (2))]) (s2 := [eR a0]) rfl (s_an rfl (pos_g hI gA0 (by decide))) rfl ?_
      refine w_t (np := 2) (l2 := [some (eR a0), some (eI (2))]) (s2 := [eI (2), eR a0]) rfl rfl rfl ?_
      refine j_pf (np := 5) (w := 2) rfl rfl hI gA0 (by decide) (n := 14) rfl rfl (hO_i (lo := -2147483648) (hi := 2147483647) rfl (by decide)) ?_
      intro m11 I12 W13
      have F14 : Fr l_187 0 0 g μ m11 := F0.w W13 gA0 rfl
      refine w_t (np := 6) (l2 := [some (eR a0), some (eI (2))]) (s2 := [eI (-1)]) rfl rfl rfl ?_
      refine b_ri rfl rfl ?_
      show ex_q (dt_fg L ρ) rc (d + 3, (187, 16, [some (eR a0), some (eI (a1))], [eI (-1)]), f :: F, m11)
      exact b_ri rfl rfl (K m11 (-1) I12 F14 (by decide))
def l_26 : List Nat := [1024, 1280, 1536, 768, 518, 519, 520, 4096, 3328, 4352, 3584, 3843, 3075]
theorem s_26 {L : Nat} {ρ : Nat → Int} {rc : eQ} {d : Nat} {f : eFr} {F : List eFr} {μ : eM} {g : Nat → Nat} {a0 : Nat} {a1 : Int} {co : Int} (hI : SI g μ) (gA0 : g a0 = 2) (bA1 : 0 ≤ a1 ∧ a1 ≤ 3) (h_co : μ.1 a0 7 = co) (K : ∀ (μ2 : eM) (co2 : Int), SI g μ2 → Fr l_26 0 0 g μ μ2 → μ2.1 a0 7 = co2 → (a1 = 0 ∧ co2 = 10 ∨ a1 = 1 ∧ co2 = 1 ∨ a1 = 2 ∧ co2 = 1 ∨ a1 = 3 ∧ co2 = 2) → ex_q (dt_fg L ρ) rc (d + 4, (f.1, f.2.1, f.2.2.1, f.2.2.2), F, μ2)) : ex_q (dt_fg L ρ) rc (d + 3, (26, 0, [some (eR a0), some (eI (a1)), none], []), f :: F, μ) := by
  have F0 : Fr l_26 0 0 g μ μ := Fr.r
  have b_co : 0 ≤ co ∧ co ≤ 50 := by
    rw [← h_co]
    exact hI.int gA0 (by decide) (n := 8) rfl (by decide) rfl
  refine w_t (np := 1) (l2 := [some (eR a0), some (eI (a1)), none]) (s2 := [eR a0]) rfl (s_an rfl (pos_g hI gA0 (by decide))) rfl ?_
  refine w_t (np := 2) (l2 := [some (eR a0), some (eI (a1)), none]) (s2 := [eI (a1), eR a0]) rfl rfl rfl ?_
  refine j_pf (np := 5) (w := a1) rfl rfl hI gA0 (by decide) (n := 8) rfl rfl (hO_i (lo := 0) (hi := 3) rfl (by omega)) ?_
  intro m1 I2 W3
  have F4 : Fr l_26 0 0 g μ m1 := F0.w W3 gA0 rfl
  refine w_t (np := 6) (l2 := [some (eR a0), some (eI (a1)), none]) (s2 := [eR a0]) rfl (s_an rfl (pos_g I2 gA0 (by decide))) rfl ?_
  refine w_t (np := 7) (l2 := [some (eR a0), some (eI (a1)), none]) (s2 := [eI (0), eR a0]) rfl rfl rfl ?_
  refine j_pf (np := 10) (w := 0) rfl rfl I2 gA0 (by decide) (n := 8) rfl rfl (hO_i (lo := 0) (hi := 5) rfl (by decide)) ?_
  intro m5 I6 W7
  have F8 : Fr l_26 0 0 g μ m5 := F4.w W7 gA0 rfl
  refine w_t (np := 11) (l2 := [some (eR a0), some (eI (a1)), none]) (s2 := [eR a0]) rfl (s_an rfl (pos_g I6 gA0 (by decide))) rfl ?_
  refine w_t (np := 12) (l2 := [some (eR a0), some (eI (a1)), none]) (s2 := [eI (0), eR a0]) rfl rfl rfl ?_
  refine j_pf (np := 15) (w := 0) rfl rfl I6 gA0 (by decide) (n := 8) rfl rfl (hO_i (lo := 0) (hi := 50) rfl (by decide)) ?_
  intro m9 I10 W11
  have F12 : Fr l_26 0 0 g μ m9 := F8.w W11 gA0 rfl
  refine w_t (np := 16) (l2 := [some (eR a0), some (eI (a1)), none]) (s2 := [eR a0]) rfl (s_an rfl (pos_g I10 gA0 (by decide))) rfl ?_
  refine j_gr (np := 19) rfl rfl I10 gA0 (by decide) (n := 8) rfl rfl rfl ?_
  intro v13 e14 b15 z16
  rcases hor2 b15 with b15 | b15
  · refine w_cw (np := 22) (as := []) (l2 := [some (eR v13)]) (rest := []) rfl rfl rfl (Nat.ble_eq.mp rfl) rfl rfl rfl (I10.kd b15 (by decide) (n := 3) rfl) rfl ?_
    refine s_43 I10 b15 ?_
    intro m17 I18 F19
    have F20 : Fr l_26 0 0 g μ m17 := F12.t F19 rfl
    show ex_q (dt_fg L ρ) rc (d + 3, (26, 22, [some (eR a0), some (eI (a1)), none], []), f :: F, m17)
    refine w_t (np := 23) (l2 := [some (eR a0), some (eI (a1)), none]) (s2 := [eI (a1)]) rfl rfl rfl ?_
    refine b_ine (t1 := 61) (t2 := 26) rfl rfl rfl (ev_w_in (by omega) (by omega)) (fun g21 => ?_) (fun g21 => ?_)
    · have b22 : 1 ≤ a1 ∧ a1 ≤ 3 := by omega
      refine w_t (np := 62) (l2 := [some (eR a0), some (eI (a1)), none]) (s2 := [eI (a1)]) rfl rfl rfl ?_
      refine w_t (np := 63) (l2 := [some (eR a0), some (eI (a1)), none]) (s2 := [eI (1), eI (a1)]) rfl rfl rfl ?_
      refine b_cne (t1 := 77) (t2 := 66) rfl rfl rfl (ev_w_in (by omega) (by omega)) rfl (fun g22 => ?_) (fun g22 => ?_)
      · have b23 : 2 ≤ a1 ∧ a1 ≤ 3 := by omega
        refine w_t (np := 78) (l2 := [some (eR a0), some (eI (a1)), none]) (s2 := [eR a0]) rfl (s_an rfl (pos_g I18 gA0 (by decide))) rfl ?_
        refine w_t (np := 79) (l2 := [some (eR a0), some (eI (a1)), none]) (s2 := [eI (1), eR a0]) rfl rfl rfl ?_
        refine w_t (np := 80) (l2 := [some (eR a0), some (eI (a1)), none]) (s2 := [eJ (0), eI (1), eR a0]) rfl rfl rfl ?_
        refine w_t (np := 81) (l2 := [some (eR a0), some (eI (a1)), none]) (s2 := [eI (0), eJ (0), eI (1), eR a0]) rfl rfl rfl ?_
        refine w_t (np := 82) (l2 := [some (eR a0), some (eI (a1)), none]) (s2 := [eI (3), eI (0), eJ (0), eI (1), eR a0]) rfl rfl rfl ?_
        refine w_cw (np := 85) (as := [eI (1), eJ (0), eI (0), eI (3)]) (l2 := [some (eR a0), some (eI (1)), some (eJ (0)), none, some (eI (0)), some (eI (3)), none, none]) (rest := []) rfl rfl rfl (Nat.ble_eq.mp rfl) rfl rfl rfl (I18.kd gA0 (by decide) (n := 8) rfl) rfl ?_
        refine s_27 (a1 := 1) (a4 := 0) (a5 := 3) I18 gA0 (by decide) (by decide) (by decide) (by decide) (F19.k W11.at gA0 (by decide) rfl) (by omega) ?_
        intro m23 v26 I24 F25 e27 h28
        have F29 : Fr l_26 0 0 g μ m23 := F20.t F25 rfl
        have b30 : 0 ≤ v26 ∧ v26 ≤ 50 := by
          rw [← e27]
          exact I24.int gA0 (by decide) (n := 8) rfl (by decide) rfl
        show ex_q (dt_fg L ρ) rc (d + 3, (26, 85, [some (eR a0), some (eI (a1)), none], []), f :: F, m23)
        refine w_t (np := 86) (l2 := [some (eR a0), some (eI (a1)), none]) (s2 := [eI (a1)]) rfl rfl rfl ?_
        refine w_t (np := 87) (l2 := [some (eR a0), some (eI (a1)), none]) (s2 := [eI (3), eI (a1)]) rfl rfl rfl ?_
        refine b_cne (t1 := 109) (t2 := 90) rfl rfl rfl (ev_w_in (by omega) (by omega)) rfl (fun g31 => ?_) (fun g31 => ?_)
        · have b32 : 2 ≤ a1 ∧ a1 ≤ 2 := by omega
          exact v_rv rfl rfl (K m23 (v26) I24 F29 e27 (by omega))
        · have b32 : 3 ≤ a1 ∧ a1 ≤ 3 := by omega
          refine w_t (np := 91) (l2 := [some (eR a0), some (eI (a1)), none]) (s2 := [eR a0]) rfl (s_an rfl (pos_g I24 gA0 (by decide))) rfl ?_
          refine w_t (np := 92) (l2 := [some (eR a0), some (eI (a1)), none]) (s2 := [eI (1), eR a0]) rfl rfl rfl ?_
          refine w_t (np := 93) (l2 := [some (eR a0), some (eI (a1)), none]) (s2 := [eI (0), eI (1), eR a0]) rfl rfl rfl ?_
          refine w_cu (np := 96) (as := [eI (0)]) (l2 := [some (eI (0))]) (rest := [eI (1), eR a0]) rfl rfl rfl (Nat.ble_eq.mp rfl) rfl rfl rfl rfl ?_
          refine s_74 (a0 := 0) I24 (by decide) ?_
          intro v32 b33
          show ex_q (dt_fg L ρ) rc (d + 3, (26, 96, [some (eR a0), some (eI (a1)), none], [eJ (v32), eI (1), eR a0]), f :: F, m23)
          refine w_t (np := 97) (l2 := [some (eR a0), some (eI (a1)), none]) (s2 := [eI (3), eJ (v32), eI (1), eR a0]) rfl rfl rfl ?_
          refine w_cu (np := 100) (as := [eI (3)]) (l2 := [some (eI (3))]) (rest := [eJ (v32), eI (1), eR a0]) rfl rfl rfl (Nat.ble_eq.mp rfl) rfl rfl rfl rfl ?_
          refine s_74 (a0 := 3) I24 (by decide) ?_
          intro v34 b35
          show ex_q (dt_fg L ρ) rc (d + 3, (26, 100, [some (eR a0), some (eI (a1)), none], [eJ (v34), eJ (v32), eI (1), eR a0]), f :: F, m23)
          refine w_cu (np := 103) (as := [eJ (v32), eJ (v34)]) (l2 := [some (eJ (v32)), none, some (eJ (v34)), none]) (rest := [eI (1), eR a0]) rfl rfl rfl (Nat.ble_eq.mp rfl) rfl rfl rfl rfl ?_
          refine s_75 I24 b33 b35 ?_
          intro v36 b37
          show ex_q (dt_fg L ρ) rc (d + 3, (26, 103, [some (eR a0), some (eI (a1)), none], [eJ (v36), eI (1), eR a0]), f :: F, m23)
          refine w_t (np := 105) (l2 := [some (eR a0), some (eI (a1)), none]) (s2 := [eI (8), eJ (v36), eI (1), eR a0]) rfl rfl rfl ?_
          refine w_t (np := 106) (l2 := [some (eR a0), some (eI (a1)), none]) (s2 := [eI (5), eI (8), eJ (v36), eI (1), eR a0]) rfl rfl rfl ?_
          refine w_cw (np := 109) (as := [eI (1), eJ (v36), eI (8), eI (5)]) (l2 := [some (eR a0), some (eI (1)), some (eJ (v36)), none, some (eI (8)), some (eI (5)), none, none]) (rest := []) rfl rfl rfl (Nat.ble_eq.mp rfl) rfl rfl rfl (I24.kd gA0 (by decide) (n := 8) rfl) rfl ?_
          refine s_27 (a1 := 1) (a4 := 8) (a5 := 5) I24 gA0 (by decide) b37 (by decide) (by decide) e27 (by omega) ?_
          intro m38 v41 I39 F40 e42 h43
          have F44 : Fr l_26 0 0 g μ m38 := F29.t F40 rfl
          have b45 : 0 ≤ v41 ∧ v41 ≤ 50 := by
            rw [← e42]
            exact I39.int gA0 (by decide) (n := 8) rfl (by decide) rfl
          show ex_q (dt_fg L ρ) rc (d + 3, (26, 109, [some (eR a0), some (eI (a1)), none], []), f :: F, m38)
          exact v_rv rfl rfl (K m38 (v41) I39 F44 e42 (by omega))
      · have b23 : 1 ≤ a1 ∧ a1 ≤ 1 := by omega
        refine w_t (np := 67) (l2 := [some (eR a0), some (eI (a1)), none]) (s2 := [eR a0]) rfl (s_an rfl (pos_g I18 gA0 (by decide))) rfl ?_
        refine w_t (np := 68) (l2 := [some (eR a0), some (eI (a1)), none]) (s2 := [eI (0), eR a0]) rfl rfl rfl ?_
        refine w_t (np := 69) (l2 := [some (eR a0), some (eI (a1)), none]) (s2 := [eJ (0), eI (0), eR a0]) rfl rfl rfl ?_
        refine w_t (np := 70) (l2 := [some (eR a0), some (eI (a1)), none]) (s2 := [eI (0), eJ (0), eI (0), eR a0]) rfl rfl rfl ?_
        refine w_t (np := 71) (l2 := [some (eR a0), some (eI (a1)), none]) (s2 := [eI (1), eI (0), eJ (0), eI (0), eR a0]) rfl rfl rfl ?_
        refine w_cw (np := 74) (as := [eI (0), eJ (0), eI (0), eI (1)]) (l2 := [some (eR a0), some (eI (0)), some (eJ (0)), none, some (eI (0)), some (eI (1)), none, none]) (rest := []) rfl rfl rfl (Nat.ble_eq.mp rfl) rfl rfl rfl (I18.kd gA0 (by decide) (n := 8) rfl) rfl ?_
        refine s_27 (a1 := 0) (a4 := 0) (a5 := 1) I18 gA0 (by decide) (by decide) (by decide) (by decide) (F19.k W11.at gA0 (by decide) rfl) (by omega) ?_
        intro m23 v26 I24 F25 e27 h28
        have F29 : Fr l_26 0 0 g μ m23 := F20.t F25 rfl
        have b30 : 0 ≤ v26 ∧ v26 ≤ 50 := by
          rw [← e27]
          exact I24.int gA0 (by decide) (n := 8) rfl (by decide) rfl
        show ex_q (dt_fg L ρ) rc (d + 3, (26, 74, [some (eR a0), some (eI (a1)), none], []), f :: F, m23)
        refine w_go (t1 := 85) rfl rfl ?_
        refine w_t (np := 86) (l2 := [some (eR a0), some (eI (a1)), none]) (s2 := [eI (a1)]) rfl rfl rfl ?_
        refine w_t (np := 87) (l2 := [some (eR a0), some (eI (a1)), none]) (s2 := [eI (3), eI (a1)]) rfl rfl rfl ?_
        refine b_cne (t1 := 109) (t2 := 90) rfl rfl rfl (ev_w_in (by omega) (by omega)) rfl (fun g31 => ?_) (fun g31 => False.elim (by omega))
        exact v_rv rfl rfl (K m23 (v26) I24 F29 e27 (by omega))
    · have b22 : 0 ≤ a1 ∧ a1 ≤ 0 := by omega
      refine w_t (np := 27) (l2 := [some (eR a0), some (eI (a1)), none]) (s2 := [eI (0)]) rfl rfl rfl ?_
      refine w_t (np := 28) (l2 := [some (eR a0), some (eI (a1)), some (eI (0))]) (s2 := []) rfl rfl rfl ?_
      have hL28 : ∀ (n22 : Nat) (m26 : eM) (i24 : Int) (x29 : Int), SI g m26 → Fr l_26 0 0 g μ m26 → (0 ≤ i24 ∧ i24 ≤ 10) → m26.1 a0 5 = a1 → m26.1 a0 6 = 0 → m26.1 a0 4 = ((v13 : Nat) : Int) → m26.1 a0 7 = x29 → (0 ≤ x29 ∧ x29 ≤ 10) → x29 = i24 → n22 = (10 - i24).toNat → ex_q (dt_fg L ρ) rc (d + 3, (26, 28, [some (eR a0), some (eI (a1)), some (eI (i24))], []), f :: F, m26) := by
        intro n22
        induction n22 using Nat.strongRecOn with
        | _ n22 ih23 =>
        intro m26 i24 x29 I27 F28 b25 k32 k33 k34 h30 b31 r35 hn36
        refine w_t (np := 29) (l2 := [some (eR a0), some (eI (a1)), some (eI (i24))]) (s2 := [eI (i24)]) rfl rfl rfl ?_
        refine w_t (np := 31) (l2 := [some (eR a0), some (eI (a1)), some (eI (i24))]) (s2 := [eI (10), eI (i24)]) rfl rfl rfl ?_
        refine b_cge (t1 := 58) (t2 := 34) rfl rfl rfl (ev_w_in (by omega) (by omega)) rfl (fun g37 => ?_) (fun g37 => ?_)
        · have b38 : 10 ≤ i24 ∧ i24 ≤ 10 := by omega
          refine w_go (t1 := 85) rfl rfl ?_
          refine w_t (np := 86) (l2 := [some (eR a0), some (eI (a1)), some (eI (i24))]) (s2 := [eI (a1)]) rfl rfl rfl ?_
          refine w_t (np := 87) (l2 := [some (eR a0), some (eI (a1)), some (eI (i24))]) (s2 := [eI (3), eI (a1)]) rfl rfl rfl ?_
          refine b_cne (t1 := 109) (t2 := 90) rfl rfl rfl (ev_w_in (by omega) (by omega)) rfl (fun g38 => ?_) (fun g38 => False.elim (by omega))
          exact v_rv rfl rfl (K m26 (x29) I27 F28 h30 (by omega))
        · have b38 : 0 ≤ i24 ∧ i24 ≤ 9 := by omega
          refine w_t (np := 35) (l2 := [some (eR a0), some (eI (a1)), some (eI (i24))]) (s2 := [eR a0]) rfl (s_an rfl (pos_g I27 gA0 (by decide))) rfl ?_
          refine w_t (np := 36) (l2 := [some (eR a0), some (eI (a1)), some (eI (i24))]) (s2 := [eI (0), eR a0]) rfl rfl rfl ?_
          refine w_t (np := 37) (l2 := [some (eR a0), some (eI (a1)), some (eI (i24))]) (s2 := [eJ (0), eI (0), eR a0]) rfl rfl rfl ?_
          refine w_t (np := 38) (l2 := [some (eR a0), some (eI (a1)), some (eI (i24))]) (s2 := [eI (i24), eJ (0), eI (0), eR a0]) rfl rfl rfl ?_
          refine w_t (np := 39) (l2 := [some (eR a0), some (eI (a1)), some (eI (i24))]) (s2 := [eI (1), eI (i24), eJ (0), eI (0), eR a0]) rfl rfl rfl ?_
          obtain ⟨v38, e39⟩ : ∃ zz : Int, zz = (i24) + (1) := ⟨_, rfl⟩
          have b40 : 1 ≤ v38 ∧ v38 ≤ 10 := by omega
          refine w_t (np := 40) (l2 := [some (eR a0), some (eI (a1)), some (eI (i24))]) (s2 := [eI (v38), eJ (0), eI (0), eR a0]) rfl (b_iadd (by rw [← e39]; exact ev_w_in (by omega) (by omega))) rfl ?_
          refine w_t (np := 41) (l2 := [some (eR a0), some (eI (a1)), some (eI (i24))]) (s2 := [eI (i24), eI (v38), eJ (0), eI (0), eR a0]) rfl rfl rfl ?_
          refine w_t (np := 42) (l2 := [some (eR a0), some (eI (a1)), some (eI (i24))]) (s2 := [eI (2), eI (i24), eI (v38), eJ (0), eI (0), eR a0]) rfl rfl rfl ?_
          obtain ⟨v41, e42, b43⟩ := h_irem (a := i24) (k := 2) (by decide) (by decide) (show (-2147483648 : Int) ≤ i24 ∧ (i24 : Int) ≤ 2147483647 by omega)
          have b44 : 0 ≤ v41 ∧ v41 ≤ 1 := by omega
          refine w_t (np := 43) (l2 := [some (eR a0), some (eI (a1)), some (eI (i24))]) (s2 := [eI (v41), eI (v38), eJ (0), eI (0), eR a0]) rfl (e42 _ _) rfl ?_
          obtain ⟨v45, e46⟩ : ∃ zz : Int, zz = (v38) - (v41) := ⟨_, rfl⟩
          have b47 : 0 ≤ v45 ∧ v45 ≤ 10 := by omega
          refine w_t (np := 44) (l2 := [some (eR a0), some (eI (a1)), some (eI (i24))]) (s2 := [eI (v45), eJ (0), eI (0), eR a0]) rfl (b_isub (by rw [← e46]; exact ev_w_in (by omega) (by omega))) rfl ?_
          refine w_t (np := 45) (l2 := [some (eR a0), some (eI (a1)), some (eI (i24))]) (s2 := [eI (i24), eI (v45), eJ (0), eI (0), eR a0]) rfl rfl rfl ?_
          refine w_t (np := 46) (l2 := [some (eR a0), some (eI (a1)), some (eI (i24))]) (s2 := [eI (i24), eI (i24), eI (v45), eJ (0), eI (0), eR a0]) rfl rfl rfl ?_
          refine w_t (np := 47) (l2 := [some (eR a0), some (eI (a1)), some (eI (i24))]) (s2 := [eI (2), eI (i24), eI (i24), eI (v45), eJ (0), eI (0), eR a0]) rfl rfl rfl ?_
          obtain ⟨v48, e49, b50⟩ := h_irem (a := i24) (k := 2) (by decide) (by decide) (show (-2147483648 : Int) ≤ i24 ∧ (i24 : Int) ≤ 2147483647 by omega)
          have b51 : 0 ≤ v48 ∧ v48 ≤ 1 := by omega
          refine w_t (np := 48) (l2 := [some (eR a0), some (eI (a1)), some (eI (i24))]) (s2 := [eI (v48), eI (i24), eI (v45), eJ (0), eI (0), eR a0]) rfl (e49 _ _) rfl ?_
          obtain ⟨v52, e53⟩ : ∃ zz : Int, zz = (i24) + (v48) := ⟨_, rfl⟩
          have b54 : 0 ≤ v52 ∧ v52 ≤ 10 := by omega
          refine w_t (np := 49) (l2 := [some (eR a0), some (eI (a1)), some (eI (i24))]) (s2 := [eI (v52), eI (v45), eJ (0), eI (0), eR a0]) rfl (b_iadd (by rw [← e53]; exact ev_w_in (by omega) (by omega))) rfl ?_
          refine w_cw (np := 52) (as := [eI (0), eJ (0), eI (v45), eI (v52)]) (l2 := [some (eR a0), some (eI (0)), some (eJ (0)), none, some (eI (v45)), some (eI (v52)), none, none]) (rest := []) rfl rfl rfl (Nat.ble_eq.mp rfl) rfl rfl rfl (I27.kd gA0 (by decide) (n := 8) rfl) rfl ?_
          refine s_27 (a1 := 0) (a4 := v45) (a5 := v52) I27 gA0 (by decide) (by decide) (by omega) (by omega) h30 (by omega) ?_
          intro m55 v58 I56 F57 e59 h60
          have F61 : Fr l_26 0 0 g μ m55 := F28.t F57 rfl
          have b62 : 0 ≤ v58 ∧ v58 ≤ 50 := by
            rw [← e59]
            exact I56.int gA0 (by decide) (n := 8) rfl (by decide) rfl
          show ex_q (dt_fg L ρ) rc (d + 3, (26, 52, [some (eR a0), some (eI (a1)), some (eI (i24))], []), f :: F, m55)
          obtain ⟨v63, e64⟩ : ∃ zz : Int, zz = (i24) + (1) := ⟨_, rfl⟩
          have b65 : 1 ≤ v63 ∧ v63 ≤ 10 := by omega
          refine w_t (np := 55) (l2 := [some (eR a0), some (eI (a1)), some (eI (v63))]) (s2 := []) rfl (b_iinc rfl (by rw [← e64]; exact ev_w_in (by omega) (by omega)) rfl) rfl ?_
          refine w_go (t1 := 28) rfl rfl ?_
          exact ih23 (10 - (v63)).toNat (by omega) m55 (v63) (v58) I56 F61 (by omega) (F57.k k32 gA0 (by decide) rfl) (F57.k k33 gA0 (by decide) rfl) (F57.k k34 gA0 (by decide) rfl) e59 (by omega)  (by omega) rfl
      exact hL28 _ m17 (0) (0) I18 F20 (by decide) (F19.k (W11.slot (W7.slot W3.at (by decide)) (by decide)) gA0 (by decide) rfl) (F19.k (W11.slot W7.at (by decide)) gA0 (by decide) rfl) (F19.k e14 gA0 (by decide) rfl) (F19.k W11.at gA0 (by decide) rfl) (by decide)  (by omega) rfl
  · refine w_cw (np := 22) (as := []) (l2 := [some (eR v13)]) (rest := []) rfl rfl rfl (Nat.ble_eq.mp rfl) rfl rfl rfl (I10.kd b15 (by decide) (n := 3) rfl) rfl ?_
    refine s_43_2 I10 b15 ?_
    intro m17 I18 F19
    have F20 : Fr l_26 0 0 g μ m17 := F12.t F19 rfl
    show ex_q (dt_fg L ρ) rc (d + 3, (26, 22, [some (eR a0), some (eI (a1)), none], []), f :: F, m17)
    refine w_t (np := 23) (l2 := [some (eR a0), some (eI (a1)), none]) (s2 := [eI (a1)]) rfl rfl rfl ?_
    refine b_ine (t1 := 61) (t2 := 26) rfl rfl rfl (ev_w_in (by omega) (by omega)) (fun g21 => ?_) (fun g21 => ?_)
    · have b22 : 1 ≤ a1 ∧ a1 ≤ 3 := by omega
      refine w_t (np := 62) (l2 := [some (eR a0), some (eI (a1)), none]) (s2 := [eI (a1)]) rfl rfl rfl ?_
      refine w_t (np := 63) (l2 := [some (eR a0), some (eI (a1)), none]) (s2 := [eI (1), eI (a1)]) rfl rfl rfl ?_
      refine b_cne (t1 := 77) (t2 := 66) rfl rfl rfl (ev_w_in (by omega) (by omega)) rfl (fun g22 => ?_) (fun g22 => ?_)
      · have b23 : 2 ≤ a1 ∧ a1 ≤ 3 := by omega
        refine w_t (np := 78) (l2 := [some (eR a0), some (eI (a1)), none]) (s2 := [eR a0]) rfl (s_an rfl (pos_g I18 gA0 (by decide))) rfl ?_
        refine w_t (np := 79) (l2 := [some (eR a0), some (eI (a1)), none]) (s2 := [eI (1), eR a0]) rfl rfl rfl ?_
        refine w_t (np := 80) (l2 := [some (eR a0), some (eI (a1)), none]) (s2 := [eJ (0), eI (1), eR a0]) rfl rfl rfl ?_
        refine w_t (np := 81) (l2 := [some (eR a0), some (eI (a1)), none]) (s2 := [eI (0), eJ (0), eI (1), eR a0]) rfl rfl rfl ?_
        refine w_t (np := 82) (l2 := [some (eR a0), some (eI (a1)), none]) (s2 := [eI (3), eI (0), eJ (0), eI (1), eR a0]) rfl rfl rfl ?_
        refine w_cw (np := 85) (as := [eI (1), eJ (0), eI (0), eI (3)]) (l2 := [some (eR a0), some (eI (1)), some (eJ (0)), none, some (eI (0)), some (eI (3)), none, none]) (rest := []) rfl rfl rfl (Nat.ble_eq.mp rfl) rfl rfl rfl (I18.kd gA0 (by decide) (n := 8) rfl) rfl ?_
        refine s_27 (a1 := 1) (a4 := 0) (a5 := 3) I18 gA0 (by decide) (by decide) (by decide) (by decide) (F19.k W11.at gA0 (by decide) rfl) (by omega) ?_
        intro m23 v26 I24 F25 e27 h28
        have F29 : Fr l_26 0 0 g μ m23 := F20.t F25 rfl
        have b30 : 0 ≤ v26 ∧ v26 ≤ 50 := by
          rw [← e27]
          exact I24.int gA0 (by decide) (n := 8) rfl (by decide) rfl
        show ex_q (dt_fg L ρ) rc (d + 3, (26, 85, [some (eR a0), some (eI (a1)), none], []), f :: F, m23)
        refine w_t (np := 86) (l2 := [some (eR a0), some (eI (a1)), none]) (s2 := [eI (a1)]) rfl rfl rfl ?_
        refine w_t (np := 87) (l2 := [some (eR a0), some (eI (a1)), none]) (s2 := [eI (3), eI (a1)]) rfl rfl rfl ?_
        refine b_cne (t1 := 109) (t2 := 90) rfl rfl rfl (ev_w_in (by omega) (by omega)) rfl (fun g31 => ?_) (fun g31 => ?_)
        · have b32 : 2 ≤ a1 ∧ a1 ≤ 2 := by omega
          exact v_rv rfl rfl (K m23 (v26) I24 F29 e27 (by omega))
        · have b32 : 3 ≤ a1 ∧ a1 ≤ 3 := by omega
          refine w_t (np := 91) (l2 := [some (eR a0), some (eI (a1)), none]) (s2 := [eR a0]) rfl (s_an rfl (pos_g I24 gA0 (by decide))) rfl ?_
          refine w_t (np := 92) (l2 := [some (eR a0), some (eI (a1)), none]) (s2 := [eI (1), eR a0]) rfl rfl rfl ?_
          refine w_t (np := 93) (l2 := [some (eR a0), some (eI (a1)), none]) (s2 := [eI (0), eI (1), eR a0]) rfl rfl rfl ?_
          refine w_cu (np := 96) (as := [eI (0)]) (l2 := [some (eI (0))]) (rest := [eI (1), eR a0]) rfl rfl rfl (Nat.ble_eq.mp rfl) rfl rfl rfl rfl ?_
          refine s_74 (a0 := 0) I24 (by decide) ?_
          intro v32 b33
          show ex_q (dt_fg L ρ) rc (d + 3, (26, 96, [some (eR a0), some (eI (a1)), none], [eJ (v32), eI (1), eR a0]), f :: F, m23)
          refine w_t (np := 97) (l2 := [some (eR a0), some (eI (a1)), none]) (s2 := [eI (3), eJ (v32), eI (1), eR a0]) rfl rfl rfl ?_
          refine w_cu (np := 100) (as := [eI (3)]) (l2 := [some (eI (3))]) (rest := [eJ (v32), eI (1), eR a0]) rfl rfl rfl (Nat.ble_eq.mp rfl) rfl rfl rfl rfl ?_
          refine s_74 (a0 := 3) I24 (by decide) ?_
          intro v34 b35
          show ex_q (dt_fg L ρ) rc (d + 3, (26, 100, [some (eR a0), some (eI (a1)), none], [eJ (v34), eJ (v32), eI (1), eR a0]), f :: F, m23)
          refine w_cu (np := 103) (as := [eJ (v32), eJ (v34)]) (l2 := [some (eJ (v32)), none, some (eJ (v34)), none]) (rest := [eI (1), eR a0]) rfl rfl rfl (Nat.ble_eq.mp rfl) rfl rfl rfl rfl ?_
          refine s_75 I24 b33 b35 ?_
          intro v36 b37
          show ex_q (dt_fg L ρ) rc (d + 3, (26, 103, [some (eR a0), some (eI (a1)), none], [eJ (v36), eI (1), eR a0]), f :: F, m23)
          refine w_t (np := 105) (l2 := [some (eR a0), some (eI (a1)), none]) (s2 := [eI (8), eJ (v36), eI (1), eR a0]) rfl rfl rfl ?_
          refine w_t (np := 106) (l2 := [some (eR a0), some (eI (a1)), none]) (s2 := [eI (5), eI (8), eJ (v36), eI (1), eR a0]) rfl rfl rfl ?_
          refine w_cw (np := 109) (as := [eI (1), eJ (v36), eI (8), eI (5)]) (l2 := [some (eR a0), some (eI (1)), some (eJ (v36)), none, some (eI (8)), some (eI (5)), none, none]) (rest := []) rfl rfl rfl (Nat.ble_eq.mp rfl) rfl rfl rfl (I24.kd gA0 (by decide) (n := 8) rfl) rfl ?_
          refine s_27 (a1 := 1) (a4 := 8) (a5 := 5) I24 gA0 (by decide) b37 (by decide) (by decide) e27 (by omega) ?_
          intro m38 v41 I39 F40 e42 h43
          have F44 : Fr l_26 0 0 g μ m38 := F29.t F40 rfl
          have b45 : 0 ≤ v41 ∧ v41 ≤ 50 := by
            rw [← e42]
            exact I39.int gA0 (by decide) (n := 8) rfl (by decide) rfl
          show ex_q (dt_fg L ρ) rc (d + 3, (26, 109, [some (eR a0), some (eI (a1)), none], []), f :: F, m38)
          exact v_rv rfl rfl (K m38 (v41) I39 F44 e42 (by omega))
      · have b23 : 1 ≤ a1 ∧ a1 ≤ 1 := by omega
        refine w_t (np := 67) (l2 := [some (eR a0), some (eI (a1)), none]) (s2 := [eR a0]) rfl (s_an rfl (pos_g I18 gA0 (by decide))) rfl ?_
        refine w_t (np := 68) (l2 := [some (eR a0), some (eI (a1)), none]) (s2 := [eI (0), eR a0]) rfl rfl rfl ?_
        refine w_t (np := 69) (l2 := [some (eR a0), some (eI (a1)), none]) (s2 := [eJ (0), eI (0), eR a0]) rfl rfl rfl ?_
        refine w_t (np := 70) (l2 := [some (eR a0), some (eI (a1)), none]) (s2 := [eI (0), eJ (0), eI (0), eR a0]) rfl rfl rfl ?_
        refine w_t (np := 71) (l2 := [some (eR a0), some (eI (a1)), none]) (s2 := [eI (1), eI (0), eJ (0), eI (0), eR a0]) rfl rfl rfl ?_
        refine w_cw (np := 74) (as := [eI (0), eJ (0), eI (0), eI (1)]) (l2 := [some (eR a0), some (eI (0)), some (eJ (0)), none, some (eI (0)), some (eI (1)), none, none]) (rest := []) rfl rfl rfl (Nat.ble_eq.mp rfl) rfl rfl rfl (I18.kd gA0 (by decide) (n := 8) rfl) rfl ?_
        refine s_27 (a1 := 0) (a4 := 0) (a5 := 1) I18 gA0 (by decide) (by decide) (by decide) (by decide) (F19.k W11.at gA0 (by decide) rfl) (by omega) ?_
        intro m23 v26 I24 F25 e27 h28
        have F29 : Fr l_26 0 0 g μ m23 := F20.t F25 rfl
        have b30 : 0 ≤ v26 ∧ v26 ≤ 50 := by
          rw [← e27]
          exact I24.int gA0 (by decide) (n := 8) rfl (by decide) rfl
        show ex_q (dt_fg L ρ) rc (d + 3, (26, 74, [some (eR a0), some (eI (a1)), none], []), f :: F, m23)
        refine w_go (t1 := 85) rfl rfl ?_
        refine w_t (np := 86) (l2 := [some (eR a0), some (eI (a1)), none]) (s2 := [eI (a1)]) rfl rfl rfl ?_
        refine w_t (np := 87) (l2 := [some (eR a0), some (eI (a1)), none]) (s2 := [eI (3), eI (a1)]) rfl rfl rfl ?_
        refine b_cne (t1 := 109) (t2 := 90) rfl rfl rfl (ev_w_in (by omega) (by omega)) rfl (fun g31 => ?_) (fun g31 => False.elim (by omega))
        exact v_rv rfl rfl (K m23 (v26) I24 F29 e27 (by omega))
    · have b22 : 0 ≤ a1 ∧ a1 ≤ 0 := by omega
      refine w_t (np := 27) (l2 := [some (eR a0), some (eI (a1)), none]) (s2 := [eI (0)]) rfl rfl rfl ?_
      refine w_t (np := 28) (l2 := [some (eR a0), some (eI (a1)), some (eI (0))]) (s2 := []) rfl rfl rfl ?_
      have hL28 : ∀ (n22 : Nat) (m26 : eM) (i24 : Int) (x29 : Int), SI g m26 → Fr l_26 0 0 g μ m26 → (0 ≤ i24 ∧ i24 ≤ 10) → m26.1 a0 5 = a1 → m26.1 a0 6 = 0 → m26.1 a0 4 = ((v13 : Nat) : Int) → m26.1 a0 7 = x29 → (0 ≤ x29 ∧ x29 ≤ 10) → x29 = i24 → n22 = (10 - i24).toNat → ex_q (dt_fg L ρ) rc (d + 3, (26, 28, [some (eR a0), some (eI (a1)), some (eI (i24))], []), f :: F, m26) := by
        intro n22
        induction n22 using Nat.strongRecOn with
        | _ n22 ih23 =>
        intro m26 i24 x29 I27 F28 b25 k32 k33 k34 h30 b31 r35 hn36
        refine w_t (np := 29) (l2 := [some (eR a0), some (eI (a1)), some (eI (i24))]) (s2 := [eI (i24)]) rfl rfl rfl ?_
        refine w_t (np := 31) (l2 := [some (eR a0), some (eI (a1)), some (eI (i24))]) (s2 := [eI (10), eI (i24)]) rfl rfl rfl ?_
        refine b_cge (t1 := 58) (t2 := 34) rfl rfl rfl (ev_w_in (by omega) (by omega)) rfl (fun g37 => ?_) (fun g37 => ?_)
        · have b38 : 10 ≤ i24 ∧ i24 ≤ 10 := by omega
          refine w_go (t1 := 85) rfl rfl ?_
          refine w_t (np := 86) (l2 := [some (eR a0), some (eI (a1)), some (eI (i24))]) (s2 := [eI (a1)]) rfl rfl rfl ?_
          refine w_t (np := 87) (l2 := [some (eR a0), some (eI (a1)), some (eI (i24))]) (s2 := [eI (3), eI (a1)]) rfl rfl rfl ?_
          refine b_cne (t1 := 109) (t2 := 90) rfl rfl rfl (ev_w_in (by omega) (by omega)) rfl (fun g38 => ?_) (fun g38 => False.elim (by omega))
          exact v_rv rfl rfl (K m26 (x29) I27 F28 h30 (by omega))
        · have b38 : 0 ≤ i24 ∧ i24 ≤ 9 := by omega
          refine w_t (np := 35) (l2 := [some (eR a0), some (eI (a1)), some (eI (i24))]) (s2 := [eR a0]) rfl (s_an rfl (pos_g I27 gA0 (by decide))) rfl ?_
          refine w_t (np := 36) (l2 := [some (eR a0), some (eI (a1)), some (eI (i24))]) (s2 := [eI (0), eR a0]) rfl rfl rfl ?_
          refine w_t (np := 37) (l2 := [some (eR a0), some (eI (a1)), some (eI (i24))]) (s2 := [eJ (0), eI (0), eR a0]) rfl rfl rfl ?_
          refine w_t (np := 38) (l2 := [some (eR a0), some (eI (a1)), some (eI (i24))]) (s2 := [eI (i24), eJ (0), eI (0), eR a0]) rfl rfl rfl ?_
          refine w_t (np := 39) (l2 := [some (eR a0), some (eI (a1)), some (eI (i24))]) (s2 := [eI (1), eI (i24), eJ (0), eI (0), eR a0]) rfl rfl rfl ?_
          obtain ⟨v38, e39⟩ : ∃ zz : Int, zz = (i24) + (1) := ⟨_, rfl⟩
          have b40 : 1 ≤ v38 ∧ v38 ≤ 10 := by omega
          refine w_t (np := 40) (l2 := [some (eR a0), some (eI (a1)), some (eI (i24))]) (s2 := [eI (v38), eJ (0), eI (0), eR a0]) rfl (b_iadd (by rw [← e39]; exact ev_w_in (by omega) (by omega))) rfl ?_
          refine w_t (np := 41) (l2 := [some (eR a0), some (eI (a1)), some (eI (i24))]) (s2 := [eI (i24), eI (v38), eJ (0), eI (0), eR a0]) rfl rfl rfl ?_
          refine w_t (np := 42) (l2 := [some (eR a0), some (eI (a1)), some (eI (i24))]) (s2 := [eI (2), eI (i24), eI (v38), eJ (0), eI (0), eR a0]) rfl rfl rfl ?_
          obtain ⟨v41, e42, b43⟩ := h_irem (a := i24) (k := 2) (by decide) (by decide) (show (-2147483648 : Int) ≤ i24 ∧ (i24 : Int) ≤ 2147483647 by omega)
          have b44 : 0 ≤ v41 ∧ v41 ≤ 1 := by omega
          refine w_t (np := 43) (l2 := [some (eR a0), some (eI (a1)), some (eI (i24))]) (s2 := [eI (v41), eI (v38), eJ (0), eI (0), eR a0]) rfl (e42 _ _) rfl ?_
          obtain ⟨v45, e46⟩ : ∃ zz : Int, zz = (v38) - (v41) := ⟨_, rfl⟩
          have b47 : 0 ≤ v45 ∧ v45 ≤ 10 := by omega
          refine w_t (np := 44) (l2 := [some (eR a0), some (eI (a1)), some (eI (i24))]) (s2 := [eI (v45), eJ (0), eI (0), eR a0]) rfl (b_isub (by rw [← e46]; exact ev_w_in (by omega) (by omega))) rfl ?_
          refine w_t (np := 45) (l2 := [some (eR a0), some (eI (a1)), some (eI (i24))]) (s2 := [eI (i24), eI (v45), eJ (0), eI (0), eR a0]) rfl rfl rfl ?_
          refine w_t (np := 46) (l2 := [some (eR a0), some (eI (a1)), some (eI (i24))]) (s2 := [eI (i24), eI (i24), eI (v45), eJ (0), eI (0), eR a0]) rfl rfl rfl ?_
          refine w_t (np := 47) (l2 := [some (eR a0), some (eI (a1)), some (eI (i24))]) (s2 := [eI (2), eI (i24), eI (i24), eI (v45), eJ (0), eI (0), eR a0]) rfl rfl rfl ?_
          obtain ⟨v48, e49, b50⟩ := h_irem (a := i24) (k := 2) (by decide) (by decide) (show (-2147483648 : Int) ≤ i24 ∧ (i24 : Int) ≤ 2147483647 by omega)
          have b51 : 0 ≤ v48 ∧ v48 ≤ 1 := by omega
          refine w_t (np := 48) (l2 := [some (eR a0), some (eI (a1)), some (eI (i24))]) (s2 := [eI (v48), eI (i24), eI (v45), eJ (0), eI (0), eR a0]) rfl (e49 _ _) rfl ?_
          obtain ⟨v52, e53⟩ : ∃ zz : Int, zz = (i24) + (v48) := ⟨_, rfl⟩
          have b54 : 0 ≤ v52 ∧ v52 ≤ 10 := by omega
          refine w_t (np := 49) (l2 := [some (eR a0), some (eI (a1)), some (eI (i24))]) (s2 := [eI (v52), eI (v45), eJ (0), eI (0), eR a0]) rfl (b_iadd (by rw [← e53]; exact ev_w_in (by omega) (by omega))) rfl ?_
          refine w_cw (np := 52) (as := [eI (0), eJ (0), eI (v45), eI (v52)]) (l2 := [some (eR a0), some (eI (0)), some (eJ (0)), none, some (eI (v45)), some (eI (v52)), none, none]) (rest := []) rfl rfl rfl (Nat.ble_eq.mp rfl) rfl rfl rfl (I27.kd gA0 (by decide) (n := 8) rfl) rfl ?_
          refine s_27 (a1 := 0) (a4 := v45) (a5 := v52) I27 gA0 (by decide) (by decide) (by omega) (by omega) h30 (by omega) ?_
          intro m55 v58 I56 F57 e59 h60
          have F61 : Fr l_26 0 0 g μ m55 := F28.t F57 rfl
          have b62 : 0 ≤ v58 ∧ v58 ≤ 50 := by
            rw [← e59]
            exact I56.int gA0 (by decide) (n := 8) rfl (by decide) rfl
          show ex_q (dt_fg L ρ) rc (d + 3, (26, 52, [some (eR a0), some (eI (a1)), some (eI (i24))], []), f :: F, m55)
          obtain ⟨v63, e64⟩ : ∃ zz : Int, zz = (i24) + (1) := ⟨_, rfl⟩
          have b65 : 1 ≤ v63 ∧ v63 ≤ 10 := by omega
          refine w_t (np := 55) (l2 := [some (eR a0), some (eI (a1)), some (eI (v63))]) (s2 := []) rfl (b_iinc rfl (by rw [← e64]; exact ev_w_in (by omega) (by omega)) rfl) rfl ?_
          refine w_go (t1 := 28) rfl rfl ?_
          exact ih23 (10 - (v63)).toNat (by omega) m55 (v63) (v58) I56 F61 (by omega) (F57.k k32 gA0 (by decide) rfl) (F57.k k33 gA0 (by decide) rfl) (F57.k k34 gA0 (by decide) rfl) e59 (by omega)  (by omega) rfl
      exact hL28 _ m17 (0) (0) I18 F20 (by decide) (F19.k (W11.slot (W7.slot W3.at (by decide)) (by decide)) gA0 (by decide) rfl) (F19.k (W11.slot W7.at (by decide)) gA0 (by decide) rfl) (F19.k e14 gA0 (by decide) rfl) (F19.k W11.at gA0 (by decide) rfl) (by decide)  (by omega) rfl
def l_26_2 : List Nat := [2304, 2560, 2816, 2048, 1798, 1799, 1800, 4096, 3328, 4352, 3584, 3843, 3075]
theorem s_26_2 {L : Nat} {ρ : Nat → Int} {rc : eQ} {d : Nat} {f : eFr} {F : List eFr} {μ : eM} {g : Nat → Nat} {a0 : Nat} {a1 : Int} {co : Int} (hI : SI g μ) (gA0 : g a0 = 7) (bA1 : 0 ≤ a1 ∧ a1 ≤ 3) (h_co : μ.1 a0 7 = co) (K : ∀ (μ2 : eM) (co2 : Int), SI g μ2 → Fr l_26_2 0 0 g μ μ2 → μ2.1 a0 7 = co2 → (a1 = 0 ∧ co2 = 10 ∨ a1 = 1 ∧ co2 = 1 ∨ a1 = 2 ∧ co2 = 1 ∨ a1 = 3 ∧ co2 = 2) → ex_q (dt_fg L ρ) rc (d + 4, (f.1, f.2.1, f.2.2.1, f.2.2.2), F, μ2)) : ex_q (dt_fg L ρ) rc (d + 3, (26, 0, [some (eR a0), some (eI (a1)), none], []), f :: F, μ) := by
  have F0 : Fr l_26_2 0 0 g μ μ := Fr.r
  have b_co : 0 ≤ co ∧ co ≤ 890 := by
    rw [← h_co]
    exact hI.int gA0 (by decide) (n := 8) rfl (by decide) rfl
  refine w_t (np := 1) (l2 := [some (eR a0), some (eI (a1)), none]) (s2 := [eR a0]) rfl (s_an rfl (pos_g hI gA0 (by decide))) rfl ?_
  refine w_t (np := 2) (l2 := [some (eR a0), some (eI (a1)), none]) (s2 := [eI (a1), eR a0]) rfl rfl rfl ?_
  refine j_pf (np := 5) (w := a1) rfl rfl hI gA0 (by decide) (n := 8) rfl rfl (hO_i (lo := 0) (hi := 3) rfl (by omega)) ?_
  intro m1 I2 W3
  have F4 : Fr l_26_2 0 0 g μ m1 := F0.w W3 gA0 rfl
  refine w_t (np := 6) (l2 := [some (eR a0), some (eI (a1)), none]) (s2 := [eR a0]) rfl (s_an rfl (pos_g I2 gA0 (by decide))) rfl ?_
  refine w_t (np := 7) (l2 := [some (eR a0), some (eI (a1)), none]) (s2 := [eI (0), eR a0]) rfl rfl rfl ?_
  refine j_pf (np := 10) (w := 0) rfl rfl I2 gA0 (by decide) (n := 8) rfl rfl (hO_i (lo := 0) (hi := 5) rfl (by decide)) ?_
  intro m5 I6 W7
  have F8 : Fr l_26_2 0 0 g μ m5 := F4.w W7 gA0 rfl
  refine w_t (np := 11) (l2 := [some (eR a0), some (eI (a1)), none]) (s2 := [eR a0]) rfl (s_an rfl (pos_g I6 gA0 (by decide))) rfl ?_
  refine w_t (np := 12) (l2 := [some (eR a0), some (eI (a1)), none]) (s2 := [eI (0), eR a0]) rfl rfl rfl ?_
  refine j_pf (np := 15) (w := 0) rfl rfl I6 gA0 (by decide) (n := 8) rfl rfl (hO_i (lo := 0) (hi := 890) rfl (by decide)) ?_
  intro m9 I10 W11
  have F12 : Fr l_26_2 0 0 g μ m9 := F8.w W11 gA0 rfl
  refine w_t (np := 16) (l2 := [some (eR a0), some (eI (a1)), none]) (s2 := [eR a0]) rfl (s_an rfl (pos_g I10 gA0 (by decide))) rfl ?_
  refine j_gr (np := 19) rfl rfl I10 gA0 (by decide) (n := 8) rfl rfl rfl ?_
  intro v13 e14 b15 z16
  rcases hor2 b15 with b15 | b15
  · refine w_cw (np := 22) (as := []) (l2 := [some (eR v13)]) (rest := []) rfl rfl rfl (Nat.ble_eq.mp rfl) rfl rfl rfl (I10.kd b15 (by decide) (n := 3) rfl) rfl ?_
    refine s_43 I10 b15 ?_
    intro m17 I18 F19
    have F20 : Fr l_26_2 0 0 g μ m17 := F12.t F19 rfl
    show ex_q (dt_fg L ρ) rc (d + 3, (26, 22, [some (eR a0), some (eI (a1)), none], []), f :: F, m17)
    refine w_t (np := 23) (l2 := [some (eR a0), some (eI (a1)), none]) (s2 := [eI (a1)]) rfl rfl rfl ?_
    refine b_ine (t1 := 61) (t2 := 26) rfl rfl rfl (ev_w_in (by omega) (by omega)) (fun g21 => ?_) (fun g21 => ?_)
    · have b22 : 1 ≤ a1 ∧ a1 ≤ 3 := by omega
      refine w_t (np := 62) (l2 := [some (eR a0), some (eI (a1)), none]) (s2 := [eI (a1)]) rfl rfl rfl ?_
      refine w_t (np := 63) (l2 := [some (eR a0), some (eI (a1)), none]) (s2 := [eI (1), eI (a1)]) rfl rfl rfl ?_
      refine b_cne (t1 := 77) (t2 := 66) rfl rfl rfl (ev_w_in (by omega) (by omega)) rfl (fun g22 => ?_) (fun g22 => ?_)
      · have b23 : 2 ≤ a1 ∧ a1 ≤ 3 := by omega
        refine w_t (np := 78) (l2 := [some (eR a0), some (eI (a1)), none]) (s2 := [eR a0]) rfl (s_an rfl (pos_g I18 gA0 (by decide))) rfl ?_
        refine w_t (np := 79) (l2 := [some (eR a0), some (eI (a1)), none]) (s2 := [eI (1), eR a0]) rfl rfl rfl ?_
        refine w_t (np := 80) (l2 := [some (eR a0), some (eI (a1)), none]) (s2 := [eJ (0), eI (1), eR a0]) rfl rfl rfl ?_
        refine w_t (np := 81) (l2 := [some (eR a0), some (eI (a1)), none]) (s2 := [eI (0), eJ (0), eI (1), eR a0]) rfl rfl rfl ?_
        refine w_t (np := 82) (l2 := [some (eR a0), some (eI (a1)), none]) (s2 := [eI (3), eI (0), eJ (0), eI (1), eR a0]) rfl rfl rfl ?_
        refine w_cw (np := 85) (as := [eI (1), eJ (0), eI (0), eI (3)]) (l2 := [some (eR a0), some (eI (1)), some (eJ (0)), none, some (eI (0)), some (eI (3)), none, none]) (rest := []) rfl rfl rfl (Nat.ble_eq.mp rfl) rfl rfl rfl (I18.kd gA0 (by decide) (n := 8) rfl) rfl ?_
        refine s_27_2 (a1 := 1) (a4 := 0) (a5 := 3) I18 gA0 (by decide) (by decide) (by decide) (by decide) (F19.k W11.at gA0 (by decide) rfl) (by omega) ?_
        intro m23 v26 I24 F25 e27 h28
        have F29 : Fr l_26_2 0 0 g μ m23 := F20.t F25 rfl
        have b30 : 0 ≤ v26 ∧ v26 ≤ 890 := by
          rw [← e27]
          exact I24.int gA0 (by decide) (n := 8) rfl (by decide) rfl
        show ex_q (dt_fg L ρ) rc (d + 3, (26, 85, [some (eR a0), some (eI (a1)), none], []), f :: F, m23)
        refine w_t (np := 86) (l2 := [some (eR a0), some (eI (a1)), none]) (s2 := [eI (a1)]) rfl rfl rfl ?_
        refine w_t (np := 87) (l2 := [some (eR a0), some (eI (a1)), none]) (s2 := [eI (3), eI (a1)]) rfl rfl rfl ?_
        refine b_cne (t1 := 109) (t2 := 90) rfl rfl rfl (ev_w_in (by omega) (by omega)) rfl (fun g31 => ?_) (fun g31 => ?_)
        · have b32 : 2 ≤ a1 ∧ a1 ≤ 2 := by omega
          exact v_rv rfl rfl (K m23 (v26) I24 F29 e27 (by omega))
        · have b32 : 3 ≤ a1 ∧ a1 ≤ 3 := by omega
          refine w_t (np := 91) (l2 := [some (eR a0), some (eI (a1)), none]) (s2 := [eR a0]) rfl (s_an rfl (pos_g I24 gA0 (by decide))) rfl ?_
          refine w_t (np := 92) (l2 := [some (eR a0), some (eI (a1)), none]) (s2 := [eI (1), eR a0]) rfl rfl rfl ?_
          refine w_t (np := 93) (l2 := [some (eR a0), some (eI (a1)), none]) (s2 := [eI (0), eI (1), eR a0]) rfl rfl rfl ?_
          refine w_cu (np := 96) (as := [eI (0)]) (l2 := [some (eI (0))]) (rest := [eI (1), eR a0]) rfl rfl rfl (Nat.ble_eq.mp rfl) rfl rfl rfl rfl ?_
          refine s_74 (a0 := 0) I24 (by decide) ?_
          intro v32 b33
          show ex_q (dt_fg L ρ) rc (d + 3, (26, 96, [some (eR a0), some (eI (a1)), none], [eJ (v32), eI (1), eR a0]), f :: F, m23)
          refine w_t (np := 97) (l2 := [some (eR a0), some (eI (a1)), none]) (s2 := [eI (3), eJ (v32), eI (1), eR a0]) rfl rfl rfl ?_
          refine w_cu (np := 100) (as := [eI (3)]) (l2 := [some (eI (3))]) (rest := [eJ (v32), eI (1), eR a0]) rfl rfl rfl (Nat.ble_eq.mp rfl) rfl rfl rfl rfl ?_
          refine s_74 (a0 := 3) I24 (by decide) ?_
          intro v34 b35
          show ex_q (dt_fg L ρ) rc (d + 3, (26, 100, [some (eR a0), some (eI (a1)), none], [eJ (v34), eJ (v32), eI (1), eR a0]), f :: F, m23)
          refine w_cu (np := 103) (as := [eJ (v32), eJ (v34)]) (l2 := [some (eJ (v32)), none, some (eJ (v34)), none]) (rest := [eI (1), eR a0]) rfl rfl rfl (Nat.ble_eq.mp rfl) rfl rfl rfl rfl ?_
          refine s_75 I24 b33 b35 ?_
          intro v36 b37
          show ex_q (dt_fg L ρ) rc (d + 3, (26, 103, [some (eR a0), some (eI (a1)), none], [eJ (v36), eI (1), eR a0]), f :: F, m23)
          refine w_t (np := 105) (l2 := [some (eR a0), some (eI (a1)), none]) (s2 := [eI (8), eJ (v36), eI (1), eR a0]) rfl rfl rfl ?_
          refine w_t (np := 106) (l2 := [some (eR a0), some (eI (a1)), none]) (s2 := [eI (5), eI (8), eJ (v36), eI (1), eR a0]) rfl rfl rfl ?_
          refine w_cw (np := 109) (as := [eI (1), eJ (v36), eI (8), eI (5)]) (l2 := [some (eR a0), some (eI (1)), some (eJ (v36)), none, some (eI (8)), some (eI (5)), none, none]) (rest := []) rfl rfl rfl (Nat.ble_eq.mp rfl) rfl rfl rfl (I24.kd gA0 (by decide) (n := 8) rfl) rfl ?_
          refine s_27_2 (a1 := 1) (a4 := 8) (a5 := 5) I24 gA0 (by decide) b37 (by decide) (by decide) e27 (by omega) ?_
          intro m38 v41 I39 F40 e42 h43
          have F44 : Fr l_26_2 0 0 g μ m38 := F29.t F40 rfl
          have b45 : 0 ≤ v41 ∧ v41 ≤ 890 := by
            rw [← e42]
            exact I39.int gA0 (by decide) (n := 8) rfl (by decide) rfl
          show ex_q (dt_fg L ρ) rc (d + 3, (26, 109, [some (eR a0), some (eI (a1)), none], []), f :: F, m38)
          exact v_rv rfl rfl (K m38 (v41) I39 F44 e42 (by omega))
      · have b23 : 1 ≤ a1 ∧ a1 ≤ 1 := by omega
        refine w_t (np := 67) (l2 := [some (eR a0), some (eI (a1)), none]) (s2 := [eR a0]) rfl (s_an rfl (pos_g I18 gA0 (by decide))) rfl ?_
        refine w_t (np := 68) (l2 := [some (eR a0), some (eI (a1)), none]) (s2 := [eI (0), eR a0]) rfl rfl rfl ?_
        refine w_t (np := 69) (l2 := [some (eR a0), some (eI (a1)), none]) (s2 := [eJ (0), eI (0), eR a0]) rfl rfl rfl ?_
        refine w_t (np := 70) (l2 := [some (eR a0), some (eI (a1)), none]) (s2 := [eI (0), eJ (0), eI (0), eR a0]) rfl rfl rfl ?_
        refine w_t (np := 71) (l2 := [some (eR a0), some (eI (a1)), none]) (s2 := [eI (1), eI (0), eJ (0), eI (0), eR a0]) rfl rfl rfl ?_
        refine w_cw (np := 74) (as := [eI (0), eJ (0), eI (0), eI (1)]) (l2 := [some (eR a0), some (eI (0)), some (eJ (0)), none, some (eI (0)), some (eI (1)), none, none]) (rest := []) rfl rfl rfl (Nat.ble_eq.mp rfl) rfl rfl rfl (I18.kd gA0 (by decide) (n := 8) rfl) rfl ?_
        refine s_27_2 (a1 := 0) (a4 := 0) (a5 := 1) I18 gA0 (by decide) (by decide) (by decide) (by decide) (F19.k W11.at gA0 (by decide) rfl) (by omega) ?_
        intro m23 v26 I24 F25 e27 h28
        have F29 : Fr l_26_2 0 0 g μ m23 := F20.t F25 rfl
        have b30 : 0 ≤ v26 ∧ v26 ≤ 890 := by
          rw [← e27]
          exact I24.int gA0 (by decide) (n := 8) rfl (by decide) rfl
        show ex_q (dt_fg L ρ) rc (d + 3, (26, 74, [some (eR a0), some (eI (a1)), none], []), f :: F, m23)
        refine w_go (t1 := 85) rfl rfl ?_
        refine w_t (np := 86) (l2 := [some (eR a0), some (eI (a1)), none]) (s2 := [eI (a1)]) rfl rfl rfl ?_
        refine w_t (np := 87) (l2 := [some (eR a0), some (eI (a1)), none]) (s2 := [eI (3), eI (a1)]) rfl rfl rfl ?_
        refine b_cne (t1 := 109) (t2 := 90) rfl rfl rfl (ev_w_in (by omega) (by omega)) rfl (fun g31 => ?_) (fun g31 => False.elim (by omega))
        exact v_rv rfl rfl (K m23 (v26) I24 F29 e27 (by omega))
    · have b22 : 0 ≤ a1 ∧ a1 ≤ 0 := by omega
      refine w_t (np := 27) (l2 := [some (eR a0), some (eI (a1)), none]) (s2 := [eI (0)]) rfl rfl rfl ?_
      refine w_t (np := 28) (l2 := [some (eR a0), some (eI (a1)), some (eI (0))]) (s2 := []) rfl rfl rfl ?_
      have hL28 : ∀ (n22 : Nat) (m26 : eM) (i24 : Int) (x29 : Int), SI g m26 → Fr l_26_2 0 0 g μ m26 → (0 ≤ i24 ∧ i24 ≤ 10) → m26.1 a0 5 = a1 → m26.1 a0 6 = 0 → m26.1 a0 4 = ((v13 : Nat) : Int) → m26.1 a0 7 = x29 → (0 ≤ x29 ∧ x29 ≤ 10) → x29 = i24 → n22 = (10 - i24).toNat → ex_q (dt_fg L ρ) rc (d + 3, (26, 28, [some (eR a0), some (eI (a1)), some (eI (i24))], []), f :: F, m26) := by
        intro n22
        induction n22 using Nat.strongRecOn with
        | _ n22 ih23 =>
        intro m26 i24 x29 I27 F28 b25 k32 k33 k34 h30 b31 r35 hn36
        refine w_t (np := 29) (l2 := [some (eR a0), some (eI (a1)), some (eI (i24))]) (s2 := [eI (i24)]) rfl rfl rfl ?_
        refine w_t (np := 31) (l2 := [some (eR a0), some (eI (a1)), some (eI (i24))]) (s2 := [eI (10), eI (i24)]) rfl rfl rfl ?_
        refine b_cge (t1 := 58) (t2 := 34) rfl rfl rfl (ev_w_in (by omega) (by omega)) rfl (fun g37 => ?_) (fun g37 => ?_)
        · have b38 : 10 ≤ i24 ∧ i24 ≤ 10 := by omega
          refine w_go (t1 := 85) rfl rfl ?_
          refine w_t (np := 86) (l2 := [some (eR a0), some (eI (a1)), some (eI (i24))]) (s2 := [eI (a1)]) rfl rfl rfl ?_
          refine w_t (np := 87) (l2 := [some (eR a0), some (eI (a1)), some (eI (i24))]) (s2 := [eI (3), eI (a1)]) rfl rfl rfl ?_
          refine b_cne (t1 := 109) (t2 := 90) rfl rfl rfl (ev_w_in (by omega) (by omega)) rfl (fun g38 => ?_) (fun g38 => False.elim (by omega))
          exact v_rv rfl rfl (K m26 (x29) I27 F28 h30 (by omega))
        · have b38 : 0 ≤ i24 ∧ i24 ≤ 9 := by omega
          refine w_t (np := 35) (l2 := [some (eR a0), some (eI (a1)), some (eI (i24))]) (s2 := [eR a0]) rfl (s_an rfl (pos_g I27 gA0 (by decide))) rfl ?_
          refine w_t (np := 36) (l2 := [some (eR a0), some (eI (a1)), some (eI (i24))]) (s2 := [eI (0), eR a0]) rfl rfl rfl ?_
          refine w_t (np := 37) (l2 := [some (eR a0), some (eI (a1)), some (eI (i24))]) (s2 := [eJ (0), eI (0), eR a0]) rfl rfl rfl ?_
          refine w_t (np := 38) (l2 := [some (eR a0), some (eI (a1)), some (eI (i24))]) (s2 := [eI (i24), eJ (0), eI (0), eR a0]) rfl rfl rfl ?_
          refine w_t (np := 39) (l2 := [some (eR a0), some (eI (a1)), some (eI (i24))]) (s2 := [eI (1), eI (i24), eJ (0), eI (0), eR a0]) rfl rfl rfl ?_
          obtain ⟨v38, e39⟩ : ∃ zz : Int, zz = (i24) + (1) := ⟨_, rfl⟩
          have b40 : 1 ≤ v38 ∧ v38 ≤ 10 := by omega
          refine w_t (np := 40) (l2 := [some (eR a0), some (eI (a1)), some (eI (i24))]) (s2 := [eI (v38), eJ (0), eI (0), eR a0]) rfl (b_iadd (by rw [← e39]; exact ev_w_in (by omega) (by omega))) rfl ?_
          refine w_t (np := 41) (l2 := [some (eR a0), some (eI (a1)), some (eI (i24))]) (s2 := [eI (i24), eI (v38), eJ (0), eI (0), eR a0]) rfl rfl rfl ?_
          refine w_t (np := 42) (l2 := [some (eR a0), some (eI (a1)), some (eI (i24))]) (s2 := [eI (2), eI (i24), eI (v38), eJ (0), eI (0), eR a0]) rfl rfl rfl ?_
          obtain ⟨v41, e42, b43⟩ := h_irem (a := i24) (k := 2) (by decide) (by decide) (show (-2147483648 : Int) ≤ i24 ∧ (i24 : Int) ≤ 2147483647 by omega)
          have b44 : 0 ≤ v41 ∧ v41 ≤ 1 := by omega
          refine w_t (np := 43) (l2 := [some (eR a0), some (eI (a1)), some (eI (i24))]) (s2 := [eI (v41), eI (v38), eJ (0), eI (0), eR a0]) rfl (e42 _ _) rfl ?_
          obtain ⟨v45, e46⟩ : ∃ zz : Int, zz = (v38) - (v41) := ⟨_, rfl⟩
          have b47 : 0 ≤ v45 ∧ v45 ≤ 10 := by omega
          refine w_t (np := 44) (l2 := [some (eR a0), some (eI (a1)), some (eI (i24))]) (s2 := [eI (v45), eJ (0), eI (0), eR a0]) rfl (b_isub (by rw [← e46]; exact ev_w_in (by omega) (by omega))) rfl ?_
          refine w_t (np := 45) (l2 := [some (eR a0), some (eI (a1)), some (eI (i24))]) (s2 := [eI (i24), eI (v45), eJ (0), eI (0), eR a0]) rfl rfl rfl ?_
          refine w_t (np := 46) (l2 := [some (eR a0), some (eI (a1)), some (eI (i24))]) (s2 := [eI (i24), eI (i24), eI (v45), eJ (0), eI (0), eR a0]) rfl rfl rfl ?_
          refine w_t (np := 47) (l2 := [some (eR a0), some (eI (a1)), some (eI (i24))]) (s2 := [eI (2), eI (i24), eI (i24), eI (v45), eJ (0), eI (0), eR a0]) rfl rfl rfl ?_
          obtain ⟨v48, e49, b50⟩ := h_irem (a := i24) (k := 2) (by decide) (by decide) (show (-2147483648 : Int) ≤ i24 ∧ (i24 : Int) ≤ 2147483647 by omega)
          have b51 : 0 ≤ v48 ∧ v48 ≤ 1 := by omega
          refine w_t (np := 48) (l2 := [some (eR a0), some (eI (a1)), some (eI (i24))]) (s2 := [eI (v48), eI (i24), eI (v45), eJ (0), eI (0), eR a0]) rfl (e49 _ _) rfl ?_
          obtain ⟨v52, e53⟩ : ∃ zz : Int, zz = (i24) + (v48) := ⟨_, rfl⟩
          have b54 : 0 ≤ v52 ∧ v52 ≤ 10 := by omega
          refine w_t (np := 49) (l2 := [some (eR a0), some (eI (a1)), some (eI (i24))]) (s2 := [eI (v52), eI (v45), eJ (0), eI (0), eR a0]) rfl (b_iadd (by rw [← e53]; exact ev_w_in (by omega) (by omega))) rfl ?_
          refine w_cw (np := 52) (as := [eI (0), eJ (0), eI (v45), eI (v52)]) (l2 := [some (eR a0), some (eI (0)), some (eJ (0)), none, some (eI (v45)), some (eI (v52)), none, none]) (rest := []) rfl rfl rfl (Nat.ble_eq.mp rfl) rfl rfl rfl (I27.kd gA0 (by decide) (n := 8) rfl) rfl ?_
          refine s_27_2 (a1 := 0) (a4 := v45) (a5 := v52) I27 gA0 (by decide) (by decide) (by omega) (by omega) h30 (by omega) ?_
          intro m55 v58 I56 F57 e59 h60
          have F61 : Fr l_26_2 0 0 g μ m55 := F28.t F57 rfl
          have b62 : 0 ≤ v58 ∧ v58 ≤ 890 := by
            rw [← e59]
            exact I56.int gA0 (by decide) (n := 8) rfl (by decide) rfl
          show ex_q (dt_fg L ρ) rc (d + 3, (26, 52, [some (eR a0), some (eI (a1)), some (eI (i24))], []), f :: F, m55)
          obtain ⟨v63, e64⟩ : ∃ zz : Int, zz = (i24) + (1) := ⟨_, rfl⟩
          have b65 : 1 ≤ v63 ∧ v63 ≤ 10 := by omega
          refine w_t (np := 55) (l2 := [some (eR a0), some (eI (a1)), some (eI (v63))]) (s2 := []) rfl (b_iinc rfl (by rw [← e64]; exact ev_w_in (by omega) (by omega)) rfl) rfl ?_
          refine w_go (t1 := 28) rfl rfl ?_
          exact ih23 (10 - (v63)).toNat (by omega) m55 (v63) (v58) I56 F61 (by omega) (F57.k k32 gA0 (by decide) rfl) (F57.k k33 gA0 (by decide) rfl) (F57.k k34 gA0 (by decide) rfl) e59 (by omega)  (by omega) rfl
      exact hL28 _ m17 (0) (0) I18 F20 (by decide) (F19.k (W11.slot (W7.slot W3.at (by decide)) (by decide)) gA0 (by decide) rfl) (F19.k (W11.slot W7.at (by decide)) gA0 (by decide) rfl) (F19.k e14 gA0 (by decide) rfl) (F19.k W11.at gA0 (by decide) rfl) (by decide)  (by omega) rfl
  · refine w_cw (np := 22) (as := []) (l2 := [some (eR v13)]) (rest := []) rfl rfl rfl (Nat.ble_eq.mp rfl) rfl rfl rfl (I10.kd b15 (by decide) (n := 3) rfl) rfl ?_
    refine s_43_2 I10 b15 ?_
    intro m17 I18 F19
    have F20 : Fr l_26_2 0 0 g μ m17 := F12.t F19 rfl
    show ex_q (dt_fg L ρ) rc (d + 3, (26, 22, [some (eR a0), some (eI (a1)), none], []), f :: F, m17)
    refine w_t (np := 23) (l2 := [some (eR a0), some (eI (a1)), none]) (s2 := [eI (a1)]) rfl rfl rfl ?_
    refine b_ine (t1 := 61) (t2 := 26) rfl rfl rfl (ev_w_in (by omega) (by omega)) (fun g21 => ?_) (fun g21 => ?_)
    · have b22 : 1 ≤ a1 ∧ a1 ≤ 3 := by omega
      refine w_t (np := 62) (l2 := [some (eR a0), some (eI (a1)), none]) (s2 := [eI (a1)]) rfl rfl rfl ?_
      refine w_t (np := 63) (l2 := [some (eR a0), some (eI (a1)), none]) (s2 := [eI (1), eI (a1)]) rfl rfl rfl ?_
      refine b_cne (t1 := 77) (t2 := 66) rfl rfl rfl (ev_w_in (by omega) (by omega)) rfl (fun g22 => ?_) (fun g22 => ?_)
      · have b23 : 2 ≤ a1 ∧ a1 ≤ 3 := by omega
        refine w_t (np := 78) (l2 := [some (eR a0), some (eI (a1)), none]) (s2 := [eR a0]) rfl (s_an rfl (pos_g I18 gA0 (by decide))) rfl ?_
        refine w_t (np := 79) (l2 := [some (eR a0), some (eI (a1)), none]) (s2 := [eI (1), eR a0]) rfl rfl rfl ?_
        refine w_t (np := 80) (l2 := [some (eR a0), some (eI (a1)), none]) (s2 := [eJ (0), eI (1), eR a0]) rfl rfl rfl ?_
        refine w_t (np := 81) (l2 := [some (eR a0), some (eI (a1)), none]) (s2 := [eI (0), eJ (0), eI (1), eR a0]) rfl rfl rfl ?_
        refine w_t (np := 82) (l2 := [some (eR a0), some (eI (a1)), none]) (s2 := [eI (3), eI (0), eJ (0), eI (1), eR a0]) rfl rfl rfl ?_
        refine w_cw (np := 85) (as := [eI (1), eJ (0), eI (0), eI (3)]) (l2 := [some (eR a0), some (eI (1)), some (eJ (0)), none, some (eI (0)), some (eI (3)), none, none]) (rest := []) rfl rfl rfl (Nat.ble_eq.mp rfl) rfl rfl rfl (I18.kd gA0 (by decide) (n := 8) rfl) rfl ?_
        refine s_27_2 (a1 := 1) (a4 := 0) (a5 := 3) I18 gA0 (by decide) (by decide) (by decide) (by decide) (F19.k W11.at gA0 (by decide) rfl) (by omega) ?_
        intro m23 v26 I24 F25 e27 h28
        have F29 : Fr l_26_2 0 0 g μ m23 := F20.t F25 rfl
        have b30 : 0 ≤ v26 ∧ v26 ≤ 890 := by
          rw [← e27]
          exact I24.int gA0 (by decide) (n := 8) rfl (by decide) rfl
        show ex_q (dt_fg L ρ) rc (d + 3, (26, 85, [some (eR a0), some (eI (a1)), none], []), f :: F, m23)
        refine w_t (np := 86) (l2 := [some (eR a0), some (eI (a1)), none]) (s2 := [eI (a1)]) rfl rfl rfl ?_
        refine w_t (np := 87) (l2 := [some (eR a0), some (eI (a1)), none]) (s2 := [eI (3), eI (a1)]) rfl rfl rfl ?_
        refine b_cne (t1 := 109) (t2 := 90) rfl rfl rfl (ev_w_in (by omega) (by omega)) rfl (fun g31 => ?_) (fun g31 => ?_)
        · have b32 : 2 ≤ a1 ∧ a1 ≤ 2 := by omega
          exact v_rv rfl rfl (K m23 (v26) I24 F29 e27 (by omega))
        · have b32 : 3 ≤ a1 ∧ a1 ≤ 3 := by omega
          refine w_t (np := 91) (l2 := [some (eR a0), some (eI (a1)), none]) (s2 := [eR a0]) rfl (s_an rfl (pos_g I24 gA0 (by decide))) rfl ?_
          refine w_t (np := 92) (l2 := [some (eR a0), some (eI (a1)), none]) (s2 := [eI (1), eR a0]) rfl rfl rfl ?_
          refine w_t (np := 93) (l2 := [some (eR a0), some (eI (a1)), none]) (s2 := [eI (0), eI (1), eR a0]) rfl rfl rfl ?_
          refine w_cu (np := 96) (as := [eI (0)]) (l2 := [some (eI (0))]) (rest := [eI (1), eR a0]) rfl rfl rfl (Nat.ble_eq.mp rfl) rfl rfl rfl rfl ?_
          refine s_74 (a0 := 0) I24 (by decide) ?_
          intro v32 b33
          show ex_q (dt_fg L ρ) rc (d + 3, (26, 96, [some (eR a0), some (eI (a1)), none], [eJ (v32), eI (1), eR a0]), f :: F, m23)
          refine w_t (np := 97) (l2 := [some (eR a0), some (eI (a1)), none]) (s2 := [eI (3), eJ (v32), eI (1), eR a0]) rfl rfl rfl ?_
          refine w_cu (np := 100) (as := [eI (3)]) (l2 := [some (eI (3))]) (rest := [eJ (v32), eI (1), eR a0]) rfl rfl rfl (Nat.ble_eq.mp rfl) rfl rfl rfl rfl ?_
          refine s_74 (a0 := 3) I24 (by decide) ?_
          intro v34 b35
          show ex_q (dt_fg L ρ) rc (d + 3, (26, 100, [some (eR a0), some (eI (a1)), none], [eJ (v34), eJ (v32), eI (1), eR a0]), f :: F, m23)
          refine w_cu (np := 103) (as := [eJ (v32), eJ (v34)]) (l2 := [some (eJ (v32)), none, some (eJ (v34)), none]) (rest := [eI (1), eR a0]) rfl rfl rfl (Nat.ble_eq.mp rfl) rfl rfl rfl rfl ?_
          refine s_75 I24 b33 b35 ?_
          intro v36 b37
          show ex_q (dt_fg L ρ) rc (d + 3, (26, 103, [some (eR a0), some (eI (a1)), none], [eJ (v36), eI (1), eR a0]), f :: F, m23)
          refine w_t (np := 105) (l2 := [some (eR a0), some (eI (a1)), none]) (s2 := [eI (8), eJ (v36), eI (1), eR a0]) rfl rfl rfl ?_
          refine w_t (np := 106) (l2 := [some (eR a0), some (eI (a1)), none]) (s2 := [eI (5), eI (8), eJ (v36), eI (1), eR a0]) rfl rfl rfl ?_
          refine w_cw (np := 109) (as := [eI (1), eJ (v36), eI (8), eI (5)]) (l2 := [some (eR a0), some (eI (1)), some (eJ (v36)), none, some (eI (8)), some (eI (5)), none, none]) (rest := []) rfl rfl rfl (Nat.ble_eq.mp rfl) rfl rfl rfl (I24.kd gA0 (by decide) (n := 8) rfl) rfl ?_
          refine s_27_2 (a1 := 1) (a4 := 8) (a5 := 5) I24 gA0 (by decide) b37 (by decide) (by decide) e27 (by omega) ?_
          intro m38 v41 I39 F40 e42 h43
          have F44 : Fr l_26_2 0 0 g μ m38 := F29.t F40 rfl
          have b45 : 0 ≤ v41 ∧ v41 ≤ 890 := by
            rw [← e42]
            exact I39.int gA0 (by decide) (n := 8) rfl (by decide) rfl
          show ex_q (dt_fg L ρ) rc (d + 3, (26, 109, [some (eR a0), some (eI (a1)), none], []), f :: F, m38)
          exact v_rv rfl rfl (K m38 (v41) I39 F44 e42 (by omega))
      · have b23 : 1 ≤ a1 ∧ a1 ≤ 1 := by omega
        refine w_t (np := 67) (l2 := [some (eR a0), some (eI (a1)), none]) (s2 := [eR a0]) rfl (s_an rfl (pos_g I18 gA0 (by decide))) rfl ?_
        refine w_t (np := 68) (l2 := [some (eR a0), some (eI (a1)), none]) (s2 := [eI (0), eR a0]) rfl rfl rfl ?_
        refine w_t (np := 69) (l2 := [some (eR a0), some (eI (a1)), none]) (s2 := [eJ (0), eI (0), eR a0]) rfl rfl rfl ?_
        refine w_t (np := 70) (l2 := [some (eR a0), some (eI (a1)), none]) (s2 := [eI (0), eJ (0), eI (0), eR a0]) rfl rfl rfl ?_
        refine w_t (np := 71) (l2 := [some (eR a0), some (eI (a1)), none]) (s2 := [eI (1), eI (0), eJ (0), eI (0), eR a0]) rfl rfl rfl ?_
        refine w_cw (np := 74) (as := [eI (0), eJ (0), eI (0), eI (1)]) (l2 := [some (eR a0), some (eI (0)), some (eJ (0)), none, some (eI (0)), some (eI (1)), none, none]) (rest := []) rfl rfl rfl (Nat.ble_eq.mp rfl) rfl rfl rfl (I18.kd gA0 (by decide) (n := 8) rfl) rfl ?_
        refine s_27_2 (a1 := 0) (a4 := 0) (a5 := 1) I18 gA0 (by decide) (by decide) (by decide) (by decide) (F19.k W11.at gA0 (by decide) rfl) (by omega) ?_
        intro m23 v26 I24 F25 e27 h28
        have F29 : Fr l_26_2 0 0 g μ m23 := F20.t F25 rfl
        have b30 : 0 ≤ v26 ∧ v26 ≤ 890 := by
          rw [← e27]
          exact I24.int gA0 (by decide) (n := 8) rfl (by decide) rfl
        show ex_q (dt_fg L ρ) rc (d + 3, (26, 74, [some (eR a0), some (eI (a1)), none], []), f :: F, m23)
        refine w_go (t1 := 85) rfl rfl ?_
        refine w_t (np := 86) (l2 := [some (eR a0), some (eI (a1)), none]) (s2 := [eI (a1)]) rfl rfl rfl ?_
        refine w_t (np := 87) (l2 := [some (eR a0), some (eI (a1)), none]) (s2 := [eI (3), eI (a1)]) rfl rfl rfl ?_
        refine b_cne (t1 := 109) (t2 := 90) rfl rfl rfl (ev_w_in (by omega) (by omega)) rfl (fun g31 => ?_) (fun g31 => False.elim (by omega))
        exact v_rv rfl rfl (K m23 (v26) I24 F29 e27 (by omega))
    · have b22 : 0 ≤ a1 ∧ a1 ≤ 0 := by omega
      refine w_t (np := 27) (l2 := [some (eR a0), some (eI (a1)), none]) (s2 := [eI (0)]) rfl rfl rfl ?_
      refine w_t (np := 28) (l2 := [some (eR a0), some (eI (a1)), some (eI (0))]) (s2 := []) rfl rfl rfl ?_
      have hL28 : ∀ (n22 : Nat) (m26 : eM) (i24 : Int) (x29 : Int), SI g m26 → Fr l_26_2 0 0 g μ m26 → (0 ≤ i24 ∧ i24 ≤ 10) → m26.1 a0 5 = a1 → m26.1 a0 6 = 0 → m26.1 a0 4 = ((v13 : Nat) : Int) → m26.1 a0 7 = x29 → (0 ≤ x29 ∧ x29 ≤ 10) → x29 = i24 → n22 = (10 - i24).toNat → ex_q (dt_fg L ρ) rc (d + 3, (26, 28, [some (eR a0), some (eI (a1)), some (eI (i24))], []), f :: F, m26) := by
        intro n22
        induction n22 using Nat.strongRecOn with
        | _ n22 ih23 =>
        intro m26 i24 x29 I27 F28 b25 k32 k33 k34 h30 b31 r35 hn36
        refine w_t (np := 29) (l2 := [some (eR a0), some (eI (a1)), some (eI (i24))]) (s2 := [eI (i24)]) rfl rfl rfl ?_
        refine w_t (np := 31) (l2 := [some (eR a0), some (eI (a1)), some (eI (i24))]) (s2 := [eI (10), eI (i24)]) rfl rfl rfl ?_
        refine b_cge (t1 := 58) (t2 := 34) rfl rfl rfl (ev_w_in (by omega) (by omega)) rfl (fun g37 => ?_) (fun g37 => ?_)
        · have b38 : 10 ≤ i24 ∧ i24 ≤ 10 := by omega
          refine w_go (t1 := 85) rfl rfl ?_
          refine w_t (np := 86) (l2 := [some (eR a0), some (eI (a1)), some (eI (i24))]) (s2 := [eI (a1)]) rfl rfl rfl ?_
          refine w_t (np := 87) (l2 := [some (eR a0), some (eI (a1)), some (eI (i24))]) (s2 := [eI (3), eI (a1)]) rfl rfl rfl ?_
          refine b_cne (t1 := 109) (t2 := 90) rfl rfl rfl (ev_w_in (by omega) (by omega)) rfl (fun g38 => ?_) (fun g38 => False.elim (by omega))
          exact v_rv rfl rfl (K m26 (x29) I27 F28 h30 (by omega))
        · have b38 : 0 ≤ i24 ∧ i24 ≤ 9 := by omega
          refine w_t (np := 35) (l2 := [some (eR a0), some (eI (a1)), some (eI (i24))]) (s2 := [eR a0]) rfl (s_an rfl (pos_g I27 gA0 (by decide))) rfl ?_
          refine w_t (np := 36) (l2 := [some (eR a0), some (eI (a1)), some (eI (i24))]) (s2 := [eI (0), eR a0]) rfl rfl rfl ?_
          refine w_t (np := 37) (l2 := [some (eR a0), some (eI (a1)), some (eI (i24))]) (s2 := [eJ (0), eI (0), eR a0]) rfl rfl rfl ?_
          refine w_t (np := 38) (l2 := [some (eR a0), some (eI (a1)), some (eI (i24))]) (s2 := [eI (i24), eJ (0), eI (0), eR a0]) rfl rfl rfl ?_
          refine w_t (np := 39) (l2 := [some (eR a0), some (eI (a1)), some (eI (i24))]) (s2 := [eI (1), eI (i24), eJ (0), eI (0), eR a0]) rfl rfl rfl ?_
          obtain ⟨v38, e39⟩ : ∃ zz : Int, zz = (i24) + (1) := ⟨_, rfl⟩
          have b40 : 1 ≤ v38 ∧ v38 ≤ 10 := by omega
          refine w_t (np := 40) (l2 := [some (eR a0), some (eI (a1)), some (eI (i24))]) (s2 := [eI (v38), eJ (0), eI (0), eR a0]) rfl (b_iadd (by rw [← e39]; exact ev_w_in (by omega) (by omega))) rfl ?_
          refine w_t (np := 41) (l2 := [some (eR a0), some (eI (a1)), some (eI (i24))]) (s2 := [eI (i24), eI (v38), eJ (0), eI (0), eR a0]) rfl rfl rfl ?_
          refine w_t (np := 42) (l2 := [some (eR a0), some (eI (a1)), some (eI (i24))]) (s2 := [eI (2), eI (i24), eI (v38), eJ (0), eI (0), eR a0]) rfl rfl rfl ?_
          obtain ⟨v41, e42, b43⟩ := h_irem (a := i24) (k := 2) (by decide) (by decide) (show (-2147483648 : Int) ≤ i24 ∧ (i24 : Int) ≤ 2147483647 by omega)
          have b44 : 0 ≤ v41 ∧ v41 ≤ 1 := by omega
          refine w_t (np := 43) (l2 := [some (eR a0), some (eI (a1)), some (eI (i24))]) (s2 := [eI (v41), eI (v38), eJ (0), eI (0), eR a0]) rfl (e42 _ _) rfl ?_
          obtain ⟨v45, e46⟩ : ∃ zz : Int, zz = (v38) - (v41) := ⟨_, rfl⟩
          have b47 : 0 ≤ v45 ∧ v45 ≤ 10 := by omega
          refine w_t (np := 44) (l2 := [some (eR a0), some (eI (a1)), some (eI (i24))]) (s2 := [eI (v45), eJ (0), eI (0), eR a0]) rfl (b_isub (by rw [← e46]; exact ev_w_in (by omega) (by omega))) rfl ?_
          refine w_t (np := 45) (l2 := [some (eR a0), some (eI (a1)), some (eI (i24))]) (s2 := [eI (i24), eI (v45), eJ (0), eI (0), eR a0]) rfl rfl rfl ?_
          refine w_t (np := 46) (l2 := [some (eR a0), some (eI (a1)), some (eI (i24))]) (s2 := [eI (i24), eI (i24), eI (v45), eJ (0), eI (0), eR a0]) rfl rfl rfl ?_
          refine w_t (np := 47) (l2 := [some (eR a0), some (eI (a1)), some (eI (i24))]) (s2 := [eI (2), eI (i24), eI (i24), eI (v45), eJ (0), eI (0), eR a0]) rfl rfl rfl ?_
          obtain ⟨v48, e49, b50⟩ := h_irem (a := i24) (k := 2) (by decide) (by decide) (show (-2147483648 : Int) ≤ i24 ∧ (i24 : Int) ≤ 2147483647 by omega)
          have b51 : 0 ≤ v48 ∧ v48 ≤ 1 := by omega
          refine w_t (np := 48) (l2 := [some (eR a0), some (eI (a1)), some (eI (i24))]) (s2 := [eI (v48), eI (i24), eI (v45), eJ (0), eI (0), eR a0]) rfl (e49 _ _) rfl ?_
          obtain ⟨v52, e53⟩ : ∃ zz : Int, zz = (i24) + (v48) := ⟨_, rfl⟩
          have b54 : 0 ≤ v52 ∧ v52 ≤ 10 := by omega
          refine w_t (np := 49) (l2 := [some (eR a0), some (eI (a1)), some (eI (i24))]) (s2 := [eI (v52), eI (v45), eJ (0), eI (0), eR a0]) rfl (b_iadd (by rw [← e53]; exact ev_w_in (by omega) (by omega))) rfl ?_
          refine w_cw (np := 52) (as := [eI (0), eJ (0), eI (v45), eI (v52)]) (l2 := [some (eR a0), some (eI (0)), some (eJ (0)), none, some (eI (v45)), some (eI (v52)), none, none]) (rest := []) rfl rfl rfl (Nat.ble_eq.mp rfl) rfl rfl rfl (I27.kd gA0 (by decide) (n := 8) rfl) rfl ?_
          refine s_27_2 (a1 := 0) (a4 := v45) (a5 := v52) I27 gA0 (by decide) (by decide) (by omega) (by omega) h30 (by omega) ?_
          intro m55 v58 I56 F57 e59 h60
          have F61 : Fr l_26_2 0 0 g μ m55 := F28.t F57 rfl
          have b62 : 0 ≤ v58 ∧ v58 ≤ 890 := by
            rw [← e59]
            exact I56.int gA0 (by decide) (n := 8) rfl (by decide) rfl
          show ex_q (dt_fg L ρ) rc (d + 3, (26, 52, [some (eR a0), some (eI (a1)), some (eI (i24))], []), f :: F, m55)
          obtain ⟨v63, e64⟩ : ∃ zz : Int, zz = (i24) + (1) := ⟨_, rfl⟩
          have b65 : 1 ≤ v63 ∧ v63 ≤ 10 := by omega
          refine w_t (np := 55) (l2 := [some (eR a0), some (eI (a1)), some (eI (v63))]) (s2 := []) rfl (b_iinc rfl (by rw [← e64]; exact ev_w_in (by omega) (by omega)) rfl) rfl ?_
          refine w_go (t1 := 28) rfl rfl ?_
          exact ih23 (10 - (v63)).toNat (by omega) m55 (v63) (v58) I56 F61 (by omega) (F57.k k32 gA0 (by decide) rfl) (F57.k k33 gA0 (by decide) rfl) (F57.k k34 gA0 (by decide) rfl) e59 (by omega)  (by omega) rfl
      exact hL28 _ m17 (0) (0) I18 F20 (by decide) (F19.k (W11.slot (W7.slot W3.at (by decide)) (by decide)) gA0 (by decide) rfl) (F19.k (W11.slot W7.at (by decide)) gA0 (by decide) rfl) (F19.k e14 gA0 (by decide) rfl) (F19.k W11.at gA0 (by decide) rfl) (by decide)  (by omega) rfl
def l_156 : List Nat := [2304, 1024, 2560, 1280, 2816, 1536, 2048, 768, 1798, 1799, 1800, 518, 519, 520, 4096, 3328, 4352, 3584, 3843, 3075, 268, 269, 270]
theorem s_156 {L : Nat} {ρ : Nat → Int} {rc : eQ} {d : Nat} {f : eFr} {F : List eFr} {μ : eM} {g : Nat → Nat} {a0 : Nat} {a1 : Int} (hI : SI g μ) (gA0 : g a0 = 1) (bA1 : -2147483648 ≤ a1 ∧ a1 ≤ 2147483647) (K : ∀ (μ2 : eM) (v : Int), SI g μ2 → Fr l_156 0 0 g μ μ2 → (-2147483648 ≤ v ∧ v ≤ 2147483647) → (a1 = 0 ∧ v = 10 ∨ a1 = 1 ∧ v = 1 ∨ a1 = 2 ∧ v = 1 ∨ a1 = 3 ∧ v = 2 ∨ (a1 < 0 ∨ 3 < a1) ∧ v = -1) → ex_q (dt_fg L ρ) rc (d + 5, (f.1, f.2.1, f.2.2.1, eI v :: f.2.2.2), F, μ2)) : ex_q (dt_fg L ρ) rc (d + 4, (156, 0, [some (eR a0), some (eI (a1))], []), f :: F, μ) := by
  have F0 : Fr l_156 0 0 g μ μ := Fr.r
  refine w_t (np := 1) (l2 := [some (eR a0), some (eI (a1))]) (s2 := [eI (a1)]) rfl rfl rfl ?_
  refine b_ilt (t1 := 9) (t2 := 4) rfl rfl rfl (ev_w_in (by omega) (by omega)) (fun g1 => ?_) (fun g1 => ?_)
  · have b2 : -2147483648 ≤ a1 ∧ a1 ≤ -1 := by omega
    refine w_t (np := 10) (l2 := [some (eR a0), some (eI (a1))]) (s2 := [eR a0]) rfl (s_an rfl (pos_g hI gA0 (by decide))) rfl ?_
    refine w_t (np := 11) (l2 := [some (eR a0), some (eI (a1))]) (s2 := [eI (1), eR a0]) rfl rfl rfl ?_
    refine w_cw (np := 14) (as := [eI (1)]) (l2 := [some (eR a0), some (eI (1))]) (rest := []) rfl rfl rfl (Nat.ble_eq.mp rfl) rfl rfl rfl (hI.kd gA0 (by decide) (n := 14) rfl) rfl ?_
    refine w_t (np := 1) (l2 := [some (eR a0), some (eI (1))]) (s2 := [eR a0]) rfl (s_an rfl (pos_g hI gA0 (by decide))) rfl ?_
    refine w_t (np := 2) (l2 := [some (eR a0), some (eI (1))]) (s2 := [eI (1), eR a0]) rfl rfl rfl ?_
    refine j_pf (np := 5) (w := 1) rfl rfl hI gA0 (by decide) (n := 14) rfl rfl (hO_i (lo := -2147483648) (hi := 2147483647) rfl (by decide)) ?_
    intro m2 I3 W4
    have F5 : Fr l_156 0 0 g μ m2 := F0.w W4 gA0 rfl
    refine w_t (np := 6) (l2 := [some (eR a0), some (eI (1))]) (s2 := [eI (-1)]) rfl rfl rfl ?_
    refine b_ri rfl rfl ?_
    show ex_q (dt_fg L ρ) rc (d + 4, (156, 14, [some (eR a0), some (eI (a1))], [eI (-1)]), f :: F, m2)
    exact b_ri rfl rfl (K m2 (-1) I3 F5 (by decide) (by omega))
  · have b2 : 0 ≤ a1 ∧ a1 ≤ 2147483647 := by omega
    refine w_t (np := 5) (l2 := [some (eR a0), some (eI (a1))]) (s2 := [eI (a1)]) rfl rfl rfl ?_
    refine w_t (np := 6) (l2 := [some (eR a0), some (eI (a1))]) (s2 := [eI (3), eI (a1)]) rfl rfl rfl ?_
    refine b_cle (t1 := 15) (t2 := 9) rfl rfl rfl (ev_w_in (by omega) (by omega)) rfl (fun g2 => ?_) (fun g2 => ?_)
    · have b3 : 0 ≤ a1 ∧ a1 ≤ 3 := by omega
      refine w_t (np := 16) (l2 := [some (eR a0), some (eI (a1))]) (s2 := [eR a0]) rfl (s_an rfl (pos_g hI gA0 (by decide))) rfl ?_
      refine j_gr (np := 19) rfl rfl hI gA0 (by decide) (n := 14) rfl rfl rfl ?_
      intro v3 e4 b5 z6
      rcases hor2 b5 with b5 | b5
      · refine w_t (np := 20) (l2 := [some (eR a0), some (eI (a1))]) (s2 := [eI (a1), eR v3]) rfl rfl rfl ?_
        refine w_cw (np := 23) (as := [eI (a1)]) (l2 := [some (eR v3), some (eI (a1)), none]) (rest := []) rfl rfl rfl (Nat.ble_eq.mp rfl) rfl rfl rfl (hI.kd b5 (by decide) (n := 8) rfl) rfl ?_
        obtain ⟨v7, e8, b9⟩ := hI.pk (k := 7) b5 (by decide) (n := 8) rfl rfl (lo := 0) (hi := 50) rfl
        refine s_26 (a1 := a1) hI b5 (by omega) e8 ?_
        intro m10 v13 I11 F12 e14 h15
        have F16 : Fr l_156 0 0 g μ m10 := F0.t F12 rfl
        have b17 : 0 ≤ v13 ∧ v13 ≤ 50 := by
          rw [← e14]
          exact I11.int b5 (by decide) (n := 8) rfl (by decide) rfl
        show ex_q (dt_fg L ρ) rc (d + 4, (156, 23, [some (eR a0), some (eI (a1))], []), f :: F, m10)
        refine w_t (np := 24) (l2 := [some (eR a0), some (eI (a1))]) (s2 := [eR a0]) rfl (s_an rfl (pos_g I11 gA0 (by decide))) rfl ?_
        refine w_cw (np := 27) (as := []) (l2 := [some (eR a0)]) (rest := []) rfl rfl rfl (Nat.ble_eq.mp rfl) rfl rfl rfl (I11.kd gA0 (by decide) (n := 14) rfl) rfl ?_
        refine w_t (np := 1) (l2 := [some (eR a0)]) (s2 := [eR a0]) rfl (s_an rfl (pos_g I11 gA0 (by decide))) rfl ?_
        refine w_t (np := 2) (l2 := [some (eR a0)]) (s2 := [eI (0), eR a0]) rfl rfl rfl ?_
        refine j_pf (np := 5) (w := 0) rfl rfl I11 gA0 (by decide) (n := 14) rfl rfl (hO_i (lo := 0) (hi := 1) rfl (by decide)) ?_
        intro m18 I19 W20
        have F21 : Fr l_156 0 0 g μ m18 := F16.w W20 gA0 rfl
        refine w_t (np := 6) (l2 := [some (eR a0)]) (s2 := [eR a0]) rfl (s_an rfl (pos_g I19 gA0 (by decide))) rfl ?_
        refine w_t (np := 7) (l2 := [some (eR a0)]) (s2 := [eI (0), eR a0]) rfl rfl rfl ?_
        refine j_pf (np := 10) (w := 0) rfl rfl I19 gA0 (by decide) (n := 14) rfl rfl (hO_i (lo := 0) (hi := 1) rfl (by decide)) ?_
        intro m22 I23 W24
        have F25 : Fr l_156 0 0 g μ m22 := F21.w W24 gA0 rfl
        refine v_rv rfl rfl ?_
        show ex_q (dt_fg L ρ) rc (d + 4, (156, 27, [some (eR a0), some (eI (a1))], []), f :: F, m22)
        refine w_t (np := 28) (l2 := [some (eR a0), some (eI (a1))]) (s2 := [eR a0]) rfl (s_an rfl (pos_g I23 gA0 (by decide))) rfl ?_
        refine w_t (np := 29) (l2 := [some (eR a0), some (eI (a1))]) (s2 := [eR a0, eR a0]) rfl (s_an rfl (pos_g I23 gA0 (by decide))) rfl ?_
        refine w_gf (np := 32) (v := eR v3) rfl rfl (I23.kd gA0 (by decide) (n := 14) rfl) (by rw [(W24.slot (W20.slot (F12.k e4 gA0 (by decide) rfl) (by decide)) (by decide))]; rfl) ?_
        refine w_gf (np := 35) (v := eI (v13)) rfl rfl (I23.kd b5 (by decide) (n := 8) rfl) (by rw [(W24.addr (W20.addr e14 gA0 b5 (by decide)) gA0 b5 (by decide))]; rfl) ?_
        refine w_cw (np := 38) (as := [eI (v13)]) (l2 := [some (eR a0), some (eI (v13))]) (rest := []) rfl rfl rfl (Nat.ble_eq.mp rfl) rfl rfl rfl (I23.kd gA0 (by decide) (n := 14) rfl) rfl ?_
        refine w_t (np := 1) (l2 := [some (eR a0), some (eI (v13))]) (s2 := [eR a0]) rfl (s_an rfl (pos_g I23 gA0 (by decide))) rfl ?_
        refine w_t (np := 2) (l2 := [some (eR a0), some (eI (v13))]) (s2 := [eI (0), eR a0]) rfl rfl rfl ?_
        refine j_pf (np := 5) (w := 0) rfl rfl I23 gA0 (by decide) (n := 14) rfl rfl (hO_i (lo := -2147483648) (hi := 2147483647) rfl (by decide)) ?_
        intro m26 I27 W28
        have F29 : Fr l_156 0 0 g μ m26 := F25.w W28 gA0 rfl
        refine w_t (np := 6) (l2 := [some (eR a0), some (eI (v13))]) (s2 := [eI (v13)]) rfl rfl rfl ?_
        refine b_ri rfl rfl ?_
        show ex_q (dt_fg L ρ) rc (d + 4, (156, 38, [some (eR a0), some (eI (a1))], [eI (v13)]), f :: F, m26)
        exact b_ri rfl rfl (K m26 (v13) I27 F29 (by omega) (by omega))
      · refine w_t (np := 20) (l2 := [some (eR a0), some (eI (a1))]) (s2 := [eI (a1), eR v3]) rfl rfl rfl ?_
        refine w_cw (np := 23) (as := [eI (a1)]) (l2 := [some (eR v3), some (eI (a1)), none]) (rest := []) rfl rfl rfl (Nat.ble_eq.mp rfl) rfl rfl rfl (hI.kd b5 (by decide) (n := 8) rfl) rfl ?_
        obtain ⟨v7, e8, b9⟩ := hI.pk (k := 7) b5 (by decide) (n := 8) rfl rfl (lo := 0) (hi := 890) rfl
        refine s_26_2 (a1 := a1) hI b5 (by omega) e8 ?_
        intro m10 v13 I11 F12 e14 h15
        have F16 : Fr l_156 0 0 g μ m10 := F0.t F12 rfl
        have b17 : 0 ≤ v13 ∧ v13 ≤ 890 := by
          rw [← e14]
          exact I11.int b5 (by decide) (n := 8) rfl (by decide) rfl
        show ex_q (dt_fg L ρ) rc (d + 4, (156, 23, [some (eR a0), some (eI (a1))], []), f :: F, m10)
        refine w_t (np := 24) (l2 := [some (eR a0), some (eI (a1))]) (s2 := [eR a0]) rfl (s_an rfl (pos_g I11 gA0 (by decide))) rfl ?_
        refine w_cw (np := 27) (as := []) (l2 := [some (eR a0)]) (rest := []) rfl rfl rfl (Nat.ble_eq.mp rfl) rfl rfl rfl (I11.kd gA0 (by decide) (n := 14) rfl) rfl ?_
        refine w_t (np := 1) (l2 := [some (eR a0)]) (s2 := [eR a0]) rfl (s_an rfl (pos_g I11 gA0 (by decide))) rfl ?_
        refine w_t (np := 2) (l2 := [some (eR a0)]) (s2 := [eI (0), eR a0]) rfl rfl rfl ?_
        refine j_pf (np := 5) (w := 0) rfl rfl I11 gA0 (by decide) (n := 14) rfl rfl (hO_i (lo := 0) (hi := 1) rfl (by decide)) ?_
        intro m18 I19 W20
        have F21 : Fr l_156 0 0 g μ m18 := F16.w W20 gA0 rfl
        refine w_t (np := 6) (l2 := [some (eR a0)]) (s2 := [eR a0]) rfl (s_an rfl (pos_g I19 gA0 (by decide))) rfl ?_
        refine w_t (np := 7) (l2 := [some (eR a0)]) (s2 := [eI (0), eR a0]) rfl rfl rfl ?_
        refine j_pf (np := 10) (w := 0) rfl rfl I19 gA0 (by decide) (n := 14) rfl rfl (hO_i (lo := 0) (hi := 1) rfl (by decide)) ?_
        intro m22 I23 W24
        have F25 : Fr l_156 0 0 g μ m22 := F21.w W24 gA0 rfl
        refine v_rv rfl rfl ?_
        show ex_q (dt_fg L ρ) rc (d + 4, (156, 27, [some (eR a0), some (eI (a1))], []), f :: F, m22)
        refine w_t (np := 28) (l2 := [some (eR a0), some (eI (a1))]) (s2 := [eR a0]) rfl (s_an rfl (pos_g I23 gA0 (by decide))) rfl ?_
        refine w_t (np := 29) (l2 := [some (eR a0), some (eI (a1))]) (s2 := [eR a0, eR a0]) rfl (s_an rfl (pos_g I23 gA0 (by decide))) rfl ?_
        refine w_gf (np := 32) (v := eR v3) rfl rfl (I23.kd gA0 (by decide) (n := 14) rfl) (by rw [(W24.slot (W20.slot (F12.k e4 gA0 (by decide) rfl) (by decide)) (by decide))]; rfl) ?_
        refine w_gf (np := 35) (v := eI (v13)) rfl rfl (I23.kd b5 (by decide) (n := 8) rfl) (by rw [(W24.addr (W20.addr e14 gA0 b5 (by decide)) gA0 b5 (by decide))]; rfl) ?_
        refine w_cw (np := 38) (as := [eI (v13)]) (l2 := [some (eR a0), some (eI (v13))]) (rest := []) rfl rfl rfl (Nat.ble_eq.mp rfl) rfl rfl rfl (I23.kd gA0 (by decide) (n := 14) rfl) rfl ?_
        refine w_t (np := 1) (l2 := [some (eR a0), some (eI (v13))]) (s2 := [eR a0]) rfl (s_an rfl (pos_g I23 gA0 (by decide))) rfl ?_
        refine w_t (np := 2) (l2 := [some (eR a0), some (eI (v13))]) (s2 := [eI (0), eR a0]) rfl rfl rfl ?_
        refine j_pf (np := 5) (w := 0) rfl rfl I23 gA0 (by decide) (n := 14) rfl rfl (hO_i (lo := -2147483648) (hi := 2147483647) rfl (by decide)) ?_
        intro m26 I27 W28
        have F29 : Fr l_156 0 0 g μ m26 := F25.w W28 gA0 rfl
        refine w_t (np := 6) (l2 := [some (eR a0), some (eI (v13))]) (s2 := [eI (v13)]) rfl rfl rfl ?_
        refine b_ri rfl rfl ?_
        show ex_q (dt_fg L ρ) rc (d + 4, (156, 38, [some (eR a0), some (eI (a1))], [eI (v13)]), f :: F, m26)
        exact b_ri rfl rfl (K m26 (v13) I27 F29 (by omega) (by omega))
    · have b3 : 4 ≤ a1 ∧ a1 ≤ 2147483647 := by omega
      refine w_t (np := 10) (l2 := [some (eR a0), some (eI (a1))]) (s2 := [eR a0]) rfl (s_an rfl (pos_g hI gA0 (by decide))) rfl ?_
      refine w_t (np := 11) (l2 := [some (eR a0), some (eI (a1))]) (s2 := [eI (1), eR a0]) rfl rfl rfl ?_
      refine w_cw (np := 14) (as := [eI (1)]) (l2 := [some (eR a0), some (eI (1))]) (rest := []) rfl rfl rfl (Nat.ble_eq.mp rfl) rfl rfl rfl (hI.kd gA0 (by decide) (n := 14) rfl) rfl ?_
      refine w_t (np := 1) (l2 := [some (eR a0), some (eI (1))]) (s2 := [eR a0]) rfl (s_an rfl (pos_g hI gA0 (by decide))) rfl ?_
      refine w_t (np := 2) (l2 := [some (eR a0), some (eI (1))]) (s2 := [eI (1), eR a0]) rfl rfl rfl ?_
      refine j_pf (np := 5) (w := 1) rfl rfl hI gA0 (by decide) (n := 14) rfl rfl (hO_i (lo := -2147483648) (hi := 2147483647) rfl (by decide)) ?_
      intro m3 I4 W5
      have F6 : Fr l_156 0 0 g μ m3 := F0.w W5 gA0 rfl
      refine w_t (np := 6) (l2 := [some (eR a0), some (eI (1))]) (s2 := [eI (-1)]) rfl rfl rfl ?_
      refine b_ri rfl rfl ?_
      show ex_q (dt_fg L ρ) rc (d + 4, (156, 14, [some (eR a0), some (eI (a1))], [eI (-1)]), f :: F, m3)
      exact b_ri rfl rfl (K m3 (-1) I4 F6 (by decide) (by omega))
