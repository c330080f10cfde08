/-! methods, walked -/
def l_4 : List Nat := [11264]
theorem s_4 {L : Nat} {ρ : Nat → Int} {rc : eQ} {d : Nat} {f : eFr} {F : List eFr} {μ : eM} {g : Nat → Nat} {a0 : Nat} {a1 : Int} {a2 : Int} {a3 : Int} (hI : SI g μ) (gA0 : g a0 = 42) (bA1 : 0 ≤ a1 ∧ a1 ≤ 511) (bA2 : -2147483648 ≤ a2 ∧ a2 ≤ 2147483647) (bA3 : -2147483648 ≤ a3 ∧ a3 ≤ 2147483647) (K : ∀ (μ2 : eM), SI g μ2 → Fr l_4 0 0 g μ μ2 → ex_q (dt_fg L ρ) rc (d + 2, (f.1, f.2.1, f.2.2.1, f.2.2.2), F, μ2)) : ex_q (dt_fg L ρ) rc (d + 1, (4, 0, [some (eR a0), some (eI (a1)), some (eI (a2)), some (eI (a3))], []), f :: F, μ) := by
  have F0 : Fr l_4 0 0 g μ μ := Fr.r
  refine w_t (np := 1) (l2 := [some (eR a0), some (eI (a1)), some (eI (a2)), some (eI (a3))]) (s2 := [eR a0]) rfl (s_an rfl (pos_g hI gA0 (by decide))) rfl ?_
  refine j_gr (np := 4) rfl rfl hI gA0 (by decide) (n := 10) rfl rfl rfl ?_
  intro v1 e2 b3 z4
  have b3 : g v1 = 44 := Nat.eq_of_beq_eq_true b3
  refine w_t (np := 5) (l2 := [some (eR a0), some (eI (a1)), some (eI (a2)), some (eI (a3))]) (s2 := [eI (a1), eR v1]) rfl rfl rfl ?_
  refine w_t (np := 6) (l2 := [some (eR a0), some (eI (a1)), some (eI (a2)), some (eI (a3))]) (s2 := [eI (a1), eR v1, eI (a1), eR v1]) rfl rfl rfl ?_
  refine j_ll (np := 7) rfl rfl hI b3 (by decide) (n := 512) rfl rfl (lo := -9223372036854775808) (hi := 9223372036854775807) (fun _ => rfl) (by omega) (by omega) ?_
  intro v5 e6 b7
  refine w_t (np := 8) (l2 := [some (eR a0), some (eI (a1)), some (eI (a2)), some (eI (a3))]) (s2 := [eI (a3), eJ (v5), eI (a1), eR v1]) rfl rfl rfl ?_
  refine w_t (np := 9) (l2 := [some (eR a0), some (eI (a1)), some (eI (a2)), some (eI (a3))]) (s2 := [eJ (a3), eJ (v5), eI (a1), eR v1]) rfl (b_i2l (ev_w_in (by omega) (by omega))) rfl ?_
  refine w_t (np := 10) (l2 := [some (eR a0), some (eI (a1)), some (eI (a2)), some (eI (a3))]) (s2 := [eI (4), eJ (a3), eJ (v5), eI (a1), eR v1]) rfl rfl rfl ?_
  refine w_t (np := 11) (l2 := [some (eR a0), some (eI (a1)), some (eI (a2)), some (eI (a3))]) (s2 := [eI (a2), eI (4), eJ (a3), eJ (v5), eI (a1), eR v1]) rfl rfl rfl ?_
  refine w_t (np := 13) (l2 := [some (eR a0), some (eI (a1)), some (eI (a2)), some (eI (a3))]) (s2 := [eI (10), eI (a2), eI (4), eJ (a3), eJ (v5), eI (a1), eR v1]) rfl rfl rfl ?_
  refine w_cu (np := 16) (as := [eI (a2), eI (10)]) (l2 := [some (eI (a2)), some (eI (10)), none]) (rest := [eI (4), eJ (a3), eJ (v5), eI (a1), eR v1]) rfl rfl rfl (Nat.ble_eq.mp rfl) rfl rfl rfl rfl ?_
  refine w_t (np := 1) (l2 := [some (eI (a2)), some (eI (10)), none]) (s2 := [eI (a2)]) rfl rfl rfl ?_
  refine w_t (np := 2) (l2 := [some (eI (a2)), some (eI (10)), none]) (s2 := [eI (10), eI (a2)]) rfl rfl rfl ?_
  obtain ⟨v8, e9, b10⟩ := h_irem (a := a2) (k := 10) (by decide) (by decide) bA2
  have b11 : -9 ≤ v8 ∧ v8 ≤ 9 := by omega
  refine w_t (np := 3) (l2 := [some (eI (a2)), some (eI (10)), none]) (s2 := [eI (v8)]) rfl (e9 _ _) rfl ?_
  refine w_t (np := 4) (l2 := [some (eI (a2)), some (eI (10)), some (eI (v8))]) (s2 := []) rfl rfl rfl ?_
  refine w_t (np := 5) (l2 := [some (eI (a2)), some (eI (10)), some (eI (v8))]) (s2 := [eI (a2)]) rfl rfl rfl ?_
  refine w_t (np := 6) (l2 := [some (eI (a2)), some (eI (10)), some (eI (v8))]) (s2 := [eI (10), eI (a2)]) rfl rfl rfl ?_
  obtain ⟨v12, e13, b14, h15⟩ := h_ixor2 (a := a2) (b := 10) (by omega) (by decide) (by decide)
  refine w_t (np := 7) (l2 := [some (eI (a2)), some (eI (10)), some (eI (v8))]) (s2 := [eI (v12)]) rfl (e13 _ _) rfl ?_
  refine b_ige (t1 := 18) (t2 := 10) rfl rfl rfl (ev_w_in (by omega) (by omega)) (fun g16 => ?_) (fun g16 => ?_)
  · have b17 : 0 ≤ v12 ∧ v12 ≤ 2147483647 := by omega
    refine w_t (np := 19) (l2 := [some (eI (a2)), some (eI (10)), some (eI (v8))]) (s2 := [eI (v8)]) rfl rfl rfl ?_
    refine b_ri rfl rfl ?_
    show ex_q (dt_fg L ρ) rc (d + 1, (4, 16, [some (eR a0), some (eI (a1)), some (eI (a2)), some (eI (a3))], [eI (v8), eI (4), eJ (a3), eJ (v5), eI (a1), eR v1]), f :: F, μ)
    obtain ⟨v17, e18⟩ : ∃ zz : Int, zz = (4) * (v8) := ⟨_, rfl⟩
    have b19 : -36 ≤ v17 ∧ v17 ≤ 36 := by omega
    refine w_t (np := 17) (l2 := [some (eR a0), some (eI (a1)), some (eI (a2)), some (eI (a3))]) (s2 := [eI (v17), eJ (a3), eJ (v5), eI (a1), eR v1]) rfl (b_imul (by rw [← e18]; exact ev_w_in (by omega) (by omega))) rfl ?_
    obtain ⟨v20, e21, b22⟩ := h_lshl (a3) (v17)
    refine w_t (np := 18) (l2 := [some (eR a0), some (eI (a1)), some (eI (a2)), some (eI (a3))]) (s2 := [eJ (v20), eJ (v5), eI (a1), eR v1]) rfl (e21 _ _) rfl ?_
    obtain ⟨v23, e24, b25⟩ := h_lor (v5) (v20)
    refine w_t (np := 19) (l2 := [some (eR a0), some (eI (a1)), some (eI (a2)), some (eI (a3))]) (s2 := [eJ (v23), eI (a1), eR v1]) rfl (e24 _ _) rfl ?_
    refine j_sl (np := 20) rfl rfl hI b3 (by decide) (n := 512) rfl rfl (lo := -9223372036854775808) (hi := 9223372036854775807) (fun _ => rfl) (by omega) (by omega) (by omega) ?_
    intro m26 I27 W28
    have F29 : Fr l_4 0 0 g μ m26 := F0.v W28 b3 rfl rfl
    exact v_rv rfl rfl (K m26 I27 F29)
  · have b17 : -2147483648 ≤ v12 ∧ v12 ≤ -1 := by omega
    refine w_t (np := 11) (l2 := [some (eI (a2)), some (eI (10)), some (eI (v8))]) (s2 := [eI (v8)]) rfl rfl rfl ?_
    refine b_ieq (t1 := 18) (t2 := 14) rfl rfl rfl (ev_w_in (by omega) (by omega)) (fun g17 => ?_) (fun g17 => ?_)
    · have b18 : 0 ≤ v8 ∧ v8 ≤ 0 := by omega
      refine w_t (np := 19) (l2 := [some (eI (a2)), some (eI (10)), some (eI (v8))]) (s2 := [eI (v8)]) rfl rfl rfl ?_
      refine b_ri rfl rfl ?_
      show ex_q (dt_fg L ρ) rc (d + 1, (4, 16, [some (eR a0), some (eI (a1)), some (eI (a2)), some (eI (a3))], [eI (v8), eI (4), eJ (a3), eJ (v5), eI (a1), eR v1]), f :: F, μ)
      obtain ⟨v18, e19⟩ : ∃ zz : Int, zz = (4) * (v8) := ⟨_, rfl⟩
      have b20 : 0 ≤ v18 ∧ v18 ≤ 0 := by omega
      refine w_t (np := 17) (l2 := [some (eR a0), some (eI (a1)), some (eI (a2)), some (eI (a3))]) (s2 := [eI (v18), eJ (a3), eJ (v5), eI (a1), eR v1]) rfl (b_imul (by rw [← e19]; exact ev_w_in (by omega) (by omega))) rfl ?_
      obtain ⟨v21, e22, b23⟩ := h_lshl (a3) (v18)
      refine w_t (np := 18) (l2 := [some (eR a0), some (eI (a1)), some (eI (a2)), some (eI (a3))]) (s2 := [eJ (v21), eJ (v5), eI (a1), eR v1]) rfl (e22 _ _) rfl ?_
      obtain ⟨v24, e25, b26⟩ := h_lor (v5) (v21)
      refine w_t (np := 19) (l2 := [some (eR a0), some (eI (a1)), some (eI (a2)), some (eI (a3))]) (s2 := [eJ (v24), eI (a1), eR v1]) rfl (e25 _ _) rfl ?_
      refine j_sl (np := 20) rfl rfl hI b3 (by decide) (n := 512) rfl rfl (lo := -9223372036854775808) (hi := 9223372036854775807) (fun _ => rfl) (by omega) (by omega) (by omega) ?_
      intro m27 I28 W29
      have F30 : Fr l_4 0 0 g μ m27 := F0.v W29 b3 rfl rfl
      exact v_rv rfl rfl (K m27 I28 F30)
    · refine w_t (np := 15) (l2 := [some (eI (a2)), some (eI (10)), some (eI (v8))]) (s2 := [eI (v8)]) rfl rfl rfl ?_
      refine w_t (np := 16) (l2 := [some (eI (a2)), some (eI (10)), some (eI (v8))]) (s2 := [eI (10), eI (v8)]) rfl rfl rfl ?_
      obtain ⟨v18, e19⟩ : ∃ zz : Int, zz = (v8) + (10) := ⟨_, rfl⟩
      have b20 : 1 ≤ v18 ∧ v18 ≤ 19 := by omega
      refine w_t (np := 17) (l2 := [some (eI (a2)), some (eI (10)), some (eI (v8))]) (s2 := [eI (v18)]) rfl (b_iadd (by rw [← e19]; exact ev_w_in (by omega) (by omega))) rfl ?_
      refine b_ri rfl rfl ?_
      show ex_q (dt_fg L ρ) rc (d + 1, (4, 16, [some (eR a0), some (eI (a1)), some (eI (a2)), some (eI (a3))], [eI (v18), eI (4), eJ (a3), eJ (v5), eI (a1), eR v1]), f :: F, μ)
      obtain ⟨v21, e22⟩ : ∃ zz : Int, zz = (4) * (v18) := ⟨_, rfl⟩
      have b23 : 4 ≤ v21 ∧ v21 ≤ 76 := by omega
      refine w_t (np := 17) (l2 := [some (eR a0), some (eI (a1)), some (eI (a2)), some (eI (a3))]) (s2 := [eI (v21), eJ (a3), eJ (v5), eI (a1), eR v1]) rfl (b_imul (by rw [← e22]; exact ev_w_in (by omega) (by omega))) rfl ?_
      obtain ⟨v24, e25, b26⟩ := h_lshl (a3) (v21)
      refine w_t (np := 18) (l2 := [some (eR a0), some (eI (a1)), some (eI (a2)), some (eI (a3))]) (s2 := [eJ (v24), eJ (v5), eI (a1), eR v1]) rfl (e25 _ _) rfl ?_
      obtain ⟨v27, e28, b29⟩ := h_lor (v5) (v24)
      refine w_t (np := 19) (l2 := [some (eR a0), some (eI (a1)), some (eI (a2)), some (eI (a3))]) (s2 := [eJ (v27), eI (a1), eR v1]) rfl (e28 _ _) rfl ?_
      refine j_sl (np := 20) rfl rfl hI b3 (by decide) (n := 512) rfl rfl (lo := -9223372036854775808) (hi := 9223372036854775807) (fun _ => rfl) (by omega) (by omega) (by omega) ?_
      intro m30 I31 W32
      have F33 : Fr l_4 0 0 g μ m30 := F0.v W32 b3 rfl rfl
      exact v_rv rfl rfl (K m30 I31 F33)
theorem s_5 {L : Nat} {ρ : Nat → Int} {rc : eQ} {d : Nat} {f : eFr} {F : List eFr} {μ : eM} {g : Nat → Nat} {a0 : Int} (hI : SI g μ) (bA0 : -9223372036854775808 ≤ a0 ∧ a0 ≤ 9223372036854775807) (K : ∀ (v : Int), (-2147483648 ≤ v ∧ v ≤ 2147483647) → ex_q (dt_fg L ρ) rc (d + 1, (f.1, f.2.1, f.2.2.1, eI v :: f.2.2.2), F, μ)) : ex_q (dt_fg L ρ) rc (d, (5, 0, [some (eJ (a0)), none, none, none, none, none, none], []), f :: F, μ) := by
  refine w_t (np := 1) (l2 := [some (eJ (a0)), none, none, none, none, none, none]) (s2 := [eI (-1)]) rfl rfl rfl ?_
  refine w_t (np := 2) (l2 := [some (eJ (a0)), none, some (eI (-1)), none, none, none, none]) (s2 := []) rfl rfl rfl ?_
  refine w_t (np := 3) (l2 := [some (eJ (a0)), none, some (eI (-1)), none, none, none, none]) (s2 := [eI (0)]) rfl rfl rfl ?_
  refine w_t (np := 4) (l2 := [some (eJ (a0)), none, some (eI (-1)), some (eI (0)), none, none, none]) (s2 := []) rfl rfl rfl ?_
  have hL4 : ∀ (n1 : Nat) (i3 : Int) (i5 : Int) (o7 : Option eV) (o8 : Option eV) (o9 : Option eV), (-2147483648 ≤ i3 ∧ i3 ≤ 2147483647) → (0 ≤ i5 ∧ i5 ≤ 10) → n1 = (10 - i5).toNat → ex_q (dt_fg L ρ) rc (d, (5, 4, [some (eJ (a0)), none, some (eI (i3)), some (eI (i5)), o7, o8, o9], []), f :: F, μ) := by
    intro n1
    induction n1 using Nat.strongRecOn with
    | _ n1 ih2 =>
    intro i3 i5 o7 o8 o9 b4 b6 hn10
    refine w_t (np := 5) (l2 := [some (eJ (a0)), none, some (eI (i3)), some (eI (i5)), o7, o8, o9]) (s2 := [eI (i5)]) rfl rfl rfl ?_
    refine w_t (np := 7) (l2 := [some (eJ (a0)), none, some (eI (i3)), some (eI (i5)), o7, o8, o9]) (s2 := [eI (10), eI (i5)]) rfl rfl rfl ?_
    refine b_cge (t1 := 89) (t2 := 10) rfl rfl rfl (ev_w_in (by omega) (by omega)) rfl (fun g11 => ?_) (fun g11 => ?_)
    · have b12 : 10 ≤ i5 ∧ i5 ≤ 10 := by omega
      refine w_t (np := 90) (l2 := [some (eJ (a0)), none, some (eI (i3)), some (eI (i5)), o7, o8, o9]) (s2 := [eI (i3)]) rfl rfl rfl ?_
      exact b_ri rfl rfl (K (i3) (by omega))
    · have b12 : 0 ≤ i5 ∧ i5 ≤ 9 := by omega
      refine w_t (np := 11) (l2 := [some (eJ (a0)), none, some (eI (i3)), some (eI (i5)), o7, o8, o9]) (s2 := [eI (0)]) rfl rfl rfl ?_
      refine w_t (np := 13) (l2 := [some (eJ (a0)), none, some (eI (i3)), some (eI (i5)), some (eI (0)), o8, o9]) (s2 := []) rfl rfl rfl ?_
      refine w_t (np := 14) (l2 := [some (eJ (a0)), none, some (eI (i3)), some (eI (i5)), some (eI (0)), o8, o9]) (s2 := [eI (i5)]) rfl rfl rfl ?_
      refine w_t (np := 16) (l2 := [some (eJ (a0)), none, some (eI (i3)), some (eI (i5)), some (eI (0)), some (eI (i5)), o9]) (s2 := []) rfl rfl rfl ?_
      have hL16 : ∀ (n12 : Nat) (i14 : Int) (i16 : Int) (o18 : Option eV), (-2147483648 ≤ i14 ∧ i14 ≤ 2147483647) → (0 ≤ i16 ∧ i16 ≤ 24) → n12 = (24 - i16).toNat → ex_q (dt_fg L ρ) rc (d, (5, 16, [some (eJ (a0)), none, some (eI (i3)), some (eI (i5)), some (eI (i14)), some (eI (i16)), o18], []), f :: F, μ) := by
        intro n12
        induction n12 using Nat.strongRecOn with
        | _ n12 ih13 =>
        intro i14 i16 o18 b15 b17 hn19
        refine w_t (np := 18) (l2 := [some (eJ (a0)), none, some (eI (i3)), some (eI (i5)), some (eI (i14)), some (eI (i16)), o18]) (s2 := [eI (i16)]) rfl rfl rfl ?_
        refine w_t (np := 19) (l2 := [some (eJ (a0)), none, some (eI (i3)), some (eI (i5)), some (eI (i14)), some (eI (i16)), o18]) (s2 := [eI (i5), eI (i16)]) rfl rfl rfl ?_
        refine w_t (np := 21) (l2 := [some (eJ (a0)), none, some (eI (i3)), some (eI (i5)), some (eI (i14)), some (eI (i16)), o18]) (s2 := [eI (10), eI (i5), eI (i16)]) rfl rfl rfl ?_
        obtain ⟨v20, e21⟩ : ∃ zz : Int, zz = (i5) + (10) := ⟨_, rfl⟩
        have b22 : 10 ≤ v20 ∧ v20 ≤ 19 := by omega
        refine w_t (np := 22) (l2 := [some (eJ (a0)), none, some (eI (i3)), some (eI (i5)), some (eI (i14)), some (eI (i16)), o18]) (s2 := [eI (v20), eI (i16)]) rfl (b_iadd (by rw [← e21]; exact ev_w_in (by omega) (by omega))) rfl ?_
        refine b_cge (t1 := 66) (t2 := 25) rfl rfl rfl (ev_w_in (by omega) (by omega)) (ev_w_in (by omega) (by omega)) (fun g23 => ?_) (fun g23 => ?_)
        · have b24 : 10 ≤ i16 ∧ i16 ≤ 24 := by omega
          refine w_t (np := 67) (l2 := [some (eJ (a0)), none, some (eI (i3)), some (eI (i5)), some (eI (i14)), some (eI (i16)), o18]) (s2 := [eI (i3)]) rfl rfl rfl ?_
          refine b_ilt (t1 := 76) (t2 := 70) rfl rfl rfl (ev_w_in (by omega) (by omega)) (fun g24 => ?_) (fun g24 => ?_)
          · have b25 : -2147483648 ≤ i3 ∧ i3 ≤ -1 := by omega
            refine w_t (np := 78) (l2 := [some (eJ (a0)), none, some (eI (i3)), some (eI (i5)), some (eI (i14)), some (eI (i16)), o18]) (s2 := [eI (i14)]) rfl rfl rfl ?_
            refine w_go (t1 := 82) rfl rfl ?_
            refine w_t (np := 83) (l2 := [some (eJ (a0)), none, some (eI (i14)), some (eI (i5)), some (eI (i14)), some (eI (i16)), o18]) (s2 := []) rfl rfl rfl ?_
            obtain ⟨v25, e26⟩ : ∃ zz : Int, zz = (i5) + (1) := ⟨_, rfl⟩
            have b27 : 1 ≤ v25 ∧ v25 ≤ 10 := by omega
            refine w_t (np := 86) (l2 := [some (eJ (a0)), none, some (eI (i14)), some (eI (v25)), some (eI (i14)), some (eI (i16)), o18]) (s2 := []) rfl (b_iinc rfl (by rw [← e26]; exact ev_w_in (by omega) (by omega)) rfl) rfl ?_
            refine w_go (t1 := 4) rfl rfl ?_
            exact ih2 (10 - (v25)).toNat (by omega) (i14) (v25) (some (eI (i14))) (some (eI (i16))) (o18) (by omega) (by omega)     rfl
          · have b25 : 0 ≤ i3 ∧ i3 ≤ 2147483647 := by omega
            refine w_t (np := 72) (l2 := [some (eJ (a0)), none, some (eI (i3)), some (eI (i5)), some (eI (i14)), some (eI (i16)), o18]) (s2 := [eI (i14)]) rfl rfl rfl ?_
            refine w_t (np := 73) (l2 := [some (eJ (a0)), none, some (eI (i3)), some (eI (i5)), some (eI (i14)), some (eI (i16)), o18]) (s2 := [eI (i3), eI (i14)]) rfl rfl rfl ?_
            refine b_cge (t1 := 81) (t2 := 76) rfl rfl rfl (ev_w_in (by omega) (by omega)) (ev_w_in (by omega) (by omega)) (fun g25 => ?_) (fun g25 => ?_)
            · have b26 : 0 ≤ i14 ∧ i14 ≤ 2147483647 := by omega
              refine w_t (np := 82) (l2 := [some (eJ (a0)), none, some (eI (i3)), some (eI (i5)), some (eI (i14)), some (eI (i16)), o18]) (s2 := [eI (i3)]) rfl rfl rfl ?_
              refine w_t (np := 83) (l2 := [some (eJ (a0)), none, some (eI (i3)), some (eI (i5)), some (eI (i14)), some (eI (i16)), o18]) (s2 := []) rfl rfl rfl ?_
              obtain ⟨v26, e27⟩ : ∃ zz : Int, zz = (i5) + (1) := ⟨_, rfl⟩
              have b28 : 1 ≤ v26 ∧ v26 ≤ 10 := by omega
              refine w_t (np := 86) (l2 := [some (eJ (a0)), none, some (eI (i3)), some (eI (v26)), some (eI (i14)), some (eI (i16)), o18]) (s2 := []) rfl (b_iinc rfl (by rw [← e27]; exact ev_w_in (by omega) (by omega)) rfl) rfl ?_
              refine w_go (t1 := 4) rfl rfl ?_
              exact ih2 (10 - (v26)).toNat (by omega) (i3) (v26) (some (eI (i14))) (some (eI (i16))) (o18) (by omega) (by omega)     rfl
            · have b26 : -2147483648 ≤ i14 ∧ i14 ≤ 2147483646 := by omega
              refine w_t (np := 78) (l2 := [some (eJ (a0)), none, some (eI (i3)), some (eI (i5)), some (eI (i14)), some (eI (i16)), o18]) (s2 := [eI (i14)]) rfl rfl rfl ?_
              refine w_go (t1 := 82) rfl rfl ?_
              refine w_t (np := 83) (l2 := [some (eJ (a0)), none, some (eI (i14)), some (eI (i5)), some (eI (i14)), some (eI (i16)), o18]) (s2 := []) rfl rfl rfl ?_
              obtain ⟨v26, e27⟩ : ∃ zz : Int, zz = (i5) + (1) := ⟨_, rfl⟩
              have b28 : 1 ≤ v26 ∧ v26 ≤ 10 := by omega
              refine w_t (np := 86) (l2 := [some (eJ (a0)), none, some (eI (i14)), some (eI (v26)), some (eI (i14)), some (eI (i16)), o18]) (s2 := []) rfl (b_iinc rfl (by rw [← e27]; exact ev_w_in (by omega) (by omega)) rfl) rfl ?_
              refine w_go (t1 := 4) rfl rfl ?_
              exact ih2 (10 - (v26)).toNat (by omega) (i14) (v26) (some (eI (i14))) (some (eI (i16))) (o18) (by omega) (by omega)     rfl
        · have b24 : 0 ≤ i16 ∧ i16 ≤ 18 := by omega
          refine w_t (np := 26) (l2 := [some (eJ (a0)), none, some (eI (i3)), some (eI (i5)), some (eI (i14)), some (eI (i16)), o18]) (s2 := [eJ (a0)]) rfl rfl rfl ?_
          refine w_t (np := 27) (l2 := [some (eJ (a0)), none, some (eI (i3)), some (eI (i5)), some (eI (i14)), some (eI (i16)), o18]) (s2 := [eI (4), eJ (a0)]) rfl rfl rfl ?_
          refine w_t (np := 29) (l2 := [some (eJ (a0)), none, some (eI (i3)), some (eI (i5)), some (eI (i14)), some (eI (i16)), o18]) (s2 := [eI (i16), eI (4), eJ (a0)]) rfl rfl rfl ?_
          refine w_t (np := 31) (l2 := [some (eJ (a0)), none, some (eI (i3)), some (eI (i5)), some (eI (i14)), some (eI (i16)), o18]) (s2 := [eI (10), eI (i16), eI (4), eJ (a0)]) rfl rfl rfl ?_
          obtain ⟨v24, e25, b26⟩ := h_irem (a := i16) (k := 10) (by decide) (by decide) (show (-2147483648 : Int) ≤ i16 ∧ (i16 : Int) ≤ 2147483647 by omega)
          have b27 : 0 ≤ v24 ∧ v24 ≤ 9 := by omega
          refine w_t (np := 32) (l2 := [some (eJ (a0)), none, some (eI (i3)), some (eI (i5)), some (eI (i14)), some (eI (i16)), o18]) (s2 := [eI (v24), eI (4), eJ (a0)]) rfl (e25 _ _) rfl ?_
          obtain ⟨v28, e29⟩ : ∃ zz : Int, zz = (4) * (v24) := ⟨_, rfl⟩
          have b30 : 0 ≤ v28 ∧ v28 ≤ 36 := by omega
          refine w_t (np := 33) (l2 := [some (eJ (a0)), none, some (eI (i3)), some (eI (i5)), some (eI (i14)), some (eI (i16)), o18]) (s2 := [eI (v28), eJ (a0)]) rfl (b_imul (by rw [← e29]; exact ev_w_in (by omega) (by omega))) rfl ?_
          obtain ⟨v31, e32, b33⟩ := h_lshr (a0) (v28)
          refine w_t (np := 34) (l2 := [some (eJ (a0)), none, some (eI (i3)), some (eI (i5)), some (eI (i14)), some (eI (i16)), o18]) (s2 := [eJ (v31)]) rfl (e32 _ _) rfl ?_
          obtain ⟨v34, e35, b36⟩ := h_l2i (v31)
          refine w_t (np := 35) (l2 := [some (eJ (a0)), none, some (eI (i3)), some (eI (i5)), some (eI (i14)), some (eI (i16)), o18]) (s2 := [eI (v34)]) rfl (e35 _ _) rfl ?_
          refine w_t (np := 37) (l2 := [some (eJ (a0)), none, some (eI (i3)), some (eI (i5)), some (eI (i14)), some (eI (i16)), o18]) (s2 := [eI (15), eI (v34)]) rfl rfl rfl ?_
          obtain ⟨v37, e38, b39⟩ := h_iand (a := v34) (b := 15) (by decide) (by decide)
          have b40 : 0 ≤ v37 ∧ v37 ≤ 15 := by omega
          refine w_t (np := 38) (l2 := [some (eJ (a0)), none, some (eI (i3)), some (eI (i5)), some (eI (i14)), some (eI (i16)), o18]) (s2 := [eI (v37)]) rfl (e38 _ _) rfl ?_
          refine w_t (np := 40) (l2 := [some (eJ (a0)), none, some (eI (i3)), some (eI (i5)), some (eI (i14)), some (eI (i16)), some (eI (v37))]) (s2 := []) rfl rfl rfl ?_
          refine w_t (np := 42) (l2 := [some (eJ (a0)), none, some (eI (i3)), some (eI (i5)), some (eI (i14)), some (eI (i16)), some (eI (v37))]) (s2 := [eI (v37)]) rfl rfl rfl ?_
          refine b_ine (t1 := 50) (t2 := 45) rfl rfl rfl (ev_w_in (by omega) (by omega)) (fun g41 => ?_) (fun g41 => ?_)
          · have b42 : 1 ≤ v37 ∧ v37 ≤ 15 := by omega
            refine w_t (np := 52) (l2 := [some (eJ (a0)), none, some (eI (i3)), some (eI (i5)), some (eI (i14)), some (eI (i16)), some (eI (v37))]) (s2 := [eI (7)]) rfl rfl rfl ?_
            refine w_t (np := 54) (l2 := [some (eJ (a0)), none, some (eI (i3)), some (eI (i5)), some (eI (i14)), some (eI (i16)), some (eI (v37))]) (s2 := [eI (i14), eI (7)]) rfl rfl rfl ?_
            obtain ⟨v42, e43, b44⟩ : ∃ zz : Int, ev_w ((7) * (i14)) = zz ∧ (-2147483648 ≤ zz ∧ zz ≤ 2147483647) := ⟨_, rfl, hw_bd _⟩
            refine w_t (np := 55) (l2 := [some (eJ (a0)), none, some (eI (i3)), some (eI (i5)), some (eI (i14)), some (eI (i16)), some (eI (v37))]) (s2 := [eI (v42)]) rfl (b_imul e43) rfl ?_
            refine w_t (np := 57) (l2 := [some (eJ (a0)), none, some (eI (i3)), some (eI (i5)), some (eI (i14)), some (eI (i16)), some (eI (v37))]) (s2 := [eI (v37), eI (v42)]) rfl rfl rfl ?_
            obtain ⟨v45, e46, b47⟩ : ∃ zz : Int, ev_w ((v42) + (v37)) = zz ∧ (-2147483648 ≤ zz ∧ zz ≤ 2147483647) := ⟨_, rfl, hw_bd _⟩
            refine w_t (np := 58) (l2 := [some (eJ (a0)), none, some (eI (i3)), some (eI (i5)), some (eI (i14)), some (eI (i16)), some (eI (v37))]) (s2 := [eI (v45)]) rfl (b_iadd e46) rfl ?_
            refine w_t (np := 60) (l2 := [some (eJ (a0)), none, some (eI (i3)), some (eI (i5)), some (eI (v45)), some (eI (i16)), some (eI (v37))]) (s2 := []) rfl rfl rfl ?_
            obtain ⟨v48, e49⟩ : ∃ zz : Int, zz = (i16) + (1) := ⟨_, rfl⟩
            have b50 : 1 ≤ v48 ∧ v48 ≤ 19 := by omega
            refine w_t (np := 63) (l2 := [some (eJ (a0)), none, some (eI (i3)), some (eI (i5)), some (eI (v45)), some (eI (v48)), some (eI (v37))]) (s2 := []) rfl (b_iinc rfl (by rw [← e49]; exact ev_w_in (by omega) (by omega)) rfl) rfl ?_
            refine w_go (t1 := 16) rfl rfl ?_
            exact ih13 (24 - (v48)).toNat (by omega) (v45) (v48) (some (eI (v37))) (by omega) (by omega)     rfl
          · have b42 : 0 ≤ v37 ∧ v37 ≤ 0 := by omega
            refine w_t (np := 47) (l2 := [some (eJ (a0)), none, some (eI (i3)), some (eI (i5)), some (eI (i14)), some (eI (i16)), some (eI (v37))]) (s2 := [eI (i14)]) rfl rfl rfl ?_
            refine w_go (t1 := 58) rfl rfl ?_
            refine w_t (np := 60) (l2 := [some (eJ (a0)), none, some (eI (i3)), some (eI (i5)), some (eI (i14)), some (eI (i16)), some (eI (v37))]) (s2 := []) rfl rfl rfl ?_
            obtain ⟨v42, e43⟩ : ∃ zz : Int, zz = (i16) + (1) := ⟨_, rfl⟩
            have b44 : 1 ≤ v42 ∧ v42 ≤ 19 := by omega
            refine w_t (np := 63) (l2 := [some (eJ (a0)), none, some (eI (i3)), some (eI (i5)), some (eI (i14)), some (eI (v42)), some (eI (v37))]) (s2 := []) rfl (b_iinc rfl (by rw [← e43]; exact ev_w_in (by omega) (by omega)) rfl) rfl ?_
            refine w_go (t1 := 16) rfl rfl ?_
            exact ih13 (24 - (v42)).toNat (by omega) (i14) (v42) (some (eI (v37))) (by omega) (by omega)     rfl
      exact hL16 _ (0) (i5) (o9) (by decide) (by omega)     rfl
  exact hL4 _ (-1) (0) (none) (none) (none) (by decide) (by decide)     rfl
def l_6 : List Nat := [10762, 12032]
theorem s_6 {L : Nat} {ρ : Nat → Int} {rc : eQ} {d : Nat} {f : eFr} {F : List eFr} {μ : eM} {g : Nat → Nat} {a0 : Nat} {a1 : Int} (hI : SI g μ) (gA0 : g a0 = 42) (bA1 : -2147483648 ≤ a1 ∧ a1 ≤ 2147483647) (K : ∀ (μ2 : eM), SI g μ2 → Fr l_6 0 0 g μ μ2 → ex_q (dt_fg L ρ) rc (d + 1, (f.1, f.2.1, f.2.2.1, f.2.2.2), F, μ2)) : ex_q (dt_fg L ρ) rc (d, (6, 0, [some (eR a0), some (eI (a1)), none, none], []), f :: F, μ) := by
  have F0 : Fr l_6 0 0 g μ μ := Fr.r
  refine w_t (np := 1) (l2 := [some (eR a0), some (eI (a1)), none, none]) (s2 := [eI (a1)]) rfl rfl rfl ?_
  refine b_ilt (t1 := 13) (t2 := 4) rfl rfl rfl (ev_w_in (by omega) (by omega)) (fun g1 => ?_) (fun g1 => ?_)
  · have b2 : -2147483648 ≤ a1 ∧ a1 ≤ -1 := by omega
    exact v_rv rfl rfl (K μ hI F0)
  · have b2 : 0 ≤ a1 ∧ a1 ≤ 2147483647 := by omega
    refine w_t (np := 5) (l2 := [some (eR a0), some (eI (a1)), none, none]) (s2 := [eR a0]) rfl (s_an rfl (pos_g hI gA0 (by decide))) rfl ?_
    refine j_gi (np := 8) rfl rfl rfl hI gA0 (by decide) (n := 10) rfl rfl (lo := 0) (hi := 64) rfl ?_
    intro v2 e3 b4
    refine w_t (np := 10) (l2 := [some (eR a0), some (eI (a1)), none, none]) (s2 := [eI (64), eI (v2)]) rfl rfl rfl ?_
    refine b_clt (t1 := 14) (t2 := 13) rfl rfl rfl (ev_w_in (by omega) (by omega)) rfl (fun g5 => ?_) (fun g5 => ?_)
    · have b6 : 0 ≤ v2 ∧ v2 ≤ 63 := by omega
      refine w_t (np := 15) (l2 := [some (eR a0), some (eI (a1)), none, none]) (s2 := [eI (0)]) rfl rfl rfl ?_
      refine w_t (np := 16) (l2 := [some (eR a0), some (eI (a1)), some (eI (0)), none]) (s2 := []) rfl rfl rfl ?_
      have hL16 : ∀ (n6 : Nat) (m10 : eM) (i8 : Int), SI g m10 → Fr l_6 0 0 g μ m10 → (0 ≤ i8 ∧ i8 ≤ 63) → m10.1 a0 9 = v2 → n6 = (64 - i8).toNat → ex_q (dt_fg L ρ) rc (d, (6, 16, [some (eR a0), some (eI (a1)), some (eI (i8)), none], []), f :: F, m10) := by
        intro n6
        induction n6 using Nat.strongRecOn with
        | _ n6 ih7 =>
        intro m10 i8 I11 F12 b9 k13 hn14
        refine w_t (np := 17) (l2 := [some (eR a0), some (eI (a1)), some (eI (i8)), none]) (s2 := [eI (i8)]) rfl rfl rfl ?_
        refine w_t (np := 18) (l2 := [some (eR a0), some (eI (a1)), some (eI (i8)), none]) (s2 := [eR a0, eI (i8)]) rfl (s_an rfl (pos_g I11 gA0 (by decide))) rfl ?_
        refine w_gf (np := 21) (v := eI (v2)) rfl rfl (I11.kd gA0 (by decide) (n := 10) rfl) (by rw [k13]; rfl) ?_
        refine b_cge (t1 := 40) (t2 := 24) rfl rfl rfl (ev_w_in (by omega) (by omega)) (ev_w_in (by omega) (by omega)) (fun g15 => ?_) (fun g15 => ?_)
        · refine w_t (np := 41) (l2 := [some (eR a0), some (eI (a1)), some (eI (i8)), none]) (s2 := [eI (i8)]) rfl rfl rfl ?_
          refine w_t (np := 42) (l2 := [some (eR a0), some (eI (a1)), some (eI (i8)), none]) (s2 := [eR a0, eI (i8)]) rfl (s_an rfl (pos_g I11 gA0 (by decide))) rfl ?_
          refine w_gf (np := 45) (v := eI (v2)) rfl rfl (I11.kd gA0 (by decide) (n := 10) rfl) (by rw [k13]; rfl) ?_
          refine b_cge (t1 := 59) (t2 := 48) rfl rfl rfl (ev_w_in (by omega) (by omega)) (ev_w_in (by omega) (by omega)) (fun g16 => ?_) (fun g16 => False.elim (by omega))
          refine w_t (np := 60) (l2 := [some (eR a0), some (eI (a1)), some (eI (i8)), none]) (s2 := [eR a0]) rfl (s_an rfl (pos_g I11 gA0 (by decide))) rfl ?_
          refine w_gf (np := 63) (v := eI (v2)) rfl rfl (I11.kd gA0 (by decide) (n := 10) rfl) (by rw [k13]; rfl) ?_
          refine w_t (np := 64) (l2 := [some (eR a0), some (eI (a1)), some (eI (i8)), some (eI (v2))]) (s2 := []) rfl rfl rfl ?_
          have hL64 : ∀ (n17 : Nat) (m21 : eM) (i19 : Int), SI g m21 → Fr l_6 0 0 g μ m21 → (0 ≤ i19 ∧ i19 ≤ 63) → m21.1 a0 9 = v2 → n17 = (i19).toNat → ex_q (dt_fg L ρ) rc (d, (6, 64, [some (eR a0), some (eI (a1)), some (eI (i8)), some (eI (i19))], []), f :: F, m21) := by
            intro n17
            induction n17 using Nat.strongRecOn with
            | _ n17 ih18 =>
            intro m21 i19 I22 F23 b20 k24 hn25
            refine w_t (np := 65) (l2 := [some (eR a0), some (eI (a1)), some (eI (i8)), some (eI (i19))]) (s2 := [eI (i19)]) rfl rfl rfl ?_
            refine w_t (np := 66) (l2 := [some (eR a0), some (eI (a1)), some (eI (i8)), some (eI (i19))]) (s2 := [eI (i8), eI (i19)]) rfl rfl rfl ?_
            refine b_cle (t1 := 89) (t2 := 69) rfl rfl rfl (ev_w_in (by omega) (by omega)) (ev_w_in (by omega) (by omega)) (fun g26 => ?_) (fun g26 => ?_)
            · refine w_t (np := 90) (l2 := [some (eR a0), some (eI (a1)), some (eI (i8)), some (eI (i19))]) (s2 := [eR a0]) rfl (s_an rfl (pos_g I22 gA0 (by decide))) rfl ?_
              refine j_gr (np := 93) rfl rfl I22 gA0 (by decide) (n := 10) rfl rfl rfl ?_
              intro v27 e28 b29 z30
              have b29 : g v27 = 47 := Nat.eq_of_beq_eq_true b29
              refine w_t (np := 94) (l2 := [some (eR a0), some (eI (a1)), some (eI (i8)), some (eI (i19))]) (s2 := [eI (i8), eR v27]) rfl rfl rfl ?_
              refine w_t (np := 95) (l2 := [some (eR a0), some (eI (a1)), some (eI (i8)), some (eI (i19))]) (s2 := [eI (a1), eI (i8), eR v27]) rfl rfl rfl ?_
              refine j_as (np := 96) rfl rfl I22 b29 (by decide) (n := 64) rfl rfl (lo := -2147483648) (hi := 2147483647) (fun _ => rfl) (by omega) (by omega) (by omega) ?_
              intro m31 I32 W33
              have F34 : Fr l_6 0 0 g μ m31 := F23.v W33 b29 rfl rfl
              refine w_t (np := 97) (l2 := [some (eR a0), some (eI (a1)), some (eI (i8)), some (eI (i19))]) (s2 := [eR a0]) rfl (s_an rfl (pos_g I32 gA0 (by decide))) rfl ?_
              refine w_t (np := 98) (l2 := [some (eR a0), some (eI (a1)), some (eI (i8)), some (eI (i19))]) (s2 := [eR a0, eR a0]) rfl rfl rfl ?_
              refine w_gf (np := 101) (v := eI (v2)) rfl rfl (I32.kd gA0 (by decide) (n := 10) rfl) (by rw [(W33.addr k24 b29 gA0 (by decide))]; rfl) ?_
              refine w_t (np := 102) (l2 := [some (eR a0), some (eI (a1)), some (eI (i8)), some (eI (i19))]) (s2 := [eI (1), eI (v2), eR a0]) rfl rfl rfl ?_
              obtain ⟨v35, e36⟩ : ∃ zz : Int, zz = (v2) + (1) := ⟨_, rfl⟩
              have b37 : 1 ≤ v35 ∧ v35 ≤ 64 := by omega
              refine w_t (np := 103) (l2 := [some (eR a0), some (eI (a1)), some (eI (i8)), some (eI (i19))]) (s2 := [eI (v35), eR a0]) rfl (b_iadd (by rw [← e36]; exact ev_w_in (by omega) (by omega))) rfl ?_
              refine j_pf (np := 106) (w := v35) rfl rfl I32 gA0 (by decide) (n := 10) rfl rfl (hO_i (lo := 0) (hi := 64) rfl (by omega)) ?_
              intro m38 I39 W40
              have F41 : Fr l_6 0 0 g μ m38 := F34.w W40 gA0 rfl
              exact v_rv rfl rfl (K m38 I39 F41)
            · have b27 : 1 ≤ i19 ∧ i19 ≤ 63 := by omega
              have b28 : 0 ≤ i8 ∧ i8 ≤ 62 := by omega
              refine w_t (np := 70) (l2 := [some (eR a0), some (eI (a1)), some (eI (i8)), some (eI (i19))]) (s2 := [eR a0]) rfl (s_an rfl (pos_g I22 gA0 (by decide))) rfl ?_
              refine j_gr (np := 73) rfl rfl I22 gA0 (by decide) (n := 10) rfl rfl rfl ?_
              intro v27 e28 b29 z30
              have b29 : g v27 = 47 := Nat.eq_of_beq_eq_true b29
              refine w_t (np := 74) (l2 := [some (eR a0), some (eI (a1)), some (eI (i8)), some (eI (i19))]) (s2 := [eI (i19), eR v27]) rfl rfl rfl ?_
              refine w_t (np := 75) (l2 := [some (eR a0), some (eI (a1)), some (eI (i8)), some (eI (i19))]) (s2 := [eR a0, eI (i19), eR v27]) rfl (s_an rfl (pos_g I22 gA0 (by decide))) rfl ?_
              refine w_gf (np := 78) (v := eR v27) rfl rfl (I22.kd gA0 (by decide) (n := 10) rfl) (by rw [e28]; rfl) ?_
              refine w_t (np := 79) (l2 := [some (eR a0), some (eI (a1)), some (eI (i8)), some (eI (i19))]) (s2 := [eI (i19), eR v27, eI (i19), eR v27]) rfl rfl rfl ?_
              refine w_t (np := 80) (l2 := [some (eR a0), some (eI (a1)), some (eI (i8)), some (eI (i19))]) (s2 := [eI (1), eI (i19), eR v27, eI (i19), eR v27]) rfl rfl rfl ?_
              obtain ⟨v31, e32⟩ : ∃ zz : Int, zz = (i19) - (1) := ⟨_, rfl⟩
              have b33 : 0 ≤ v31 ∧ v31 ≤ 62 := by omega
              refine w_t (np := 81) (l2 := [some (eR a0), some (eI (a1)), some (eI (i8)), some (eI (i19))]) (s2 := [eI (v31), eR v27, eI (i19), eR v27]) rfl (b_isub (by rw [← e32]; exact ev_w_in (by omega) (by omega))) rfl ?_
              refine j_al (np := 82) rfl rfl I22 b29 (by decide) (n := 64) rfl rfl (lo := -2147483648) (hi := 2147483647) (fun _ => rfl) (by omega) (by omega) ?_
              intro v34 e35 b36
              refine j_as (np := 83) rfl rfl I22 b29 (by decide) (n := 64) rfl rfl (lo := -2147483648) (hi := 2147483647) (fun _ => rfl) (by omega) (by omega) (by omega) ?_
              intro m37 I38 W39
              have F40 : Fr l_6 0 0 g μ m37 := F23.v W39 b29 rfl rfl
              obtain ⟨v41, e42⟩ : ∃ zz : Int, zz = (i19) + (-1) := ⟨_, rfl⟩
              have b43 : 0 ≤ v41 ∧ v41 ≤ 62 := by omega
              refine w_t (np := 86) (l2 := [some (eR a0), some (eI (a1)), some (eI (i8)), some (eI (v41))]) (s2 := []) rfl (b_iinc rfl (by rw [← e42]; exact ev_w_in (by omega) (by omega)) rfl) rfl ?_
              refine w_go (t1 := 64) rfl rfl ?_
              exact ih18 ((v41)).toNat (by omega) m37 (v41) I38 F40 (by omega) (W39.addr k24 b29 gA0 (by decide))    rfl
          exact hL64 _ m10 (v2) I11 F12 (by omega) k13    rfl
        · have b16 : 0 ≤ i8 ∧ i8 ≤ 62 := by omega
          have b17 : 1 ≤ v2 ∧ v2 ≤ 63 := by omega
          refine w_t (np := 25) (l2 := [some (eR a0), some (eI (a1)), some (eI (i8)), none]) (s2 := [eR a0]) rfl (s_an rfl (pos_g I11 gA0 (by decide))) rfl ?_
          refine j_gr (np := 28) rfl rfl I11 gA0 (by decide) (n := 10) rfl rfl rfl ?_
          intro v16 e17 b18 z19
          have b18 : g v16 = 47 := Nat.eq_of_beq_eq_true b18
          refine w_t (np := 29) (l2 := [some (eR a0), some (eI (a1)), some (eI (i8)), none]) (s2 := [eI (i8), eR v16]) rfl rfl rfl ?_
          refine j_al (np := 30) rfl rfl I11 b18 (by decide) (n := 64) rfl rfl (lo := -2147483648) (hi := 2147483647) (fun _ => rfl) (by omega) (by omega) ?_
          intro v20 e21 b22
          refine w_t (np := 31) (l2 := [some (eR a0), some (eI (a1)), some (eI (i8)), none]) (s2 := [eI (a1), eI (v20)]) rfl rfl rfl ?_
          refine b_cge (t1 := 40) (t2 := 34) rfl rfl rfl (ev_w_in (by omega) (by omega)) (ev_w_in (by omega) (by omega)) (fun g23 => ?_) (fun g23 => ?_)
          · have b24 : 0 ≤ v20 ∧ v20 ≤ 2147483647 := by omega
            refine w_t (np := 41) (l2 := [some (eR a0), some (eI (a1)), some (eI (i8)), none]) (s2 := [eI (i8)]) rfl rfl rfl ?_
            refine w_t (np := 42) (l2 := [some (eR a0), some (eI (a1)), some (eI (i8)), none]) (s2 := [eR a0, eI (i8)]) rfl (s_an rfl (pos_g I11 gA0 (by decide))) rfl ?_
            refine w_gf (np := 45) (v := eI (v2)) rfl rfl (I11.kd gA0 (by decide) (n := 10) rfl) (by rw [k13]; rfl) ?_
            refine b_cge (t1 := 59) (t2 := 48) rfl rfl rfl (ev_w_in (by omega) (by omega)) (ev_w_in (by omega) (by omega)) (fun g24 => False.elim (by omega)) (fun g24 => ?_)
            refine w_t (np := 49) (l2 := [some (eR a0), some (eI (a1)), some (eI (i8)), none]) (s2 := [eR a0]) rfl (s_an rfl (pos_g I11 gA0 (by decide))) rfl ?_
            refine w_gf (np := 52) (v := eR v16) rfl rfl (I11.kd gA0 (by decide) (n := 10) rfl) (by rw [e17]; rfl) ?_
            refine w_t (np := 53) (l2 := [some (eR a0), some (eI (a1)), some (eI (i8)), none]) (s2 := [eI (i8), eR v16]) rfl rfl rfl ?_
            refine j_al (np := 54) rfl rfl I11 b18 (by decide) (n := 64) rfl rfl (lo := -2147483648) (hi := 2147483647) (fun _ => rfl) (by omega) (by omega) ?_
            intro v25 e26 b27
            have e26 := e26.symm.trans e21
            rw [e26]
            refine w_t (np := 55) (l2 := [some (eR a0), some (eI (a1)), some (eI (i8)), none]) (s2 := [eI (a1), eI (v20)]) rfl rfl rfl ?_
            refine b_cne (t1 := 59) (t2 := 58) rfl rfl rfl (ev_w_in (by omega) (by omega)) (ev_w_in (by omega) (by omega)) (fun g28 => ?_) (fun g28 => ?_)
            · refine w_t (np := 60) (l2 := [some (eR a0), some (eI (a1)), some (eI (i8)), none]) (s2 := [eR a0]) rfl (s_an rfl (pos_g I11 gA0 (by decide))) rfl ?_
              refine w_gf (np := 63) (v := eI (v2)) rfl rfl (I11.kd gA0 (by decide) (n := 10) rfl) (by rw [k13]; rfl) ?_
              refine w_t (np := 64) (l2 := [some (eR a0), some (eI (a1)), some (eI (i8)), some (eI (v2))]) (s2 := []) rfl rfl rfl ?_
              have hL64 : ∀ (n29 : Nat) (m33 : eM) (i31 : Int), SI g m33 → Fr l_6 0 0 g μ m33 → (0 ≤ i31 ∧ i31 ≤ 63) → m33.1 a0 9 = v2 → m33.1 a0 4 = ((v16 : Nat) : Int) → n29 = (i31).toNat → ex_q (dt_fg L ρ) rc (d, (6, 64, [some (eR a0), some (eI (a1)), some (eI (i8)), some (eI (i31))], []), f :: F, m33) := by
                intro n29
                induction n29 using Nat.strongRecOn with
                | _ n29 ih30 =>
                intro m33 i31 I34 F35 b32 k36 k37 hn38
                refine w_t (np := 65) (l2 := [some (eR a0), some (eI (a1)), some (eI (i8)), some (eI (i31))]) (s2 := [eI (i31)]) rfl rfl rfl ?_
                refine w_t (np := 66) (l2 := [some (eR a0), some (eI (a1)), some (eI (i8)), some (eI (i31))]) (s2 := [eI (i8), eI (i31)]) rfl rfl rfl ?_
                refine b_cle (t1 := 89) (t2 := 69) rfl rfl rfl (ev_w_in (by omega) (by omega)) (ev_w_in (by omega) (by omega)) (fun g39 => ?_) (fun g39 => ?_)
                · have b40 : 0 ≤ i31 ∧ i31 ≤ 62 := by omega
                  refine w_t (np := 90) (l2 := [some (eR a0), some (eI (a1)), some (eI (i8)), some (eI (i31))]) (s2 := [eR a0]) rfl (s_an rfl (pos_g I34 gA0 (by decide))) rfl ?_
                  refine w_gf (np := 93) (v := eR v16) rfl rfl (I34.kd gA0 (by decide) (n := 10) rfl) (by rw [k37]; rfl) ?_
                  refine w_t (np := 94) (l2 := [some (eR a0), some (eI (a1)), some (eI (i8)), some (eI (i31))]) (s2 := [eI (i8), eR v16]) rfl rfl rfl ?_
                  refine w_t (np := 95) (l2 := [some (eR a0), some (eI (a1)), some (eI (i8)), some (eI (i31))]) (s2 := [eI (a1), eI (i8), eR v16]) rfl rfl rfl ?_
                  refine j_as (np := 96) rfl rfl I34 b18 (by decide) (n := 64) rfl rfl (lo := -2147483648) (hi := 2147483647) (fun _ => rfl) (by omega) (by omega) (by omega) ?_
                  intro m40 I41 W42
                  have F43 : Fr l_6 0 0 g μ m40 := F35.v W42 b18 rfl rfl
                  refine w_t (np := 97) (l2 := [some (eR a0), some (eI (a1)), some (eI (i8)), some (eI (i31))]) (s2 := [eR a0]) rfl (s_an rfl (pos_g I41 gA0 (by decide))) rfl ?_
                  refine w_t (np := 98) (l2 := [some (eR a0), some (eI (a1)), some (eI (i8)), some (eI (i31))]) (s2 := [eR a0, eR a0]) rfl rfl rfl ?_
                  refine w_gf (np := 101) (v := eI (v2)) rfl rfl (I41.kd gA0 (by decide) (n := 10) rfl) (by rw [(W42.addr k36 b18 gA0 (by decide))]; rfl) ?_
                  refine w_t (np := 102) (l2 := [some (eR a0), some (eI (a1)), some (eI (i8)), some (eI (i31))]) (s2 := [eI (1), eI (v2), eR a0]) rfl rfl rfl ?_
                  obtain ⟨v44, e45⟩ : ∃ zz : Int, zz = (v2) + (1) := ⟨_, rfl⟩
                  have b46 : 2 ≤ v44 ∧ v44 ≤ 64 := by omega
                  refine w_t (np := 103) (l2 := [some (eR a0), some (eI (a1)), some (eI (i8)), some (eI (i31))]) (s2 := [eI (v44), eR a0]) rfl (b_iadd (by rw [← e45]; exact ev_w_in (by omega) (by omega))) rfl ?_
                  refine j_pf (np := 106) (w := v44) rfl rfl I41 gA0 (by decide) (n := 10) rfl rfl (hO_i (lo := 0) (hi := 64) rfl (by omega)) ?_
                  intro m47 I48 W49
                  have F50 : Fr l_6 0 0 g μ m47 := F43.w W49 gA0 rfl
                  exact v_rv rfl rfl (K m47 I48 F50)
                · have b40 : 1 ≤ i31 ∧ i31 ≤ 63 := by omega
                  refine w_t (np := 70) (l2 := [some (eR a0), some (eI (a1)), some (eI (i8)), some (eI (i31))]) (s2 := [eR a0]) rfl (s_an rfl (pos_g I34 gA0 (by decide))) rfl ?_
                  refine w_gf (np := 73) (v := eR v16) rfl rfl (I34.kd gA0 (by decide) (n := 10) rfl) (by rw [k37]; rfl) ?_
                  refine w_t (np := 74) (l2 := [some (eR a0), some (eI (a1)), some (eI (i8)), some (eI (i31))]) (s2 := [eI (i31), eR v16]) rfl rfl rfl ?_
                  refine w_t (np := 75) (l2 := [some (eR a0), some (eI (a1)), some (eI (i8)), some (eI (i31))]) (s2 := [eR a0, eI (i31), eR v16]) rfl (s_an rfl (pos_g I34 gA0 (by decide))) rfl ?_
                  refine w_gf (np := 78) (v := eR v16) rfl rfl (I34.kd gA0 (by decide) (n := 10) rfl) (by rw [k37]; rfl) ?_
                  refine w_t (np := 79) (l2 := [some (eR a0), some (eI (a1)), some (eI (i8)), some (eI (i31))]) (s2 := [eI (i31), eR v16, eI (i31), eR v16]) rfl rfl rfl ?_
                  refine w_t (np := 80) (l2 := [some (eR a0), some (eI (a1)), some (eI (i8)), some (eI (i31))]) (s2 := [eI (1), eI (i31), eR v16, eI (i31), eR v16]) rfl rfl rfl ?_
                  obtain ⟨v40, e41⟩ : ∃ zz : Int, zz = (i31) - (1) := ⟨_, rfl⟩
                  have b42 : 0 ≤ v40 ∧ v40 ≤ 62 := by omega
                  refine w_t (np := 81) (l2 := [some (eR a0), some (eI (a1)), some (eI (i8)), some (eI (i31))]) (s2 := [eI (v40), eR v16, eI (i31), eR v16]) rfl (b_isub (by rw [← e41]; exact ev_w_in (by omega) (by omega))) rfl ?_
                  refine j_al (np := 82) rfl rfl I34 b18 (by decide) (n := 64) rfl rfl (lo := -2147483648) (hi := 2147483647) (fun _ => rfl) (by omega) (by omega) ?_
                  intro v43 e44 b45
                  refine j_as (np := 83) rfl rfl I34 b18 (by decide) (n := 64) rfl rfl (lo := -2147483648) (hi := 2147483647) (fun _ => rfl) (by omega) (by omega) (by omega) ?_
                  intro m46 I47 W48
                  have F49 : Fr l_6 0 0 g μ m46 := F35.v W48 b18 rfl rfl
                  obtain ⟨v50, e51⟩ : ∃ zz : Int, zz = (i31) + (-1) := ⟨_, rfl⟩
                  have b52 : 0 ≤ v50 ∧ v50 ≤ 62 := by omega
                  refine w_t (np := 86) (l2 := [some (eR a0), some (eI (a1)), some (eI (i8)), some (eI (v50))]) (s2 := []) rfl (b_iinc rfl (by rw [← e51]; exact ev_w_in (by omega) (by omega)) rfl) rfl ?_
                  refine w_go (t1 := 64) rfl rfl ?_
                  exact ih30 ((v50)).toNat (by omega) m46 (v50) I47 F49 (by omega) (W48.addr k36 b18 gA0 (by decide)) (W48.addr k37 b18 gA0 (by decide))    rfl
              exact hL64 _ m10 (v2) I11 F12 (by omega) k13 e17    rfl
            · exact v_rv rfl rfl (K m10 I11 F12)
          · have b24 : -2147483648 ≤ v20 ∧ v20 ≤ 2147483646 := by omega
            obtain ⟨v24, e25⟩ : ∃ zz : Int, zz = (i8) + (1) := ⟨_, rfl⟩
            have b26 : 1 ≤ v24 ∧ v24 ≤ 63 := by omega
            refine w_t (np := 37) (l2 := [some (eR a0), some (eI (a1)), some (eI (v24)), none]) (s2 := []) rfl (b_iinc rfl (by rw [← e25]; exact ev_w_in (by omega) (by omega)) rfl) rfl ?_
            refine w_go (t1 := 16) rfl rfl ?_
            exact ih7 (64 - (v24)).toNat (by omega) m10 (v24) I11 F12 (by omega) k13    rfl
      exact hL16 _ μ (0) hI F0 (by decide) e3    rfl
    · have b6 : 64 ≤ v2 ∧ v2 ≤ 64 := by omega
      exact v_rv rfl rfl (K μ hI F0)
theorem s_7 {L : Nat} {ρ : Nat → Int} {rc : eQ} {d : Nat} {f : eFr} {F : List eFr} {μ : eM} {g : Nat → Nat} {a0 : Nat} {a1 : Int} (hI : SI g μ) (gA0 : g a0 = 42) (bA1 : -2147483648 ≤ a1 ∧ a1 ≤ 2147483647) (K : ∀ (v : Int), (-2147483648 ≤ v ∧ v ≤ 2147483647) → ex_q (dt_fg L ρ) rc (d + 1, (f.1, f.2.1, f.2.2.1, eI v :: f.2.2.2), F, μ)) : ex_q (dt_fg L ρ) rc (d, (7, 0, [some (eR a0), some (eI (a1))], []), f :: F, μ) := by
  refine w_t (np := 1) (l2 := [some (eR a0), some (eI (a1))]) (s2 := [eI (a1)]) rfl rfl rfl ?_
  refine b_ilt (t1 := 12) (t2 := 4) rfl rfl rfl (ev_w_in (by omega) (by omega)) (fun g1 => ?_) (fun g1 => ?_)
  · have b2 : -2147483648 ≤ a1 ∧ a1 ≤ -1 := by omega
    refine w_t (np := 13) (l2 := [some (eR a0), some (eI (a1))]) (s2 := [eI (0)]) rfl rfl rfl ?_
    refine w_go (t1 := 22) rfl rfl ?_
    exact b_ri rfl rfl (K (0) (by decide))
  · have b2 : 0 ≤ a1 ∧ a1 ≤ 2147483647 := by omega
    refine w_t (np := 5) (l2 := [some (eR a0), some (eI (a1))]) (s2 := [eI (a1)]) rfl rfl rfl ?_
    refine w_t (np := 6) (l2 := [some (eR a0), some (eI (a1))]) (s2 := [eR a0, eI (a1)]) rfl (s_an rfl (pos_g hI gA0 (by decide))) rfl ?_
    refine j_gi (np := 9) rfl rfl rfl hI gA0 (by decide) (n := 10) rfl rfl (lo := 0) (hi := 512) rfl ?_
    intro v2 e3 b4
    refine b_clt (t1 := 16) (t2 := 12) rfl rfl rfl (ev_w_in (by omega) (by omega)) (ev_w_in (by omega) (by omega)) (fun g5 => ?_) (fun g5 => ?_)
    · have b6 : 0 ≤ a1 ∧ a1 ≤ 511 := by omega
      have b7 : 1 ≤ v2 ∧ v2 ≤ 512 := by omega
      refine w_t (np := 17) (l2 := [some (eR a0), some (eI (a1))]) (s2 := [eR a0]) rfl (s_an rfl (pos_g hI gA0 (by decide))) rfl ?_
      refine j_gr (np := 20) rfl rfl hI gA0 (by decide) (n := 10) rfl rfl rfl ?_
      intro v6 e7 b8 z9
      have b8 : g v6 = 43 := Nat.eq_of_beq_eq_true b8
      refine w_t (np := 21) (l2 := [some (eR a0), some (eI (a1))]) (s2 := [eI (a1), eR v6]) rfl rfl rfl ?_
      refine j_al (np := 22) rfl rfl hI b8 (by decide) (n := 512) rfl rfl (lo := -2147483648) (hi := 2147483647) (fun _ => rfl) (by omega) (by omega) ?_
      intro v10 e11 b12
      exact b_ri rfl rfl (K (v10) (by omega))
    · refine w_t (np := 13) (l2 := [some (eR a0), some (eI (a1))]) (s2 := [eI (0)]) rfl rfl rfl ?_
      refine w_go (t1 := 22) rfl rfl ?_
      exact b_ri rfl rfl (K (0) (by decide))
theorem s_8 {L : Nat} {ρ : Nat → Int} {rc : eQ} {d : Nat} {f : eFr} {F : List eFr} {μ : eM} {g : Nat → Nat} {a0 : Nat} {a1 : Int} (hI : SI g μ) (gA0 : g a0 = 42) (bA1 : -2147483648 ≤ a1 ∧ a1 ≤ 2147483647) (K : ∀ (v : Int), (-2147483648 ≤ v ∧ v ≤ 2147483647) → ex_q (dt_fg L ρ) rc (d + 1, (f.1, f.2.1, f.2.2.1, eI v :: f.2.2.2), F, μ)) : ex_q (dt_fg L ρ) rc (d, (8, 0, [some (eR a0), some (eI (a1))], []), f :: F, μ) := by
  refine w_t (np := 1) (l2 := [some (eR a0), some (eI (a1))]) (s2 := [eI (a1)]) rfl rfl rfl ?_
  refine b_ilt (t1 := 12) (t2 := 4) rfl rfl rfl (ev_w_in (by omega) (by omega)) (fun g1 => ?_) (fun g1 => ?_)
  · have b2 : -2147483648 ≤ a1 ∧ a1 ≤ -1 := by omega
    refine w_t (np := 13) (l2 := [some (eR a0), some (eI (a1))]) (s2 := [eI (-1)]) rfl rfl rfl ?_
    refine w_go (t1 := 22) rfl rfl ?_
    exact b_ri rfl rfl (K (-1) (by decide))
  · have b2 : 0 ≤ a1 ∧ a1 ≤ 2147483647 := by omega
    refine w_t (np := 5) (l2 := [some (eR a0), some (eI (a1))]) (s2 := [eI (a1)]) rfl rfl rfl ?_
    refine w_t (np := 6) (l2 := [some (eR a0), some (eI (a1))]) (s2 := [eR a0, eI (a1)]) rfl (s_an rfl (pos_g hI gA0 (by decide))) rfl ?_
    refine j_gi (np := 9) rfl rfl rfl hI gA0 (by decide) (n := 10) rfl rfl (lo := 0) (hi := 512) rfl ?_
    intro v2 e3 b4
    refine b_clt (t1 := 16) (t2 := 12) rfl rfl rfl (ev_w_in (by omega) (by omega)) (ev_w_in (by omega) (by omega)) (fun g5 => ?_) (fun g5 => ?_)
    · have b6 : 0 ≤ a1 ∧ a1 ≤ 511 := by omega
      have b7 : 1 ≤ v2 ∧ v2 ≤ 512 := by omega
      refine w_t (np := 17) (l2 := [some (eR a0), some (eI (a1))]) (s2 := [eR a0]) rfl (s_an rfl (pos_g hI gA0 (by decide))) rfl ?_
      refine j_gr (np := 20) rfl rfl hI gA0 (by decide) (n := 10) rfl rfl rfl ?_
      intro v6 e7 b8 z9
      have b8 : g v6 = 46 := Nat.eq_of_beq_eq_true b8
      refine w_t (np := 21) (l2 := [some (eR a0), some (eI (a1))]) (s2 := [eI (a1), eR v6]) rfl rfl rfl ?_
      refine j_al (np := 22) rfl rfl hI b8 (by decide) (n := 512) rfl rfl (lo := -2147483648) (hi := 2147483647) (fun _ => rfl) (by omega) (by omega) ?_
      intro v10 e11 b12
      exact b_ri rfl rfl (K (v10) (by omega))
    · refine w_t (np := 13) (l2 := [some (eR a0), some (eI (a1))]) (s2 := [eI (-1)]) rfl rfl rfl ?_
      refine w_go (t1 := 22) rfl rfl ?_
      exact b_ri rfl rfl (K (-1) (by decide))
theorem s_9 {L : Nat} {ρ : Nat → Int} {rc : eQ} {d : Nat} {f : eFr} {F : List eFr} {μ : eM} {g : Nat → Nat} {a0 : Nat} {a1 : Int} (hI : SI g μ) (gA0 : g a0 = 42) (bA1 : -2147483648 ≤ a1 ∧ a1 ≤ 2147483647) (K : ∀ (v : Int), (-2147483648 ≤ v ∧ v ≤ 2147483647) → ex_q (dt_fg L ρ) rc (d + 1, (f.1, f.2.1, f.2.2.1, eI v :: f.2.2.2), F, μ)) : ex_q (dt_fg L ρ) rc (d, (9, 0, [some (eR a0), some (eI (a1))], []), f :: F, μ) := by
  refine w_t (np := 1) (l2 := [some (eR a0), some (eI (a1))]) (s2 := [eI (a1)]) rfl rfl rfl ?_
  refine b_ilt (t1 := 12) (t2 := 4) rfl rfl rfl (ev_w_in (by omega) (by omega)) (fun g1 => ?_) (fun g1 => ?_)
  · have b2 : -2147483648 ≤ a1 ∧ a1 ≤ -1 := by omega
    refine w_t (np := 13) (l2 := [some (eR a0), some (eI (a1))]) (s2 := [eI (-1)]) rfl rfl rfl ?_
    refine w_go (t1 := 22) rfl rfl ?_
    exact b_ri rfl rfl (K (-1) (by decide))
  · have b2 : 0 ≤ a1 ∧ a1 ≤ 2147483647 := by omega
    refine w_t (np := 5) (l2 := [some (eR a0), some (eI (a1))]) (s2 := [eI (a1)]) rfl rfl rfl ?_
    refine w_t (np := 6) (l2 := [some (eR a0), some (eI (a1))]) (s2 := [eR a0, eI (a1)]) rfl (s_an rfl (pos_g hI gA0 (by decide))) rfl ?_
    refine j_gi (np := 9) rfl rfl rfl hI gA0 (by decide) (n := 10) rfl rfl (lo := 0) (hi := 64) rfl ?_
    intro v2 e3 b4
    refine b_clt (t1 := 16) (t2 := 12) rfl rfl rfl (ev_w_in (by omega) (by omega)) (ev_w_in (by omega) (by omega)) (fun g5 => ?_) (fun g5 => ?_)
    · have b6 : 0 ≤ a1 ∧ a1 ≤ 63 := by omega
      have b7 : 1 ≤ v2 ∧ v2 ≤ 64 := by omega
      refine w_t (np := 17) (l2 := [some (eR a0), some (eI (a1))]) (s2 := [eR a0]) rfl (s_an rfl (pos_g hI gA0 (by decide))) rfl ?_
      refine j_gr (np := 20) rfl rfl hI gA0 (by decide) (n := 10) rfl rfl rfl ?_
      intro v6 e7 b8 z9
      have b8 : g v6 = 47 := Nat.eq_of_beq_eq_true b8
      refine w_t (np := 21) (l2 := [some (eR a0), some (eI (a1))]) (s2 := [eI (a1), eR v6]) rfl rfl rfl ?_
      refine j_al (np := 22) rfl rfl hI b8 (by decide) (n := 64) rfl rfl (lo := -2147483648) (hi := 2147483647) (fun _ => rfl) (by omega) (by omega) ?_
      intro v10 e11 b12
      exact b_ri rfl rfl (K (v10) (by omega))
    · refine w_t (np := 13) (l2 := [some (eR a0), some (eI (a1))]) (s2 := [eI (-1)]) rfl rfl rfl ?_
      refine w_go (t1 := 22) rfl rfl ?_
      exact b_ri rfl rfl (K (-1) (by decide))
theorem s_10 {L : Nat} {ρ : Nat → Int} {rc : eQ} {d : Nat} {f : eFr} {F : List eFr} {μ : eM} {g : Nat → Nat} {a0 : Nat} {a1 : Int} (hI : SI g μ) (gA0 : g a0 = 42) (bA1 : -2147483648 ≤ a1 ∧ a1 ≤ 2147483647) (K : ∀ (v : Int), (-2147483648 ≤ v ∧ v ≤ 2147483647) → ex_q (dt_fg L ρ) rc (d + 1, (f.1, f.2.1, f.2.2.1, eI v :: f.2.2.2), F, μ)) : ex_q (dt_fg L ρ) rc (d, (10, 0, [some (eR a0), some (eI (a1)), none, none], []), f :: F, μ) := by
  refine w_t (np := 1) (l2 := [some (eR a0), some (eI (a1)), none, none]) (s2 := [eI (0)]) rfl rfl rfl ?_
  refine w_t (np := 2) (l2 := [some (eR a0), some (eI (a1)), some (eI (0)), none]) (s2 := []) rfl rfl rfl ?_
  refine w_t (np := 3) (l2 := [some (eR a0), some (eI (a1)), some (eI (0)), none]) (s2 := [eI (0)]) rfl rfl rfl ?_
  refine w_t (np := 4) (l2 := [some (eR a0), some (eI (a1)), some (eI (0)), some (eI (0))]) (s2 := []) rfl rfl rfl ?_
  have hL4 : ∀ (n1 : Nat) (i3 : Int) (i5 : Int), (-2147483648 ≤ i3 ∧ i3 ≤ 2147483647) → (0 ≤ i5 ∧ i5 ≤ 512) → n1 = (512 - i5).toNat → ex_q (dt_fg L ρ) rc (d, (10, 4, [some (eR a0), some (eI (a1)), some (eI (i3)), some (eI (i5))], []), f :: F, μ) := by
    intro n1
    induction n1 using Nat.strongRecOn with
    | _ n1 ih2 =>
    intro i3 i5 b4 b6 hn7
    refine w_t (np := 5) (l2 := [some (eR a0), some (eI (a1)), some (eI (i3)), some (eI (i5))]) (s2 := [eI (i5)]) rfl rfl rfl ?_
    refine w_t (np := 6) (l2 := [some (eR a0), some (eI (a1)), some (eI (i3)), some (eI (i5))]) (s2 := [eR a0, eI (i5)]) rfl (s_an rfl (pos_g hI gA0 (by decide))) rfl ?_
    refine j_gi (np := 9) rfl rfl rfl hI gA0 (by decide) (n := 10) rfl rfl (lo := 0) (hi := 512) rfl ?_
    intro v8 e9 b10
    refine b_cge (t1 := 31) (t2 := 12) rfl rfl rfl (ev_w_in (by omega) (by omega)) (ev_w_in (by omega) (by omega)) (fun g11 => ?_) (fun g11 => ?_)
    · refine w_t (np := 32) (l2 := [some (eR a0), some (eI (a1)), some (eI (i3)), some (eI (i5))]) (s2 := [eI (i3)]) rfl rfl rfl ?_
      exact b_ri rfl rfl (K (i3) (by omega))
    · have b12 : 0 ≤ i5 ∧ i5 ≤ 511 := by omega
      have b13 : 1 ≤ v8 ∧ v8 ≤ 512 := by omega
      refine w_t (np := 13) (l2 := [some (eR a0), some (eI (a1)), some (eI (i3)), some (eI (i5))]) (s2 := [eR a0]) rfl (s_an rfl (pos_g hI gA0 (by decide))) rfl ?_
      refine j_gr (np := 16) rfl rfl hI gA0 (by decide) (n := 10) rfl rfl rfl ?_
      intro v12 e13 b14 z15
      have b14 : g v12 = 46 := Nat.eq_of_beq_eq_true b14
      refine w_t (np := 17) (l2 := [some (eR a0), some (eI (a1)), some (eI (i3)), some (eI (i5))]) (s2 := [eI (i5), eR v12]) rfl rfl rfl ?_
      refine j_al (np := 18) rfl rfl hI b14 (by decide) (n := 512) rfl rfl (lo := -2147483648) (hi := 2147483647) (fun _ => rfl) (by omega) (by omega) ?_
      intro v16 e17 b18
      refine w_t (np := 19) (l2 := [some (eR a0), some (eI (a1)), some (eI (i3)), some (eI (i5))]) (s2 := [eI (a1), eI (v16)]) rfl rfl rfl ?_
      refine b_cne (t1 := 25) (t2 := 22) rfl rfl rfl (ev_w_in (by omega) (by omega)) (ev_w_in (by omega) (by omega)) (fun g19 => ?_) (fun g19 => ?_)
      · obtain ⟨v20, e21⟩ : ∃ zz : Int, zz = (i5) + (1) := ⟨_, rfl⟩
        have b22 : 1 ≤ v20 ∧ v20 ≤ 512 := by omega
        refine w_t (np := 28) (l2 := [some (eR a0), some (eI (a1)), some (eI (i3)), some (eI (v20))]) (s2 := []) rfl (b_iinc rfl (by rw [← e21]; exact ev_w_in (by omega) (by omega)) rfl) rfl ?_
        refine w_go (t1 := 4) rfl rfl ?_
        exact ih2 (512 - (v20)).toNat (by omega) (i3) (v20) (by omega) (by omega)     rfl
      · obtain ⟨v20, e21, b22⟩ : ∃ zz : Int, ev_w ((i3) + (1)) = zz ∧ (-2147483648 ≤ zz ∧ zz ≤ 2147483647) := ⟨_, rfl, hw_bd _⟩
        refine w_t (np := 25) (l2 := [some (eR a0), some (eI (a1)), some (eI (v20)), some (eI (i5))]) (s2 := []) rfl (b_iinc rfl e21 rfl) rfl ?_
        obtain ⟨v23, e24⟩ : ∃ zz : Int, zz = (i5) + (1) := ⟨_, rfl⟩
        have b25 : 1 ≤ v23 ∧ v23 ≤ 512 := by omega
        refine w_t (np := 28) (l2 := [some (eR a0), some (eI (a1)), some (eI (v20)), some (eI (v23))]) (s2 := []) rfl (b_iinc rfl (by rw [← e24]; exact ev_w_in (by omega) (by omega)) rfl) rfl ?_
        refine w_go (t1 := 4) rfl rfl ?_
        exact ih2 (512 - (v23)).toNat (by omega) (v20) (v23) (by omega) (by omega)     rfl
  exact hL4 _ (0) (0) (by decide) (by decide)     rfl
theorem s_13 {L : Nat} {ρ : Nat → Int} {rc : eQ} {d : Nat} {f : eFr} {F : List eFr} {μ : eM} {g : Nat → Nat} {a0 : Nat} {a1 : Int} {a2 : Int} (hI : SI g μ) (gA0 : g a0 = 48) (bA1 : 0 ≤ a1 ∧ a1 ≤ 3) (bA2 : -2147483648 ≤ a2 ∧ a2 ≤ 2147483647) (K : ∀ (v : Int), (-1 ≤ v ∧ v ≤ 255) → ex_q (dt_fg L ρ) rc (d + 1, (f.1, f.2.1, f.2.2.1, eI v :: f.2.2.2), F, μ)) : ex_q (dt_fg L ρ) rc (d, (13, 0, [some (eR a0), some (eI (a1)), some (eI (a2)), none, none], []), f :: F, μ) := by
  refine w_t (np := 1) (l2 := [some (eR a0), some (eI (a1)), some (eI (a2)), none, none]) (s2 := [eI (a1)]) rfl rfl rfl ?_
  refine w_t (np := 3) (l2 := [some (eR a0), some (eI (a1)), some (eI (a2)), none, none]) (s2 := [eI (64), eI (a1)]) rfl rfl rfl ?_
  obtain ⟨v1, e2⟩ : ∃ zz : Int, zz = (a1) * (64) := ⟨_, rfl⟩
  have b3 : 0 ≤ v1 ∧ v1 ≤ 192 := by omega
  refine w_t (np := 4) (l2 := [some (eR a0), some (eI (a1)), some (eI (a2)), none, none]) (s2 := [eI (v1)]) rfl (b_imul (by rw [← e2]; exact ev_w_in (by omega) (by omega))) rfl ?_
  refine w_t (np := 5) (l2 := [some (eR a0), some (eI (a1)), some (eI (a2)), some (eI (v1)), none]) (s2 := []) rfl rfl rfl ?_
  refine w_t (np := 6) (l2 := [some (eR a0), some (eI (a1)), some (eI (a2)), some (eI (v1)), none]) (s2 := [eI (0)]) rfl rfl rfl ?_
  refine w_t (np := 8) (l2 := [some (eR a0), some (eI (a1)), some (eI (a2)), some (eI (v1)), some (eI (0))]) (s2 := []) rfl rfl rfl ?_
  have hL8 : ∀ (n4 : Nat) (i6 : Int), (0 ≤ i6 ∧ i6 ≤ 64) → n4 = (64 - i6).toNat → ex_q (dt_fg L ρ) rc (d, (13, 8, [some (eR a0), some (eI (a1)), some (eI (a2)), some (eI (v1)), some (eI (i6))], []), f :: F, μ) := by
    intro n4
    induction n4 using Nat.strongRecOn with
    | _ n4 ih5 =>
    intro i6 b7 hn8
    refine w_t (np := 10) (l2 := [some (eR a0), some (eI (a1)), some (eI (a2)), some (eI (v1)), some (eI (i6))]) (s2 := [eI (i6)]) rfl rfl rfl ?_
    refine w_t (np := 11) (l2 := [some (eR a0), some (eI (a1)), some (eI (a2)), some (eI (v1)), some (eI (i6))]) (s2 := [eR a0, eI (i6)]) rfl (s_an rfl (pos_g hI gA0 (by decide))) rfl ?_
    refine j_gr (np := 14) rfl rfl hI gA0 (by decide) (n := 4) rfl rfl rfl ?_
    intro v9 e10 b11 z12
    have b11 : g v9 = 51 := Nat.eq_of_beq_eq_true b11
    refine w_t (np := 15) (l2 := [some (eR a0), some (eI (a1)), some (eI (a2)), some (eI (v1)), some (eI (i6))]) (s2 := [eI (a1), eR v9, eI (i6)]) rfl rfl rfl ?_
    refine j_al (np := 16) rfl rfl hI b11 (by decide) (n := 4) rfl rfl (lo := -1) (hi := 64) (fun _ => rfl) (by omega) (by omega) ?_
    intro v13 e14 b15
    refine b_cge (t1 := 43) (t2 := 19) rfl rfl rfl (ev_w_in (by omega) (by omega)) (ev_w_in (by omega) (by omega)) (fun g16 => ?_) (fun g16 => ?_)
    · refine w_t (np := 44) (l2 := [some (eR a0), some (eI (a1)), some (eI (a2)), some (eI (v1)), some (eI (i6))]) (s2 := [eI (-1)]) rfl rfl rfl ?_
      exact b_ri rfl rfl (K (-1) (by decide))
    · have b17 : 0 ≤ i6 ∧ i6 ≤ 63 := by omega
      have b18 : 1 ≤ v13 ∧ v13 ≤ 64 := by omega
      refine w_t (np := 20) (l2 := [some (eR a0), some (eI (a1)), some (eI (a2)), some (eI (v1)), some (eI (i6))]) (s2 := [eR a0]) rfl (s_an rfl (pos_g hI gA0 (by decide))) rfl ?_
      refine j_gr (np := 23) rfl rfl hI gA0 (by decide) (n := 4) rfl rfl rfl ?_
      intro v17 e18 b19 z20
      have b19 : g v17 = 49 := Nat.eq_of_beq_eq_true b19
      refine w_t (np := 24) (l2 := [some (eR a0), some (eI (a1)), some (eI (a2)), some (eI (v1)), some (eI (i6))]) (s2 := [eI (v1), eR v17]) rfl rfl rfl ?_
      refine w_t (np := 26) (l2 := [some (eR a0), some (eI (a1)), some (eI (a2)), some (eI (v1)), some (eI (i6))]) (s2 := [eI (i6), eI (v1), eR v17]) rfl rfl rfl ?_
      obtain ⟨v21, e22⟩ : ∃ zz : Int, zz = (v1) + (i6) := ⟨_, rfl⟩
      have b23 : 0 ≤ v21 ∧ v21 ≤ 255 := by omega
      refine w_t (np := 27) (l2 := [some (eR a0), some (eI (a1)), some (eI (a2)), some (eI (v1)), some (eI (i6))]) (s2 := [eI (v21), eR v17]) rfl (b_iadd (by rw [← e22]; exact ev_w_in (by omega) (by omega))) rfl ?_
      refine j_al (np := 28) rfl rfl hI b19 (by decide) (n := 256) rfl rfl (lo := -2147483648) (hi := 2147483647) (fun _ => rfl) (by omega) (by omega) ?_
      intro v24 e25 b26
      refine w_t (np := 29) (l2 := [some (eR a0), some (eI (a1)), some (eI (a2)), some (eI (v1)), some (eI (i6))]) (s2 := [eI (a2), eI (v24)]) rfl rfl rfl ?_
      refine b_cne (t1 := 37) (t2 := 32) rfl rfl rfl (ev_w_in (by omega) (by omega)) (ev_w_in (by omega) (by omega)) (fun g27 => ?_) (fun g27 => ?_)
      · obtain ⟨v28, e29⟩ : ∃ zz : Int, zz = (i6) + (1) := ⟨_, rfl⟩
        have b30 : 1 ≤ v28 ∧ v28 ≤ 64 := by omega
        refine w_t (np := 40) (l2 := [some (eR a0), some (eI (a1)), some (eI (a2)), some (eI (v1)), some (eI (v28))]) (s2 := []) rfl (b_iinc rfl (by rw [← e29]; exact ev_w_in (by omega) (by omega)) rfl) rfl ?_
        refine w_go (t1 := 8) rfl rfl ?_
        exact ih5 (64 - (v28)).toNat (by omega) (v28) (by omega)     rfl
      · refine w_t (np := 33) (l2 := [some (eR a0), some (eI (a1)), some (eI (a2)), some (eI (v1)), some (eI (i6))]) (s2 := [eI (v1)]) rfl rfl rfl ?_
        refine w_t (np := 35) (l2 := [some (eR a0), some (eI (a1)), some (eI (a2)), some (eI (v1)), some (eI (i6))]) (s2 := [eI (i6), eI (v1)]) rfl rfl rfl ?_
        obtain ⟨v28, e29⟩ : ∃ zz : Int, zz = (v1) + (i6) := ⟨_, rfl⟩
        have b30 : 0 ≤ v28 ∧ v28 ≤ 255 := by omega
        refine w_t (np := 36) (l2 := [some (eR a0), some (eI (a1)), some (eI (a2)), some (eI (v1)), some (eI (i6))]) (s2 := [eI (v28)]) rfl (b_iadd (by rw [← e29]; exact ev_w_in (by omega) (by omega))) rfl ?_
        exact b_ri rfl rfl (K (v28) (by omega))
  exact hL8 _ (0) (by decide)     rfl
theorem s_19 {L : Nat} {ρ : Nat → Int} {rc : eQ} {d : Nat} {f : eFr} {F : List eFr} {μ : eM} {g : Nat → Nat} {a0 : Nat} {a1 : Int} (hI : SI g μ) (gA0 : g a0 = 2) (bA1 : -2147483648 ≤ a1 ∧ a1 ≤ 2147483647) (K : ∀ (v : Int), (0 ≤ v ∧ v ≤ 1) → ex_q (dt_fg L ρ) rc (d + 1, (f.1, f.2.1, f.2.2.1, eI v :: f.2.2.2), F, μ)) : ex_q (dt_fg L ρ) rc (d, (19, 0, [some (eR a0), some (eI (a1))], []), f :: F, μ) := by
  refine w_t (np := 1) (l2 := [some (eR a0), some (eI (a1))]) (s2 := [eI (a1)]) rfl rfl rfl ?_
  refine b_ilt (t1 := 12) (t2 := 4) rfl rfl rfl (ev_w_in (by omega) (by omega)) (fun g1 => ?_) (fun g1 => ?_)
  · have b2 : -2147483648 ≤ a1 ∧ a1 ≤ -1 := by omega
    refine w_t (np := 13) (l2 := [some (eR a0), some (eI (a1))]) (s2 := [eI (0)]) rfl rfl rfl ?_
    refine w_go (t1 := 22) rfl rfl ?_
    exact b_ri rfl rfl (K (0) (by decide))
  · have b2 : 0 ≤ a1 ∧ a1 ≤ 2147483647 := by omega
    refine w_t (np := 5) (l2 := [some (eR a0), some (eI (a1))]) (s2 := [eI (a1)]) rfl rfl rfl ?_
    refine w_t (np := 6) (l2 := [some (eR a0), some (eI (a1))]) (s2 := [eR a0, eI (a1)]) rfl (s_an rfl (pos_g hI gA0 (by decide))) rfl ?_
    refine j_gi (np := 9) rfl rfl rfl hI gA0 (by decide) (n := 8) rfl rfl (lo := 0) (hi := 50) rfl ?_
    intro v2 e3 b4
    refine b_clt (t1 := 16) (t2 := 12) rfl rfl rfl (ev_w_in (by omega) (by omega)) (ev_w_in (by omega) (by omega)) (fun g5 => ?_) (fun g5 => ?_)
    · have b6 : 0 ≤ a1 ∧ a1 ≤ 49 := by omega
      have b7 : 1 ≤ v2 ∧ v2 ≤ 50 := by omega
      refine w_t (np := 17) (l2 := [some (eR a0), some (eI (a1))]) (s2 := [eR a0]) rfl (s_an rfl (pos_g hI gA0 (by decide))) rfl ?_
      refine j_gr (np := 20) rfl rfl hI gA0 (by decide) (n := 8) rfl rfl rfl ?_
      intro v6 e7 b8 z9
      have b8 : g v6 = 3 := Nat.eq_of_beq_eq_true b8
      refine w_t (np := 21) (l2 := [some (eR a0), some (eI (a1))]) (s2 := [eI (a1), eR v6]) rfl rfl rfl ?_
      refine j_al (np := 22) rfl rfl hI b8 (by decide) (n := 50) rfl rfl (lo := 0) (hi := 1) (fun _ => rfl) (by omega) (by omega) ?_
      intro v10 e11 b12
      exact b_ri rfl rfl (K (v10) (by omega))
    · refine w_t (np := 13) (l2 := [some (eR a0), some (eI (a1))]) (s2 := [eI (0)]) rfl rfl rfl ?_
      refine w_go (t1 := 22) rfl rfl ?_
      exact b_ri rfl rfl (K (0) (by decide))
theorem s_19_2 {L : Nat} {ρ : Nat → Int} {rc : eQ} {d : Nat} {f : eFr} {F : List eFr} {μ : eM} {g : Nat → Nat} {a0 : Nat} {a1 : Int} (hI : SI g μ) (gA0 : g a0 = 7) (bA1 : -2147483648 ≤ a1 ∧ a1 ≤ 2147483647) (K : ∀ (v : Int), (0 ≤ v ∧ v ≤ 1) → ex_q (dt_fg L ρ) rc (d + 1, (f.1, f.2.1, f.2.2.1, eI v :: f.2.2.2), F, μ)) : ex_q (dt_fg L ρ) rc (d, (19, 0, [some (eR a0), some (eI (a1))], []), f :: F, μ) := by
  refine w_t (np := 1) (l2 := [some (eR a0), some (eI (a1))]) (s2 := [eI (a1)]) rfl rfl rfl ?_
  refine b_ilt (t1 := 12) (t2 := 4) rfl rfl rfl (ev_w_in (by omega) (by omega)) (fun g1 => ?_) (fun g1 => ?_)
  · have b2 : -2147483648 ≤ a1 ∧ a1 ≤ -1 := by omega
    refine w_t (np := 13) (l2 := [some (eR a0), some (eI (a1))]) (s2 := [eI (0)]) rfl rfl rfl ?_
    refine w_go (t1 := 22) rfl rfl ?_
    exact b_ri rfl rfl (K (0) (by decide))
  · have b2 : 0 ≤ a1 ∧ a1 ≤ 2147483647 := by omega
    refine w_t (np := 5) (l2 := [some (eR a0), some (eI (a1))]) (s2 := [eI (a1)]) rfl rfl rfl ?_
    refine w_t (np := 6) (l2 := [some (eR a0), some (eI (a1))]) (s2 := [eR a0, eI (a1)]) rfl (s_an rfl (pos_g hI gA0 (by decide))) rfl ?_
    refine j_gi (np := 9) rfl rfl rfl hI gA0 (by decide) (n := 8) rfl rfl (lo := 0) (hi := 890) rfl ?_
    intro v2 e3 b4
    refine b_clt (t1 := 16) (t2 := 12) rfl rfl rfl (ev_w_in (by omega) (by omega)) (ev_w_in (by omega) (by omega)) (fun g5 => ?_) (fun g5 => ?_)
    · have b6 : 0 ≤ a1 ∧ a1 ≤ 889 := by omega
      have b7 : 1 ≤ v2 ∧ v2 ≤ 890 := by omega
      refine w_t (np := 17) (l2 := [some (eR a0), some (eI (a1))]) (s2 := [eR a0]) rfl (s_an rfl (pos_g hI gA0 (by decide))) rfl ?_
      refine j_gr (np := 20) rfl rfl hI gA0 (by decide) (n := 8) rfl rfl rfl ?_
      intro v6 e7 b8 z9
      have b8 : g v6 = 8 := Nat.eq_of_beq_eq_true b8
      refine w_t (np := 21) (l2 := [some (eR a0), some (eI (a1))]) (s2 := [eI (a1), eR v6]) rfl rfl rfl ?_
      refine j_al (np := 22) rfl rfl hI b8 (by decide) (n := 890) rfl rfl (lo := 0) (hi := 1) (fun _ => rfl) (by omega) (by omega) ?_
      intro v10 e11 b12
      exact b_ri rfl rfl (K (v10) (by omega))
    · refine w_t (np := 13) (l2 := [some (eR a0), some (eI (a1))]) (s2 := [eI (0)]) rfl rfl rfl ?_
      refine w_go (t1 := 22) rfl rfl ?_
      exact b_ri rfl rfl (K (0) (by decide))
theorem s_20 {L : Nat} {ρ : Nat → Int} {rc : eQ} {d : Nat} {f : eFr} {F : List eFr} {μ : eM} {g : Nat → Nat} {a0 : Nat} {a1 : Int} (hI : SI g μ) (gA0 : g a0 = 2) (bA1 : -2147483648 ≤ a1 ∧ a1 ≤ 2147483647) (K : ∀ (v : Int), (-2147483648 ≤ v ∧ v ≤ 2147483647) → ex_q (dt_fg L ρ) rc (d + 1, (f.1, f.2.1, f.2.2.1, eI v :: f.2.2.2), F, μ)) : ex_q (dt_fg L ρ) rc (d, (20, 0, [some (eR a0), some (eI (a1))], []), f :: F, μ) := by
  refine w_t (np := 1) (l2 := [some (eR a0), some (eI (a1))]) (s2 := [eI (a1)]) rfl rfl rfl ?_
  refine b_ilt (t1 := 12) (t2 := 4) rfl rfl rfl (ev_w_in (by omega) (by omega)) (fun g1 => ?_) (fun g1 => ?_)
  · have b2 : -2147483648 ≤ a1 ∧ a1 ≤ -1 := by omega
    refine w_t (np := 13) (l2 := [some (eR a0), some (eI (a1))]) (s2 := [eI (0)]) rfl rfl rfl ?_
    refine w_go (t1 := 22) rfl rfl ?_
    exact b_ri rfl rfl (K (0) (by decide))
  · have b2 : 0 ≤ a1 ∧ a1 ≤ 2147483647 := by omega
    refine w_t (np := 5) (l2 := [some (eR a0), some (eI (a1))]) (s2 := [eI (a1)]) rfl rfl rfl ?_
    refine w_t (np := 6) (l2 := [some (eR a0), some (eI (a1))]) (s2 := [eR a0, eI (a1)]) rfl (s_an rfl (pos_g hI gA0 (by decide))) rfl ?_
    refine j_gi (np := 9) rfl rfl rfl hI gA0 (by decide) (n := 8) rfl rfl (lo := 0) (hi := 50) rfl ?_
    intro v2 e3 b4
    refine b_clt (t1 := 16) (t2 := 12) rfl rfl rfl (ev_w_in (by omega) (by omega)) (ev_w_in (by omega) (by omega)) (fun g5 => ?_) (fun g5 => ?_)
    · have b6 : 0 ≤ a1 ∧ a1 ≤ 49 := by omega
      have b7 : 1 ≤ v2 ∧ v2 ≤ 50 := by omega
      refine w_t (np := 17) (l2 := [some (eR a0), some (eI (a1))]) (s2 := [eR a0]) rfl (s_an rfl (pos_g hI gA0 (by decide))) rfl ?_
      refine j_gr (np := 20) rfl rfl hI gA0 (by decide) (n := 8) rfl rfl rfl ?_
      intro v6 e7 b8 z9
      have b8 : g v6 = 4 := Nat.eq_of_beq_eq_true b8
      refine w_t (np := 21) (l2 := [some (eR a0), some (eI (a1))]) (s2 := [eI (a1), eR v6]) rfl rfl rfl ?_
      refine j_al (np := 22) rfl rfl hI b8 (by decide) (n := 50) rfl rfl (lo := -2147483648) (hi := 2147483647) (fun _ => rfl) (by omega) (by omega) ?_
      intro v10 e11 b12
      exact b_ri rfl rfl (K (v10) (by omega))
    · refine w_t (np := 13) (l2 := [some (eR a0), some (eI (a1))]) (s2 := [eI (0)]) rfl rfl rfl ?_
      refine w_go (t1 := 22) rfl rfl ?_
      exact b_ri rfl rfl (K (0) (by decide))
theorem s_20_2 {L : Nat} {ρ : Nat → Int} {rc : eQ} {d : Nat} {f : eFr} {F : List eFr} {μ : eM} {g : Nat → Nat} {a0 : Nat} {a1 : Int} (hI : SI g μ) (gA0 : g a0 = 7) (bA1 : -2147483648 ≤ a1 ∧ a1 ≤ 2147483647) (K : ∀ (v : Int), (-2147483648 ≤ v ∧ v ≤ 2147483647) → ex_q (dt_fg L ρ) rc (d + 1, (f.1, f.2.1, f.2.2.1, eI v :: f.2.2.2), F, μ)) : ex_q (dt_fg L ρ) rc (d, (20, 0, [some (eR a0), some (eI (a1))], []), f :: F, μ) := by
  refine w_t (np := 1) (l2 := [some (eR a0), some (eI (a1))]) (s2 := [eI (a1)]) rfl rfl rfl ?_
  refine b_ilt (t1 := 12) (t2 := 4) rfl rfl rfl (ev_w_in (by omega) (by omega)) (fun g1 => ?_) (fun g1 => ?_)
  · have b2 : -2147483648 ≤ a1 ∧ a1 ≤ -1 := by omega
    refine w_t (np := 13) (l2 := [some (eR a0), some (eI (a1))]) (s2 := [eI (0)]) rfl rfl rfl ?_
    refine w_go (t1 := 22) rfl rfl ?_
    exact b_ri rfl rfl (K (0) (by decide))
  · have b2 : 0 ≤ a1 ∧ a1 ≤ 2147483647 := by omega
    refine w_t (np := 5) (l2 := [some (eR a0), some (eI (a1))]) (s2 := [eI (a1)]) rfl rfl rfl ?_
    refine w_t (np := 6) (l2 := [some (eR a0), some (eI (a1))]) (s2 := [eR a0, eI (a1)]) rfl (s_an rfl (pos_g hI gA0 (by decide))) rfl ?_
    refine j_gi (np := 9) rfl rfl rfl hI gA0 (by decide) (n := 8) rfl rfl (lo := 0) (hi := 890) rfl ?_
    intro v2 e3 b4
    refine b_clt (t1 := 16) (t2 := 12) rfl rfl rfl (ev_w_in (by omega) (by omega)) (ev_w_in (by omega) (by omega)) (fun g5 => ?_) (fun g5 => ?_)
    · have b6 : 0 ≤ a1 ∧ a1 ≤ 889 := by omega
      have b7 : 1 ≤ v2 ∧ v2 ≤ 890 := by omega
      refine w_t (np := 17) (l2 := [some (eR a0), some (eI (a1))]) (s2 := [eR a0]) rfl (s_an rfl (pos_g hI gA0 (by decide))) rfl ?_
      refine j_gr (np := 20) rfl rfl hI gA0 (by decide) (n := 8) rfl rfl rfl ?_
      intro v6 e7 b8 z9
      have b8 : g v6 = 9 := Nat.eq_of_beq_eq_true b8
      refine w_t (np := 21) (l2 := [some (eR a0), some (eI (a1))]) (s2 := [eI (a1), eR v6]) rfl rfl rfl ?_
      refine j_al (np := 22) rfl rfl hI b8 (by decide) (n := 890) rfl rfl (lo := -2147483648) (hi := 2147483647) (fun _ => rfl) (by omega) (by omega) ?_
      intro v10 e11 b12
      exact b_ri rfl rfl (K (v10) (by omega))
    · refine w_t (np := 13) (l2 := [some (eR a0), some (eI (a1))]) (s2 := [eI (0)]) rfl rfl rfl ?_
      refine w_go (t1 := 22) rfl rfl ?_
      exact b_ri rfl rfl (K (0) (by decide))
theorem s_21 {L : Nat} {ρ : Nat → Int} {rc : eQ} {d : Nat} {f : eFr} {F : List eFr} {μ : eM} {g : Nat → Nat} {a0 : Nat} {a1 : Int} {a2 : Int} (hI : SI g μ) (gA0 : g a0 = 2) (bA1 : -2147483648 ≤ a1 ∧ a1 ≤ 2147483647) (bA2 : -2147483648 ≤ a2 ∧ a2 ≤ 2147483647) (K : ∀ (v : Int), (0 ≤ v ∧ v ≤ 511) → ex_q (dt_fg L ρ) rc (d + 1, (f.1, f.2.1, f.2.2.1, eI v :: f.2.2.2), F, μ)) : ex_q (dt_fg L ρ) rc (d, (21, 0, [some (eR a0), some (eI (a1)), some (eI (a2))], []), f :: F, μ) := by
  refine w_t (np := 1) (l2 := [some (eR a0), some (eI (a1)), some (eI (a2))]) (s2 := [eI (a1)]) rfl rfl rfl ?_
  refine b_ilt (t1 := 21) (t2 := 4) rfl rfl rfl (ev_w_in (by omega) (by omega)) (fun g1 => ?_) (fun g1 => ?_)
  · have b2 : -2147483648 ≤ a1 ∧ a1 ≤ -1 := by omega
    refine w_t (np := 22) (l2 := [some (eR a0), some (eI (a1)), some (eI (a2))]) (s2 := [eI (0)]) rfl rfl rfl ?_
    refine w_go (t1 := 35) rfl rfl ?_
    exact b_ri rfl rfl (K (0) (by decide))
  · have b2 : 0 ≤ a1 ∧ a1 ≤ 2147483647 := by omega
    refine w_t (np := 5) (l2 := [some (eR a0), some (eI (a1)), some (eI (a2))]) (s2 := [eI (a1)]) rfl rfl rfl ?_
    refine w_t (np := 6) (l2 := [some (eR a0), some (eI (a1)), some (eI (a2))]) (s2 := [eR a0, eI (a1)]) rfl (s_an rfl (pos_g hI gA0 (by decide))) rfl ?_
    refine j_gi (np := 9) rfl rfl rfl hI gA0 (by decide) (n := 8) rfl rfl (lo := 0) (hi := 50) rfl ?_
    intro v2 e3 b4
    refine b_cge (t1 := 21) (t2 := 12) rfl rfl rfl (ev_w_in (by omega) (by omega)) (ev_w_in (by omega) (by omega)) (fun g5 => ?_) (fun g5 => ?_)
    · refine w_t (np := 22) (l2 := [some (eR a0), some (eI (a1)), some (eI (a2))]) (s2 := [eI (0)]) rfl rfl rfl ?_
      refine w_go (t1 := 35) rfl rfl ?_
      exact b_ri rfl rfl (K (0) (by decide))
    · have b6 : 0 ≤ a1 ∧ a1 ≤ 49 := by omega
      have b7 : 1 ≤ v2 ∧ v2 ≤ 50 := by omega
      refine w_t (np := 13) (l2 := [some (eR a0), some (eI (a1)), some (eI (a2))]) (s2 := [eI (a2)]) rfl rfl rfl ?_
      refine b_ilt (t1 := 21) (t2 := 16) rfl rfl rfl (ev_w_in (by omega) (by omega)) (fun g6 => ?_) (fun g6 => ?_)
      · have b7 : -2147483648 ≤ a2 ∧ a2 ≤ -1 := by omega
        refine w_t (np := 22) (l2 := [some (eR a0), some (eI (a1)), some (eI (a2))]) (s2 := [eI (0)]) rfl rfl rfl ?_
        refine w_go (t1 := 35) rfl rfl ?_
        exact b_ri rfl rfl (K (0) (by decide))
      · have b7 : 0 ≤ a2 ∧ a2 ≤ 2147483647 := by omega
        refine w_t (np := 17) (l2 := [some (eR a0), some (eI (a1)), some (eI (a2))]) (s2 := [eI (a2)]) rfl rfl rfl ?_
        refine w_t (np := 18) (l2 := [some (eR a0), some (eI (a1)), some (eI (a2))]) (s2 := [eI (2), eI (a2)]) rfl rfl rfl ?_
        refine b_cle (t1 := 25) (t2 := 21) rfl rfl rfl (ev_w_in (by omega) (by omega)) rfl (fun g7 => ?_) (fun g7 => ?_)
        · have b8 : 0 ≤ a2 ∧ a2 ≤ 2 := by omega
          refine w_t (np := 26) (l2 := [some (eR a0), some (eI (a1)), some (eI (a2))]) (s2 := [eR a0]) rfl (s_an rfl (pos_g hI gA0 (by decide))) rfl ?_
          refine j_gr (np := 29) rfl rfl hI gA0 (by decide) (n := 8) rfl rfl rfl ?_
          intro v8 e9 b10 z11
          have b10 : g v8 = 5 := Nat.eq_of_beq_eq_true b10
          refine w_t (np := 30) (l2 := [some (eR a0), some (eI (a1)), some (eI (a2))]) (s2 := [eI (3), eR v8]) rfl rfl rfl ?_
          refine w_t (np := 31) (l2 := [some (eR a0), some (eI (a1)), some (eI (a2))]) (s2 := [eI (a1), eI (3), eR v8]) rfl rfl rfl ?_
          obtain ⟨v12, e13⟩ : ∃ zz : Int, zz = (3) * (a1) := ⟨_, rfl⟩
          have b14 : 0 ≤ v12 ∧ v12 ≤ 147 := by omega
          refine w_t (np := 32) (l2 := [some (eR a0), some (eI (a1)), some (eI (a2))]) (s2 := [eI (v12), eR v8]) rfl (b_imul (by rw [← e13]; exact ev_w_in (by omega) (by omega))) rfl ?_
          refine w_t (np := 33) (l2 := [some (eR a0), some (eI (a1)), some (eI (a2))]) (s2 := [eI (a2), eI (v12), eR v8]) rfl rfl rfl ?_
          obtain ⟨v15, e16⟩ : ∃ zz : Int, zz = (v12) + (a2) := ⟨_, rfl⟩
          have b17 : 0 ≤ v15 ∧ v15 ≤ 149 := by omega
          refine w_t (np := 34) (l2 := [some (eR a0), some (eI (a1)), some (eI (a2))]) (s2 := [eI (v15), eR v8]) rfl (b_iadd (by rw [← e16]; exact ev_w_in (by omega) (by omega))) rfl ?_
          refine j_al (np := 35) rfl rfl hI b10 (by decide) (n := 150) rfl rfl (lo := 0) (hi := 511) (fun _ => rfl) (by omega) (by omega) ?_
          intro v18 e19 b20
          exact b_ri rfl rfl (K (v18) (by omega))
        · have b8 : 3 ≤ a2 ∧ a2 ≤ 2147483647 := by omega
          refine w_t (np := 22) (l2 := [some (eR a0), some (eI (a1)), some (eI (a2))]) (s2 := [eI (0)]) rfl rfl rfl ?_
          refine w_go (t1 := 35) rfl rfl ?_
          exact b_ri rfl rfl (K (0) (by decide))
theorem s_21_2 {L : Nat} {ρ : Nat → Int} {rc : eQ} {d : Nat} {f : eFr} {F : List eFr} {μ : eM} {g : Nat → Nat} {a0 : Nat} {a1 : Int} {a2 : Int} (hI : SI g μ) (gA0 : g a0 = 7) (bA1 : -2147483648 ≤ a1 ∧ a1 ≤ 2147483647) (bA2 : -2147483648 ≤ a2 ∧ a2 ≤ 2147483647) (K : ∀ (v : Int), (0 ≤ v ∧ v ≤ 511) → ex_q (dt_fg L ρ) rc (d + 1, (f.1, f.2.1, f.2.2.1, eI v :: f.2.2.2), F, μ)) : ex_q (dt_fg L ρ) rc (d, (21, 0, [some (eR a0), some (eI (a1)), some (eI (a2))], []), f :: F, μ) := by
  refine w_t (np := 1) (l2 := [some (eR a0), some (eI (a1)), some (eI (a2))]) (s2 := [eI (a1)]) rfl rfl rfl ?_
  refine b_ilt (t1 := 21) (t2 := 4) rfl rfl rfl (ev_w_in (by omega) (by omega)) (fun g1 => ?_) (fun g1 => ?_)
  · have b2 : -2147483648 ≤ a1 ∧ a1 ≤ -1 := by omega
    refine w_t (np := 22) (l2 := [some (eR a0), some (eI (a1)), some (eI (a2))]) (s2 := [eI (0)]) rfl rfl rfl ?_
    refine w_go (t1 := 35) rfl rfl ?_
    exact b_ri rfl rfl (K (0) (by decide))
  · have b2 : 0 ≤ a1 ∧ a1 ≤ 2147483647 := by omega
    refine w_t (np := 5) (l2 := [some (eR a0), some (eI (a1)), some (eI (a2))]) (s2 := [eI (a1)]) rfl rfl rfl ?_
    refine w_t (np := 6) (l2 := [some (eR a0), some (eI (a1)), some (eI (a2))]) (s2 := [eR a0, eI (a1)]) rfl (s_an rfl (pos_g hI gA0 (by decide))) rfl ?_
    refine j_gi (np := 9) rfl rfl rfl hI gA0 (by decide) (n := 8) rfl rfl (lo := 0) (hi := 890) rfl ?_
    intro v2 e3 b4
    refine b_cge (t1 := 21) (t2 := 12) rfl rfl rfl (ev_w_in (by omega) (by omega)) (ev_w_in (by omega) (by omega)) (fun g5 => ?_) (fun g5 => ?_)
    · refine w_t (np := 22) (l2 := [some (eR a0), some (eI (a1)), some (eI (a2))]) (s2 := [eI (0)]) rfl rfl rfl ?_
      refine w_go (t1 := 35) rfl rfl ?_
      exact b_ri rfl rfl (K (0) (by decide))
    · have b6 : 0 ≤ a1 ∧ a1 ≤ 889 := by omega
      have b7 : 1 ≤ v2 ∧ v2 ≤ 890 := by omega
      refine w_t (np := 13) (l2 := [some (eR a0), some (eI (a1)), some (eI (a2))]) (s2 := [eI (a2)]) rfl rfl rfl ?_
      refine b_ilt (t1 := 21) (t2 := 16) rfl rfl rfl (ev_w_in (by omega) (by omega)) (fun g6 => ?_) (fun g6 => ?_)
      · have b7 : -2147483648 ≤ a2 ∧ a2 ≤ -1 := by omega
        refine w_t (np := 22) (l2 := [some (eR a0), some (eI (a1)), some (eI (a2))]) (s2 := [eI (0)]) rfl rfl rfl ?_
        refine w_go (t1 := 35) rfl rfl ?_
        exact b_ri rfl rfl (K (0) (by decide))
      · have b7 : 0 ≤ a2 ∧ a2 ≤ 2147483647 := by omega
        refine w_t (np := 17) (l2 := [some (eR a0), some (eI (a1)), some (eI (a2))]) (s2 := [eI (a2)]) rfl rfl rfl ?_
        refine w_t (np := 18) (l2 := [some (eR a0), some (eI (a1)), some (eI (a2))]) (s2 := [eI (2), eI (a2)]) rfl rfl rfl ?_
        refine b_cle (t1 := 25) (t2 := 21) rfl rfl rfl (ev_w_in (by omega) (by omega)) rfl (fun g7 => ?_) (fun g7 => ?_)
        · have b8 : 0 ≤ a2 ∧ a2 ≤ 2 := by omega
          refine w_t (np := 26) (l2 := [some (eR a0), some (eI (a1)), some (eI (a2))]) (s2 := [eR a0]) rfl (s_an rfl (pos_g hI gA0 (by decide))) rfl ?_
          refine j_gr (np := 29) rfl rfl hI gA0 (by decide) (n := 8) rfl rfl rfl ?_
          intro v8 e9 b10 z11
          have b10 : g v8 = 10 := Nat.eq_of_beq_eq_true b10
          refine w_t (np := 30) (l2 := [some (eR a0), some (eI (a1)), some (eI (a2))]) (s2 := [eI (3), eR v8]) rfl rfl rfl ?_
          refine w_t (np := 31) (l2 := [some (eR a0), some (eI (a1)), some (eI (a2))]) (s2 := [eI (a1), eI (3), eR v8]) rfl rfl rfl ?_
          obtain ⟨v12, e13⟩ : ∃ zz : Int, zz = (3) * (a1) := ⟨_, rfl⟩
          have b14 : 0 ≤ v12 ∧ v12 ≤ 2667 := by omega
          refine w_t (np := 32) (l2 := [some (eR a0), some (eI (a1)), some (eI (a2))]) (s2 := [eI (v12), eR v8]) rfl (b_imul (by rw [← e13]; exact ev_w_in (by omega) (by omega))) rfl ?_
          refine w_t (np := 33) (l2 := [some (eR a0), some (eI (a1)), some (eI (a2))]) (s2 := [eI (a2), eI (v12), eR v8]) rfl rfl rfl ?_
          obtain ⟨v15, e16⟩ : ∃ zz : Int, zz = (v12) + (a2) := ⟨_, rfl⟩
          have b17 : 0 ≤ v15 ∧ v15 ≤ 2669 := by omega
          refine w_t (np := 34) (l2 := [some (eR a0), some (eI (a1)), some (eI (a2))]) (s2 := [eI (v15), eR v8]) rfl (b_iadd (by rw [← e16]; exact ev_w_in (by omega) (by omega))) rfl ?_
          refine j_al (np := 35) rfl rfl hI b10 (by decide) (n := 2670) rfl rfl (lo := 0) (hi := 511) (fun _ => rfl) (by omega) (by omega) ?_
          intro v18 e19 b20
          exact b_ri rfl rfl (K (v18) (by omega))
        · have b8 : 3 ≤ a2 ∧ a2 ≤ 2147483647 := by omega
          refine w_t (np := 22) (l2 := [some (eR a0), some (eI (a1)), some (eI (a2))]) (s2 := [eI (0)]) rfl rfl rfl ?_
          refine w_go (t1 := 35) rfl rfl ?_
          exact b_ri rfl rfl (K (0) (by decide))
theorem s_23 {L : Nat} {ρ : Nat → Int} {rc : eQ} {d : Nat} {f : eFr} {F : List eFr} {μ : eM} {g : Nat → Nat} {a0 : Nat} {a1 : Int} {a2 : Int} (hI : SI g μ) (gA0 : g a0 = 2) (bA1 : -2147483648 ≤ a1 ∧ a1 ≤ 2147483647) (bA2 : -2147483648 ≤ a2 ∧ a2 ≤ 2147483647) (K : ∀ (v : Int), (0 ≤ v ∧ v ≤ 9) → ex_q (dt_fg L ρ) rc (d + 1, (f.1, f.2.1, f.2.2.1, eI v :: f.2.2.2), F, μ)) : ex_q (dt_fg L ρ) rc (d, (23, 0, [some (eR a0), some (eI (a1)), some (eI (a2))], []), f :: F, μ) := by
  refine w_t (np := 1) (l2 := [some (eR a0), some (eI (a1)), some (eI (a2))]) (s2 := [eI (a1)]) rfl rfl rfl ?_
  refine b_ilt (t1 := 21) (t2 := 4) rfl rfl rfl (ev_w_in (by omega) (by omega)) (fun g1 => ?_) (fun g1 => ?_)
  · have b2 : -2147483648 ≤ a1 ∧ a1 ≤ -1 := by omega
    refine w_t (np := 22) (l2 := [some (eR a0), some (eI (a1)), some (eI (a2))]) (s2 := [eI (0)]) rfl rfl rfl ?_
    refine w_go (t1 := 35) rfl rfl ?_
    exact b_ri rfl rfl (K (0) (by decide))
  · have b2 : 0 ≤ a1 ∧ a1 ≤ 2147483647 := by omega
    refine w_t (np := 5) (l2 := [some (eR a0), some (eI (a1)), some (eI (a2))]) (s2 := [eI (a1)]) rfl rfl rfl ?_
    refine w_t (np := 6) (l2 := [some (eR a0), some (eI (a1)), some (eI (a2))]) (s2 := [eR a0, eI (a1)]) rfl (s_an rfl (pos_g hI gA0 (by decide))) rfl ?_
    refine j_gi (np := 9) rfl rfl rfl hI gA0 (by decide) (n := 8) rfl rfl (lo := 0) (hi := 50) rfl ?_
    intro v2 e3 b4
    refine b_cge (t1 := 21) (t2 := 12) rfl rfl rfl (ev_w_in (by omega) (by omega)) (ev_w_in (by omega) (by omega)) (fun g5 => ?_) (fun g5 => ?_)
    · refine w_t (np := 22) (l2 := [some (eR a0), some (eI (a1)), some (eI (a2))]) (s2 := [eI (0)]) rfl rfl rfl ?_
      refine w_go (t1 := 35) rfl rfl ?_
      exact b_ri rfl rfl (K (0) (by decide))
    · have b6 : 0 ≤ a1 ∧ a1 ≤ 49 := by omega
      have b7 : 1 ≤ v2 ∧ v2 ≤ 50 := by omega
      refine w_t (np := 13) (l2 := [some (eR a0), some (eI (a1)), some (eI (a2))]) (s2 := [eI (a2)]) rfl rfl rfl ?_
      refine b_ilt (t1 := 21) (t2 := 16) rfl rfl rfl (ev_w_in (by omega) (by omega)) (fun g6 => ?_) (fun g6 => ?_)
      · have b7 : -2147483648 ≤ a2 ∧ a2 ≤ -1 := by omega
        refine w_t (np := 22) (l2 := [some (eR a0), some (eI (a1)), some (eI (a2))]) (s2 := [eI (0)]) rfl rfl rfl ?_
        refine w_go (t1 := 35) rfl rfl ?_
        exact b_ri rfl rfl (K (0) (by decide))
      · have b7 : 0 ≤ a2 ∧ a2 ≤ 2147483647 := by omega
        refine w_t (np := 17) (l2 := [some (eR a0), some (eI (a1)), some (eI (a2))]) (s2 := [eI (a2)]) rfl rfl rfl ?_
        refine w_t (np := 18) (l2 := [some (eR a0), some (eI (a1)), some (eI (a2))]) (s2 := [eI (1), eI (a2)]) rfl rfl rfl ?_
        refine b_cle (t1 := 25) (t2 := 21) rfl rfl rfl (ev_w_in (by omega) (by omega)) rfl (fun g7 => ?_) (fun g7 => ?_)
        · have b8 : 0 ≤ a2 ∧ a2 ≤ 1 := by omega
          refine w_t (np := 26) (l2 := [some (eR a0), some (eI (a1)), some (eI (a2))]) (s2 := [eR a0]) rfl (s_an rfl (pos_g hI gA0 (by decide))) rfl ?_
          refine j_gr (np := 29) rfl rfl hI gA0 (by decide) (n := 8) rfl rfl rfl ?_
          intro v8 e9 b10 z11
          have b10 : g v8 = 6 := Nat.eq_of_beq_eq_true b10
          refine w_t (np := 30) (l2 := [some (eR a0), some (eI (a1)), some (eI (a2))]) (s2 := [eI (2), eR v8]) rfl rfl rfl ?_
          refine w_t (np := 31) (l2 := [some (eR a0), some (eI (a1)), some (eI (a2))]) (s2 := [eI (a1), eI (2), eR v8]) rfl rfl rfl ?_
          obtain ⟨v12, e13⟩ : ∃ zz : Int, zz = (2) * (a1) := ⟨_, rfl⟩
          have b14 : 0 ≤ v12 ∧ v12 ≤ 98 := by omega
          refine w_t (np := 32) (l2 := [some (eR a0), some (eI (a1)), some (eI (a2))]) (s2 := [eI (v12), eR v8]) rfl (b_imul (by rw [← e13]; exact ev_w_in (by omega) (by omega))) rfl ?_
          refine w_t (np := 33) (l2 := [some (eR a0), some (eI (a1)), some (eI (a2))]) (s2 := [eI (a2), eI (v12), eR v8]) rfl rfl rfl ?_
          obtain ⟨v15, e16⟩ : ∃ zz : Int, zz = (v12) + (a2) := ⟨_, rfl⟩
          have b17 : 0 ≤ v15 ∧ v15 ≤ 99 := by omega
          refine w_t (np := 34) (l2 := [some (eR a0), some (eI (a1)), some (eI (a2))]) (s2 := [eI (v15), eR v8]) rfl (b_iadd (by rw [← e16]; exact ev_w_in (by omega) (by omega))) rfl ?_
          refine j_al (np := 35) rfl rfl hI b10 (by decide) (n := 100) rfl rfl (lo := 0) (hi := 9) (fun _ => rfl) (by omega) (by omega) ?_
          intro v18 e19 b20
          exact b_ri rfl rfl (K (v18) (by omega))
        · have b8 : 2 ≤ a2 ∧ a2 ≤ 2147483647 := by omega
          refine w_t (np := 22) (l2 := [some (eR a0), some (eI (a1)), some (eI (a2))]) (s2 := [eI (0)]) rfl rfl rfl ?_
          refine w_go (t1 := 35) rfl rfl ?_
          exact b_ri rfl rfl (K (0) (by decide))
theorem s_23_2 {L : Nat} {ρ : Nat → Int} {rc : eQ} {d : Nat} {f : eFr} {F : List eFr} {μ : eM} {g : Nat → Nat} {a0 : Nat} {a1 : Int} {a2 : Int} (hI : SI g μ) (gA0 : g a0 = 7) (bA1 : -2147483648 ≤ a1 ∧ a1 ≤ 2147483647) (bA2 : -2147483648 ≤ a2 ∧ a2 ≤ 2147483647) (K : ∀ (v : Int), (0 ≤ v ∧ v ≤ 9) → ex_q (dt_fg L ρ) rc (d + 1, (f.1, f.2.1, f.2.2.1, eI v :: f.2.2.2), F, μ)) : ex_q (dt_fg L ρ) rc (d, (23, 0, [some (eR a0), some (eI (a1)), some (eI (a2))], []), f :: F, μ) := by
  refine w_t (np := 1) (l2 := [some (eR a0), some (eI (a1)), some (eI (a2))]) (s2 := [eI (a1)]) rfl rfl rfl ?_
  refine b_ilt (t1 := 21) (t2 := 4) rfl rfl rfl (ev_w_in (by omega) (by omega)) (fun g1 => ?_) (fun g1 => ?_)
  · have b2 : -2147483648 ≤ a1 ∧ a1 ≤ -1 := by omega
    refine w_t (np := 22) (l2 := [some (eR a0), some (eI (a1)), some (eI (a2))]) (s2 := [eI (0)]) rfl rfl rfl ?_
    refine w_go (t1 := 35) rfl rfl ?_
    exact b_ri rfl rfl (K (0) (by decide))
  · have b2 : 0 ≤ a1 ∧ a1 ≤ 2147483647 := by omega
    refine w_t (np := 5) (l2 := [some (eR a0), some (eI (a1)), some (eI (a2))]) (s2 := [eI (a1)]) rfl rfl rfl ?_
    refine w_t (np := 6) (l2 := [some (eR a0), some (eI (a1)), some (eI (a2))]) (s2 := [eR a0, eI (a1)]) rfl (s_an rfl (pos_g hI gA0 (by decide))) rfl ?_
    refine j_gi (np := 9) rfl rfl rfl hI gA0 (by decide) (n := 8) rfl rfl (lo := 0) (hi := 890) rfl ?_
    intro v2 e3 b4
    refine b_cge (t1 := 21) (t2 := 12) rfl rfl rfl (ev_w_in (by omega) (by omega)) (ev_w_in (by omega) (by omega)) (fun g5 => ?_) (fun g5 => ?_)
    · refine w_t (np := 22) (l2 := [some (eR a0), some (eI (a1)), some (eI (a2))]) (s2 := [eI (0)]) rfl rfl rfl ?_
      refine w_go (t1 := 35) rfl rfl ?_
      exact b_ri rfl rfl (K (0) (by decide))
    · have b6 : 0 ≤ a1 ∧ a1 ≤ 889 := by omega
      have b7 : 1 ≤ v2 ∧ v2 ≤ 890 := by omega
      refine w_t (np := 13) (l2 := [some (eR a0), some (eI (a1)), some (eI (a2))]) (s2 := [eI (a2)]) rfl rfl rfl ?_
      refine b_ilt (t1 := 21) (t2 := 16) rfl rfl rfl (ev_w_in (by omega) (by omega)) (fun g6 => ?_) (fun g6 => ?_)
      · have b7 : -2147483648 ≤ a2 ∧ a2 ≤ -1 := by omega
        refine w_t (np := 22) (l2 := [some (eR a0), some (eI (a1)), some (eI (a2))]) (s2 := [eI (0)]) rfl rfl rfl ?_
        refine w_go (t1 := 35) rfl rfl ?_
        exact b_ri rfl rfl (K (0) (by decide))
      · have b7 : 0 ≤ a2 ∧ a2 ≤ 2147483647 := by omega
        refine w_t (np := 17) (l2 := [some (eR a0), some (eI (a1)), some (eI (a2))]) (s2 := [eI (a2)]) rfl rfl rfl ?_
        refine w_t (np := 18) (l2 := [some (eR a0), some (eI (a1)), some (eI (a2))]) (s2 := [eI (1), eI (a2)]) rfl rfl rfl ?_
        refine b_cle (t1 := 25) (t2 := 21) rfl rfl rfl (ev_w_in (by omega) (by omega)) rfl (fun g7 => ?_) (fun g7 => ?_)
        · have b8 : 0 ≤ a2 ∧ a2 ≤ 1 := by omega
          refine w_t (np := 26) (l2 := [some (eR a0), some (eI (a1)), some (eI (a2))]) (s2 := [eR a0]) rfl (s_an rfl (pos_g hI gA0 (by decide))) rfl ?_
          refine j_gr (np := 29) rfl rfl hI gA0 (by decide) (n := 8) rfl rfl rfl ?_
          intro v8 e9 b10 z11
          have b10 : g v8 = 11 := Nat.eq_of_beq_eq_true b10
          refine w_t (np := 30) (l2 := [some (eR a0), some (eI (a1)), some (eI (a2))]) (s2 := [eI (2), eR v8]) rfl rfl rfl ?_
          refine w_t (np := 31) (l2 := [some (eR a0), some (eI (a1)), some (eI (a2))]) (s2 := [eI (a1), eI (2), eR v8]) rfl rfl rfl ?_
          obtain ⟨v12, e13⟩ : ∃ zz : Int, zz = (2) * (a1) := ⟨_, rfl⟩
          have b14 : 0 ≤ v12 ∧ v12 ≤ 1778 := by omega
          refine w_t (np := 32) (l2 := [some (eR a0), some (eI (a1)), some (eI (a2))]) (s2 := [eI (v12), eR v8]) rfl (b_imul (by rw [← e13]; exact ev_w_in (by omega) (by omega))) rfl ?_
          refine w_t (np := 33) (l2 := [some (eR a0), some (eI (a1)), some (eI (a2))]) (s2 := [eI (a2), eI (v12), eR v8]) rfl rfl rfl ?_
          obtain ⟨v15, e16⟩ : ∃ zz : Int, zz = (v12) + (a2) := ⟨_, rfl⟩
          have b17 : 0 ≤ v15 ∧ v15 ≤ 1779 := by omega
          refine w_t (np := 34) (l2 := [some (eR a0), some (eI (a1)), some (eI (a2))]) (s2 := [eI (v15), eR v8]) rfl (b_iadd (by rw [← e16]; exact ev_w_in (by omega) (by omega))) rfl ?_
          refine j_al (np := 35) rfl rfl hI b10 (by decide) (n := 1780) rfl rfl (lo := 0) (hi := 9) (fun _ => rfl) (by omega) (by omega) ?_
          intro v18 e19 b20
          exact b_ri rfl rfl (K (v18) (by omega))
        · have b8 : 2 ≤ a2 ∧ a2 ≤ 2147483647 := by omega
          refine w_t (np := 22) (l2 := [some (eR a0), some (eI (a1)), some (eI (a2))]) (s2 := [eI (0)]) rfl rfl rfl ?_
          refine w_go (t1 := 35) rfl rfl ?_
          exact b_ri rfl rfl (K (0) (by decide))
theorem s_24 {L : Nat} {ρ : Nat → Int} {rc : eQ} {d : Nat} {f : eFr} {F : List eFr} {μ : eM} {g : Nat → Nat} {a0 : Nat} {a1 : Int} (hI : SI g μ) (gA0 : g a0 = 2) (bA1 : -2147483648 ≤ a1 ∧ a1 ≤ 2147483647) (K : ∀ (v : Int), (-1 ≤ v ∧ v ≤ 1) → ex_q (dt_fg L ρ) rc (d + 2, (f.1, f.2.1, f.2.2.1, eI v :: f.2.2.2), F, μ)) : ex_q (dt_fg L ρ) rc (d + 1, (24, 0, [some (eR a0), some (eI (a1))], []), f :: F, μ) := by
  refine w_t (np := 1) (l2 := [some (eR a0), some (eI (a1))]) (s2 := [eR a0]) rfl (s_an rfl (pos_g hI gA0 (by decide))) rfl ?_
  refine w_t (np := 2) (l2 := [some (eR a0), some (eI (a1))]) (s2 := [eI (a1), eR a0]) rfl rfl rfl ?_
  refine w_t (np := 3) (l2 := [some (eR a0), some (eI (a1))]) (s2 := [eI (1), eI (a1), eR a0]) rfl rfl rfl ?_
  refine w_cw (np := 6) (as := [eI (a1), eI (1)]) (l2 := [some (eR a0), some (eI (a1)), some (eI (1))]) (rest := []) rfl rfl rfl (Nat.ble_eq.mp rfl) rfl rfl rfl (hI.kd gA0 (by decide) (n := 8) rfl) rfl ?_
  refine s_23 (a1 := a1) (a2 := 1) hI gA0 (by omega) (by decide) ?_
  intro v1 b2
  show ex_q (dt_fg L ρ) rc (d + 1, (24, 6, [some (eR a0), some (eI (a1))], [eI (v1)]), f :: F, μ)
  refine w_t (np := 7) (l2 := [some (eR a0), some (eI (a1))]) (s2 := [eR a0, eI (v1)]) rfl (s_an rfl (pos_g hI gA0 (by decide))) rfl ?_
  refine w_t (np := 8) (l2 := [some (eR a0), some (eI (a1))]) (s2 := [eI (a1), eR a0, eI (v1)]) rfl rfl rfl ?_
  refine w_t (np := 9) (l2 := [some (eR a0), some (eI (a1))]) (s2 := [eI (0), eI (a1), eR a0, eI (v1)]) rfl rfl rfl ?_
  refine w_cw (np := 12) (as := [eI (a1), eI (0)]) (l2 := [some (eR a0), some (eI (a1)), some (eI (0))]) (rest := [eI (v1)]) rfl rfl rfl (Nat.ble_eq.mp rfl) rfl rfl rfl (hI.kd gA0 (by decide) (n := 8) rfl) rfl ?_
  refine s_23 (a1 := a1) (a2 := 0) hI gA0 (by omega) (by decide) ?_
  intro v3 b4
  show ex_q (dt_fg L ρ) rc (d + 1, (24, 12, [some (eR a0), some (eI (a1))], [eI (v3), eI (v1)]), f :: F, μ)
  obtain ⟨v5, e6⟩ : ∃ zz : Int, zz = (v1) - (v3) := ⟨_, rfl⟩
  have b7 : -9 ≤ v5 ∧ v5 ≤ 9 := by omega
  refine w_t (np := 13) (l2 := [some (eR a0), some (eI (a1))]) (s2 := [eI (v5)]) rfl (b_isub (by rw [← e6]; exact ev_w_in (by omega) (by omega))) rfl ?_
  refine w_t (np := 15) (l2 := [some (eR a0), some (eI (a1))]) (s2 := [eI (10), eI (v5)]) rfl rfl rfl ?_
  refine w_cu (np := 18) (as := [eI (v5), eI (10)]) (l2 := [some (eI (v5)), some (eI (10)), none]) (rest := []) rfl rfl rfl (Nat.ble_eq.mp rfl) rfl rfl rfl rfl ?_
  refine w_t (np := 1) (l2 := [some (eI (v5)), some (eI (10)), none]) (s2 := [eI (v5)]) rfl rfl rfl ?_
  refine w_t (np := 2) (l2 := [some (eI (v5)), some (eI (10)), none]) (s2 := [eI (10), eI (v5)]) rfl rfl rfl ?_
  obtain ⟨v8, e9, b10⟩ := h_irem (a := v5) (k := 10) (by decide) (by decide) (show (-2147483648 : Int) ≤ v5 ∧ (v5 : Int) ≤ 2147483647 by omega)
  have b11 : -9 ≤ v8 ∧ v8 ≤ 9 := by omega
  refine w_t (np := 3) (l2 := [some (eI (v5)), some (eI (10)), none]) (s2 := [eI (v8)]) rfl (e9 _ _) rfl ?_
  refine w_t (np := 4) (l2 := [some (eI (v5)), some (eI (10)), some (eI (v8))]) (s2 := []) rfl rfl rfl ?_
  refine w_t (np := 5) (l2 := [some (eI (v5)), some (eI (10)), some (eI (v8))]) (s2 := [eI (v5)]) rfl rfl rfl ?_
  refine w_t (np := 6) (l2 := [some (eI (v5)), some (eI (10)), some (eI (v8))]) (s2 := [eI (10), eI (v5)]) rfl rfl rfl ?_
  obtain ⟨v12, e13, b14, h15⟩ := h_ixor2 (a := v5) (b := 10) (by omega) (by decide) (by decide)
  refine w_t (np := 7) (l2 := [some (eI (v5)), some (eI (10)), some (eI (v8))]) (s2 := [eI (v12)]) rfl (e13 _ _) rfl ?_
  refine b_ige (t1 := 18) (t2 := 10) rfl rfl rfl (ev_w_in (by omega) (by omega)) (fun g16 => ?_) (fun g16 => ?_)
  · have b17 : 0 ≤ v12 ∧ v12 ≤ 2147483647 := by omega
    refine w_t (np := 19) (l2 := [some (eI (v5)), some (eI (10)), some (eI (v8))]) (s2 := [eI (v8)]) rfl rfl rfl ?_
    refine b_ri rfl rfl ?_
    show ex_q (dt_fg L ρ) rc (d + 1, (24, 18, [some (eR a0), some (eI (a1))], [eI (v8)]), f :: F, μ)
    refine w_t (np := 19) (l2 := [some (eR a0), some (eI (a1))]) (s2 := [eI (5), eI (v8)]) rfl rfl rfl ?_
    refine b_cge (t1 := 26) (t2 := 22) rfl rfl rfl (ev_w_in (by omega) (by omega)) rfl (fun g17 => ?_) (fun g17 => ?_)
    · have b18 : 5 ≤ v8 ∧ v8 ≤ 9 := by omega
      refine w_t (np := 27) (l2 := [some (eR a0), some (eI (a1))]) (s2 := [eI (-1)]) rfl rfl rfl ?_
      exact b_ri rfl rfl (K (-1) (by decide))
    · have b18 : -9 ≤ v8 ∧ v8 ≤ 4 := by omega
      refine w_t (np := 23) (l2 := [some (eR a0), some (eI (a1))]) (s2 := [eI (1)]) rfl rfl rfl ?_
      refine w_go (t1 := 27) rfl rfl ?_
      exact b_ri rfl rfl (K (1) (by decide))
  · have b17 : -2147483648 ≤ v12 ∧ v12 ≤ -1 := by omega
    refine w_t (np := 11) (l2 := [some (eI (v5)), some (eI (10)), some (eI (v8))]) (s2 := [eI (v8)]) rfl rfl rfl ?_
    refine b_ieq (t1 := 18) (t2 := 14) rfl rfl rfl (ev_w_in (by omega) (by omega)) (fun g17 => ?_) (fun g17 => ?_)
    · have b18 : 0 ≤ v8 ∧ v8 ≤ 0 := by omega
      refine w_t (np := 19) (l2 := [some (eI (v5)), some (eI (10)), some (eI (v8))]) (s2 := [eI (v8)]) rfl rfl rfl ?_
      refine b_ri rfl rfl ?_
      show ex_q (dt_fg L ρ) rc (d + 1, (24, 18, [some (eR a0), some (eI (a1))], [eI (v8)]), f :: F, μ)
      refine w_t (np := 19) (l2 := [some (eR a0), some (eI (a1))]) (s2 := [eI (5), eI (v8)]) rfl rfl rfl ?_
      refine b_cge (t1 := 26) (t2 := 22) rfl rfl rfl (ev_w_in (by omega) (by omega)) rfl (fun g18 => False.elim (by omega)) (fun g18 => ?_)
      refine w_t (np := 23) (l2 := [some (eR a0), some (eI (a1))]) (s2 := [eI (1)]) rfl rfl rfl ?_
      refine w_go (t1 := 27) rfl rfl ?_
      exact b_ri rfl rfl (K (1) (by decide))
    · refine w_t (np := 15) (l2 := [some (eI (v5)), some (eI (10)), some (eI (v8))]) (s2 := [eI (v8)]) rfl rfl rfl ?_
      refine w_t (np := 16) (l2 := [some (eI (v5)), some (eI (10)), some (eI (v8))]) (s2 := [eI (10), eI (v8)]) rfl rfl rfl ?_
      obtain ⟨v18, e19⟩ : ∃ zz : Int, zz = (v8) + (10) := ⟨_, rfl⟩
      have b20 : 1 ≤ v18 ∧ v18 ≤ 19 := by omega
      refine w_t (np := 17) (l2 := [some (eI (v5)), some (eI (10)), some (eI (v8))]) (s2 := [eI (v18)]) rfl (b_iadd (by rw [← e19]; exact ev_w_in (by omega) (by omega))) rfl ?_
      refine b_ri rfl rfl ?_
      show ex_q (dt_fg L ρ) rc (d + 1, (24, 18, [some (eR a0), some (eI (a1))], [eI (v18)]), f :: F, μ)
      refine w_t (np := 19) (l2 := [some (eR a0), some (eI (a1))]) (s2 := [eI (5), eI (v18)]) rfl rfl rfl ?_
      refine b_cge (t1 := 26) (t2 := 22) rfl rfl rfl (ev_w_in (by omega) (by omega)) rfl (fun g21 => ?_) (fun g21 => ?_)
      · have b22 : 5 ≤ v18 ∧ v18 ≤ 19 := by omega
        refine w_t (np := 27) (l2 := [some (eR a0), some (eI (a1))]) (s2 := [eI (-1)]) rfl rfl rfl ?_
        exact b_ri rfl rfl (K (-1) (by decide))
      · have b22 : 1 ≤ v18 ∧ v18 ≤ 4 := by omega
        refine w_t (np := 23) (l2 := [some (eR a0), some (eI (a1))]) (s2 := [eI (1)]) rfl rfl rfl ?_
        refine w_go (t1 := 27) rfl rfl ?_
        exact b_ri rfl rfl (K (1) (by decide))
theorem s_24_2 {L : Nat} {ρ : Nat → Int} {rc : eQ} {d : Nat} {f : eFr} {F : List eFr} {μ : eM} {g : Nat → Nat} {a0 : Nat} {a1 : Int} (hI : SI g μ) (gA0 : g a0 = 7) (bA1 : -2147483648 ≤ a1 ∧ a1 ≤ 2147483647) (K : ∀ (v : Int), (-1 ≤ v ∧ v ≤ 1) → ex_q (dt_fg L ρ) rc (d + 2, (f.1, f.2.1, f.2.2.1, eI v :: f.2.2.2), F, μ)) : ex_q (dt_fg L ρ) rc (d + 1, (24, 0, [some (eR a0), some (eI (a1))], []), f :: F, μ) := by
  refine w_t (np := 1) (l2 := [some (eR a0), some (eI (a1))]) (s2 := [eR a0]) rfl (s_an rfl (pos_g hI gA0 (by decide))) rfl ?_
  refine w_t (np := 2) (l2 := [some (eR a0), some (eI (a1))]) (s2 := [eI (a1), eR a0]) rfl rfl rfl ?_
  refine w_t (np := 3) (l2 := [some (eR a0), some (eI (a1))]) (s2 := [eI (1), eI (a1), eR a0]) rfl rfl rfl ?_
  refine w_cw (np := 6) (as := [eI (a1), eI (1)]) (l2 := [some (eR a0), some (eI (a1)), some (eI (1))]) (rest := []) rfl rfl rfl (Nat.ble_eq.mp rfl) rfl rfl rfl (hI.kd gA0 (by decide) (n := 8) rfl) rfl ?_
  refine s_23_2 (a1 := a1) (a2 := 1) hI gA0 (by omega) (by decide) ?_
  intro v1 b2
  show ex_q (dt_fg L ρ) rc (d + 1, (24, 6, [some (eR a0), some (eI (a1))], [eI (v1)]), f :: F, μ)
  refine w_t (np := 7) (l2 := [some (eR a0), some (eI (a1))]) (s2 := [eR a0, eI (v1)]) rfl (s_an rfl (pos_g hI gA0 (by decide))) rfl ?_
  refine w_t (np := 8) (l2 := [some (eR a0), some (eI (a1))]) (s2 := [eI (a1), eR a0, eI (v1)]) rfl rfl rfl ?_
  refine w_t (np := 9) (l2 := [some (eR a0), some (eI (a1))]) (s2 := [eI (0), eI (a1), eR a0, eI (v1)]) rfl rfl rfl ?_
  refine w_cw (np := 12) (as := [eI (a1), eI (0)]) (l2 := [some (eR a0), some (eI (a1)), some (eI (0))]) (rest := [eI (v1)]) rfl rfl rfl (Nat.ble_eq.mp rfl) rfl rfl rfl (hI.kd gA0 (by decide) (n := 8) rfl) rfl ?_
  refine s_23_2 (a1 := a1) (a2 := 0) hI gA0 (by omega) (by decide) ?_
  intro v3 b4
  show ex_q (dt_fg L ρ) rc (d + 1, (24, 12, [some (eR a0), some (eI (a1))], [eI (v3), eI (v1)]), f :: F, μ)
  obtain ⟨v5, e6⟩ : ∃ zz : Int, zz = (v1) - (v3) := ⟨_, rfl⟩
  have b7 : -9 ≤ v5 ∧ v5 ≤ 9 := by omega
  refine w_t (np := 13) (l2 := [some (eR a0), some (eI (a1))]) (s2 := [eI (v5)]) rfl (b_isub (by rw [← e6]; exact ev_w_in (by omega) (by omega))) rfl ?_
  refine w_t (np := 15) (l2 := [some (eR a0), some (eI (a1))]) (s2 := [eI (10), eI (v5)]) rfl rfl rfl ?_
  refine w_cu (np := 18) (as := [eI (v5), eI (10)]) (l2 := [some (eI (v5)), some (eI (10)), none]) (rest := []) rfl rfl rfl (Nat.ble_eq.mp rfl) rfl rfl rfl rfl ?_
  refine w_t (np := 1) (l2 := [some (eI (v5)), some (eI (10)), none]) (s2 := [eI (v5)]) rfl rfl rfl ?_
  refine w_t (np := 2) (l2 := [some (eI (v5)), some (eI (10)), none]) (s2 := [eI (10), eI (v5)]) rfl rfl rfl ?_
  obtain ⟨v8, e9, b10⟩ := h_irem (a := v5) (k := 10) (by decide) (by decide) (show (-2147483648 : Int) ≤ v5 ∧ (v5 : Int) ≤ 2147483647 by omega)
  have b11 : -9 ≤ v8 ∧ v8 ≤ 9 := by omega
  refine w_t (np := 3) (l2 := [some (eI (v5)), some (eI (10)), none]) (s2 := [eI (v8)]) rfl (e9 _ _) rfl ?_
  refine w_t (np := 4) (l2 := [some (eI (v5)), some (eI (10)), some (eI (v8))]) (s2 := []) rfl rfl rfl ?_
  refine w_t (np := 5) (l2 := [some (eI (v5)), some (eI (10)), some (eI (v8))]) (s2 := [eI (v5)]) rfl rfl rfl ?_
  refine w_t (np := 6) (l2 := [some (eI (v5)), some (eI (10)), some (eI (v8))]) (s2 := [eI (10), eI (v5)]) rfl rfl rfl ?_
  obtain ⟨v12, e13, b14, h15⟩ := h_ixor2 (a := v5) (b := 10) (by omega) (by decide) (by decide)
  refine w_t (np := 7) (l2 := [some (eI (v5)), some (eI (10)), some (eI (v8))]) (s2 := [eI (v12)]) rfl (e13 _ _) rfl ?_
  refine b_ige (t1 := 18) (t2 := 10) rfl rfl rfl (ev_w_in (by omega) (by omega)) (fun g16 => ?_) (fun g16 => ?_)
  · have b17 : 0 ≤ v12 ∧ v12 ≤ 2147483647 := by omega
    refine w_t (np := 19) (l2 := [some (eI (v5)), some (eI (10)), some (eI (v8))]) (s2 := [eI (v8)]) rfl rfl rfl ?_
    refine b_ri rfl rfl ?_
    show ex_q (dt_fg L ρ) rc (d + 1, (24, 18, [some (eR a0), some (eI (a1))], [eI (v8)]), f :: F, μ)
    refine w_t (np := 19) (l2 := [some (eR a0), some (eI (a1))]) (s2 := [eI (5), eI (v8)]) rfl rfl rfl ?_
    refine b_cge (t1 := 26) (t2 := 22) rfl rfl rfl (ev_w_in (by omega) (by omega)) rfl (fun g17 => ?_) (fun g17 => ?_)
    · have b18 : 5 ≤ v8 ∧ v8 ≤ 9 := by omega
      refine w_t (np := 27) (l2 := [some (eR a0), some (eI (a1))]) (s2 := [eI (-1)]) rfl rfl rfl ?_
      exact b_ri rfl rfl (K (-1) (by decide))
    · have b18 : -9 ≤ v8 ∧ v8 ≤ 4 := by omega
      refine w_t (np := 23) (l2 := [some (eR a0), some (eI (a1))]) (s2 := [eI (1)]) rfl rfl rfl ?_
      refine w_go (t1 := 27) rfl rfl ?_
      exact b_ri rfl rfl (K (1) (by decide))
  · have b17 : -2147483648 ≤ v12 ∧ v12 ≤ -1 := by omega
    refine w_t (np := 11) (l2 := [some (eI (v5)), some (eI (10)), some (eI (v8))]) (s2 := [eI (v8)]) rfl rfl rfl ?_
    refine b_ieq (t1 := 18) (t2 := 14) rfl rfl rfl (ev_w_in (by omega) (by omega)) (fun g17 => ?_) (fun g17 => ?_)
    · have b18 : 0 ≤ v8 ∧ v8 ≤ 0 := by omega
      refine w_t (np := 19) (l2 := [some (eI (v5)), some (eI (10)), some (eI (v8))]) (s2 := [eI (v8)]) rfl rfl rfl ?_
      refine b_ri rfl rfl ?_
      show ex_q (dt_fg L ρ) rc (d + 1, (24, 18, [some (eR a0), some (eI (a1))], [eI (v8)]), f :: F, μ)
      refine w_t (np := 19) (l2 := [some (eR a0), some (eI (a1))]) (s2 := [eI (5), eI (v8)]) rfl rfl rfl ?_
      refine b_cge (t1 := 26) (t2 := 22) rfl rfl rfl (ev_w_in (by omega) (by omega)) rfl (fun g18 => False.elim (by omega)) (fun g18 => ?_)
      refine w_t (np := 23) (l2 := [some (eR a0), some (eI (a1))]) (s2 := [eI (1)]) rfl rfl rfl ?_
      refine w_go (t1 := 27) rfl rfl ?_
      exact b_ri rfl rfl (K (1) (by decide))
    · refine w_t (np := 15) (l2 := [some (eI (v5)), some (eI (10)), some (eI (v8))]) (s2 := [eI (v8)]) rfl rfl rfl ?_
      refine w_t (np := 16) (l2 := [some (eI (v5)), some (eI (10)), some (eI (v8))]) (s2 := [eI (10), eI (v8)]) rfl rfl rfl ?_
      obtain ⟨v18, e19⟩ : ∃ zz : Int, zz = (v8) + (10) := ⟨_, rfl⟩
      have b20 : 1 ≤ v18 ∧ v18 ≤ 19 := by omega
      refine w_t (np := 17) (l2 := [some (eI (v5)), some (eI (10)), some (eI (v8))]) (s2 := [eI (v18)]) rfl (b_iadd (by rw [← e19]; exact ev_w_in (by omega) (by omega))) rfl ?_
      refine b_ri rfl rfl ?_
      show ex_q (dt_fg L ρ) rc (d + 1, (24, 18, [some (eR a0), some (eI (a1))], [eI (v18)]), f :: F, μ)
      refine w_t (np := 19) (l2 := [some (eR a0), some (eI (a1))]) (s2 := [eI (5), eI (v18)]) rfl rfl rfl ?_
      refine b_cge (t1 := 26) (t2 := 22) rfl rfl rfl (ev_w_in (by omega) (by omega)) rfl (fun g21 => ?_) (fun g21 => ?_)
      · have b22 : 5 ≤ v18 ∧ v18 ≤ 19 := by omega
        refine w_t (np := 27) (l2 := [some (eR a0), some (eI (a1))]) (s2 := [eI (-1)]) rfl rfl rfl ?_
        exact b_ri rfl rfl (K (-1) (by decide))
      · have b22 : 1 ≤ v18 ∧ v18 ≤ 4 := by omega
        refine w_t (np := 23) (l2 := [some (eR a0), some (eI (a1))]) (s2 := [eI (1)]) rfl rfl rfl ?_
        refine w_go (t1 := 27) rfl rfl ?_
        exact b_ri rfl rfl (K (1) (by decide))
theorem s_25 {L : Nat} {ρ : Nat → Int} {rc : eQ} {d : Nat} {f : eFr} {F : List eFr} {μ : eM} {g : Nat → Nat} {a0 : Nat} {a1 : Int} (hI : SI g μ) (gA0 : g a0 = 2) (bA1 : -2147483648 ≤ a1 ∧ a1 ≤ 2147483647) (K : ∀ (v : Int), (0 ≤ v ∧ v ≤ 890) → ex_q (dt_fg L ρ) rc (d + 1, (f.1, f.2.1, f.2.2.1, eI v :: f.2.2.2), F, μ)) : ex_q (dt_fg L ρ) rc (d, (25, 0, [some (eR a0), some (eI (a1)), none, none], []), f :: F, μ) := by
  refine w_t (np := 1) (l2 := [some (eR a0), some (eI (a1)), none, none]) (s2 := [eI (0)]) rfl rfl rfl ?_
  refine w_t (np := 2) (l2 := [some (eR a0), some (eI (a1)), some (eI (0)), none]) (s2 := []) rfl rfl rfl ?_
  refine w_t (np := 3) (l2 := [some (eR a0), some (eI (a1)), some (eI (0)), none]) (s2 := [eI (0)]) rfl rfl rfl ?_
  refine w_t (np := 4) (l2 := [some (eR a0), some (eI (a1)), some (eI (0)), some (eI (0))]) (s2 := []) rfl rfl rfl ?_
  have hL4 : ∀ (n1 : Nat) (i3 : Int) (i5 : Int), (0 ≤ i3 ∧ i3 ≤ 890) → (0 ≤ i5 ∧ i5 ≤ 890) → i3 ≤ i5 → n1 = (890 - i5).toNat → ex_q (dt_fg L ρ) rc (d, (25, 4, [some (eR a0), some (eI (a1)), some (eI (i3)), some (eI (i5))], []), f :: F, μ) := by
    intro n1
    induction n1 using Nat.strongRecOn with
    | _ n1 ih2 =>
    intro i3 i5 b4 b6 r7 hn8
    refine w_t (np := 5) (l2 := [some (eR a0), some (eI (a1)), some (eI (i3)), some (eI (i5))]) (s2 := [eI (i5)]) rfl rfl rfl ?_
    refine w_t (np := 6) (l2 := [some (eR a0), some (eI (a1)), some (eI (i3)), some (eI (i5))]) (s2 := [eR a0, eI (i5)]) rfl (s_an rfl (pos_g hI gA0 (by decide))) rfl ?_
    refine j_gi (np := 9) rfl rfl rfl hI gA0 (by decide) (n := 8) rfl rfl (lo := 0) (hi := 50) rfl ?_
    intro v9 e10 b11
    refine b_cge (t1 := 31) (t2 := 12) rfl rfl rfl (ev_w_in (by omega) (by omega)) (ev_w_in (by omega) (by omega)) (fun g12 => ?_) (fun g12 => ?_)
    · refine w_t (np := 32) (l2 := [some (eR a0), some (eI (a1)), some (eI (i3)), some (eI (i5))]) (s2 := [eI (i3)]) rfl rfl rfl ?_
      exact b_ri rfl rfl (K (i3) (by omega))
    · have b13 : 0 ≤ i5 ∧ i5 ≤ 49 := by omega
      have b14 : 1 ≤ v9 ∧ v9 ≤ 50 := by omega
      refine w_t (np := 13) (l2 := [some (eR a0), some (eI (a1)), some (eI (i3)), some (eI (i5))]) (s2 := [eR a0]) rfl (s_an rfl (pos_g hI gA0 (by decide))) rfl ?_
      refine j_gr (np := 16) rfl rfl hI gA0 (by decide) (n := 8) rfl rfl rfl ?_
      intro v13 e14 b15 z16
      have b15 : g v13 = 3 := Nat.eq_of_beq_eq_true b15
      refine w_t (np := 17) (l2 := [some (eR a0), some (eI (a1)), some (eI (i3)), some (eI (i5))]) (s2 := [eI (i5), eR v13]) rfl rfl rfl ?_
      refine j_al (np := 18) rfl rfl hI b15 (by decide) (n := 50) rfl rfl (lo := 0) (hi := 1) (fun _ => rfl) (by omega) (by omega) ?_
      intro v17 e18 b19
      refine w_t (np := 19) (l2 := [some (eR a0), some (eI (a1)), some (eI (i3)), some (eI (i5))]) (s2 := [eI (a1), eI (v17)]) rfl rfl rfl ?_
      refine b_cne (t1 := 25) (t2 := 22) rfl rfl rfl (ev_w_in (by omega) (by omega)) (ev_w_in (by omega) (by omega)) (fun g20 => ?_) (fun g20 => ?_)
      · obtain ⟨v21, e22⟩ : ∃ zz : Int, zz = (i5) + (1) := ⟨_, rfl⟩
        have b23 : 1 ≤ v21 ∧ v21 ≤ 50 := by omega
        refine w_t (np := 28) (l2 := [some (eR a0), some (eI (a1)), some (eI (i3)), some (eI (v21))]) (s2 := []) rfl (b_iinc rfl (by rw [← e22]; exact ev_w_in (by omega) (by omega)) rfl) rfl ?_
        refine w_go (t1 := 4) rfl rfl ?_
        exact ih2 (890 - (v21)).toNat (by omega) (i3) (v21) (by omega) (by omega)    (by omega) rfl
      · have b21 : 0 ≤ a1 ∧ a1 ≤ 1 := by omega
        obtain ⟨v21, e22⟩ : ∃ zz : Int, zz = (i3) + (1) := ⟨_, rfl⟩
        have b23 : 1 ≤ v21 ∧ v21 ≤ 891 := by omega
        refine w_t (np := 25) (l2 := [some (eR a0), some (eI (a1)), some (eI (v21)), some (eI (i5))]) (s2 := []) rfl (b_iinc rfl (by rw [← e22]; exact ev_w_in (by omega) (by omega)) rfl) rfl ?_
        obtain ⟨v24, e25⟩ : ∃ zz : Int, zz = (i5) + (1) := ⟨_, rfl⟩
        have b26 : 1 ≤ v24 ∧ v24 ≤ 50 := by omega
        refine w_t (np := 28) (l2 := [some (eR a0), some (eI (a1)), some (eI (v21)), some (eI (v24))]) (s2 := []) rfl (b_iinc rfl (by rw [← e25]; exact ev_w_in (by omega) (by omega)) rfl) rfl ?_
        refine w_go (t1 := 4) rfl rfl ?_
        exact ih2 (890 - (v24)).toNat (by omega) (v21) (v24) (by omega) (by omega)    (by omega) rfl
  exact hL4 _ (0) (0) (by decide) (by decide)    (by omega) rfl
theorem s_25_2 {L : Nat} {ρ : Nat → Int} {rc : eQ} {d : Nat} {f : eFr} {F : List eFr} {μ : eM} {g : Nat → Nat} {a0 : Nat} {a1 : Int} (hI : SI g μ) (gA0 : g a0 = 7) (bA1 : -2147483648 ≤ a1 ∧ a1 ≤ 2147483647) (K : ∀ (v : Int), (0 ≤ v ∧ v ≤ 890) → ex_q (dt_fg L ρ) rc (d + 1, (f.1, f.2.1, f.2.2.1, eI v :: f.2.2.2), F, μ)) : ex_q (dt_fg L ρ) rc (d, (25, 0, [some (eR a0), some (eI (a1)), none, none], []), f :: F, μ) := by
  refine w_t (np := 1) (l2 := [some (eR a0), some (eI (a1)), none, none]) (s2 := [eI (0)]) rfl rfl rfl ?_
  refine w_t (np := 2) (l2 := [some (eR a0), some (eI (a1)), some (eI (0)), none]) (s2 := []) rfl rfl rfl ?_
  refine w_t (np := 3) (l2 := [some (eR a0), some (eI (a1)), some (eI (0)), none]) (s2 := [eI (0)]) rfl rfl rfl ?_
  refine w_t (np := 4) (l2 := [some (eR a0), some (eI (a1)), some (eI (0)), some (eI (0))]) (s2 := []) rfl rfl rfl ?_
  have hL4 : ∀ (n1 : Nat) (i3 : Int) (i5 : Int), (0 ≤ i3 ∧ i3 ≤ 890) → (0 ≤ i5 ∧ i5 ≤ 890) → i3 ≤ i5 → n1 = (890 - i5).toNat → ex_q (dt_fg L ρ) rc (d, (25, 4, [some (eR a0), some (eI (a1)), some (eI (i3)), some (eI (i5))], []), f :: F, μ) := by
    intro n1
    induction n1 using Nat.strongRecOn with
    | _ n1 ih2 =>
    intro i3 i5 b4 b6 r7 hn8
    refine w_t (np := 5) (l2 := [some (eR a0), some (eI (a1)), some (eI (i3)), some (eI (i5))]) (s2 := [eI (i5)]) rfl rfl rfl ?_
    refine w_t (np := 6) (l2 := [some (eR a0), some (eI (a1)), some (eI (i3)), some (eI (i5))]) (s2 := [eR a0, eI (i5)]) rfl (s_an rfl (pos_g hI gA0 (by decide))) rfl ?_
    refine j_gi (np := 9) rfl rfl rfl hI gA0 (by decide) (n := 8) rfl rfl (lo := 0) (hi := 890) rfl ?_
    intro v9 e10 b11
    refine b_cge (t1 := 31) (t2 := 12) rfl rfl rfl (ev_w_in (by omega) (by omega)) (ev_w_in (by omega) (by omega)) (fun g12 => ?_) (fun g12 => ?_)
    · refine w_t (np := 32) (l2 := [some (eR a0), some (eI (a1)), some (eI (i3)), some (eI (i5))]) (s2 := [eI (i3)]) rfl rfl rfl ?_
      exact b_ri rfl rfl (K (i3) (by omega))
    · have b13 : 0 ≤ i5 ∧ i5 ≤ 889 := by omega
      have b14 : 1 ≤ v9 ∧ v9 ≤ 890 := by omega
      refine w_t (np := 13) (l2 := [some (eR a0), some (eI (a1)), some (eI (i3)), some (eI (i5))]) (s2 := [eR a0]) rfl (s_an rfl (pos_g hI gA0 (by decide))) rfl ?_
      refine j_gr (np := 16) rfl rfl hI gA0 (by decide) (n := 8) rfl rfl rfl ?_
      intro v13 e14 b15 z16
      have b15 : g v13 = 8 := Nat.eq_of_beq_eq_true b15
      refine w_t (np := 17) (l2 := [some (eR a0), some (eI (a1)), some (eI (i3)), some (eI (i5))]) (s2 := [eI (i5), eR v13]) rfl rfl rfl ?_
      refine j_al (np := 18) rfl rfl hI b15 (by decide) (n := 890) rfl rfl (lo := 0) (hi := 1) (fun _ => rfl) (by omega) (by omega) ?_
      intro v17 e18 b19
      refine w_t (np := 19) (l2 := [some (eR a0), some (eI (a1)), some (eI (i3)), some (eI (i5))]) (s2 := [eI (a1), eI (v17)]) rfl rfl rfl ?_
      refine b_cne (t1 := 25) (t2 := 22) rfl rfl rfl (ev_w_in (by omega) (by omega)) (ev_w_in (by omega) (by omega)) (fun g20 => ?_) (fun g20 => ?_)
      · obtain ⟨v21, e22⟩ : ∃ zz : Int, zz = (i5) + (1) := ⟨_, rfl⟩
        have b23 : 1 ≤ v21 ∧ v21 ≤ 890 := by omega
        refine w_t (np := 28) (l2 := [some (eR a0), some (eI (a1)), some (eI (i3)), some (eI (v21))]) (s2 := []) rfl (b_iinc rfl (by rw [← e22]; exact ev_w_in (by omega) (by omega)) rfl) rfl ?_
        refine w_go (t1 := 4) rfl rfl ?_
        exact ih2 (890 - (v21)).toNat (by omega) (i3) (v21) (by omega) (by omega)    (by omega) rfl
      · have b21 : 0 ≤ a1 ∧ a1 ≤ 1 := by omega
        obtain ⟨v21, e22⟩ : ∃ zz : Int, zz = (i3) + (1) := ⟨_, rfl⟩
        have b23 : 1 ≤ v21 ∧ v21 ≤ 891 := by omega
        refine w_t (np := 25) (l2 := [some (eR a0), some (eI (a1)), some (eI (v21)), some (eI (i5))]) (s2 := []) rfl (b_iinc rfl (by rw [← e22]; exact ev_w_in (by omega) (by omega)) rfl) rfl ?_
        obtain ⟨v24, e25⟩ : ∃ zz : Int, zz = (i5) + (1) := ⟨_, rfl⟩
        have b26 : 1 ≤ v24 ∧ v24 ≤ 890 := by omega
        refine w_t (np := 28) (l2 := [some (eR a0), some (eI (a1)), some (eI (v21)), some (eI (v24))]) (s2 := []) rfl (b_iinc rfl (by rw [← e25]; exact ev_w_in (by omega) (by omega)) rfl) rfl ?_
        refine w_go (t1 := 4) rfl rfl ?_
        exact ih2 (890 - (v24)).toNat (by omega) (v21) (v24) (by omega) (by omega)    (by omega) rfl
  exact hL4 _ (0) (0) (by decide) (by decide)    (by omega) rfl
def l_28 : List Nat := [1024, 1536, 768]
theorem s_28 {L : Nat} {ρ : Nat → Int} {rc : eQ} {d : Nat} {f : eFr} {F : List eFr} {μ : eM} {g : Nat → Nat} {a0 : Nat} {a1 : Int} {a2 : Int} {a3 : Int} {a4 : Int} {a5 : Int} (hI : SI g μ) (gA0 : g a0 = 2) (bA1 : 0 ≤ a1 ∧ a1 ≤ 49) (bA2 : 0 ≤ a2 ∧ a2 ≤ 1) (bA3 : -2147483648 ≤ a3 ∧ a3 ≤ 2147483647) (bA4 : -2147483648 ≤ a4 ∧ a4 ≤ 2147483647) (bA5 : -2147483648 ≤ a5 ∧ a5 ≤ 2147483647) (K : ∀ (μ2 : eM), SI g μ2 → Fr l_28 0 0 g μ μ2 → ex_q (dt_fg L ρ) rc (d + 2, (f.1, f.2.1, f.2.2.1, f.2.2.2), F, μ2)) : ex_q (dt_fg L ρ) rc (d + 1, (28, 0, [some (eR a0), some (eI (a1)), some (eI (a2)), some (eI (a3)), some (eI (a4)), some (eI (a5))], []), f :: F, μ) := by
  have F0 : Fr l_28 0 0 g μ μ := Fr.r
  refine w_t (np := 1) (l2 := [some (eR a0), some (eI (a1)), some (eI (a2)), some (eI (a3)), some (eI (a4)), some (eI (a5))]) (s2 := [eR a0]) rfl (s_an rfl (pos_g hI gA0 (by decide))) rfl ?_
  refine j_gr (np := 4) rfl rfl hI gA0 (by decide) (n := 8) rfl rfl rfl ?_
  intro v1 e2 b3 z4
  have b3 : g v1 = 3 := Nat.eq_of_beq_eq_true b3
  refine w_t (np := 5) (l2 := [some (eR a0), some (eI (a1)), some (eI (a2)), some (eI (a3)), some (eI (a4)), some (eI (a5))]) (s2 := [eI (a1), eR v1]) rfl rfl rfl ?_
  refine w_t (np := 6) (l2 := [some (eR a0), some (eI (a1)), some (eI (a2)), some (eI (a3)), some (eI (a4)), some (eI (a5))]) (s2 := [eI (a2), eI (a1), eR v1]) rfl rfl rfl ?_
  refine j_as (np := 7) rfl rfl hI b3 (by decide) (n := 50) rfl rfl (lo := 0) (hi := 1) (fun _ => rfl) (by omega) (by omega) (by omega) ?_
  intro m5 I6 W7
  have F8 : Fr l_28 0 0 g μ m5 := F0.v W7 b3 rfl rfl
  refine w_t (np := 8) (l2 := [some (eR a0), some (eI (a1)), some (eI (a2)), some (eI (a3)), some (eI (a4)), some (eI (a5))]) (s2 := [eR a0]) rfl (s_an rfl (pos_g I6 gA0 (by decide))) rfl ?_
  refine j_gr (np := 11) rfl rfl I6 gA0 (by decide) (n := 8) rfl rfl rfl ?_
  intro v9 e10 b11 z12
  have b11 : g v9 = 4 := Nat.eq_of_beq_eq_true b11
  refine w_t (np := 12) (l2 := [some (eR a0), some (eI (a1)), some (eI (a2)), some (eI (a3)), some (eI (a4)), some (eI (a5))]) (s2 := [eI (a1), eR v9]) rfl rfl rfl ?_
  refine w_t (np := 13) (l2 := [some (eR a0), some (eI (a1)), some (eI (a2)), some (eI (a3)), some (eI (a4)), some (eI (a5))]) (s2 := [eI (a3), eI (a1), eR v9]) rfl rfl rfl ?_
  refine j_as (np := 14) rfl rfl I6 b11 (by decide) (n := 50) rfl rfl (lo := -2147483648) (hi := 2147483647) (fun _ => rfl) (by omega) (by omega) (by omega) ?_
  intro m13 I14 W15
  have F16 : Fr l_28 0 0 g μ m13 := F8.v W15 b11 rfl rfl
  refine w_t (np := 15) (l2 := [some (eR a0), some (eI (a1)), some (eI (a2)), some (eI (a3)), some (eI (a4)), some (eI (a5))]) (s2 := [eR a0]) rfl (s_an rfl (pos_g I14 gA0 (by decide))) rfl ?_
  refine j_gr (np := 18) rfl rfl I14 gA0 (by decide) (n := 8) rfl rfl rfl ?_
  intro v17 e18 b19 z20
  have b19 : g v17 = 6 := Nat.eq_of_beq_eq_true b19
  refine w_t (np := 19) (l2 := [some (eR a0), some (eI (a1)), some (eI (a2)), some (eI (a3)), some (eI (a4)), some (eI (a5))]) (s2 := [eI (2), eR v17]) rfl rfl rfl ?_
  refine w_t (np := 20) (l2 := [some (eR a0), some (eI (a1)), some (eI (a2)), some (eI (a3)), some (eI (a4)), some (eI (a5))]) (s2 := [eI (a1), eI (2), eR v17]) rfl rfl rfl ?_
  obtain ⟨v21, e22⟩ : ∃ zz : Int, zz = (2) * (a1) := ⟨_, rfl⟩
  have b23 : 0 ≤ v21 ∧ v21 ≤ 98 := by omega
  refine w_t (np := 21) (l2 := [some (eR a0), some (eI (a1)), some (eI (a2)), some (eI (a3)), some (eI (a4)), some (eI (a5))]) (s2 := [eI (v21), eR v17]) rfl (b_imul (by rw [← e22]; exact ev_w_in (by omega) (by omega))) rfl ?_
  refine w_t (np := 23) (l2 := [some (eR a0), some (eI (a1)), some (eI (a2)), some (eI (a3)), some (eI (a4)), some (eI (a5))]) (s2 := [eI (a4), eI (v21), eR v17]) rfl rfl rfl ?_
  refine w_t (np := 25) (l2 := [some (eR a0), some (eI (a1)), some (eI (a2)), some (eI (a3)), some (eI (a4)), some (eI (a5))]) (s2 := [eI (10), eI (a4), eI (v21), eR v17]) rfl rfl rfl ?_
  refine w_cu (np := 28) (as := [eI (a4), eI (10)]) (l2 := [some (eI (a4)), some (eI (10)), none]) (rest := [eI (v21), eR v17]) rfl rfl rfl (Nat.ble_eq.mp rfl) rfl rfl rfl rfl ?_
  refine w_t (np := 1) (l2 := [some (eI (a4)), some (eI (10)), none]) (s2 := [eI (a4)]) rfl rfl rfl ?_
  refine w_t (np := 2) (l2 := [some (eI (a4)), some (eI (10)), none]) (s2 := [eI (10), eI (a4)]) rfl rfl rfl ?_
  obtain ⟨v24, e25, b26⟩ := h_irem (a := a4) (k := 10) (by decide) (by decide) bA4
  have b27 : -9 ≤ v24 ∧ v24 ≤ 9 := by omega
  refine w_t (np := 3) (l2 := [some (eI (a4)), some (eI (10)), none]) (s2 := [eI (v24)]) rfl (e25 _ _) rfl ?_
  refine w_t (np := 4) (l2 := [some (eI (a4)), some (eI (10)), some (eI (v24))]) (s2 := []) rfl rfl rfl ?_
  refine w_t (np := 5) (l2 := [some (eI (a4)), some (eI (10)), some (eI (v24))]) (s2 := [eI (a4)]) rfl rfl rfl ?_
  refine w_t (np := 6) (l2 := [some (eI (a4)), some (eI (10)), some (eI (v24))]) (s2 := [eI (10), eI (a4)]) rfl rfl rfl ?_
  obtain ⟨v28, e29, b30, h31⟩ := h_ixor2 (a := a4) (b := 10) (by omega) (by decide) (by decide)
  refine w_t (np := 7) (l2 := [some (eI (a4)), some (eI (10)), some (eI (v24))]) (s2 := [eI (v28)]) rfl (e29 _ _) rfl ?_
  refine b_ige (t1 := 18) (t2 := 10) rfl rfl rfl (ev_w_in (by omega) (by omega)) (fun g32 => ?_) (fun g32 => ?_)
  · have b33 : 0 ≤ v28 ∧ v28 ≤ 2147483647 := by omega
    refine w_t (np := 19) (l2 := [some (eI (a4)), some (eI (10)), some (eI (v24))]) (s2 := [eI (v24)]) rfl rfl rfl ?_
    refine b_ri rfl rfl ?_
    show ex_q (dt_fg L ρ) rc (d + 1, (28, 28, [some (eR a0), some (eI (a1)), some (eI (a2)), some (eI (a3)), some (eI (a4)), some (eI (a5))], [eI (v24), eI (v21), eR v17]), f :: F, m13)
    refine j_as (np := 29) rfl rfl I14 b19 (by decide) (n := 100) rfl rfl (lo := 0) (hi := 9) (fun _ => rfl) (by omega) (by omega) (by omega) ?_
    intro m33 I34 W35
    have F36 : Fr l_28 0 0 g μ m33 := F16.v W35 b19 rfl rfl
    refine w_t (np := 30) (l2 := [some (eR a0), some (eI (a1)), some (eI (a2)), some (eI (a3)), some (eI (a4)), some (eI (a5))]) (s2 := [eR a0]) rfl (s_an rfl (pos_g I34 gA0 (by decide))) rfl ?_
    refine w_gf (np := 33) (v := eR v17) rfl rfl (I34.kd gA0 (by decide) (n := 8) rfl) (by rw [(W35.addr e18 b19 gA0 (by decide))]; rfl) ?_
    refine w_t (np := 34) (l2 := [some (eR a0), some (eI (a1)), some (eI (a2)), some (eI (a3)), some (eI (a4)), some (eI (a5))]) (s2 := [eI (2), eR v17]) rfl rfl rfl ?_
    refine w_t (np := 35) (l2 := [some (eR a0), some (eI (a1)), some (eI (a2)), some (eI (a3)), some (eI (a4)), some (eI (a5))]) (s2 := [eI (a1), eI (2), eR v17]) rfl rfl rfl ?_
    obtain ⟨v37, e38⟩ : ∃ zz : Int, zz = (2) * (a1) := ⟨_, rfl⟩
    have b39 : 0 ≤ v37 ∧ v37 ≤ 98 := by omega
    refine w_t (np := 36) (l2 := [some (eR a0), some (eI (a1)), some (eI (a2)), some (eI (a3)), some (eI (a4)), some (eI (a5))]) (s2 := [eI (v37), eR v17]) rfl (b_imul (by rw [← e38]; exact ev_w_in (by omega) (by omega))) rfl ?_
    refine w_t (np := 37) (l2 := [some (eR a0), some (eI (a1)), some (eI (a2)), some (eI (a3)), some (eI (a4)), some (eI (a5))]) (s2 := [eI (1), eI (v37), eR v17]) rfl rfl rfl ?_
    obtain ⟨v40, e41⟩ : ∃ zz : Int, zz = (v37) + (1) := ⟨_, rfl⟩
    have b42 : 1 ≤ v40 ∧ v40 ≤ 99 := by omega
    refine w_t (np := 38) (l2 := [some (eR a0), some (eI (a1)), some (eI (a2)), some (eI (a3)), some (eI (a4)), some (eI (a5))]) (s2 := [eI (v40), eR v17]) rfl (b_iadd (by rw [← e41]; exact ev_w_in (by omega) (by omega))) rfl ?_
    refine w_t (np := 40) (l2 := [some (eR a0), some (eI (a1)), some (eI (a2)), some (eI (a3)), some (eI (a4)), some (eI (a5))]) (s2 := [eI (a5), eI (v40), eR v17]) rfl rfl rfl ?_
    refine w_t (np := 42) (l2 := [some (eR a0), some (eI (a1)), some (eI (a2)), some (eI (a3)), some (eI (a4)), some (eI (a5))]) (s2 := [eI (10), eI (a5), eI (v40), eR v17]) rfl rfl rfl ?_
    refine w_cu (np := 45) (as := [eI (a5), eI (10)]) (l2 := [some (eI (a5)), some (eI (10)), none]) (rest := [eI (v40), eR v17]) rfl rfl rfl (Nat.ble_eq.mp rfl) rfl rfl rfl rfl ?_
    refine w_t (np := 1) (l2 := [some (eI (a5)), some (eI (10)), none]) (s2 := [eI (a5)]) rfl rfl rfl ?_
    refine w_t (np := 2) (l2 := [some (eI (a5)), some (eI (10)), none]) (s2 := [eI (10), eI (a5)]) rfl rfl rfl ?_
    obtain ⟨v43, e44, b45⟩ := h_irem (a := a5) (k := 10) (by decide) (by decide) bA5
    have b46 : -9 ≤ v43 ∧ v43 ≤ 9 := by omega
    refine w_t (np := 3) (l2 := [some (eI (a5)), some (eI (10)), none]) (s2 := [eI (v43)]) rfl (e44 _ _) rfl ?_
    refine w_t (np := 4) (l2 := [some (eI (a5)), some (eI (10)), some (eI (v43))]) (s2 := []) rfl rfl rfl ?_
    refine w_t (np := 5) (l2 := [some (eI (a5)), some (eI (10)), some (eI (v43))]) (s2 := [eI (a5)]) rfl rfl rfl ?_
    refine w_t (np := 6) (l2 := [some (eI (a5)), some (eI (10)), some (eI (v43))]) (s2 := [eI (10), eI (a5)]) rfl rfl rfl ?_
    obtain ⟨v47, e48, b49, h50⟩ := h_ixor2 (a := a5) (b := 10) (by omega) (by decide) (by decide)
    refine w_t (np := 7) (l2 := [some (eI (a5)), some (eI (10)), some (eI (v43))]) (s2 := [eI (v47)]) rfl (e48 _ _) rfl ?_
    refine b_ige (t1 := 18) (t2 := 10) rfl rfl rfl (ev_w_in (by omega) (by omega)) (fun g51 => ?_) (fun g51 => ?_)
    · have b52 : 0 ≤ v47 ∧ v47 ≤ 2147483647 := by omega
      refine w_t (np := 19) (l2 := [some (eI (a5)), some (eI (10)), some (eI (v43))]) (s2 := [eI (v43)]) rfl rfl rfl ?_
      refine b_ri rfl rfl ?_
      show ex_q (dt_fg L ρ) rc (d + 1, (28, 45, [some (eR a0), some (eI (a1)), some (eI (a2)), some (eI (a3)), some (eI (a4)), some (eI (a5))], [eI (v43), eI (v40), eR v17]), f :: F, m33)
      refine j_as (np := 46) rfl rfl I34 b19 (by decide) (n := 100) rfl rfl (lo := 0) (hi := 9) (fun _ => rfl) (by omega) (by omega) (by omega) ?_
      intro m52 I53 W54
      have F55 : Fr l_28 0 0 g μ m52 := F36.v W54 b19 rfl rfl
      exact v_rv rfl rfl (K m52 I53 F55)
    · have b52 : -2147483648 ≤ v47 ∧ v47 ≤ -1 := by omega
      refine w_t (np := 11) (l2 := [some (eI (a5)), some (eI (10)), some (eI (v43))]) (s2 := [eI (v43)]) rfl rfl rfl ?_
      refine b_ieq (t1 := 18) (t2 := 14) rfl rfl rfl (ev_w_in (by omega) (by omega)) (fun g52 => ?_) (fun g52 => ?_)
      · have b53 : 0 ≤ v43 ∧ v43 ≤ 0 := by omega
        refine w_t (np := 19) (l2 := [some (eI (a5)), some (eI (10)), some (eI (v43))]) (s2 := [eI (v43)]) rfl rfl rfl ?_
        refine b_ri rfl rfl ?_
        show ex_q (dt_fg L ρ) rc (d + 1, (28, 45, [some (eR a0), some (eI (a1)), some (eI (a2)), some (eI (a3)), some (eI (a4)), some (eI (a5))], [eI (v43), eI (v40), eR v17]), f :: F, m33)
        refine j_as (np := 46) rfl rfl I34 b19 (by decide) (n := 100) rfl rfl (lo := 0) (hi := 9) (fun _ => rfl) (by omega) (by omega) (by omega) ?_
        intro m53 I54 W55
        have F56 : Fr l_28 0 0 g μ m53 := F36.v W55 b19 rfl rfl
        exact v_rv rfl rfl (K m53 I54 F56)
      · refine w_t (np := 15) (l2 := [some (eI (a5)), some (eI (10)), some (eI (v43))]) (s2 := [eI (v43)]) rfl rfl rfl ?_
        refine w_t (np := 16) (l2 := [some (eI (a5)), some (eI (10)), some (eI (v43))]) (s2 := [eI (10), eI (v43)]) rfl rfl rfl ?_
        obtain ⟨v53, e54⟩ : ∃ zz : Int, zz = (v43) + (10) := ⟨_, rfl⟩
        have b55 : 1 ≤ v53 ∧ v53 ≤ 19 := by omega
        refine w_t (np := 17) (l2 := [some (eI (a5)), some (eI (10)), some (eI (v43))]) (s2 := [eI (v53)]) rfl (b_iadd (by rw [← e54]; exact ev_w_in (by omega) (by omega))) rfl ?_
        refine b_ri rfl rfl ?_
        show ex_q (dt_fg L ρ) rc (d + 1, (28, 45, [some (eR a0), some (eI (a1)), some (eI (a2)), some (eI (a3)), some (eI (a4)), some (eI (a5))], [eI (v53), eI (v40), eR v17]), f :: F, m33)
        refine j_as (np := 46) rfl rfl I34 b19 (by decide) (n := 100) rfl rfl (lo := 0) (hi := 9) (fun _ => rfl) (by omega) (by omega) (by omega) ?_
        intro m56 I57 W58
        have F59 : Fr l_28 0 0 g μ m56 := F36.v W58 b19 rfl rfl
        exact v_rv rfl rfl (K m56 I57 F59)
  · have b33 : -2147483648 ≤ v28 ∧ v28 ≤ -1 := by omega
    refine w_t (np := 11) (l2 := [some (eI (a4)), some (eI (10)), some (eI (v24))]) (s2 := [eI (v24)]) rfl rfl rfl ?_
    refine b_ieq (t1 := 18) (t2 := 14) rfl rfl rfl (ev_w_in (by omega) (by omega)) (fun g33 => ?_) (fun g33 => ?_)
    · have b34 : 0 ≤ v24 ∧ v24 ≤ 0 := by omega
      refine w_t (np := 19) (l2 := [some (eI (a4)), some (eI (10)), some (eI (v24))]) (s2 := [eI (v24)]) rfl rfl rfl ?_
      refine b_ri rfl rfl ?_
      show ex_q (dt_fg L ρ) rc (d + 1, (28, 28, [some (eR a0), some (eI (a1)), some (eI (a2)), some (eI (a3)), some (eI (a4)), some (eI (a5))], [eI (v24), eI (v21), eR v17]), f :: F, m13)
      refine j_as (np := 29) rfl rfl I14 b19 (by decide) (n := 100) rfl rfl (lo := 0) (hi := 9) (fun _ => rfl) (by omega) (by omega) (by omega) ?_
      intro m34 I35 W36
      have F37 : Fr l_28 0 0 g μ m34 := F16.v W36 b19 rfl rfl
      refine w_t (np := 30) (l2 := [some (eR a0), some (eI (a1)), some (eI (a2)), some (eI (a3)), some (eI (a4)), some (eI (a5))]) (s2 := [eR a0]) rfl (s_an rfl (pos_g I35 gA0 (by decide))) rfl ?_
      refine w_gf (np := 33) (v := eR v17) rfl rfl (I35.kd gA0 (by decide) (n := 8) rfl) (by rw [(W36.addr e18 b19 gA0 (by decide))]; rfl) ?_
      refine w_t (np := 34) (l2 := [some (eR a0), some (eI (a1)), some (eI (a2)), some (eI (a3)), some (eI (a4)), some (eI (a5))]) (s2 := [eI (2), eR v17]) rfl rfl rfl ?_
      refine w_t (np := 35) (l2 := [some (eR a0), some (eI (a1)), some (eI (a2)), some (eI (a3)), some (eI (a4)), some (eI (a5))]) (s2 := [eI (a1), eI (2), eR v17]) rfl rfl rfl ?_
      obtain ⟨v38, e39⟩ : ∃ zz : Int, zz = (2) * (a1) := ⟨_, rfl⟩
      have b40 : 0 ≤ v38 ∧ v38 ≤ 98 := by omega
      refine w_t (np := 36) (l2 := [some (eR a0), some (eI (a1)), some (eI (a2)), some (eI (a3)), some (eI (a4)), some (eI (a5))]) (s2 := [eI (v38), eR v17]) rfl (b_imul (by rw [← e39]; exact ev_w_in (by omega) (by omega))) rfl ?_
      refine w_t (np := 37) (l2 := [some (eR a0), some (eI (a1)), some (eI (a2)), some (eI (a3)), some (eI (a4)), some (eI (a5))]) (s2 := [eI (1), eI (v38), eR v17]) rfl rfl rfl ?_
      obtain ⟨v41, e42⟩ : ∃ zz : Int, zz = (v38) + (1) := ⟨_, rfl⟩
      have b43 : 1 ≤ v41 ∧ v41 ≤ 99 := by omega
      refine w_t (np := 38) (l2 := [some (eR a0), some (eI (a1)), some (eI (a2)), some (eI (a3)), some (eI (a4)), some (eI (a5))]) (s2 := [eI (v41), eR v17]) rfl (b_iadd (by rw [← e42]; exact ev_w_in (by omega) (by omega))) rfl ?_
      refine w_t (np := 40) (l2 := [some (eR a0), some (eI (a1)), some (eI (a2)), some (eI (a3)), some (eI (a4)), some (eI (a5))]) (s2 := [eI (a5), eI (v41), eR v17]) rfl rfl rfl ?_
      refine w_t (np := 42) (l2 := [some (eR a0), some (eI (a1)), some (eI (a2)), some (eI (a3)), some (eI (a4)), some (eI (a5))]) (s2 := [eI (10), eI (a5), eI (v41), eR v17]) rfl rfl rfl ?_
      refine w_cu (np := 45) (as := [eI (a5), eI (10)]) (l2 := [some (eI (a5)), some (eI (10)), none]) (rest := [eI (v41), eR v17]) rfl rfl rfl (Nat.ble_eq.mp rfl) rfl rfl rfl rfl ?_
      refine w_t (np := 1) (l2 := [some (eI (a5)), some (eI (10)), none]) (s2 := [eI (a5)]) rfl rfl rfl ?_
      refine w_t (np := 2) (l2 := [some (eI (a5)), some (eI (10)), none]) (s2 := [eI (10), eI (a5)]) rfl rfl rfl ?_
      obtain ⟨v44, e45, b46⟩ := h_irem (a := a5) (k := 10) (by decide) (by decide) bA5
      have b47 : -9 ≤ v44 ∧ v44 ≤ 9 := by omega
      refine w_t (np := 3) (l2 := [some (eI (a5)), some (eI (10)), none]) (s2 := [eI (v44)]) rfl (e45 _ _) rfl ?_
      refine w_t (np := 4) (l2 := [some (eI (a5)), some (eI (10)), some (eI (v44))]) (s2 := []) rfl rfl rfl ?_
      refine w_t (np := 5) (l2 := [some (eI (a5)), some (eI (10)), some (eI (v44))]) (s2 := [eI (a5)]) rfl rfl rfl ?_
      refine w_t (np := 6) (l2 := [some (eI (a5)), some (eI (10)), some (eI (v44))]) (s2 := [eI (10), eI (a5)]) rfl rfl rfl ?_
      obtain ⟨v48, e49, b50, h51⟩ := h_ixor2 (a := a5) (b := 10) (by omega) (by decide) (by decide)
      refine w_t (np := 7) (l2 := [some (eI (a5)), some (eI (10)), some (eI (v44))]) (s2 := [eI (v48)]) rfl (e49 _ _) rfl ?_
      refine b_ige (t1 := 18) (t2 := 10) rfl rfl rfl (ev_w_in (by omega) (by omega)) (fun g52 => ?_) (fun g52 => ?_)
      · have b53 : 0 ≤ v48 ∧ v48 ≤ 2147483647 := by omega
        refine w_t (np := 19) (l2 := [some (eI (a5)), some (eI (10)), some (eI (v44))]) (s2 := [eI (v44)]) rfl rfl rfl ?_
        refine b_ri rfl rfl ?_
        show ex_q (dt_fg L ρ) rc (d + 1, (28, 45, [some (eR a0), some (eI (a1)), some (eI (a2)), some (eI (a3)), some (eI (a4)), some (eI (a5))], [eI (v44), eI (v41), eR v17]), f :: F, m34)
        refine j_as (np := 46) rfl rfl I35 b19 (by decide) (n := 100) rfl rfl (lo := 0) (hi := 9) (fun _ => rfl) (by omega) (by omega) (by omega) ?_
        intro m53 I54 W55
        have F56 : Fr l_28 0 0 g μ m53 := F37.v W55 b19 rfl rfl
        exact v_rv rfl rfl (K m53 I54 F56)
      · have b53 : -2147483648 ≤ v48 ∧ v48 ≤ -1 := by omega
        refine w_t (np := 11) (l2 := [some (eI (a5)), some (eI (10)), some (eI (v44))]) (s2 := [eI (v44)]) rfl rfl rfl ?_
        refine b_ieq (t1 := 18) (t2 := 14) rfl rfl rfl (ev_w_in (by omega) (by omega)) (fun g53 => ?_) (fun g53 => ?_)
        · have b54 : 0 ≤ v44 ∧ v44 ≤ 0 := by omega
          refine w_t (np := 19) (l2 := [some (eI (a5)), some (eI (10)), some (eI (v44))]) (s2 := [eI (v44)]) rfl rfl rfl ?_
          refine b_ri rfl rfl ?_
          show ex_q (dt_fg L ρ) rc (d + 1, (28, 45, [some (eR a0), some (eI (a1)), some (eI (a2)), some (eI (a3)), some (eI (a4)), some (eI (a5))], [eI (v44), eI (v41), eR v17]), f :: F, m34)
          refine j_as (np := 46) rfl rfl I35 b19 (by decide) (n := 100) rfl rfl (lo := 0) (hi := 9) (fun _ => rfl) (by omega) (by omega) (by omega) ?_
          intro m54 I55 W56
          have F57 : Fr l_28 0 0 g μ m54 := F37.v W56 b19 rfl rfl
          exact v_rv rfl rfl (K m54 I55 F57)
        · refine w_t (np := 15) (l2 := [some (eI (a5)), some (eI (10)), some (eI (v44))]) (s2 := [eI (v44)]) rfl rfl rfl ?_
          refine w_t (np := 16) (l2 := [some (eI (a5)), some (eI (10)), some (eI (v44))]) (s2 := [eI (10), eI (v44)]) rfl rfl rfl ?_
          obtain ⟨v54, e55⟩ : ∃ zz : Int, zz = (v44) + (10) := ⟨_, rfl⟩
          have b56 : 1 ≤ v54 ∧ v54 ≤ 19 := by omega
          refine w_t (np := 17) (l2 := [some (eI (a5)), some (eI (10)), some (eI (v44))]) (s2 := [eI (v54)]) rfl (b_iadd (by rw [← e55]; exact ev_w_in (by omega) (by omega))) rfl ?_
          refine b_ri rfl rfl ?_
          show ex_q (dt_fg L ρ) rc (d + 1, (28, 45, [some (eR a0), some (eI (a1)), some (eI (a2)), some (eI (a3)), some (eI (a4)), some (eI (a5))], [eI (v54), eI (v41), eR v17]), f :: F, m34)
          refine j_as (np := 46) rfl rfl I35 b19 (by decide) (n := 100) rfl rfl (lo := 0) (hi := 9) (fun _ => rfl) (by omega) (by omega) (by omega) ?_
          intro m57 I58 W59
          have F60 : Fr l_28 0 0 g μ m57 := F37.v W59 b19 rfl rfl
          exact v_rv rfl rfl (K m57 I58 F60)
    · refine w_t (np := 15) (l2 := [some (eI (a4)), some (eI (10)), some (eI (v24))]) (s2 := [eI (v24)]) rfl rfl rfl ?_
      refine w_t (np := 16) (l2 := [some (eI (a4)), some (eI (10)), some (eI (v24))]) (s2 := [eI (10), eI (v24)]) rfl rfl rfl ?_
      obtain ⟨v34, e35⟩ : ∃ zz : Int, zz = (v24) + (10) := ⟨_, rfl⟩
      have b36 : 1 ≤ v34 ∧ v34 ≤ 19 := by omega
      refine w_t (np := 17) (l2 := [some (eI (a4)), some (eI (10)), some (eI (v24))]) (s2 := [eI (v34)]) rfl (b_iadd (by rw [← e35]; exact ev_w_in (by omega) (by omega))) rfl ?_
      refine b_ri rfl rfl ?_
      show ex_q (dt_fg L ρ) rc (d + 1, (28, 28, [some (eR a0), some (eI (a1)), some (eI (a2)), some (eI (a3)), some (eI (a4)), some (eI (a5))], [eI (v34), eI (v21), eR v17]), f :: F, m13)
      refine j_as (np := 29) rfl rfl I14 b19 (by decide) (n := 100) rfl rfl (lo := 0) (hi := 9) (fun _ => rfl) (by omega) (by omega) (by omega) ?_
      intro m37 I38 W39
      have F40 : Fr l_28 0 0 g μ m37 := F16.v W39 b19 rfl rfl
      refine w_t (np := 30) (l2 := [some (eR a0), some (eI (a1)), some (eI (a2)), some (eI (a3)), some (eI (a4)), some (eI (a5))]) (s2 := [eR a0]) rfl (s_an rfl (pos_g I38 gA0 (by decide))) rfl ?_
      refine w_gf (np := 33) (v := eR v17) rfl rfl (I38.kd gA0 (by decide) (n := 8) rfl) (by rw [(W39.addr e18 b19 gA0 (by decide))]; rfl) ?_
      refine w_t (np := 34) (l2 := [some (eR a0), some (eI (a1)), some (eI (a2)), some (eI (a3)), some (eI (a4)), some (eI (a5))]) (s2 := [eI (2), eR v17]) rfl rfl rfl ?_
      refine w_t (np := 35) (l2 := [some (eR a0), some (eI (a1)), some (eI (a2)), some (eI (a3)), some (eI (a4)), some (eI (a5))]) (s2 := [eI (a1), eI (2), eR v17]) rfl rfl rfl ?_
      obtain ⟨v41, e42⟩ : ∃ zz : Int, zz = (2) * (a1) := ⟨_, rfl⟩
      have b43 : 0 ≤ v41 ∧ v41 ≤ 98 := by omega
      refine w_t (np := 36) (l2 := [some (eR a0), some (eI (a1)), some (eI (a2)), some (eI (a3)), some (eI (a4)), some (eI (a5))]) (s2 := [eI (v41), eR v17]) rfl (b_imul (by rw [← e42]; exact ev_w_in (by omega) (by omega))) rfl ?_
      refine w_t (np := 37) (l2 := [some (eR a0), some (eI (a1)), some (eI (a2)), some (eI (a3)), some (eI (a4)), some (eI (a5))]) (s2 := [eI (1), eI (v41), eR v17]) rfl rfl rfl ?_
      obtain ⟨v44, e45⟩ : ∃ zz : Int, zz = (v41) + (1) := ⟨_, rfl⟩
      have b46 : 1 ≤ v44 ∧ v44 ≤ 99 := by omega
      refine w_t (np := 38) (l2 := [some (eR a0), some (eI (a1)), some (eI (a2)), some (eI (a3)), some (eI (a4)), some (eI (a5))]) (s2 := [eI (v44), eR v17]) rfl (b_iadd (by rw [← e45]; exact ev_w_in (by omega) (by omega))) rfl ?_
      refine w_t (np := 40) (l2 := [some (eR a0), some (eI (a1)), some (eI (a2)), some (eI (a3)), some (eI (a4)), some (eI (a5))]) (s2 := [eI (a5), eI (v44), eR v17]) rfl rfl rfl ?_
      refine w_t (np := 42) (l2 := [some (eR a0), some (eI (a1)), some (eI (a2)), some (eI (a3)), some (eI (a4)), some (eI (a5))]) (s2 := [eI (10), eI (a5), eI (v44), eR v17]) rfl rfl rfl ?_
      refine w_cu (np := 45) (as := [eI (a5), eI (10)]) (l2 := [some (eI (a5)), some (eI (10)), none]) (rest := [eI (v44), eR v17]) rfl rfl rfl (Nat.ble_eq.mp rfl) rfl rfl rfl rfl ?_
      refine w_t (np := 1) (l2 := [some (eI (a5)), some (eI (10)), none]) (s2 := [eI (a5)]) rfl rfl rfl ?_
      refine w_t (np := 2) (l2 := [some (eI (a5)), some (eI (10)), none]) (s2 := [eI (10), eI (a5)]) rfl rfl rfl ?_
      obtain ⟨v47, e48, b49⟩ := h_irem (a := a5) (k := 10) (by decide) (by decide) bA5
      have b50 : -9 ≤ v47 ∧ v47 ≤ 9 := by omega
      refine w_t (np := 3) (l2 := [some (eI (a5)), some (eI (10)), none]) (s2 := [eI (v47)]) rfl (e48 _ _) rfl ?_
      refine w_t (np := 4) (l2 := [some (eI (a5)), some (eI (10)), some (eI (v47))]) (s2 := []) rfl rfl rfl ?_
      refine w_t (np := 5) (l2 := [some (eI (a5)), some (eI (10)), some (eI (v47))]) (s2 := [eI (a5)]) rfl rfl rfl ?_
      refine w_t (np := 6) (l2 := [some (eI (a5)), some (eI (10)), some (eI (v47))]) (s2 := [eI (10), eI (a5)]) rfl rfl rfl ?_
      obtain ⟨v51, e52, b53, h54⟩ := h_ixor2 (a := a5) (b := 10) (by omega) (by decide) (by decide)
      refine w_t (np := 7) (l2 := [some (eI (a5)), some (eI (10)), some (eI (v47))]) (s2 := [eI (v51)]) rfl (e52 _ _) rfl ?_
      refine b_ige (t1 := 18) (t2 := 10) rfl rfl rfl (ev_w_in (by omega) (by omega)) (fun g55 => ?_) (fun g55 => ?_)
      · have b56 : 0 ≤ v51 ∧ v51 ≤ 2147483647 := by omega
        refine w_t (np := 19) (l2 := [some (eI (a5)), some (eI (10)), some (eI (v47))]) (s2 := [eI (v47)]) rfl rfl rfl ?_
        refine b_ri rfl rfl ?_
        show ex_q (dt_fg L ρ) rc (d + 1, (28, 45, [some (eR a0), some (eI (a1)), some (eI (a2)), some (eI (a3)), some (eI (a4)), some (eI (a5))], [eI (v47), eI (v44), eR v17]), f :: F, m37)
        refine j_as (np := 46) rfl rfl I38 b19 (by decide) (n := 100) rfl rfl (lo := 0) (hi := 9) (fun _ => rfl) (by omega) (by omega) (by omega) ?_
        intro m56 I57 W58
        have F59 : Fr l_28 0 0 g μ m56 := F40.v W58 b19 rfl rfl
        exact v_rv rfl rfl (K m56 I57 F59)
      · have b56 : -2147483648 ≤ v51 ∧ v51 ≤ -1 := by omega
        refine w_t (np := 11) (l2 := [some (eI (a5)), some (eI (10)), some (eI (v47))]) (s2 := [eI (v47)]) rfl rfl rfl ?_
        refine b_ieq (t1 := 18) (t2 := 14) rfl rfl rfl (ev_w_in (by omega) (by omega)) (fun g56 => ?_) (fun g56 => ?_)
        · have b57 : 0 ≤ v47 ∧ v47 ≤ 0 := by omega
          refine w_t (np := 19) (l2 := [some (eI (a5)), some (eI (10)), some (eI (v47))]) (s2 := [eI (v47)]) rfl rfl rfl ?_
          refine b_ri rfl rfl ?_
          show ex_q (dt_fg L ρ) rc (d + 1, (28, 45, [some (eR a0), some (eI (a1)), some (eI (a2)), some (eI (a3)), some (eI (a4)), some (eI (a5))], [eI (v47), eI (v44), eR v17]), f :: F, m37)
          refine j_as (np := 46) rfl rfl I38 b19 (by decide) (n := 100) rfl rfl (lo := 0) (hi := 9) (fun _ => rfl) (by omega) (by omega) (by omega) ?_
          intro m57 I58 W59
          have F60 : Fr l_28 0 0 g μ m57 := F40.v W59 b19 rfl rfl
          exact v_rv rfl rfl (K m57 I58 F60)
        · refine w_t (np := 15) (l2 := [some (eI (a5)), some (eI (10)), some (eI (v47))]) (s2 := [eI (v47)]) rfl rfl rfl ?_
          refine w_t (np := 16) (l2 := [some (eI (a5)), some (eI (10)), some (eI (v47))]) (s2 := [eI (10), eI (v47)]) rfl rfl rfl ?_
          obtain ⟨v57, e58⟩ : ∃ zz : Int, zz = (v47) + (10) := ⟨_, rfl⟩
          have b59 : 1 ≤ v57 ∧ v57 ≤ 19 := by omega
          refine w_t (np := 17) (l2 := [some (eI (a5)), some (eI (10)), some (eI (v47))]) (s2 := [eI (v57)]) rfl (b_iadd (by rw [← e58]; exact ev_w_in (by omega) (by omega))) rfl ?_
          refine b_ri rfl rfl ?_
          show ex_q (dt_fg L ρ) rc (d + 1, (28, 45, [some (eR a0), some (eI (a1)), some (eI (a2)), some (eI (a3)), some (eI (a4)), some (eI (a5))], [eI (v57), eI (v44), eR v17]), f :: F, m37)
          refine j_as (np := 46) rfl rfl I38 b19 (by decide) (n := 100) rfl rfl (lo := 0) (hi := 9) (fun _ => rfl) (by omega) (by omega) (by omega) ?_
          intro m60 I61 W62
          have F63 : Fr l_28 0 0 g μ m60 := F40.v W62 b19 rfl rfl
          exact v_rv rfl rfl (K m60 I61 F63)
def l_28_2 : List Nat := [2304, 2816, 2048]
theorem s_28_2 {L : Nat} {ρ : Nat → Int} {rc : eQ} {d : Nat} {f : eFr} {F : List eFr} {μ : eM} {g : Nat → Nat} {a0 : Nat} {a1 : Int} {a2 : Int} {a3 : Int} {a4 : Int} {a5 : Int} (hI : SI g μ) (gA0 : g a0 = 7) (bA1 : 0 ≤ a1 ∧ a1 ≤ 889) (bA2 : 0 ≤ a2 ∧ a2 ≤ 1) (bA3 : -2147483648 ≤ a3 ∧ a3 ≤ 2147483647) (bA4 : -2147483648 ≤ a4 ∧ a4 ≤ 2147483647) (bA5 : -2147483648 ≤ a5 ∧ a5 ≤ 2147483647) (K : ∀ (μ2 : eM), SI g μ2 → Fr l_28_2 0 0 g μ μ2 → ex_q (dt_fg L ρ) rc (d + 2, (f.1, f.2.1, f.2.2.1, f.2.2.2), F, μ2)) : ex_q (dt_fg L ρ) rc (d + 1, (28, 0, [some (eR a0), some (eI (a1)), some (eI (a2)), some (eI (a3)), some (eI (a4)), some (eI (a5))], []), f :: F, μ) := by
  have F0 : Fr l_28_2 0 0 g μ μ := Fr.r
  refine w_t (np := 1) (l2 := [some (eR a0), some (eI (a1)), some (eI (a2)), some (eI (a3)), some (eI (a4)), some (eI (a5))]) (s2 := [eR a0]) rfl (s_an rfl (pos_g hI gA0 (by decide))) rfl ?_
  refine j_gr (np := 4) rfl rfl hI gA0 (by decide) (n := 8) rfl rfl rfl ?_
  intro v1 e2 b3 z4
  have b3 : g v1 = 8 := Nat.eq_of_beq_eq_true b3
  refine w_t (np := 5) (l2 := [some (eR a0), some (eI (a1)), some (eI (a2)), some (eI (a3)), some (eI (a4)), some (eI (a5))]) (s2 := [eI (a1), eR v1]) rfl rfl rfl ?_
  refine w_t (np := 6) (l2 := [some (eR a0), some (eI (a1)), some (eI (a2)), some (eI (a3)), some (eI (a4)), some (eI (a5))]) (s2 := [eI (a2), eI (a1), eR v1]) rfl rfl rfl ?_
  refine j_as (np := 7) rfl rfl hI b3 (by decide) (n := 890) rfl rfl (lo := 0) (hi := 1) (fun _ => rfl) (by omega) (by omega) (by omega) ?_
  intro m5 I6 W7
  have F8 : Fr l_28_2 0 0 g μ m5 := F0.v W7 b3 rfl rfl
  refine w_t (np := 8) (l2 := [some (eR a0), some (eI (a1)), some (eI (a2)), some (eI (a3)), some (eI (a4)), some (eI (a5))]) (s2 := [eR a0]) rfl (s_an rfl (pos_g I6 gA0 (by decide))) rfl ?_
  refine j_gr (np := 11) rfl rfl I6 gA0 (by decide) (n := 8) rfl rfl rfl ?_
  intro v9 e10 b11 z12
  have b11 : g v9 = 9 := Nat.eq_of_beq_eq_true b11
  refine w_t (np := 12) (l2 := [some (eR a0), some (eI (a1)), some (eI (a2)), some (eI (a3)), some (eI (a4)), some (eI (a5))]) (s2 := [eI (a1), eR v9]) rfl rfl rfl ?_
  refine w_t (np := 13) (l2 := [some (eR a0), some (eI (a1)), some (eI (a2)), some (eI (a3)), some (eI (a4)), some (eI (a5))]) (s2 := [eI (a3), eI (a1), eR v9]) rfl rfl rfl ?_
  refine j_as (np := 14) rfl rfl I6 b11 (by decide) (n := 890) rfl rfl (lo := -2147483648) (hi := 2147483647) (fun _ => rfl) (by omega) (by omega) (by omega) ?_
  intro m13 I14 W15
  have F16 : Fr l_28_2 0 0 g μ m13 := F8.v W15 b11 rfl rfl
  refine w_t (np := 15) (l2 := [some (eR a0), some (eI (a1)), some (eI (a2)), some (eI (a3)), some (eI (a4)), some (eI (a5))]) (s2 := [eR a0]) rfl (s_an rfl (pos_g I14 gA0 (by decide))) rfl ?_
  refine j_gr (np := 18) rfl rfl I14 gA0 (by decide) (n := 8) rfl rfl rfl ?_
  intro v17 e18 b19 z20
  have b19 : g v17 = 11 := Nat.eq_of_beq_eq_true b19
  refine w_t (np := 19) (l2 := [some (eR a0), some (eI (a1)), some (eI (a2)), some (eI (a3)), some (eI (a4)), some (eI (a5))]) (s2 := [eI (2), eR v17]) rfl rfl rfl ?_
  refine w_t (np := 20) (l2 := [some (eR a0), some (eI (a1)), some (eI (a2)), some (eI (a3)), some (eI (a4)), some (eI (a5))]) (s2 := [eI (a1), eI (2), eR v17]) rfl rfl rfl ?_
  obtain ⟨v21, e22⟩ : ∃ zz : Int, zz = (2) * (a1) := ⟨_, rfl⟩
  have b23 : 0 ≤ v21 ∧ v21 ≤ 1778 := by omega
  refine w_t (np := 21) (l2 := [some (eR a0), some (eI (a1)), some (eI (a2)), some (eI (a3)), some (eI (a4)), some (eI (a5))]) (s2 := [eI (v21), eR v17]) rfl (b_imul (by rw [← e22]; exact ev_w_in (by omega) (by omega))) rfl ?_
  refine w_t (np := 23) (l2 := [some (eR a0), some (eI (a1)), some (eI (a2)), some (eI (a3)), some (eI (a4)), some (eI (a5))]) (s2 := [eI (a4), eI (v21), eR v17]) rfl rfl rfl ?_
  refine w_t (np := 25) (l2 := [some (eR a0), some (eI (a1)), some (eI (a2)), some (eI (a3)), some (eI (a4)), some (eI (a5))]) (s2 := [eI (10), eI (a4), eI (v21), eR v17]) rfl rfl rfl ?_
  refine w_cu (np := 28) (as := [eI (a4), eI (10)]) (l2 := [some (eI (a4)), some (eI (10)), none]) (rest := [eI (v21), eR v17]) rfl rfl rfl (Nat.ble_eq.mp rfl) rfl rfl rfl rfl ?_
  refine w_t (np := 1) (l2 := [some (eI (a4)), some (eI (10)), none]) (s2 := [eI (a4)]) rfl rfl rfl ?_
  refine w_t (np := 2) (l2 := [some (eI (a4)), some (eI (10)), none]) (s2 := [eI (10), eI (a4)]) rfl rfl rfl ?_
  obtain ⟨v24, e25, b26⟩ := h_irem (a := a4) (k := 10) (by decide) (by decide) bA4
  have b27 : -9 ≤ v24 ∧ v24 ≤ 9 := by omega
  refine w_t (np := 3) (l2 := [some (eI (a4)), some (eI (10)), none]) (s2 := [eI (v24)]) rfl (e25 _ _) rfl ?_
  refine w_t (np := 4) (l2 := [some (eI (a4)), some (eI (10)), some (eI (v24))]) (s2 := []) rfl rfl rfl ?_
  refine w_t (np := 5) (l2 := [some (eI (a4)), some (eI (10)), some (eI (v24))]) (s2 := [eI (a4)]) rfl rfl rfl ?_
  refine w_t (np := 6) (l2 := [some (eI (a4)), some (eI (10)), some (eI (v24))]) (s2 := [eI (10), eI (a4)]) rfl rfl rfl ?_
  obtain ⟨v28, e29, b30, h31⟩ := h_ixor2 (a := a4) (b := 10) (by omega) (by decide) (by decide)
  refine w_t (np := 7) (l2 := [some (eI (a4)), some (eI (10)), some (eI (v24))]) (s2 := [eI (v28)]) rfl (e29 _ _) rfl ?_
  refine b_ige (t1 := 18) (t2 := 10) rfl rfl rfl (ev_w_in (by omega) (by omega)) (fun g32 => ?_) (fun g32 => ?_)
  · have b33 : 0 ≤ v28 ∧ v28 ≤ 2147483647 := by omega
    refine w_t (np := 19) (l2 := [some (eI (a4)), some (eI (10)), some (eI (v24))]) (s2 := [eI (v24)]) rfl rfl rfl ?_
    refine b_ri rfl rfl ?_
    show ex_q (dt_fg L ρ) rc (d + 1, (28, 28, [some (eR a0), some (eI (a1)), some (eI (a2)), some (eI (a3)), some (eI (a4)), some (eI (a5))], [eI (v24), eI (v21), eR v17]), f :: F, m13)
    refine j_as (np := 29) rfl rfl I14 b19 (by decide) (n := 1780) rfl rfl (lo := 0) (hi := 9) (fun _ => rfl) (by omega) (by omega) (by omega) ?_
    intro m33 I34 W35
    have F36 : Fr l_28_2 0 0 g μ m33 := F16.v W35 b19 rfl rfl
    refine w_t (np := 30) (l2 := [some (eR a0), some (eI (a1)), some (eI (a2)), some (eI (a3)), some (eI (a4)), some (eI (a5))]) (s2 := [eR a0]) rfl (s_an rfl (pos_g I34 gA0 (by decide))) rfl ?_
    refine w_gf (np := 33) (v := eR v17) rfl rfl (I34.kd gA0 (by decide) (n := 8) rfl) (by rw [(W35.addr e18 b19 gA0 (by decide))]; rfl) ?_
    refine w_t (np := 34) (l2 := [some (eR a0), some (eI (a1)), some (eI (a2)), some (eI (a3)), some (eI (a4)), some (eI (a5))]) (s2 := [eI (2), eR v17]) rfl rfl rfl ?_
    refine w_t (np := 35) (l2 := [some (eR a0), some (eI (a1)), some (eI (a2)), some (eI (a3)), some (eI (a4)), some (eI (a5))]) (s2 := [eI (a1), eI (2), eR v17]) rfl rfl rfl ?_
    obtain ⟨v37, e38⟩ : ∃ zz : Int, zz = (2) * (a1) := ⟨_, rfl⟩
    have b39 : 0 ≤ v37 ∧ v37 ≤ 1778 := by omega
    refine w_t (np := 36) (l2 := [some (eR a0), some (eI (a1)), some (eI (a2)), some (eI (a3)), some (eI (a4)), some (eI (a5))]) (s2 := [eI (v37), eR v17]) rfl (b_imul (by rw [← e38]; exact ev_w_in (by omega) (by omega))) rfl ?_
    refine w_t (np := 37) (l2 := [some (eR a0), some (eI (a1)), some (eI (a2)), some (eI (a3)), some (eI (a4)), some (eI (a5))]) (s2 := [eI (1), eI (v37), eR v17]) rfl rfl rfl ?_
    obtain ⟨v40, e41⟩ : ∃ zz : Int, zz = (v37) + (1) := ⟨_, rfl⟩
    have b42 : 1 ≤ v40 ∧ v40 ≤ 1779 := by omega
    refine w_t (np := 38) (l2 := [some (eR a0), some (eI (a1)), some (eI (a2)), some (eI (a3)), some (eI (a4)), some (eI (a5))]) (s2 := [eI (v40), eR v17]) rfl (b_iadd (by rw [← e41]; exact ev_w_in (by omega) (by omega))) rfl ?_
    refine w_t (np := 40) (l2 := [some (eR a0), some (eI (a1)), some (eI (a2)), some (eI (a3)), some (eI (a4)), some (eI (a5))]) (s2 := [eI (a5), eI (v40), eR v17]) rfl rfl rfl ?_
    refine w_t (np := 42) (l2 := [some (eR a0), some (eI (a1)), some (eI (a2)), some (eI (a3)), some (eI (a4)), some (eI (a5))]) (s2 := [eI (10), eI (a5), eI (v40), eR v17]) rfl rfl rfl ?_
    refine w_cu (np := 45) (as := [eI (a5), eI (10)]) (l2 := [some (eI (a5)), some (eI (10)), none]) (rest := [eI (v40), eR v17]) rfl rfl rfl (Nat.ble_eq.mp rfl) rfl rfl rfl rfl ?_
    refine w_t (np := 1) (l2 := [some (eI (a5)), some (eI (10)), none]) (s2 := [eI (a5)]) rfl rfl rfl ?_
    refine w_t (np := 2) (l2 := [some (eI (a5)), some (eI (10)), none]) (s2 := [eI (10), eI (a5)]) rfl rfl rfl ?_
    obtain ⟨v43, e44, b45⟩ := h_irem (a := a5) (k := 10) (by decide) (by decide) bA5
    have b46 : -9 ≤ v43 ∧ v43 ≤ 9 := by omega
    refine w_t (np := 3) (l2 := [some (eI (a5)), some (eI (10)), none]) (s2 := [eI (v43)]) rfl (e44 _ _) rfl ?_
    refine w_t (np := 4) (l2 := [some (eI (a5)), some (eI (10)), some (eI (v43))]) (s2 := []) rfl rfl rfl ?_
    refine w_t (np := 5) (l2 := [some (eI (a5)), some (eI (10)), some (eI (v43))]) (s2 := [eI (a5)]) rfl rfl rfl ?_
    refine w_t (np := 6) (l2 := [some (eI (a5)), some (eI (10)), some (eI (v43))]) (s2 := [eI (10), eI (a5)]) rfl rfl rfl ?_
    obtain ⟨v47, e48, b49, h50⟩ := h_ixor2 (a := a5) (b := 10) (by omega) (by decide) (by decide)
    refine w_t (np := 7) (l2 := [some (eI (a5)), some (eI (10)), some (eI (v43))]) (s2 := [eI (v47)]) rfl (e48 _ _) rfl ?_
    refine b_ige (t1 := 18) (t2 := 10) rfl rfl rfl (ev_w_in (by omega) (by omega)) (fun g51 => ?_) (fun g51 => ?_)
    · have b52 : 0 ≤ v47 ∧ v47 ≤ 2147483647 := by omega
      refine w_t (np := 19) (l2 := [some (eI (a5)), some (eI (10)), some (eI (v43))]) (s2 := [eI (v43)]) rfl rfl rfl ?_
      refine b_ri rfl rfl ?_
      show ex_q (dt_fg L ρ) rc (d + 1, (28, 45, [some (eR a0), some (eI (a1)), some (eI (a2)), some (eI (a3)), some (eI (a4)), some (eI (a5))], [eI (v43), eI (v40), eR v17]), f :: F, m33)
      refine j_as (np := 46) rfl rfl I34 b19 (by decide) (n := 1780) rfl rfl (lo := 0) (hi := 9) (fun _ => rfl) (by omega) (by omega) (by omega) ?_
      intro m52 I53 W54
      have F55 : Fr l_28_2 0 0 g μ m52 := F36.v W54 b19 rfl rfl
      exact v_rv rfl rfl (K m52 I53 F55)
    · have b52 : -2147483648 ≤ v47 ∧ v47 ≤ -1 := by omega
      refine w_t (np := 11) (l2 := [some (eI (a5)), some (eI (10)), some (eI (v43))]) (s2 := [eI (v43)]) rfl rfl rfl ?_
      refine b_ieq (t1 := 18) (t2 := 14) rfl rfl rfl (ev_w_in (by omega) (by omega)) (fun g52 => ?_) (fun g52 => ?_)
      · have b53 : 0 ≤ v43 ∧ v43 ≤ 0 := by omega
        refine w_t (np := 19) (l2 := [some (eI (a5)), some (eI (10)), some (eI (v43))]) (s2 := [eI (v43)]) rfl rfl rfl ?_
        refine b_ri rfl rfl ?_
        show ex_q (dt_fg L ρ) rc (d + 1, (28, 45, [some (eR a0), some (eI (a1)), some (eI (a2)), some (eI (a3)), some (eI (a4)), some (eI (a5))], [eI (v43), eI (v40), eR v17]), f :: F, m33)
        refine j_as (np := 46) rfl rfl I34 b19 (by decide) (n := 1780) rfl rfl (lo := 0) (hi := 9) (fun _ => rfl) (by omega) (by omega) (by omega) ?_
        intro m53 I54 W55
        have F56 : Fr l_28_2 0 0 g μ m53 := F36.v W55 b19 rfl rfl
        exact v_rv rfl rfl (K m53 I54 F56)
      · refine w_t (np := 15) (l2 := [some (eI (a5)), some (eI (10)), some (eI (v43))]) (s2 := [eI (v43)]) rfl rfl rfl ?_
        refine w_t (np := 16) (l2 := [some (eI (a5)), some (eI (10)), some (eI (v43))]) (s2 := [eI (10), eI (v43)]) rfl rfl rfl ?_
        obtain ⟨v53, e54⟩ : ∃ zz : Int, zz = (v43) + (10) := ⟨_, rfl⟩
        have b55 : 1 ≤ v53 ∧ v53 ≤ 19 := by omega
        refine w_t (np := 17) (l2 := [some (eI (a5)), some (eI (10)), some (eI (v43))]) (s2 := [eI (v53)]) rfl (b_iadd (by rw [← e54]; exact ev_w_in (by omega) (by omega))) rfl ?_
        refine b_ri rfl rfl ?_
        show ex_q (dt_fg L ρ) rc (d + 1, (28, 45, [some (eR a0), some (eI (a1)), some (eI (a2)), some (eI (a3)), some (eI (a4)), some (eI (a5))], [eI (v53), eI (v40), eR v17]), f :: F, m33)
        refine j_as (np := 46) rfl rfl I34 b19 (by decide) (n := 1780) rfl rfl (lo := 0) (hi := 9) (fun _ => rfl) (by omega) (by omega) (by omega) ?_
        intro m56 I57 W58
        have F59 : Fr l_28_2 0 0 g μ m56 := F36.v W58 b19 rfl rfl
        exact v_rv rfl rfl (K m56 I57 F59)
  · have b33 : -2147483648 ≤ v28 ∧ v28 ≤ -1 := by omega
    refine w_t (np := 11) (l2 := [some (eI (a4)), some (eI (10)), some (eI (v24))]) (s2 := [eI (v24)]) rfl rfl rfl ?_
    refine b_ieq (t1 := 18) (t2 := 14) rfl rfl rfl (ev_w_in (by omega) (by omega)) (fun g33 => ?_) (fun g33 => ?_)
    · have b34 : 0 ≤ v24 ∧ v24 ≤ 0 := by omega
      refine w_t (np := 19) (l2 := [some (eI (a4)), some (eI (10)), some (eI (v24))]) (s2 := [eI (v24)]) rfl rfl rfl ?_
      refine b_ri rfl rfl ?_
      show ex_q (dt_fg L ρ) rc (d + 1, (28, 28, [some (eR a0), some (eI (a1)), some (eI (a2)), some (eI (a3)), some (eI (a4)), some (eI (a5))], [eI (v24), eI (v21), eR v17]), f :: F, m13)
      refine j_as (np := 29) rfl rfl I14 b19 (by decide) (n := 1780) rfl rfl (lo := 0) (hi := 9) (fun _ => rfl) (by omega) (by omega) (by omega) ?_
      intro m34 I35 W36
      have F37 : Fr l_28_2 0 0 g μ m34 := F16.v W36 b19 rfl rfl
      refine w_t (np := 30) (l2 := [some (eR a0), some (eI (a1)), some (eI (a2)), some (eI (a3)), some (eI (a4)), some (eI (a5))]) (s2 := [eR a0]) rfl (s_an rfl (pos_g I35 gA0 (by decide))) rfl ?_
      refine w_gf (np := 33) (v := eR v17) rfl rfl (I35.kd gA0 (by decide) (n := 8) rfl) (by rw [(W36.addr e18 b19 gA0 (by decide))]; rfl) ?_
      refine w_t (np := 34) (l2 := [some (eR a0), some (eI (a1)), some (eI (a2)), some (eI (a3)), some (eI (a4)), some (eI (a5))]) (s2 := [eI (2), eR v17]) rfl rfl rfl ?_
      refine w_t (np := 35) (l2 := [some (eR a0), some (eI (a1)), some (eI (a2)), some (eI (a3)), some (eI (a4)), some (eI (a5))]) (s2 := [eI (a1), eI (2), eR v17]) rfl rfl rfl ?_
      obtain ⟨v38, e39⟩ : ∃ zz : Int, zz = (2) * (a1) := ⟨_, rfl⟩
      have b40 : 0 ≤ v38 ∧ v38 ≤ 1778 := by omega
      refine w_t (np := 36) (l2 := [some (eR a0), some (eI (a1)), some (eI (a2)), some (eI (a3)), some (eI (a4)), some (eI (a5))]) (s2 := [eI (v38), eR v17]) rfl (b_imul (by rw [← e39]; exact ev_w_in (by omega) (by omega))) rfl ?_
      refine w_t (np := 37) (l2 := [some (eR a0), some (eI (a1)), some (eI (a2)), some (eI (a3)), some (eI (a4)), some (eI (a5))]) (s2 := [eI (1), eI (v38), eR v17]) rfl rfl rfl ?_
      obtain ⟨v41, e42⟩ : ∃ zz : Int, zz = (v38) + (1) := ⟨_, rfl⟩
      have b43 : 1 ≤ v41 ∧ v41 ≤ 1779 := by omega
      refine w_t (np := 38) (l2 := [some (eR a0), some (eI (a1)), some (eI (a2)), some (eI (a3)), some (eI (a4)), some (eI (a5))]) (s2 := [eI (v41), eR v17]) rfl (b_iadd (by rw [← e42]; exact ev_w_in (by omega) (by omega))) rfl ?_
      refine w_t (np := 40) (l2 := [some (eR a0), some (eI (a1)), some (eI (a2)), some (eI (a3)), some (eI (a4)), some (eI (a5))]) (s2 := [eI (a5), eI (v41), eR v17]) rfl rfl rfl ?_
      refine w_t (np := 42) (l2 := [some (eR a0), some (eI (a1)), some (eI (a2)), some (eI (a3)), some (eI (a4)), some (eI (a5))]) (s2 := [eI (10), eI (a5), eI (v41), eR v17]) rfl rfl rfl ?_
      refine w_cu (np := 45) (as := [eI (a5), eI (10)]) (l2 := [some (eI (a5)), some (eI (10)), none]) (rest := [eI (v41), eR v17]) rfl rfl rfl (Nat.ble_eq.mp rfl) rfl rfl rfl rfl ?_
      refine w_t (np := 1) (l2 := [some (eI (a5)), some (eI (10)), none]) (s2 := [eI (a5)]) rfl rfl rfl ?_
      refine w_t (np := 2) (l2 := [some (eI (a5)), some (eI (10)), none]) (s2 := [eI (10), eI (a5)]) rfl rfl rfl ?_
      obtain ⟨v44, e45, b46⟩ := h_irem (a := a5) (k := 10) (by decide) (by decide) bA5
      have b47 : -9 ≤ v44 ∧ v44 ≤ 9 := by omega
      refine w_t (np := 3) (l2 := [some (eI (a5)), some (eI (10)), none]) (s2 := [eI (v44)]) rfl (e45 _ _) rfl ?_
      refine w_t (np := 4) (l2 := [some (eI (a5)), some (eI (10)), some (eI (v44))]) (s2 := []) rfl rfl rfl ?_
      refine w_t (np := 5) (l2 := [some (eI (a5)), some (eI (10)), some (eI (v44))]) (s2 := [eI (a5)]) rfl rfl rfl ?_
      refine w_t (np := 6) (l2 := [some (eI (a5)), some (eI (10)), some (eI (v44))]) (s2 := [eI (10), eI (a5)]) rfl rfl rfl ?_
      obtain ⟨v48, e49, b50, h51⟩ := h_ixor2 (a := a5) (b := 10) (by omega) (by decide) (by decide)
      refine w_t (np := 7) (l2 := [some (eI (a5)), some (eI (10)), some (eI (v44))]) (s2 := [eI (v48)]) rfl (e49 _ _) rfl ?_
      refine b_ige (t1 := 18) (t2 := 10) rfl rfl rfl (ev_w_in (by omega) (by omega)) (fun g52 => ?_) (fun g52 => ?_)
      · have b53 : 0 ≤ v48 ∧ v48 ≤ 2147483647 := by omega
        refine w_t (np := 19) (l2 := [some (eI (a5)), some (eI (10)), some (eI (v44))]) (s2 := [eI (v44)]) rfl rfl rfl ?_
        refine b_ri rfl rfl ?_
        show ex_q (dt_fg L ρ) rc (d + 1, (28, 45, [some (eR a0), some (eI (a1)), some (eI (a2)), some (eI (a3)), some (eI (a4)), some (eI (a5))], [eI (v44), eI (v41), eR v17]), f :: F, m34)
        refine j_as (np := 46) rfl rfl I35 b19 (by decide) (n := 1780) rfl rfl (lo := 0) (hi := 9) (fun _ => rfl) (by omega) (by omega) (by omega) ?_
        intro m53 I54 W55
        have F56 : Fr l_28_2 0 0 g μ m53 := F37.v W55 b19 rfl rfl
        exact v_rv rfl rfl (K m53 I54 F56)
      · have b53 : -2147483648 ≤ v48 ∧ v48 ≤ -1 := by omega
        refine w_t (np := 11) (l2 := [some (eI (a5)), some (eI (10)), some (eI (v44))]) (s2 := [eI (v44)]) rfl rfl rfl ?_
        refine b_ieq (t1 := 18) (t2 := 14) rfl rfl rfl (ev_w_in (by omega) (by omega)) (fun g53 => ?_) (fun g53 => ?_)
        · have b54 : 0 ≤ v44 ∧ v44 ≤ 0 := by omega
          refine w_t (np := 19) (l2 := [some (eI (a5)), some (eI (10)), some (eI (v44))]) (s2 := [eI (v44)]) rfl rfl rfl ?_
          refine b_ri rfl rfl ?_
          show ex_q (dt_fg L ρ) rc (d + 1, (28, 45, [some (eR a0), some (eI (a1)), some (eI (a2)), some (eI (a3)), some (eI (a4)), some (eI (a5))], [eI (v44), eI (v41), eR v17]), f :: F, m34)
          refine j_as (np := 46) rfl rfl I35 b19 (by decide) (n := 1780) rfl rfl (lo := 0) (hi := 9) (fun _ => rfl) (by omega) (by omega) (by omega) ?_
          intro m54 I55 W56
          have F57 : Fr l_28_2 0 0 g μ m54 := F37.v W56 b19 rfl rfl
          exact v_rv rfl rfl (K m54 I55 F57)
        · refine w_t (np := 15) (l2 := [some (eI (a5)), some (eI (10)), some (eI (v44))]) (s2 := [eI (v44)]) rfl rfl rfl ?_
          refine w_t (np := 16) (l2 := [some (eI (a5)), some (eI (10)), some (eI (v44))]) (s2 := [eI (10), eI (v44)]) rfl rfl rfl ?_
          obtain ⟨v54, e55⟩ : ∃ zz : Int, zz = (v44) + (10) := ⟨_, rfl⟩
          have b56 : 1 ≤ v54 ∧ v54 ≤ 19 := by omega
          refine w_t (np := 17) (l2 := [some (eI (a5)), some (eI (10)), some (eI (v44))]) (s2 := [eI (v54)]) rfl (b_iadd (by rw [← e55]; exact ev_w_in (by omega) (by omega))) rfl ?_
          refine b_ri rfl rfl ?_
          show ex_q (dt_fg L ρ) rc (d + 1, (28, 45, [some (eR a0), some (eI (a1)), some (eI (a2)), some (eI (a3)), some (eI (a4)), some (eI (a5))], [eI (v54), eI (v41), eR v17]), f :: F, m34)
          refine j_as (np := 46) rfl rfl I35 b19 (by decide) (n := 1780) rfl rfl (lo := 0) (hi := 9) (fun _ => rfl) (by omega) (by omega) (by omega) ?_
          intro m57 I58 W59
          have F60 : Fr l_28_2 0 0 g μ m57 := F37.v W59 b19 rfl rfl
          exact v_rv rfl rfl (K m57 I58 F60)
    · refine w_t (np := 15) (l2 := [some (eI (a4)), some (eI (10)), some (eI (v24))]) (s2 := [eI (v24)]) rfl rfl rfl ?_
      refine w_t (np := 16) (l2 := [some (eI (a4)), some (eI (10)), some (eI (v24))]) (s2 := [eI (10), eI (v24)]) rfl rfl rfl ?_
      obtain ⟨v34, e35⟩ : ∃ zz : Int, zz = (v24) + (10) := ⟨_, rfl⟩
      have b36 : 1 ≤ v34 ∧ v34 ≤ 19 := by omega
      refine w_t (np := 17) (l2 := [some (eI (a4)), some (eI (10)), some (eI (v24))]) (s2 := [eI (v34)]) rfl (b_iadd (by rw [← e35]; exact ev_w_in (by omega) (by omega))) rfl ?_
      refine b_ri rfl rfl ?_
      show ex_q (dt_fg L ρ) rc (d + 1, (28, 28, [some (eR a0), some (eI (a1)), some (eI (a2)), some (eI (a3)), some (eI (a4)), some (eI (a5))], [eI (v34), eI (v21), eR v17]), f :: F, m13)
      refine j_as (np := 29) rfl rfl I14 b19 (by decide) (n := 1780) rfl rfl (lo := 0) (hi := 9) (fun _ => rfl) (by omega) (by omega) (by omega) ?_
      intro m37 I38 W39
      have F40 : Fr l_28_2 0 0 g μ m37 := F16.v W39 b19 rfl rfl
      refine w_t (np := 30) (l2 := [some (eR a0), some (eI (a1)), some (eI (a2)), some (eI (a3)), some (eI (a4)), some (eI (a5))]) (s2 := [eR a0]) rfl (s_an rfl (pos_g I38 gA0 (by decide))) rfl ?_
      refine w_gf (np := 33) (v := eR v17) rfl rfl (I38.kd gA0 (by decide) (n := 8) rfl) (by rw [(W39.addr e18 b19 gA0 (by decide))]; rfl) ?_
      refine w_t (np := 34) (l2 := [some (eR a0), some (eI (a1)), some (eI (a2)), some (eI (a3)), some (eI (a4)), some (eI (a5))]) (s2 := [eI (2), eR v17]) rfl rfl rfl ?_
      refine w_t (np := 35) (l2 := [some (eR a0), some (eI (a1)), some (eI (a2)), some (eI (a3)), some (eI (a4)), some (eI (a5))]) (s2 := [eI (a1), eI (2), eR v17]) rfl rfl rfl ?_
      obtain ⟨v41, e42⟩ : ∃ zz : Int, zz = (2) * (a1) := ⟨_, rfl⟩
      have b43 : 0 ≤ v41 ∧ v41 ≤ 1778 := by omega
      refine w_t (np := 36) (l2 := [some (eR a0), some (eI (a1)), some (eI (a2)), some (eI (a3)), some (eI (a4)), some (eI (a5))]) (s2 := [eI (v41), eR v17]) rfl (b_imul (by rw [← e42]; exact ev_w_in (by omega) (by omega))) rfl ?_
      refine w_t (np := 37) (l2 := [some (eR a0), some (eI (a1)), some (eI (a2)), some (eI (a3)), some (eI (a4)), some (eI (a5))]) (s2 := [eI (1), eI (v41), eR v17]) rfl rfl rfl ?_
      obtain ⟨v44, e45⟩ : ∃ zz : Int, zz = (v41) + (1) := ⟨_, rfl⟩
      have b46 : 1 ≤ v44 ∧ v44 ≤ 1779 := by omega
      refine w_t (np := 38) (l2 := [some (eR a0), some (eI (a1)), some (eI (a2)), some (eI (a3)), some (eI (a4)), some (eI (a5))]) (s2 := [eI (v44), eR v17]) rfl (b_iadd (by rw [← e45]; exact ev_w_in (by omega) (by omega))) rfl ?_
      refine w_t (np := 40) (l2 := [some (eR a0), some (eI (a1)), some (eI (a2)), some (eI (a3)), some (eI (a4)), some (eI (a5))]) (s2 := [eI (a5), eI (v44), eR v17]) rfl rfl rfl ?_
      refine w_t (np := 42) (l2 := [some (eR a0), some (eI (a1)), some (eI (a2)), some (eI (a3)), some (eI (a4)), some (eI (a5))]) (s2 := [eI (10), eI (a5), eI (v44), eR v17]) rfl rfl rfl ?_
      refine w_cu (np := 45) (as := [eI (a5), eI (10)]) (l2 := [some (eI (a5)), some (eI (10)), none]) (rest := [eI (v44), eR v17]) rfl rfl rfl (Nat.ble_eq.mp rfl) rfl rfl rfl rfl ?_
      refine w_t (np := 1) (l2 := [some (eI (a5)), some (eI (10)), none]) (s2 := [eI (a5)]) rfl rfl rfl ?_
      refine w_t (np := 2) (l2 := [some (eI (a5)), some (eI (10)), none]) (s2 := [eI (10), eI (a5)]) rfl rfl rfl ?_
      obtain ⟨v47, e48, b49⟩ := h_irem (a := a5) (k := 10) (by decide) (by decide) bA5
      have b50 : -9 ≤ v47 ∧ v47 ≤ 9 := by omega
      refine w_t (np := 3) (l2 := [some (eI (a5)), some (eI (10)), none]) (s2 := [eI (v47)]) rfl (e48 _ _) rfl ?_
      refine w_t (np := 4) (l2 := [some (eI (a5)), some (eI (10)), some (eI (v47))]) (s2 := []) rfl rfl rfl ?_
      refine w_t (np := 5) (l2 := [some (eI (a5)), some (eI (10)), some (eI (v47))]) (s2 := [eI (a5)]) rfl rfl rfl ?_
      refine w_t (np := 6) (l2 := [some (eI (a5)), some (eI (10)), some (eI (v47))]) (s2 := [eI (10), eI (a5)]) rfl rfl rfl ?_
      obtain ⟨v51, e52, b53, h54⟩ := h_ixor2 (a := a5) (b := 10) (by omega) (by decide) (by decide)
      refine w_t (np := 7) (l2 := [some (eI (a5)), some (eI (10)), some (eI (v47))]) (s2 := [eI (v51)]) rfl (e52 _ _) rfl ?_
      refine b_ige (t1 := 18) (t2 := 10) rfl rfl rfl (ev_w_in (by omega) (by omega)) (fun g55 => ?_) (fun g55 => ?_)
      · have b56 : 0 ≤ v51 ∧ v51 ≤ 2147483647 := by omega
        refine w_t (np := 19) (l2 := [some (eI (a5)), some (eI (10)), some (eI (v47))]) (s2 := [eI (v47)]) rfl rfl rfl ?_
        refine b_ri rfl rfl ?_
        show ex_q (dt_fg L ρ) rc (d + 1, (28, 45, [some (eR a0), some (eI (a1)), some (eI (a2)), some (eI (a3)), some (eI (a4)), some (eI (a5))], [eI (v47), eI (v44), eR v17]), f :: F, m37)
        refine j_as (np := 46) rfl rfl I38 b19 (by decide) (n := 1780) rfl rfl (lo := 0) (hi := 9) (fun _ => rfl) (by omega) (by omega) (by omega) ?_
        intro m56 I57 W58
        have F59 : Fr l_28_2 0 0 g μ m56 := F40.v W58 b19 rfl rfl
        exact v_rv rfl rfl (K m56 I57 F59)
      · have b56 : -2147483648 ≤ v51 ∧ v51 ≤ -1 := by omega
        refine w_t (np := 11) (l2 := [some (eI (a5)), some (eI (10)), some (eI (v47))]) (s2 := [eI (v47)]) rfl rfl rfl ?_
        refine b_ieq (t1 := 18) (t2 := 14) rfl rfl rfl (ev_w_in (by omega) (by omega)) (fun g56 => ?_) (fun g56 => ?_)
        · have b57 : 0 ≤ v47 ∧ v47 ≤ 0 := by omega
          refine w_t (np := 19) (l2 := [some (eI (a5)), some (eI (10)), some (eI (v47))]) (s2 := [eI (v47)]) rfl rfl rfl ?_
          refine b_ri rfl rfl ?_
          show ex_q (dt_fg L ρ) rc (d + 1, (28, 45, [some (eR a0), some (eI (a1)), some (eI (a2)), some (eI (a3)), some (eI (a4)), some (eI (a5))], [eI (v47), eI (v44), eR v17]), f :: F, m37)
          refine j_as (np := 46) rfl rfl I38 b19 (by decide) (n := 1780) rfl rfl (lo := 0) (hi := 9) (fun _ => rfl) (by omega) (by omega) (by omega) ?_
          intro m57 I58 W59
          have F60 : Fr l_28_2 0 0 g μ m57 := F40.v W59 b19 rfl rfl
          exact v_rv rfl rfl (K m57 I58 F60)
        · refine w_t (np := 15) (l2 := [some (eI (a5)), some (eI (10)), some (eI (v47))]) (s2 := [eI (v47)]) rfl rfl rfl ?_
          refine w_t (np := 16) (l2 := [some (eI (a5)), some (eI (10)), some (eI (v47))]) (s2 := [eI (10), eI (v47)]) rfl rfl rfl ?_
          obtain ⟨v57, e58⟩ : ∃ zz : Int, zz = (v47) + (10) := ⟨_, rfl⟩
          have b59 : 1 ≤ v57 ∧ v57 ≤ 19 := by omega
          refine w_t (np := 17) (l2 := [some (eI (a5)), some (eI (10)), some (eI (v47))]) (s2 := [eI (v57)]) rfl (b_iadd (by rw [← e58]; exact ev_w_in (by omega) (by omega))) rfl ?_
          refine b_ri rfl rfl ?_
          show ex_q (dt_fg L ρ) rc (d + 1, (28, 45, [some (eR a0), some (eI (a1)), some (eI (a2)), some (eI (a3)), some (eI (a4)), some (eI (a5))], [eI (v57), eI (v44), eR v17]), f :: F, m37)
          refine j_as (np := 46) rfl rfl I38 b19 (by decide) (n := 1780) rfl rfl (lo := 0) (hi := 9) (fun _ => rfl) (by omega) (by omega) (by omega) ?_
          intro m60 I61 W62
          have F63 : Fr l_28_2 0 0 g μ m60 := F40.v W62 b19 rfl rfl
          exact v_rv rfl rfl (K m60 I61 F63)
