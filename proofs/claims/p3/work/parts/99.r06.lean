/-! methods, walked -/
def l_306 : List Nat := [13315, 13316, 13317, 13318]
theorem s_306 {L : Nat} {ρ : Nat → Int} {rc : eQ} {d : Nat} {f : eFr} {F : List eFr} {μ : eM} {g : Nat → Nat} {a0 : Nat} {a1 : Nat} {a2 : Nat} (hI : SI g μ) (gA0 : g a0 = 52) (gA1 : g a1 = 83) (gA2 : g a2 = 84) (K : ∀ (μ2 : eM) (v : Int), SI g μ2 → Fr l_306 0 0 g μ μ2 → (0 ≤ v ∧ v ≤ 1) → ex_q (dt_fg L ρ) rc (d + 6, (f.1, f.2.1, f.2.2.1, eI v :: f.2.2.2), F, μ2)) : ex_q (dt_fg L ρ) rc (d + 5, (306, 0, [some (eR a0), some (eR a1), some (eR a2), none, none, none, none, none, none], []), f :: F, μ) := by
  have F0 : Fr l_306 0 0 g μ μ := Fr.r
  refine w_t (np := 1) (l2 := [some (eR a0), some (eR a1), some (eR a2), none, none, none, none, none, none]) (s2 := [eI (0)]) rfl rfl rfl ?_
  refine w_t (np := 2) (l2 := [some (eR a0), some (eR a1), some (eR a2), some (eI (0)), none, none, none, none, none]) (s2 := []) rfl rfl rfl ?_
  have hL2 : ∀ (n1 : Nat) (m10 : eM) (i3 : Int) (o5 : Option eV) (o6 : Option eV) (o7 : Option eV) (o8 : Option eV) (o9 : Option eV), SI g m10 → Fr l_306 0 0 g μ m10 → (0 ≤ i3 ∧ i3 ≤ 4) → n1 = (4 - i3).toNat → ex_q (dt_fg L ρ) rc (d + 5, (306, 2, [some (eR a0), some (eR a1), some (eR a2), some (eI (i3)), o5, o6, o7, o8, o9], []), f :: F, m10) := by
    intro n1
    induction n1 using Nat.strongRecOn with
    | _ n1 ih2 =>
    intro m10 i3 o5 o6 o7 o8 o9 I11 F12 b4 hn13
    refine w_t (np := 3) (l2 := [some (eR a0), some (eR a1), some (eR a2), some (eI (i3)), o5, o6, o7, o8, o9]) (s2 := [eI (i3)]) rfl rfl rfl ?_
    refine w_t (np := 4) (l2 := [some (eR a0), some (eR a1), some (eR a2), some (eI (i3)), o5, o6, o7, o8, o9]) (s2 := [eI (4), eI (i3)]) rfl rfl rfl ?_
    refine b_cge (t1 := 103) (t2 := 7) rfl rfl rfl (ev_w_in (by omega) (by omega)) rfl (fun g14 => ?_) (fun g14 => ?_)
    · have b15 : 4 ≤ i3 ∧ i3 ≤ 4 := by omega
      refine w_t (np := 104) (l2 := [some (eR a0), some (eR a1), some (eR a2), some (eI (i3)), o5, o6, o7, o8, o9]) (s2 := [eI (0)]) rfl rfl rfl ?_
      exact b_rz rfl rfl (Or.inl rfl) (K m10 (0) I11 F12 (by decide))
    · have b15 : 0 ≤ i3 ∧ i3 ≤ 3 := by omega
      refine w_t (np := 8) (l2 := [some (eR a0), some (eR a1), some (eR a2), some (eI (i3)), o5, o6, o7, o8, o9]) (s2 := [eI (4)]) rfl rfl rfl ?_
      refine w_t (np := 9) (l2 := [some (eR a0), some (eR a1), some (eR a2), some (eI (i3)), o5, o6, o7, o8, o9]) (s2 := [eI (i3), eI (4)]) rfl rfl rfl ?_
      obtain ⟨v15, e16⟩ : ∃ zz : Int, zz = (4) * (i3) := ⟨_, rfl⟩
      have b17 : 0 ≤ v15 ∧ v15 ≤ 12 := by omega
      refine w_t (np := 10) (l2 := [some (eR a0), some (eR a1), some (eR a2), some (eI (i3)), o5, o6, o7, o8, o9]) (s2 := [eI (v15)]) rfl (b_imul (by rw [← e16]; exact ev_w_in (by omega) (by omega))) rfl ?_
      refine w_t (np := 12) (l2 := [some (eR a0), some (eR a1), some (eR a2), some (eI (i3)), some (eI (v15)), o6, o7, o8, o9]) (s2 := []) rfl rfl rfl ?_
      refine w_t (np := 13) (l2 := [some (eR a0), some (eR a1), some (eR a2), some (eI (i3)), some (eI (v15)), o6, o7, o8, o9]) (s2 := [eI (4)]) rfl rfl rfl ?_
      refine w_t (np := 14) (l2 := [some (eR a0), some (eR a1), some (eR a2), some (eI (i3)), some (eI (v15)), o6, o7, o8, o9]) (s2 := [eI (i3), eI (4)]) rfl rfl rfl ?_
      refine w_t (np := 15) (l2 := [some (eR a0), some (eR a1), some (eR a2), some (eI (i3)), some (eI (v15)), o6, o7, o8, o9]) (s2 := [eI (1), eI (i3), eI (4)]) rfl rfl rfl ?_
      obtain ⟨v18, e19⟩ : ∃ zz : Int, zz = (i3) + (1) := ⟨_, rfl⟩
      have b20 : 1 ≤ v18 ∧ v18 ≤ 4 := by omega
      refine w_t (np := 16) (l2 := [some (eR a0), some (eR a1), some (eR a2), some (eI (i3)), some (eI (v15)), o6, o7, o8, o9]) (s2 := [eI (v18), eI (4)]) rfl (b_iadd (by rw [← e19]; exact ev_w_in (by omega) (by omega))) rfl ?_
      refine w_t (np := 17) (l2 := [some (eR a0), some (eR a1), some (eR a2), some (eI (i3)), some (eI (v15)), o6, o7, o8, o9]) (s2 := [eI (4), eI (v18), eI (4)]) rfl rfl rfl ?_
      obtain ⟨v21, e22, b23⟩ := h_irem (a := v18) (k := 4) (by decide) (by decide) (show (-2147483648 : Int) ≤ v18 ∧ (v18 : Int) ≤ 2147483647 by omega)
      have b24 : 0 ≤ v21 ∧ v21 ≤ 3 := by omega
      refine w_t (np := 18) (l2 := [some (eR a0), some (eR a1), some (eR a2), some (eI (i3)), some (eI (v15)), o6, o7, o8, o9]) (s2 := [eI (v21), eI (4)]) rfl (e22 _ _) rfl ?_
      obtain ⟨v25, e26⟩ : ∃ zz : Int, zz = (4) * (v21) := ⟨_, rfl⟩
      have b27 : 0 ≤ v25 ∧ v25 ≤ 12 := by omega
      refine w_t (np := 19) (l2 := [some (eR a0), some (eR a1), some (eR a2), some (eI (i3)), some (eI (v15)), o6, o7, o8, o9]) (s2 := [eI (v25)]) rfl (b_imul (by rw [← e26]; exact ev_w_in (by omega) (by omega))) rfl ?_
      refine w_t (np := 21) (l2 := [some (eR a0), some (eR a1), some (eR a2), some (eI (i3)), some (eI (v15)), some (eI (v25)), o7, o8, o9]) (s2 := []) rfl rfl rfl ?_
      refine w_t (np := 22) (l2 := [some (eR a0), some (eR a1), some (eR a2), some (eI (i3)), some (eI (v15)), some (eI (v25)), o7, o8, o9]) (s2 := [eR a0]) rfl (s_an rfl (pos_g I11 gA0 (by decide))) rfl ?_
      refine w_t (np := 23) (l2 := [some (eR a0), some (eR a1), some (eR a2), some (eI (i3)), some (eI (v15)), some (eI (v25)), o7, o8, o9]) (s2 := [eR a1, eR a0]) rfl (s_an rfl (pos_g I11 gA1 (by decide))) rfl ?_
      refine w_t (np := 25) (l2 := [some (eR a0), some (eR a1), some (eR a2), some (eI (i3)), some (eI (v15)), some (eI (v25)), o7, o8, o9]) (s2 := [eI (v15), eR a1, eR a0]) rfl rfl rfl ?_
      refine w_t (np := 27) (l2 := [some (eR a0), some (eR a1), some (eR a2), some (eI (i3)), some (eI (v15)), some (eI (v25)), o7, o8, o9]) (s2 := [eI (v25), eI (v15), eR a1, eR a0]) rfl rfl rfl ?_
      refine w_t (np := 28) (l2 := [some (eR a0), some (eR a1), some (eR a2), some (eI (i3)), some (eI (v15)), some (eI (v25)), o7, o8, o9]) (s2 := [eR a1, eI (v25), eI (v15), eR a1, eR a0]) rfl (s_an rfl (pos_g I11 gA1 (by decide))) rfl ?_
      refine w_t (np := 29) (l2 := [some (eR a0), some (eR a1), some (eR a2), some (eI (i3)), some (eI (v15)), some (eI (v25)), o7, o8, o9]) (s2 := [eI (4), eR a1, eI (v25), eI (v15), eR a1, eR a0]) rfl rfl rfl ?_
      refine w_t (np := 30) (l2 := [some (eR a0), some (eR a1), some (eR a2), some (eI (i3)), some (eI (v15)), some (eI (v25)), o7, o8, o9]) (s2 := [eI (i3), eI (4), eR a1, eI (v25), eI (v15), eR a1, eR a0]) rfl rfl rfl ?_
      refine w_t (np := 31) (l2 := [some (eR a0), some (eR a1), some (eR a2), some (eI (i3)), some (eI (v15)), some (eI (v25)), o7, o8, o9]) (s2 := [eI (2), eI (i3), eI (4), eR a1, eI (v25), eI (v15), eR a1, eR a0]) rfl rfl rfl ?_
      obtain ⟨v28, e29⟩ : ∃ zz : Int, zz = (i3) + (2) := ⟨_, rfl⟩
      have b30 : 2 ≤ v28 ∧ v28 ≤ 5 := by omega
      refine w_t (np := 32) (l2 := [some (eR a0), some (eR a1), some (eR a2), some (eI (i3)), some (eI (v15)), some (eI (v25)), o7, o8, o9]) (s2 := [eI (v28), eI (4), eR a1, eI (v25), eI (v15), eR a1, eR a0]) rfl (b_iadd (by rw [← e29]; exact ev_w_in (by omega) (by omega))) rfl ?_
      refine w_t (np := 33) (l2 := [some (eR a0), some (eR a1), some (eR a2), some (eI (i3)), some (eI (v15)), some (eI (v25)), o7, o8, o9]) (s2 := [eI (4), eI (v28), eI (4), eR a1, eI (v25), eI (v15), eR a1, eR a0]) rfl rfl rfl ?_
      obtain ⟨v31, e32, b33⟩ := h_irem (a := v28) (k := 4) (by decide) (by decide) (show (-2147483648 : Int) ≤ v28 ∧ (v28 : Int) ≤ 2147483647 by omega)
      have b34 : 0 ≤ v31 ∧ v31 ≤ 3 := by omega
      refine w_t (np := 34) (l2 := [some (eR a0), some (eR a1), some (eR a2), some (eI (i3)), some (eI (v15)), some (eI (v25)), o7, o8, o9]) (s2 := [eI (v31), eI (4), eR a1, eI (v25), eI (v15), eR a1, eR a0]) rfl (e32 _ _) rfl ?_
      obtain ⟨v35, e36⟩ : ∃ zz : Int, zz = (4) * (v31) := ⟨_, rfl⟩
      have b37 : 0 ≤ v35 ∧ v35 ≤ 12 := by omega
      refine w_t (np := 35) (l2 := [some (eR a0), some (eR a1), some (eR a2), some (eI (i3)), some (eI (v15)), some (eI (v25)), o7, o8, o9]) (s2 := [eI (v35), eR a1, eI (v25), eI (v15), eR a1, eR a0]) rfl (b_imul (by rw [← e36]; exact ev_w_in (by omega) (by omega))) rfl ?_
      refine w_cw (np := 38) (as := [eR a1, eI (v15), eI (v25), eR a1, eI (v35)]) (l2 := [some (eR a0), some (eR a1), some (eI (v15)), some (eI (v25)), some (eR a1), some (eI (v35))]) (rest := []) rfl rfl rfl (Nat.ble_eq.mp rfl) rfl rfl rfl (I11.kd gA0 (by decide) (n := 69) rfl) rfl ?_
      refine s_305 (a2 := v15) (a3 := v25) (a5 := v35) I11 gA0 gA1 (by omega) (by omega) gA1 (by omega) ?_
      intro m38 v41 I39 F40 b42
      have F43 : Fr l_306 0 0 g μ m38 := F12.t F40 rfl
      show ex_q (dt_fg L ρ) rc (d + 5, (306, 38, [some (eR a0), some (eR a1), some (eR a2), some (eI (i3)), some (eI (v15)), some (eI (v25)), o7, o8, o9], [eI (v41)]), f :: F, m38)
      refine w_t (np := 40) (l2 := [some (eR a0), some (eR a1), some (eR a2), some (eI (i3)), some (eI (v15)), some (eI (v25)), some (eI (v41)), o8, o9]) (s2 := []) rfl rfl rfl ?_
      refine w_t (np := 41) (l2 := [some (eR a0), some (eR a1), some (eR a2), some (eI (i3)), some (eI (v15)), some (eI (v25)), some (eI (v41)), o8, o9]) (s2 := [eI (1)]) rfl rfl rfl ?_
      refine w_t (np := 43) (l2 := [some (eR a0), some (eR a1), some (eR a2), some (eI (i3)), some (eI (v15)), some (eI (v25)), some (eI (v41)), some (eI (1)), o9]) (s2 := []) rfl rfl rfl ?_
      refine w_t (np := 44) (l2 := [some (eR a0), some (eR a1), some (eR a2), some (eI (i3)), some (eI (v15)), some (eI (v25)), some (eI (v41)), some (eI (1)), o9]) (s2 := [eI (0)]) rfl rfl rfl ?_
      refine w_t (np := 46) (l2 := [some (eR a0), some (eR a1), some (eR a2), some (eI (i3)), some (eI (v15)), some (eI (v25)), some (eI (v41)), some (eI (1)), some (eI (0))]) (s2 := []) rfl rfl rfl ?_
      have hL46 : ∀ (n44 : Nat) (m50 : eM) (i46 : Int) (i48 : Int), SI g m50 → Fr l_306 0 0 g μ m50 → (0 ≤ i46 ∧ i46 ≤ 1) → (0 ≤ i48 ∧ i48 ≤ 4) → n44 = (4 - i48).toNat → ex_q (dt_fg L ρ) rc (d + 5, (306, 46, [some (eR a0), some (eR a1), some (eR a2), some (eI (i3)), some (eI (v15)), some (eI (v25)), some (eI (v41)), some (eI (i46)), some (eI (i48))], []), f :: F, m50) := by
        intro n44
        induction n44 using Nat.strongRecOn with
        | _ n44 ih45 =>
        intro m50 i46 i48 I51 F52 b47 b49 hn53
        refine w_t (np := 48) (l2 := [some (eR a0), some (eR a1), some (eR a2), some (eI (i3)), some (eI (v15)), some (eI (v25)), some (eI (v41)), some (eI (i46)), some (eI (i48))]) (s2 := [eI (i48)]) rfl rfl rfl ?_
        refine w_t (np := 49) (l2 := [some (eR a0), some (eR a1), some (eR a2), some (eI (i3)), some (eI (v15)), some (eI (v25)), some (eI (v41)), some (eI (i46)), some (eI (i48))]) (s2 := [eI (4), eI (i48)]) rfl rfl rfl ?_
        refine b_cge (t1 := 90) (t2 := 52) rfl rfl rfl (ev_w_in (by omega) (by omega)) rfl (fun g54 => ?_) (fun g54 => ?_)
        · have b55 : 4 ≤ i48 ∧ i48 ≤ 4 := by omega
          refine w_t (np := 92) (l2 := [some (eR a0), some (eR a1), some (eR a2), some (eI (i3)), some (eI (v15)), some (eI (v25)), some (eI (v41)), some (eI (i46)), some (eI (i48))]) (s2 := [eI (i46)]) rfl rfl rfl ?_
          refine b_ieq (t1 := 97) (t2 := 95) rfl rfl rfl (ev_w_in (by omega) (by omega)) (fun g55 => ?_) (fun g55 => ?_)
          · have b56 : 0 ≤ i46 ∧ i46 ≤ 0 := by omega
            obtain ⟨v56, e57⟩ : ∃ zz : Int, zz = (i3) + (1) := ⟨_, rfl⟩
            have b58 : 1 ≤ v56 ∧ v56 ≤ 4 := by omega
            refine w_t (np := 100) (l2 := [some (eR a0), some (eR a1), some (eR a2), some (eI (v56)), some (eI (v15)), some (eI (v25)), some (eI (v41)), some (eI (i46)), some (eI (i48))]) (s2 := []) rfl (b_iinc rfl (by rw [← e57]; exact ev_w_in (by omega) (by omega)) rfl) rfl ?_
            refine w_go (t1 := 2) rfl rfl ?_
            exact ih2 (4 - (v56)).toNat (by omega) m50 (v56) (some (eI (v15))) (some (eI (v25))) (some (eI (v41))) (some (eI (i46))) (some (eI (i48))) I51 F52 (by omega)     rfl
          · have b56 : 1 ≤ i46 ∧ i46 ≤ 1 := by omega
            refine w_t (np := 96) (l2 := [some (eR a0), some (eR a1), some (eR a2), some (eI (i3)), some (eI (v15)), some (eI (v25)), some (eI (v41)), some (eI (i46)), some (eI (i48))]) (s2 := [eI (1)]) rfl rfl rfl ?_
            exact b_rz rfl rfl (Or.inr rfl) (K m50 (1) I51 F52 (by decide))
        · have b55 : 0 ≤ i48 ∧ i48 ≤ 3 := by omega
          refine w_t (np := 54) (l2 := [some (eR a0), some (eR a1), some (eR a2), some (eI (i3)), some (eI (v15)), some (eI (v25)), some (eI (v41)), some (eI (i46)), some (eI (i48))]) (s2 := [eI (i46)]) rfl rfl rfl ?_
          refine b_ieq (t1 := 90) (t2 := 57) rfl rfl rfl (ev_w_in (by omega) (by omega)) (fun g55 => ?_) (fun g55 => ?_)
          · have b56 : 0 ≤ i46 ∧ i46 ≤ 0 := by omega
            refine w_t (np := 92) (l2 := [some (eR a0), some (eR a1), some (eR a2), some (eI (i3)), some (eI (v15)), some (eI (v25)), some (eI (v41)), some (eI (i46)), some (eI (i48))]) (s2 := [eI (i46)]) rfl rfl rfl ?_
            refine b_ieq (t1 := 97) (t2 := 95) rfl rfl rfl (ev_w_in (by omega) (by omega)) (fun g56 => ?_) (fun g56 => False.elim (by omega))
            obtain ⟨v57, e58⟩ : ∃ zz : Int, zz = (i3) + (1) := ⟨_, rfl⟩
            have b59 : 1 ≤ v57 ∧ v57 ≤ 4 := by omega
            refine w_t (np := 100) (l2 := [some (eR a0), some (eR a1), some (eR a2), some (eI (v57)), some (eI (v15)), some (eI (v25)), some (eI (v41)), some (eI (i46)), some (eI (i48))]) (s2 := []) rfl (b_iinc rfl (by rw [← e58]; exact ev_w_in (by omega) (by omega)) rfl) rfl ?_
            refine w_go (t1 := 2) rfl rfl ?_
            exact ih2 (4 - (v57)).toNat (by omega) m50 (v57) (some (eI (v15))) (some (eI (v25))) (some (eI (v41))) (some (eI (i46))) (some (eI (i48))) I51 F52 (by omega)     rfl
          · have b56 : 1 ≤ i46 ∧ i46 ≤ 1 := by omega
            refine w_t (np := 59) (l2 := [some (eR a0), some (eR a1), some (eR a2), some (eI (i3)), some (eI (v15)), some (eI (v25)), some (eI (v41)), some (eI (i46)), some (eI (i48))]) (s2 := [eI (v41)]) rfl rfl rfl ?_
            refine w_t (np := 60) (l2 := [some (eR a0), some (eR a1), some (eR a2), some (eI (i3)), some (eI (v15)), some (eI (v25)), some (eI (v41)), some (eI (i46)), some (eI (i48))]) (s2 := [eR a0, eI (v41)]) rfl (s_an rfl (pos_g I51 gA0 (by decide))) rfl ?_
            refine w_t (np := 61) (l2 := [some (eR a0), some (eR a1), some (eR a2), some (eI (i3)), some (eI (v15)), some (eI (v25)), some (eI (v41)), some (eI (i46)), some (eI (i48))]) (s2 := [eR a1, eR a0, eI (v41)]) rfl (s_an rfl (pos_g I51 gA1 (by decide))) rfl ?_
            refine w_t (np := 63) (l2 := [some (eR a0), some (eR a1), some (eR a2), some (eI (i3)), some (eI (v15)), some (eI (v25)), some (eI (v41)), some (eI (i46)), some (eI (i48))]) (s2 := [eI (v15), eR a1, eR a0, eI (v41)]) rfl rfl rfl ?_
            refine w_t (np := 65) (l2 := [some (eR a0), some (eR a1), some (eR a2), some (eI (i3)), some (eI (v15)), some (eI (v25)), some (eI (v41)), some (eI (i46)), some (eI (i48))]) (s2 := [eI (v25), eI (v15), eR a1, eR a0, eI (v41)]) rfl rfl rfl ?_
            refine w_t (np := 66) (l2 := [some (eR a0), some (eR a1), some (eR a2), some (eI (i3)), some (eI (v15)), some (eI (v25)), some (eI (v41)), some (eI (i46)), some (eI (i48))]) (s2 := [eR a2, eI (v25), eI (v15), eR a1, eR a0, eI (v41)]) rfl (s_an rfl (pos_g I51 gA2 (by decide))) rfl ?_
            refine w_t (np := 67) (l2 := [some (eR a0), some (eR a1), some (eR a2), some (eI (i3)), some (eI (v15)), some (eI (v25)), some (eI (v41)), some (eI (i46)), some (eI (i48))]) (s2 := [eI (4), eR a2, eI (v25), eI (v15), eR a1, eR a0, eI (v41)]) rfl rfl rfl ?_
            refine w_t (np := 69) (l2 := [some (eR a0), some (eR a1), some (eR a2), some (eI (i3)), some (eI (v15)), some (eI (v25)), some (eI (v41)), some (eI (i46)), some (eI (i48))]) (s2 := [eI (i48), eI (4), eR a2, eI (v25), eI (v15), eR a1, eR a0, eI (v41)]) rfl rfl rfl ?_
            obtain ⟨v56, e57⟩ : ∃ zz : Int, zz = (4) * (i48) := ⟨_, rfl⟩
            have b58 : 0 ≤ v56 ∧ v56 ≤ 12 := by omega
            refine w_t (np := 70) (l2 := [some (eR a0), some (eR a1), some (eR a2), some (eI (i3)), some (eI (v15)), some (eI (v25)), some (eI (v41)), some (eI (i46)), some (eI (i48))]) (s2 := [eI (v56), eR a2, eI (v25), eI (v15), eR a1, eR a0, eI (v41)]) rfl (b_imul (by rw [← e57]; exact ev_w_in (by omega) (by omega))) rfl ?_
            refine w_cw (np := 73) (as := [eR a1, eI (v15), eI (v25), eR a2, eI (v56)]) (l2 := [some (eR a0), some (eR a1), some (eI (v15)), some (eI (v25)), some (eR a2), some (eI (v56))]) (rest := [eI (v41)]) rfl rfl rfl (Nat.ble_eq.mp rfl) rfl rfl rfl (I51.kd gA0 (by decide) (n := 69) rfl) rfl ?_
            refine s_305_2 (a2 := v15) (a3 := v25) (a5 := v56) I51 gA0 gA1 (by omega) (by omega) gA2 (by omega) ?_
            intro m59 v62 I60 F61 b63
            have F64 : Fr l_306 0 0 g μ m59 := F52.t F61 rfl
            show ex_q (dt_fg L ρ) rc (d + 5, (306, 73, [some (eR a0), some (eR a1), some (eR a2), some (eI (i3)), some (eI (v15)), some (eI (v25)), some (eI (v41)), some (eI (i46)), some (eI (i48))], [eI (v62), eI (v41)]), f :: F, m59)
            obtain ⟨v65, e66⟩ : ∃ zz : Int, zz = (v41) * (v62) := ⟨_, rfl⟩
            have b67 : -1 ≤ v65 ∧ v65 ≤ 1 := by
              have hm := i_mulb (a := v41) (b := v62) (A := 1) (B := 1) (by omega) (by omega)
              rw [e66]
              omega
            refine w_t (np := 74) (l2 := [some (eR a0), some (eR a1), some (eR a2), some (eI (i3)), some (eI (v15)), some (eI (v25)), some (eI (v41)), some (eI (i46)), some (eI (i48))]) (s2 := [eI (v65)]) rfl (b_imul (by rw [← e66]; exact ev_w_in (by omega) (by omega))) rfl ?_
            refine b_igt (t1 := 81) (t2 := 77) rfl rfl rfl (ev_w_in (by omega) (by omega)) (fun g68 => ?_) (fun g68 => ?_)
            · have b69 : 1 ≤ v65 ∧ v65 ≤ 1 := by omega
              refine w_t (np := 82) (l2 := [some (eR a0), some (eR a1), some (eR a2), some (eI (i3)), some (eI (v15)), some (eI (v25)), some (eI (v41)), some (eI (i46)), some (eI (i48))]) (s2 := [eI (0)]) rfl rfl rfl ?_
              refine w_t (np := 84) (l2 := [some (eR a0), some (eR a1), some (eR a2), some (eI (i3)), some (eI (v15)), some (eI (v25)), some (eI (v41)), some (eI (0)), some (eI (i48))]) (s2 := []) rfl rfl rfl ?_
              obtain ⟨v69, e70⟩ : ∃ zz : Int, zz = (i48) + (1) := ⟨_, rfl⟩
              have b71 : 1 ≤ v69 ∧ v69 ≤ 4 := by omega
              refine w_t (np := 87) (l2 := [some (eR a0), some (eR a1), some (eR a2), some (eI (i3)), some (eI (v15)), some (eI (v25)), some (eI (v41)), some (eI (0)), some (eI (v69))]) (s2 := []) rfl (b_iinc rfl (by rw [← e70]; exact ev_w_in (by omega) (by omega)) rfl) rfl ?_
              refine w_go (t1 := 46) rfl rfl ?_
              exact ih45 (4 - (v69)).toNat (by omega) m59 (0) (v69) I60 F64 (by decide) (by omega)     rfl
            · have b69 : -1 ≤ v65 ∧ v65 ≤ 0 := by omega
              refine w_t (np := 78) (l2 := [some (eR a0), some (eR a1), some (eR a2), some (eI (i3)), some (eI (v15)), some (eI (v25)), some (eI (v41)), some (eI (i46)), some (eI (i48))]) (s2 := [eI (1)]) rfl rfl rfl ?_
              refine w_go (t1 := 82) rfl rfl ?_
              refine w_t (np := 84) (l2 := [some (eR a0), some (eR a1), some (eR a2), some (eI (i3)), some (eI (v15)), some (eI (v25)), some (eI (v41)), some (eI (1)), some (eI (i48))]) (s2 := []) rfl rfl rfl ?_
              obtain ⟨v69, e70⟩ : ∃ zz : Int, zz = (i48) + (1) := ⟨_, rfl⟩
              have b71 : 1 ≤ v69 ∧ v69 ≤ 4 := by omega
              refine w_t (np := 87) (l2 := [some (eR a0), some (eR a1), some (eR a2), some (eI (i3)), some (eI (v15)), some (eI (v25)), some (eI (v41)), some (eI (1)), some (eI (v69))]) (s2 := []) rfl (b_iinc rfl (by rw [← e70]; exact ev_w_in (by omega) (by omega)) rfl) rfl ?_
              refine w_go (t1 := 46) rfl rfl ?_
              exact ih45 (4 - (v69)).toNat (by omega) m59 (1) (v69) I60 F64 (by decide) (by omega)     rfl
      exact hL46 _ m38 (1) (0) I39 F43 (by decide) (by decide)     rfl
  exact hL2 _ μ (0) (none) (none) (none) (none) (none) hI F0 (by decide)     rfl
def l_306_2 : List Nat := [13315, 13316, 13317, 13318]
theorem s_306_2 {L : Nat} {ρ : Nat → Int} {rc : eQ} {d : Nat} {f : eFr} {F : List eFr} {μ : eM} {g : Nat → Nat} {a0 : Nat} {a1 : Nat} {a2 : Nat} (hI : SI g μ) (gA0 : g a0 = 52) (gA1 : g a1 = 84) (gA2 : g a2 = 83) (K : ∀ (μ2 : eM) (v : Int), SI g μ2 → Fr l_306_2 0 0 g μ μ2 → (0 ≤ v ∧ v ≤ 1) → ex_q (dt_fg L ρ) rc (d + 6, (f.1, f.2.1, f.2.2.1, eI v :: f.2.2.2), F, μ2)) : ex_q (dt_fg L ρ) rc (d + 5, (306, 0, [some (eR a0), some (eR a1), some (eR a2), none, none, none, none, none, none], []), f :: F, μ) := by
  have F0 : Fr l_306_2 0 0 g μ μ := Fr.r
  refine w_t (np := 1) (l2 := [some (eR a0), some (eR a1), some (eR a2), none, none, none, none, none, none]) (s2 := [eI (0)]) rfl rfl rfl ?_
  refine w_t (np := 2) (l2 := [some (eR a0), some (eR a1), some (eR a2), some (eI (0)), none, none, none, none, none]) (s2 := []) rfl rfl rfl ?_
  have hL2 : ∀ (n1 : Nat) (m10 : eM) (i3 : Int) (o5 : Option eV) (o6 : Option eV) (o7 : Option eV) (o8 : Option eV) (o9 : Option eV), SI g m10 → Fr l_306_2 0 0 g μ m10 → (0 ≤ i3 ∧ i3 ≤ 4) → n1 = (4 - i3).toNat → ex_q (dt_fg L ρ) rc (d + 5, (306, 2, [some (eR a0), some (eR a1), some (eR a2), some (eI (i3)), o5, o6, o7, o8, o9], []), f :: F, m10) := by
    intro n1
    induction n1 using Nat.strongRecOn with
    | _ n1 ih2 =>
    intro m10 i3 o5 o6 o7 o8 o9 I11 F12 b4 hn13
    refine w_t (np := 3) (l2 := [some (eR a0), some (eR a1), some (eR a2), some (eI (i3)), o5, o6, o7, o8, o9]) (s2 := [eI (i3)]) rfl rfl rfl ?_
    refine w_t (np := 4) (l2 := [some (eR a0), some (eR a1), some (eR a2), some (eI (i3)), o5, o6, o7, o8, o9]) (s2 := [eI (4), eI (i3)]) rfl rfl rfl ?_
    refine b_cge (t1 := 103) (t2 := 7) rfl rfl rfl (ev_w_in (by omega) (by omega)) rfl (fun g14 => ?_) (fun g14 => ?_)
    · have b15 : 4 ≤ i3 ∧ i3 ≤ 4 := by omega
      refine w_t (np := 104) (l2 := [some (eR a0), some (eR a1), some (eR a2), some (eI (i3)), o5, o6, o7, o8, o9]) (s2 := [eI (0)]) rfl rfl rfl ?_
      exact b_rz rfl rfl (Or.inl rfl) (K m10 (0) I11 F12 (by decide))
    · have b15 : 0 ≤ i3 ∧ i3 ≤ 3 := by omega
      refine w_t (np := 8) (l2 := [some (eR a0), some (eR a1), some (eR a2), some (eI (i3)), o5, o6, o7, o8, o9]) (s2 := [eI (4)]) rfl rfl rfl ?_
      refine w_t (np := 9) (l2 := [some (eR a0), some (eR a1), some (eR a2), some (eI (i3)), o5, o6, o7, o8, o9]) (s2 := [eI (i3), eI (4)]) rfl rfl rfl ?_
      obtain ⟨v15, e16⟩ : ∃ zz : Int, zz = (4) * (i3) := ⟨_, rfl⟩
      have b17 : 0 ≤ v15 ∧ v15 ≤ 12 := by omega
      refine w_t (np := 10) (l2 := [some (eR a0), some (eR a1), some (eR a2), some (eI (i3)), o5, o6, o7, o8, o9]) (s2 := [eI (v15)]) rfl (b_imul (by rw [← e16]; exact ev_w_in (by omega) (by omega))) rfl ?_
      refine w_t (np := 12) (l2 := [some (eR a0), some (eR a1), some (eR a2), some (eI (i3)), some (eI (v15)), o6, o7, o8, o9]) (s2 := []) rfl rfl rfl ?_
      refine w_t (np := 13) (l2 := [some (eR a0), some (eR a1), some (eR a2), some (eI (i3)), some (eI (v15)), o6, o7, o8, o9]) (s2 := [eI (4)]) rfl rfl rfl ?_
      refine w_t (np := 14) (l2 := [some (eR a0), some (eR a1), some (eR a2), some (eI (i3)), some (eI (v15)), o6, o7, o8, o9]) (s2 := [eI (i3), eI (4)]) rfl rfl rfl ?_
      refine w_t (np := 15) (l2 := [some (eR a0), some (eR a1), some (eR a2), some (eI (i3)), some (eI (v15)), o6, o7, o8, o9]) (s2 := [eI (1), eI (i3), eI (4)]) rfl rfl rfl ?_
      obtain ⟨v18, e19⟩ : ∃ zz : Int, zz = (i3) + (1) := ⟨_, rfl⟩
      have b20 : 1 ≤ v18 ∧ v18 ≤ 4 := by omega
      refine w_t (np := 16) (l2 := [some (eR a0), some (eR a1), some (eR a2), some (eI (i3)), some (eI (v15)), o6, o7, o8, o9]) (s2 := [eI (v18), eI (4)]) rfl (b_iadd (by rw [← e19]; exact ev_w_in (by omega) (by omega))) rfl ?_
      refine w_t (np := 17) (l2 := [some (eR a0), some (eR a1), some (eR a2), some (eI (i3)), some (eI (v15)), o6, o7, o8, o9]) (s2 := [eI (4), eI (v18), eI (4)]) rfl rfl rfl ?_
      obtain ⟨v21, e22, b23⟩ := h_irem (a := v18) (k := 4) (by decide) (by decide) (show (-2147483648 : Int) ≤ v18 ∧ (v18 : Int) ≤ 2147483647 by omega)
      have b24 : 0 ≤ v21 ∧ v21 ≤ 3 := by omega
      refine w_t (np := 18) (l2 := [some (eR a0), some (eR a1), some (eR a2), some (eI (i3)), some (eI (v15)), o6, o7, o8, o9]) (s2 := [eI (v21), eI (4)]) rfl (e22 _ _) rfl ?_
      obtain ⟨v25, e26⟩ : ∃ zz : Int, zz = (4) * (v21) := ⟨_, rfl⟩
      have b27 : 0 ≤ v25 ∧ v25 ≤ 12 := by omega
      refine w_t (np := 19) (l2 := [some (eR a0), some (eR a1), some (eR a2), some (eI (i3)), some (eI (v15)), o6, o7, o8, o9]) (s2 := [eI (v25)]) rfl (b_imul (by rw [← e26]; exact ev_w_in (by omega) (by omega))) rfl ?_
      refine w_t (np := 21) (l2 := [some (eR a0), some (eR a1), some (eR a2), some (eI (i3)), some (eI (v15)), some (eI (v25)), o7, o8, o9]) (s2 := []) rfl rfl rfl ?_
      refine w_t (np := 22) (l2 := [some (eR a0), some (eR a1), some (eR a2), some (eI (i3)), some (eI (v15)), some (eI (v25)), o7, o8, o9]) (s2 := [eR a0]) rfl (s_an rfl (pos_g I11 gA0 (by decide))) rfl ?_
      refine w_t (np := 23) (l2 := [some (eR a0), some (eR a1), some (eR a2), some (eI (i3)), some (eI (v15)), some (eI (v25)), o7, o8, o9]) (s2 := [eR a1, eR a0]) rfl (s_an rfl (pos_g I11 gA1 (by decide))) rfl ?_
      refine w_t (np := 25) (l2 := [some (eR a0), some (eR a1), some (eR a2), some (eI (i3)), some (eI (v15)), some (eI (v25)), o7, o8, o9]) (s2 := [eI (v15), eR a1, eR a0]) rfl rfl rfl ?_
      refine w_t (np := 27) (l2 := [some (eR a0), some (eR a1), some (eR a2), some (eI (i3)), some (eI (v15)), some (eI (v25)), o7, o8, o9]) (s2 := [eI (v25), eI (v15), eR a1, eR a0]) rfl rfl rfl ?_
      refine w_t (np := 28) (l2 := [some (eR a0), some (eR a1), some (eR a2), some (eI (i3)), some (eI (v15)), some (eI (v25)), o7, o8, o9]) (s2 := [eR a1, eI (v25), eI (v15), eR a1, eR a0]) rfl (s_an rfl (pos_g I11 gA1 (by decide))) rfl ?_
      refine w_t (np := 29) (l2 := [some (eR a0), some (eR a1), some (eR a2), some (eI (i3)), some (eI (v15)), some (eI (v25)), o7, o8, o9]) (s2 := [eI (4), eR a1, eI (v25), eI (v15), eR a1, eR a0]) rfl rfl rfl ?_
      refine w_t (np := 30) (l2 := [some (eR a0), some (eR a1), some (eR a2), some (eI (i3)), some (eI (v15)), some (eI (v25)), o7, o8, o9]) (s2 := [eI (i3), eI (4), eR a1, eI (v25), eI (v15), eR a1, eR a0]) rfl rfl rfl ?_
      refine w_t (np := 31) (l2 := [some (eR a0), some (eR a1), some (eR a2), some (eI (i3)), some (eI (v15)), some (eI (v25)), o7, o8, o9]) (s2 := [eI (2), eI (i3), eI (4), eR a1, eI (v25), eI (v15), eR a1, eR a0]) rfl rfl rfl ?_
      obtain ⟨v28, e29⟩ : ∃ zz : Int, zz = (i3) + (2) := ⟨_, rfl⟩
      have b30 : 2 ≤ v28 ∧ v28 ≤ 5 := by omega
      refine w_t (np := 32) (l2 := [some (eR a0), some (eR a1), some (eR a2), some (eI (i3)), some (eI (v15)), some (eI (v25)), o7, o8, o9]) (s2 := [eI (v28), eI (4), eR a1, eI (v25), eI (v15), eR a1, eR a0]) rfl (b_iadd (by rw [← e29]; exact ev_w_in (by omega) (by omega))) rfl ?_
      refine w_t (np := 33) (l2 := [some (eR a0), some (eR a1), some (eR a2), some (eI (i3)), some (eI (v15)), some (eI (v25)), o7, o8, o9]) (s2 := [eI (4), eI (v28), eI (4), eR a1, eI (v25), eI (v15), eR a1, eR a0]) rfl rfl rfl ?_
      obtain ⟨v31, e32, b33⟩ := h_irem (a := v28) (k := 4) (by decide) (by decide) (show (-2147483648 : Int) ≤ v28 ∧ (v28 : Int) ≤ 2147483647 by omega)
      have b34 : 0 ≤ v31 ∧ v31 ≤ 3 := by omega
      refine w_t (np := 34) (l2 := [some (eR a0), some (eR a1), some (eR a2), some (eI (i3)), some (eI (v15)), some (eI (v25)), o7, o8, o9]) (s2 := [eI (v31), eI (4), eR a1, eI (v25), eI (v15), eR a1, eR a0]) rfl (e32 _ _) rfl ?_
      obtain ⟨v35, e36⟩ : ∃ zz : Int, zz = (4) * (v31) := ⟨_, rfl⟩
      have b37 : 0 ≤ v35 ∧ v35 ≤ 12 := by omega
      refine w_t (np := 35) (l2 := [some (eR a0), some (eR a1), some (eR a2), some (eI (i3)), some (eI (v15)), some (eI (v25)), o7, o8, o9]) (s2 := [eI (v35), eR a1, eI (v25), eI (v15), eR a1, eR a0]) rfl (b_imul (by rw [← e36]; exact ev_w_in (by omega) (by omega))) rfl ?_
      refine w_cw (np := 38) (as := [eR a1, eI (v15), eI (v25), eR a1, eI (v35)]) (l2 := [some (eR a0), some (eR a1), some (eI (v15)), some (eI (v25)), some (eR a1), some (eI (v35))]) (rest := []) rfl rfl rfl (Nat.ble_eq.mp rfl) rfl rfl rfl (I11.kd gA0 (by decide) (n := 69) rfl) rfl ?_
      refine s_305_4 (a2 := v15) (a3 := v25) (a5 := v35) I11 gA0 gA1 (by omega) (by omega) gA1 (by omega) ?_
      intro m38 v41 I39 F40 b42
      have F43 : Fr l_306_2 0 0 g μ m38 := F12.t F40 rfl
      show ex_q (dt_fg L ρ) rc (d + 5, (306, 38, [some (eR a0), some (eR a1), some (eR a2), some (eI (i3)), some (eI (v15)), some (eI (v25)), o7, o8, o9], [eI (v41)]), f :: F, m38)
      refine w_t (np := 40) (l2 := [some (eR a0), some (eR a1), some (eR a2), some (eI (i3)), some (eI (v15)), some (eI (v25)), some (eI (v41)), o8, o9]) (s2 := []) rfl rfl rfl ?_
      refine w_t (np := 41) (l2 := [some (eR a0), some (eR a1), some (eR a2), some (eI (i3)), some (eI (v15)), some (eI (v25)), some (eI (v41)), o8, o9]) (s2 := [eI (1)]) rfl rfl rfl ?_
      refine w_t (np := 43) (l2 := [some (eR a0), some (eR a1), some (eR a2), some (eI (i3)), some (eI (v15)), some (eI (v25)), some (eI (v41)), some (eI (1)), o9]) (s2 := []) rfl rfl rfl ?_
      refine w_t (np := 44) (l2 := [some (eR a0), some (eR a1), some (eR a2), some (eI (i3)), some (eI (v15)), some (eI (v25)), some (eI (v41)), some (eI (1)), o9]) (s2 := [eI (0)]) rfl rfl rfl ?_
      refine w_t (np := 46) (l2 := [some (eR a0), some (eR a1), some (eR a2), some (eI (i3)), some (eI (v15)), some (eI (v25)), some (eI (v41)), some (eI (1)), some (eI (0))]) (s2 := []) rfl rfl rfl ?_
      have hL46 : ∀ (n44 : Nat) (m50 : eM) (i46 : Int) (i48 : Int), SI g m50 → Fr l_306_2 0 0 g μ m50 → (0 ≤ i46 ∧ i46 ≤ 1) → (0 ≤ i48 ∧ i48 ≤ 4) → n44 = (4 - i48).toNat → ex_q (dt_fg L ρ) rc (d + 5, (306, 46, [some (eR a0), some (eR a1), some (eR a2), some (eI (i3)), some (eI (v15)), some (eI (v25)), some (eI (v41)), some (eI (i46)), some (eI (i48))], []), f :: F, m50) := by
        intro n44
        induction n44 using Nat.strongRecOn with
        | _ n44 ih45 =>
        intro m50 i46 i48 I51 F52 b47 b49 hn53
        refine w_t (np := 48) (l2 := [some (eR a0), some (eR a1), some (eR a2), some (eI (i3)), some (eI (v15)), some (eI (v25)), some (eI (v41)), some (eI (i46)), some (eI (i48))]) (s2 := [eI (i48)]) rfl rfl rfl ?_
        refine w_t (np := 49) (l2 := [some (eR a0), some (eR a1), some (eR a2), some (eI (i3)), some (eI (v15)), some (eI (v25)), some (eI (v41)), some (eI (i46)), some (eI (i48))]) (s2 := [eI (4), eI (i48)]) rfl rfl rfl ?_
        refine b_cge (t1 := 90) (t2 := 52) rfl rfl rfl (ev_w_in (by omega) (by omega)) rfl (fun g54 => ?_) (fun g54 => ?_)
        · have b55 : 4 ≤ i48 ∧ i48 ≤ 4 := by omega
          refine w_t (np := 92) (l2 := [some (eR a0), some (eR a1), some (eR a2), some (eI (i3)), some (eI (v15)), some (eI (v25)), some (eI (v41)), some (eI (i46)), some (eI (i48))]) (s2 := [eI (i46)]) rfl rfl rfl ?_
          refine b_ieq (t1 := 97) (t2 := 95) rfl rfl rfl (ev_w_in (by omega) (by omega)) (fun g55 => ?_) (fun g55 => ?_)
          · have b56 : 0 ≤ i46 ∧ i46 ≤ 0 := by omega
            obtain ⟨v56, e57⟩ : ∃ zz : Int, zz = (i3) + (1) := ⟨_, rfl⟩
            have b58 : 1 ≤ v56 ∧ v56 ≤ 4 := by omega
            refine w_t (np := 100) (l2 := [some (eR a0), some (eR a1), some (eR a2), some (eI (v56)), some (eI (v15)), some (eI (v25)), some (eI (v41)), some (eI (i46)), some (eI (i48))]) (s2 := []) rfl (b_iinc rfl (by rw [← e57]; exact ev_w_in (by omega) (by omega)) rfl) rfl ?_
            refine w_go (t1 := 2) rfl rfl ?_
            exact ih2 (4 - (v56)).toNat (by omega) m50 (v56) (some (eI (v15))) (some (eI (v25))) (some (eI (v41))) (some (eI (i46))) (some (eI (i48))) I51 F52 (by omega)     rfl
          · have b56 : 1 ≤ i46 ∧ i46 ≤ 1 := by omega
            refine w_t (np := 96) (l2 := [some (eR a0), some (eR a1), some (eR a2), some (eI (i3)), some (eI (v15)), some (eI (v25)), some (eI (v41)), some (eI (i46)), some (eI (i48))]) (s2 := [eI (1)]) rfl rfl rfl ?_
            exact b_rz rfl rfl (Or.inr rfl) (K m50 (1) I51 F52 (by decide))
        · have b55 : 0 ≤ i48 ∧ i48 ≤ 3 := by omega
          refine w_t (np := 54) (l2 := [some (eR a0), some (eR a1), some (eR a2), some (eI (i3)), some (eI (v15)), some (eI (v25)), some (eI (v41)), some (eI (i46)), some (eI (i48))]) (s2 := [eI (i46)]) rfl rfl rfl ?_
          refine b_ieq (t1 := 90) (t2 := 57) rfl rfl rfl (ev_w_in (by omega) (by omega)) (fun g55 => ?_) (fun g55 => ?_)
          · have b56 : 0 ≤ i46 ∧ i46 ≤ 0 := by omega
            refine w_t (np := 92) (l2 := [some (eR a0), some (eR a1), some (eR a2), some (eI (i3)), some (eI (v15)), some (eI (v25)), some (eI (v41)), some (eI (i46)), some (eI (i48))]) (s2 := [eI (i46)]) rfl rfl rfl ?_
            refine b_ieq (t1 := 97) (t2 := 95) rfl rfl rfl (ev_w_in (by omega) (by omega)) (fun g56 => ?_) (fun g56 => False.elim (by omega))
            obtain ⟨v57, e58⟩ : ∃ zz : Int, zz = (i3) + (1) := ⟨_, rfl⟩
            have b59 : 1 ≤ v57 ∧ v57 ≤ 4 := by omega
            refine w_t (np := 100) (l2 := [some (eR a0), some (eR a1), some (eR a2), some (eI (v57)), some (eI (v15)), some (eI (v25)), some (eI (v41)), some (eI (i46)), some (eI (i48))]) (s2 := []) rfl (b_iinc rfl (by rw [← e58]; exact ev_w_in (by omega) (by omega)) rfl) rfl ?_
            refine w_go (t1 := 2) rfl rfl ?_
            exact ih2 (4 - (v57)).toNat (by omega) m50 (v57) (some (eI (v15))) (some (eI (v25))) (some (eI (v41))) (some (eI (i46))) (some (eI (i48))) I51 F52 (by omega)     rfl
          · have b56 : 1 ≤ i46 ∧ i46 ≤ 1 := by omega
            refine w_t (np := 59) (l2 := [some (eR a0), some (eR a1), some (eR a2), some (eI (i3)), some (eI (v15)), some (eI (v25)), some (eI (v41)), some (eI (i46)), some (eI (i48))]) (s2 := [eI (v41)]) rfl rfl rfl ?_
            refine w_t (np := 60) (l2 := [some (eR a0), some (eR a1), some (eR a2), some (eI (i3)), some (eI (v15)), some (eI (v25)), some (eI (v41)), some (eI (i46)), some (eI (i48))]) (s2 := [eR a0, eI (v41)]) rfl (s_an rfl (pos_g I51 gA0 (by decide))) rfl ?_
            refine w_t (np := 61) (l2 := [some (eR a0), some (eR a1), some (eR a2), some (eI (i3)), some (eI (v15)), some (eI (v25)), some (eI (v41)), some (eI (i46)), some (eI (i48))]) (s2 := [eR a1, eR a0, eI (v41)]) rfl (s_an rfl (pos_g I51 gA1 (by decide))) rfl ?_
            refine w_t (np := 63) (l2 := [some (eR a0), some (eR a1), some (eR a2), some (eI (i3)), some (eI (v15)), some (eI (v25)), some (eI (v41)), some (eI (i46)), some (eI (i48))]) (s2 := [eI (v15), eR a1, eR a0, eI (v41)]) rfl rfl rfl ?_
            refine w_t (np := 65) (l2 := [some (eR a0), some (eR a1), some (eR a2), some (eI (i3)), some (eI (v15)), some (eI (v25)), some (eI (v41)), some (eI (i46)), some (eI (i48))]) (s2 := [eI (v25), eI (v15), eR a1, eR a0, eI (v41)]) rfl rfl rfl ?_
            refine w_t (np := 66) (l2 := [some (eR a0), some (eR a1), some (eR a2), some (eI (i3)), some (eI (v15)), some (eI (v25)), some (eI (v41)), some (eI (i46)), some (eI (i48))]) (s2 := [eR a2, eI (v25), eI (v15), eR a1, eR a0, eI (v41)]) rfl (s_an rfl (pos_g I51 gA2 (by decide))) rfl ?_
            refine w_t (np := 67) (l2 := [some (eR a0), some (eR a1), some (eR a2), some (eI (i3)), some (eI (v15)), some (eI (v25)), some (eI (v41)), some (eI (i46)), some (eI (i48))]) (s2 := [eI (4), eR a2, eI (v25), eI (v15), eR a1, eR a0, eI (v41)]) rfl rfl rfl ?_
            refine w_t (np := 69) (l2 := [some (eR a0), some (eR a1), some (eR a2), some (eI (i3)), some (eI (v15)), some (eI (v25)), some (eI (v41)), some (eI (i46)), some (eI (i48))]) (s2 := [eI (i48), eI (4), eR a2, eI (v25), eI (v15), eR a1, eR a0, eI (v41)]) rfl rfl rfl ?_
            obtain ⟨v56, e57⟩ : ∃ zz : Int, zz = (4) * (i48) := ⟨_, rfl⟩
            have b58 : 0 ≤ v56 ∧ v56 ≤ 12 := by omega
            refine w_t (np := 70) (l2 := [some (eR a0), some (eR a1), some (eR a2), some (eI (i3)), some (eI (v15)), some (eI (v25)), some (eI (v41)), some (eI (i46)), some (eI (i48))]) (s2 := [eI (v56), eR a2, eI (v25), eI (v15), eR a1, eR a0, eI (v41)]) rfl (b_imul (by rw [← e57]; exact ev_w_in (by omega) (by omega))) rfl ?_
            refine w_cw (np := 73) (as := [eR a1, eI (v15), eI (v25), eR a2, eI (v56)]) (l2 := [some (eR a0), some (eR a1), some (eI (v15)), some (eI (v25)), some (eR a2), some (eI (v56))]) (rest := [eI (v41)]) rfl rfl rfl (Nat.ble_eq.mp rfl) rfl rfl rfl (I51.kd gA0 (by decide) (n := 69) rfl) rfl ?_
            refine s_305_3 (a2 := v15) (a3 := v25) (a5 := v56) I51 gA0 gA1 (by omega) (by omega) gA2 (by omega) ?_
            intro m59 v62 I60 F61 b63
            have F64 : Fr l_306_2 0 0 g μ m59 := F52.t F61 rfl
            show ex_q (dt_fg L ρ) rc (d + 5, (306, 73, [some (eR a0), some (eR a1), some (eR a2), some (eI (i3)), some (eI (v15)), some (eI (v25)), some (eI (v41)), some (eI (i46)), some (eI (i48))], [eI (v62), eI (v41)]), f :: F, m59)
            obtain ⟨v65, e66⟩ : ∃ zz : Int, zz = (v41) * (v62) := ⟨_, rfl⟩
            have b67 : -1 ≤ v65 ∧ v65 ≤ 1 := by
              have hm := i_mulb (a := v41) (b := v62) (A := 1) (B := 1) (by omega) (by omega)
              rw [e66]
              omega
            refine w_t (np := 74) (l2 := [some (eR a0), some (eR a1), some (eR a2), some (eI (i3)), some (eI (v15)), some (eI (v25)), some (eI (v41)), some (eI (i46)), some (eI (i48))]) (s2 := [eI (v65)]) rfl (b_imul (by rw [← e66]; exact ev_w_in (by omega) (by omega))) rfl ?_
            refine b_igt (t1 := 81) (t2 := 77) rfl rfl rfl (ev_w_in (by omega) (by omega)) (fun g68 => ?_) (fun g68 => ?_)
            · have b69 : 1 ≤ v65 ∧ v65 ≤ 1 := by omega
              refine w_t (np := 82) (l2 := [some (eR a0), some (eR a1), some (eR a2), some (eI (i3)), some (eI (v15)), some (eI (v25)), some (eI (v41)), some (eI (i46)), some (eI (i48))]) (s2 := [eI (0)]) rfl rfl rfl ?_
              refine w_t (np := 84) (l2 := [some (eR a0), some (eR a1), some (eR a2), some (eI (i3)), some (eI (v15)), some (eI (v25)), some (eI (v41)), some (eI (0)), some (eI (i48))]) (s2 := []) rfl rfl rfl ?_
              obtain ⟨v69, e70⟩ : ∃ zz : Int, zz = (i48) + (1) := ⟨_, rfl⟩
              have b71 : 1 ≤ v69 ∧ v69 ≤ 4 := by omega
              refine w_t (np := 87) (l2 := [some (eR a0), some (eR a1), some (eR a2), some (eI (i3)), some (eI (v15)), some (eI (v25)), some (eI (v41)), some (eI (0)), some (eI (v69))]) (s2 := []) rfl (b_iinc rfl (by rw [← e70]; exact ev_w_in (by omega) (by omega)) rfl) rfl ?_
              refine w_go (t1 := 46) rfl rfl ?_
              exact ih45 (4 - (v69)).toNat (by omega) m59 (0) (v69) I60 F64 (by decide) (by omega)     rfl
            · have b69 : -1 ≤ v65 ∧ v65 ≤ 0 := by omega
              refine w_t (np := 78) (l2 := [some (eR a0), some (eR a1), some (eR a2), some (eI (i3)), some (eI (v15)), some (eI (v25)), some (eI (v41)), some (eI (i46)), some (eI (i48))]) (s2 := [eI (1)]) rfl rfl rfl ?_
              refine w_go (t1 := 82) rfl rfl ?_
              refine w_t (np := 84) (l2 := [some (eR a0), some (eR a1), some (eR a2), some (eI (i3)), some (eI (v15)), some (eI (v25)), some (eI (v41)), some (eI (1)), some (eI (i48))]) (s2 := []) rfl rfl rfl ?_
              obtain ⟨v69, e70⟩ : ∃ zz : Int, zz = (i48) + (1) := ⟨_, rfl⟩
              have b71 : 1 ≤ v69 ∧ v69 ≤ 4 := by omega
              refine w_t (np := 87) (l2 := [some (eR a0), some (eR a1), some (eR a2), some (eI (i3)), some (eI (v15)), some (eI (v25)), some (eI (v41)), some (eI (1)), some (eI (v69))]) (s2 := []) rfl (b_iinc rfl (by rw [← e70]; exact ev_w_in (by omega) (by omega)) rfl) rfl ?_
              refine w_go (t1 := 46) rfl rfl ?_
              exact ih45 (4 - (v69)).toNat (by omega) m59 (1) (v69) I60 F64 (by decide) (by omega)     rfl
      exact hL46 _ m38 (1) (0) I39 F43 (by decide) (by decide)     rfl
  exact hL2 _ μ (0) (none) (none) (none) (none) (none) hI F0 (by decide)     rfl
def l_307 : List Nat := [13315, 13316, 13317, 13318]
theorem s_307 {L : Nat} {ρ : Nat → Int} {rc : eQ} {d : Nat} {f : eFr} {F : List eFr} {μ : eM} {g : Nat → Nat} {a0 : Nat} {a1 : Nat} {a2 : Int} {a3 : Int} {a4 : Nat} {a5 : Int} (hI : SI g μ) (gA0 : g a0 = 52) (gA1 : g a1 = 83) (bA2 : 0 ≤ a2 ∧ a2 ≤ 12) (bA3 : 0 ≤ a3 ∧ a3 ≤ 12) (gA4 : g a4 = 84) (bA5 : 0 ≤ a5 ∧ a5 ≤ 12) (K : ∀ (μ2 : eM) (v : Int), SI g μ2 → Fr l_307 0 0 g μ μ2 → (-1 ≤ v ∧ v ≤ 1) → ex_q (dt_fg L ρ) rc (d + 5, (f.1, f.2.1, f.2.2.1, eI v :: f.2.2.2), F, μ2)) : ex_q (dt_fg L ρ) rc (d + 4, (307, 0, [some (eR a0), some (eR a1), some (eI (a2)), some (eI (a3)), some (eR a4), some (eI (a5))], []), f :: F, μ) := by
  have F0 : Fr l_307 0 0 g μ μ := Fr.r
  refine w_t (np := 1) (l2 := [some (eR a0), some (eR a1), some (eI (a2)), some (eI (a3)), some (eR a4), some (eI (a5))]) (s2 := [eR a0]) rfl (s_an rfl (pos_g hI gA0 (by decide))) rfl ?_
  refine w_t (np := 2) (l2 := [some (eR a0), some (eR a1), some (eI (a2)), some (eI (a3)), some (eR a4), some (eI (a5))]) (s2 := [eR a1, eR a0]) rfl (s_an rfl (pos_g hI gA1 (by decide))) rfl ?_
  refine w_t (np := 3) (l2 := [some (eR a0), some (eR a1), some (eI (a2)), some (eI (a3)), some (eR a4), some (eI (a5))]) (s2 := [eI (a3), eR a1, eR a0]) rfl rfl rfl ?_
  refine j_al (np := 4) rfl rfl hI gA1 (by decide) (n := 16) rfl rfl (lo := -2147483648) (hi := 2147483647) (fun _ => rfl) (by omega) (by omega) ?_
  intro v1 e2 b3
  refine w_t (np := 5) (l2 := [some (eR a0), some (eR a1), some (eI (a2)), some (eI (a3)), some (eR a4), some (eI (a5))]) (s2 := [eR a1, eI (v1), eR a0]) rfl (s_an rfl (pos_g hI gA1 (by decide))) rfl ?_
  refine w_t (np := 6) (l2 := [some (eR a0), some (eR a1), some (eI (a2)), some (eI (a3)), some (eR a4), some (eI (a5))]) (s2 := [eI (a2), eR a1, eI (v1), eR a0]) rfl rfl rfl ?_
  refine j_al (np := 7) rfl rfl hI gA1 (by decide) (n := 16) rfl rfl (lo := -2147483648) (hi := 2147483647) (fun _ => rfl) (by omega) (by omega) ?_
  intro v4 e5 b6
  obtain ⟨v7, e8, b9⟩ : ∃ zz : Int, ev_w ((v1) - (v4)) = zz ∧ (-2147483648 ≤ zz ∧ zz ≤ 2147483647) := ⟨_, rfl, hw_bd _⟩
  refine w_t (np := 8) (l2 := [some (eR a0), some (eR a1), some (eI (a2)), some (eI (a3)), some (eR a4), some (eI (a5))]) (s2 := [eI (v7), eR a0]) rfl (b_isub e8) rfl ?_
  refine w_t (np := 9) (l2 := [some (eR a0), some (eR a1), some (eI (a2)), some (eI (a3)), some (eR a4), some (eI (a5))]) (s2 := [eJ (v7), eR a0]) rfl (b_i2l (ev_w_in (by omega) (by omega))) rfl ?_
  refine w_t (np := 10) (l2 := [some (eR a0), some (eR a1), some (eI (a2)), some (eI (a3)), some (eR a4), some (eI (a5))]) (s2 := [eR a1, eJ (v7), eR a0]) rfl (s_an rfl (pos_g hI gA1 (by decide))) rfl ?_
  refine w_t (np := 11) (l2 := [some (eR a0), some (eR a1), some (eI (a2)), some (eI (a3)), some (eR a4), some (eI (a5))]) (s2 := [eI (a3), eR a1, eJ (v7), eR a0]) rfl rfl rfl ?_
  refine w_t (np := 12) (l2 := [some (eR a0), some (eR a1), some (eI (a2)), some (eI (a3)), some (eR a4), some (eI (a5))]) (s2 := [eI (1), eI (a3), eR a1, eJ (v7), eR a0]) rfl rfl rfl ?_
  obtain ⟨v10, e11⟩ : ∃ zz : Int, zz = (a3) + (1) := ⟨_, rfl⟩
  have b12 : 1 ≤ v10 ∧ v10 ≤ 13 := by omega
  refine w_t (np := 13) (l2 := [some (eR a0), some (eR a1), some (eI (a2)), some (eI (a3)), some (eR a4), some (eI (a5))]) (s2 := [eI (v10), eR a1, eJ (v7), eR a0]) rfl (b_iadd (by rw [← e11]; exact ev_w_in (by omega) (by omega))) rfl ?_
  refine j_al (np := 14) rfl rfl hI gA1 (by decide) (n := 16) rfl rfl (lo := -2147483648) (hi := 2147483647) (fun _ => rfl) (by omega) (by omega) ?_
  intro v13 e14 b15
  refine w_t (np := 15) (l2 := [some (eR a0), some (eR a1), some (eI (a2)), some (eI (a3)), some (eR a4), some (eI (a5))]) (s2 := [eR a1, eI (v13), eJ (v7), eR a0]) rfl (s_an rfl (pos_g hI gA1 (by decide))) rfl ?_
  refine w_t (np := 16) (l2 := [some (eR a0), some (eR a1), some (eI (a2)), some (eI (a3)), some (eR a4), some (eI (a5))]) (s2 := [eI (a2), eR a1, eI (v13), eJ (v7), eR a0]) rfl rfl rfl ?_
  refine w_t (np := 17) (l2 := [some (eR a0), some (eR a1), some (eI (a2)), some (eI (a3)), some (eR a4), some (eI (a5))]) (s2 := [eI (1), eI (a2), eR a1, eI (v13), eJ (v7), eR a0]) rfl rfl rfl ?_
  obtain ⟨v16, e17⟩ : ∃ zz : Int, zz = (a2) + (1) := ⟨_, rfl⟩
  have b18 : 1 ≤ v16 ∧ v16 ≤ 13 := by omega
  refine w_t (np := 18) (l2 := [some (eR a0), some (eR a1), some (eI (a2)), some (eI (a3)), some (eR a4), some (eI (a5))]) (s2 := [eI (v16), eR a1, eI (v13), eJ (v7), eR a0]) rfl (b_iadd (by rw [← e17]; exact ev_w_in (by omega) (by omega))) rfl ?_
  refine j_al (np := 19) rfl rfl hI gA1 (by decide) (n := 16) rfl rfl (lo := -2147483648) (hi := 2147483647) (fun _ => rfl) (by omega) (by omega) ?_
  intro v19 e20 b21
  obtain ⟨v22, e23, b24⟩ : ∃ zz : Int, ev_w ((v13) - (v19)) = zz ∧ (-2147483648 ≤ zz ∧ zz ≤ 2147483647) := ⟨_, rfl, hw_bd _⟩
  refine w_t (np := 20) (l2 := [some (eR a0), some (eR a1), some (eI (a2)), some (eI (a3)), some (eR a4), some (eI (a5))]) (s2 := [eI (v22), eJ (v7), eR a0]) rfl (b_isub e23) rfl ?_
  refine w_t (np := 21) (l2 := [some (eR a0), some (eR a1), some (eI (a2)), some (eI (a3)), some (eR a4), some (eI (a5))]) (s2 := [eJ (v22), eJ (v7), eR a0]) rfl (b_i2l (ev_w_in (by omega) (by omega))) rfl ?_
  refine w_t (np := 22) (l2 := [some (eR a0), some (eR a1), some (eI (a2)), some (eI (a3)), some (eR a4), some (eI (a5))]) (s2 := [eR a1, eJ (v22), eJ (v7), eR a0]) rfl (s_an rfl (pos_g hI gA1 (by decide))) rfl ?_
  refine w_t (np := 23) (l2 := [some (eR a0), some (eR a1), some (eI (a2)), some (eI (a3)), some (eR a4), some (eI (a5))]) (s2 := [eI (a3), eR a1, eJ (v22), eJ (v7), eR a0]) rfl rfl rfl ?_
  refine w_t (np := 24) (l2 := [some (eR a0), some (eR a1), some (eI (a2)), some (eI (a3)), some (eR a4), some (eI (a5))]) (s2 := [eI (2), eI (a3), eR a1, eJ (v22), eJ (v7), eR a0]) rfl rfl rfl ?_
  obtain ⟨v25, e26⟩ : ∃ zz : Int, zz = (a3) + (2) := ⟨_, rfl⟩
  have b27 : 2 ≤ v25 ∧ v25 ≤ 14 := by omega
  refine w_t (np := 25) (l2 := [some (eR a0), some (eR a1), some (eI (a2)), some (eI (a3)), some (eR a4), some (eI (a5))]) (s2 := [eI (v25), eR a1, eJ (v22), eJ (v7), eR a0]) rfl (b_iadd (by rw [← e26]; exact ev_w_in (by omega) (by omega))) rfl ?_
  refine j_al (np := 26) rfl rfl hI gA1 (by decide) (n := 16) rfl rfl (lo := -2147483648) (hi := 2147483647) (fun _ => rfl) (by omega) (by omega) ?_
  intro v28 e29 b30
  refine w_t (np := 27) (l2 := [some (eR a0), some (eR a1), some (eI (a2)), some (eI (a3)), some (eR a4), some (eI (a5))]) (s2 := [eR a1, eI (v28), eJ (v22), eJ (v7), eR a0]) rfl (s_an rfl (pos_g hI gA1 (by decide))) rfl ?_
  refine w_t (np := 28) (l2 := [some (eR a0), some (eR a1), some (eI (a2)), some (eI (a3)), some (eR a4), some (eI (a5))]) (s2 := [eI (a2), eR a1, eI (v28), eJ (v22), eJ (v7), eR a0]) rfl rfl rfl ?_
  refine w_t (np := 29) (l2 := [some (eR a0), some (eR a1), some (eI (a2)), some (eI (a3)), some (eR a4), some (eI (a5))]) (s2 := [eI (2), eI (a2), eR a1, eI (v28), eJ (v22), eJ (v7), eR a0]) rfl rfl rfl ?_
  obtain ⟨v31, e32⟩ : ∃ zz : Int, zz = (a2) + (2) := ⟨_, rfl⟩
  have b33 : 2 ≤ v31 ∧ v31 ≤ 14 := by omega
  refine w_t (np := 30) (l2 := [some (eR a0), some (eR a1), some (eI (a2)), some (eI (a3)), some (eR a4), some (eI (a5))]) (s2 := [eI (v31), eR a1, eI (v28), eJ (v22), eJ (v7), eR a0]) rfl (b_iadd (by rw [← e32]; exact ev_w_in (by omega) (by omega))) rfl ?_
  refine j_al (np := 31) rfl rfl hI gA1 (by decide) (n := 16) rfl rfl (lo := -2147483648) (hi := 2147483647) (fun _ => rfl) (by omega) (by omega) ?_
  intro v34 e35 b36
  obtain ⟨v37, e38, b39⟩ : ∃ zz : Int, ev_w ((v28) - (v34)) = zz ∧ (-2147483648 ≤ zz ∧ zz ≤ 2147483647) := ⟨_, rfl, hw_bd _⟩
  refine w_t (np := 32) (l2 := [some (eR a0), some (eR a1), some (eI (a2)), some (eI (a3)), some (eR a4), some (eI (a5))]) (s2 := [eI (v37), eJ (v22), eJ (v7), eR a0]) rfl (b_isub e38) rfl ?_
  refine w_t (np := 33) (l2 := [some (eR a0), some (eR a1), some (eI (a2)), some (eI (a3)), some (eR a4), some (eI (a5))]) (s2 := [eJ (v37), eJ (v22), eJ (v7), eR a0]) rfl (b_i2l (ev_w_in (by omega) (by omega))) rfl ?_
  refine w_t (np := 34) (l2 := [some (eR a0), some (eR a1), some (eI (a2)), some (eI (a3)), some (eR a4), some (eI (a5))]) (s2 := [eR a1, eJ (v37), eJ (v22), eJ (v7), eR a0]) rfl (s_an rfl (pos_g hI gA1 (by decide))) rfl ?_
  refine w_t (np := 35) (l2 := [some (eR a0), some (eR a1), some (eI (a2)), some (eI (a3)), some (eR a4), some (eI (a5))]) (s2 := [eI (a3), eR a1, eJ (v37), eJ (v22), eJ (v7), eR a0]) rfl rfl rfl ?_
  refine w_t (np := 36) (l2 := [some (eR a0), some (eR a1), some (eI (a2)), some (eI (a3)), some (eR a4), some (eI (a5))]) (s2 := [eI (3), eI (a3), eR a1, eJ (v37), eJ (v22), eJ (v7), eR a0]) rfl rfl rfl ?_
  obtain ⟨v40, e41⟩ : ∃ zz : Int, zz = (a3) + (3) := ⟨_, rfl⟩
  have b42 : 3 ≤ v40 ∧ v40 ≤ 15 := by omega
  refine w_t (np := 37) (l2 := [some (eR a0), some (eR a1), some (eI (a2)), some (eI (a3)), some (eR a4), some (eI (a5))]) (s2 := [eI (v40), eR a1, eJ (v37), eJ (v22), eJ (v7), eR a0]) rfl (b_iadd (by rw [← e41]; exact ev_w_in (by omega) (by omega))) rfl ?_
  refine j_al (np := 38) rfl rfl hI gA1 (by decide) (n := 16) rfl rfl (lo := -2147483648) (hi := 2147483647) (fun _ => rfl) (by omega) (by omega) ?_
  intro v43 e44 b45
  refine w_t (np := 39) (l2 := [some (eR a0), some (eR a1), some (eI (a2)), some (eI (a3)), some (eR a4), some (eI (a5))]) (s2 := [eR a1, eI (v43), eJ (v37), eJ (v22), eJ (v7), eR a0]) rfl (s_an rfl (pos_g hI gA1 (by decide))) rfl ?_
  refine w_t (np := 40) (l2 := [some (eR a0), some (eR a1), some (eI (a2)), some (eI (a3)), some (eR a4), some (eI (a5))]) (s2 := [eI (a2), eR a1, eI (v43), eJ (v37), eJ (v22), eJ (v7), eR a0]) rfl rfl rfl ?_
  refine w_t (np := 41) (l2 := [some (eR a0), some (eR a1), some (eI (a2)), some (eI (a3)), some (eR a4), some (eI (a5))]) (s2 := [eI (3), eI (a2), eR a1, eI (v43), eJ (v37), eJ (v22), eJ (v7), eR a0]) rfl rfl rfl ?_
  obtain ⟨v46, e47⟩ : ∃ zz : Int, zz = (a2) + (3) := ⟨_, rfl⟩
  have b48 : 3 ≤ v46 ∧ v46 ≤ 15 := by omega
  refine w_t (np := 42) (l2 := [some (eR a0), some (eR a1), some (eI (a2)), some (eI (a3)), some (eR a4), some (eI (a5))]) (s2 := [eI (v46), eR a1, eI (v43), eJ (v37), eJ (v22), eJ (v7), eR a0]) rfl (b_iadd (by rw [← e47]; exact ev_w_in (by omega) (by omega))) rfl ?_
  refine j_al (np := 43) rfl rfl hI gA1 (by decide) (n := 16) rfl rfl (lo := -2147483648) (hi := 2147483647) (fun _ => rfl) (by omega) (by omega) ?_
  intro v49 e50 b51
  obtain ⟨v52, e53, b54⟩ : ∃ zz : Int, ev_w ((v43) - (v49)) = zz ∧ (-2147483648 ≤ zz ∧ zz ≤ 2147483647) := ⟨_, rfl, hw_bd _⟩
  refine w_t (np := 44) (l2 := [some (eR a0), some (eR a1), some (eI (a2)), some (eI (a3)), some (eR a4), some (eI (a5))]) (s2 := [eI (v52), eJ (v37), eJ (v22), eJ (v7), eR a0]) rfl (b_isub e53) rfl ?_
  refine w_t (np := 45) (l2 := [some (eR a0), some (eR a1), some (eI (a2)), some (eI (a3)), some (eR a4), some (eI (a5))]) (s2 := [eJ (v52), eJ (v37), eJ (v22), eJ (v7), eR a0]) rfl (b_i2l (ev_w_in (by omega) (by omega))) rfl ?_
  refine w_t (np := 47) (l2 := [some (eR a0), some (eR a1), some (eI (a2)), some (eI (a3)), some (eR a4), some (eI (a5))]) (s2 := [eR a4, eJ (v52), eJ (v37), eJ (v22), eJ (v7), eR a0]) rfl (s_ao rfl (pos_g hI gA4 (by decide))) rfl ?_
  refine w_t (np := 49) (l2 := [some (eR a0), some (eR a1), some (eI (a2)), some (eI (a3)), some (eR a4), some (eI (a5))]) (s2 := [eI (a5), eR a4, eJ (v52), eJ (v37), eJ (v22), eJ (v7), eR a0]) rfl rfl rfl ?_
  refine j_al (np := 50) rfl rfl hI gA4 (by decide) (n := 16) rfl rfl (lo := -2147483648) (hi := 2147483647) (fun _ => rfl) (by omega) (by omega) ?_
  intro v55 e56 b57
  refine w_t (np := 51) (l2 := [some (eR a0), some (eR a1), some (eI (a2)), some (eI (a3)), some (eR a4), some (eI (a5))]) (s2 := [eR a1, eI (v55), eJ (v52), eJ (v37), eJ (v22), eJ (v7), eR a0]) rfl (s_an rfl (pos_g hI gA1 (by decide))) rfl ?_
  refine w_t (np := 52) (l2 := [some (eR a0), some (eR a1), some (eI (a2)), some (eI (a3)), some (eR a4), some (eI (a5))]) (s2 := [eI (a2), eR a1, eI (v55), eJ (v52), eJ (v37), eJ (v22), eJ (v7), eR a0]) rfl rfl rfl ?_
  refine j_al (np := 53) rfl rfl hI gA1 (by decide) (n := 16) rfl rfl (lo := -2147483648) (hi := 2147483647) (fun _ => rfl) (by omega) (by omega) ?_
  intro v58 e59 b60
  have e59 := e59.symm.trans e5
  rw [e59]
  obtain ⟨v61, e62, b63⟩ : ∃ zz : Int, ev_w ((v55) - (v4)) = zz ∧ (-2147483648 ≤ zz ∧ zz ≤ 2147483647) := ⟨_, rfl, hw_bd _⟩
  refine w_t (np := 54) (l2 := [some (eR a0), some (eR a1), some (eI (a2)), some (eI (a3)), some (eR a4), some (eI (a5))]) (s2 := [eI (v61), eJ (v52), eJ (v37), eJ (v22), eJ (v7), eR a0]) rfl (b_isub e62) rfl ?_
  refine w_t (np := 55) (l2 := [some (eR a0), some (eR a1), some (eI (a2)), some (eI (a3)), some (eR a4), some (eI (a5))]) (s2 := [eJ (v61), eJ (v52), eJ (v37), eJ (v22), eJ (v7), eR a0]) rfl (b_i2l (ev_w_in (by omega) (by omega))) rfl ?_
  refine w_t (np := 57) (l2 := [some (eR a0), some (eR a1), some (eI (a2)), some (eI (a3)), some (eR a4), some (eI (a5))]) (s2 := [eR a4, eJ (v61), eJ (v52), eJ (v37), eJ (v22), eJ (v7), eR a0]) rfl (s_ao rfl (pos_g hI gA4 (by decide))) rfl ?_
  refine w_t (np := 59) (l2 := [some (eR a0), some (eR a1), some (eI (a2)), some (eI (a3)), some (eR a4), some (eI (a5))]) (s2 := [eI (a5), eR a4, eJ (v61), eJ (v52), eJ (v37), eJ (v22), eJ (v7), eR a0]) rfl rfl rfl ?_
  refine w_t (np := 60) (l2 := [some (eR a0), some (eR a1), some (eI (a2)), some (eI (a3)), some (eR a4), some (eI (a5))]) (s2 := [eI (1), eI (a5), eR a4, eJ (v61), eJ (v52), eJ (v37), eJ (v22), eJ (v7), eR a0]) rfl rfl rfl ?_
  obtain ⟨v64, e65⟩ : ∃ zz : Int, zz = (a5) + (1) := ⟨_, rfl⟩
  have b66 : 1 ≤ v64 ∧ v64 ≤ 13 := by omega
  refine w_t (np := 61) (l2 := [some (eR a0), some (eR a1), some (eI (a2)), some (eI (a3)), some (eR a4), some (eI (a5))]) (s2 := [eI (v64), eR a4, eJ (v61), eJ (v52), eJ (v37), eJ (v22), eJ (v7), eR a0]) rfl (b_iadd (by rw [← e65]; exact ev_w_in (by omega) (by omega))) rfl ?_
  refine j_al (np := 62) rfl rfl hI gA4 (by decide) (n := 16) rfl rfl (lo := -2147483648) (hi := 2147483647) (fun _ => rfl) (by omega) (by omega) ?_
  intro v67 e68 b69
  refine w_t (np := 63) (l2 := [some (eR a0), some (eR a1), some (eI (a2)), some (eI (a3)), some (eR a4), some (eI (a5))]) (s2 := [eR a1, eI (v67), eJ (v61), eJ (v52), eJ (v37), eJ (v22), eJ (v7), eR a0]) rfl (s_an rfl (pos_g hI gA1 (by decide))) rfl ?_
  refine w_t (np := 64) (l2 := [some (eR a0), some (eR a1), some (eI (a2)), some (eI (a3)), some (eR a4), some (eI (a5))]) (s2 := [eI (a2), eR a1, eI (v67), eJ (v61), eJ (v52), eJ (v37), eJ (v22), eJ (v7), eR a0]) rfl rfl rfl ?_
  refine w_t (np := 65) (l2 := [some (eR a0), some (eR a1), some (eI (a2)), some (eI (a3)), some (eR a4), some (eI (a5))]) (s2 := [eI (1), eI (a2), eR a1, eI (v67), eJ (v61), eJ (v52), eJ (v37), eJ (v22), eJ (v7), eR a0]) rfl rfl rfl ?_
  obtain ⟨v70, e71⟩ : ∃ zz : Int, zz = (a2) + (1) := ⟨_, rfl⟩
  have b72 : 1 ≤ v70 ∧ v70 ≤ 13 := by omega
  refine w_t (np := 66) (l2 := [some (eR a0), some (eR a1), some (eI (a2)), some (eI (a3)), some (eR a4), some (eI (a5))]) (s2 := [eI (v70), eR a1, eI (v67), eJ (v61), eJ (v52), eJ (v37), eJ (v22), eJ (v7), eR a0]) rfl (b_iadd (by rw [← e71]; exact ev_w_in (by omega) (by omega))) rfl ?_
  refine j_al (np := 67) rfl rfl hI gA1 (by decide) (n := 16) rfl rfl (lo := -2147483648) (hi := 2147483647) (fun _ => rfl) (by omega) (by omega) ?_
  intro v73 e74 b75
  obtain ⟨v76, e77, b78⟩ : ∃ zz : Int, ev_w ((v67) - (v73)) = zz ∧ (-2147483648 ≤ zz ∧ zz ≤ 2147483647) := ⟨_, rfl, hw_bd _⟩
  refine w_t (np := 68) (l2 := [some (eR a0), some (eR a1), some (eI (a2)), some (eI (a3)), some (eR a4), some (eI (a5))]) (s2 := [eI (v76), eJ (v61), eJ (v52), eJ (v37), eJ (v22), eJ (v7), eR a0]) rfl (b_isub e77) rfl ?_
  refine w_t (np := 69) (l2 := [some (eR a0), some (eR a1), some (eI (a2)), some (eI (a3)), some (eR a4), some (eI (a5))]) (s2 := [eJ (v76), eJ (v61), eJ (v52), eJ (v37), eJ (v22), eJ (v7), eR a0]) rfl (b_i2l (ev_w_in (by omega) (by omega))) rfl ?_
  refine w_t (np := 71) (l2 := [some (eR a0), some (eR a1), some (eI (a2)), some (eI (a3)), some (eR a4), some (eI (a5))]) (s2 := [eR a4, eJ (v76), eJ (v61), eJ (v52), eJ (v37), eJ (v22), eJ (v7), eR a0]) rfl (s_ao rfl (pos_g hI gA4 (by decide))) rfl ?_
  refine w_t (np := 73) (l2 := [some (eR a0), some (eR a1), some (eI (a2)), some (eI (a3)), some (eR a4), some (eI (a5))]) (s2 := [eI (a5), eR a4, eJ (v76), eJ (v61), eJ (v52), eJ (v37), eJ (v22), eJ (v7), eR a0]) rfl rfl rfl ?_
  refine w_t (np := 74) (l2 := [some (eR a0), some (eR a1), some (eI (a2)), some (eI (a3)), some (eR a4), some (eI (a5))]) (s2 := [eI (2), eI (a5), eR a4, eJ (v76), eJ (v61), eJ (v52), eJ (v37), eJ (v22), eJ (v7), eR a0]) rfl rfl rfl ?_
  obtain ⟨v79, e80⟩ : ∃ zz : Int, zz = (a5) + (2) := ⟨_, rfl⟩
  have b81 : 2 ≤ v79 ∧ v79 ≤ 14 := by omega
  refine w_t (np := 75) (l2 := [some (eR a0), some (eR a1), some (eI (a2)), some (eI (a3)), some (eR a4), some (eI (a5))]) (s2 := [eI (v79), eR a4, eJ (v76), eJ (v61), eJ (v52), eJ (v37), eJ (v22), eJ (v7), eR a0]) rfl (b_iadd (by rw [← e80]; exact ev_w_in (by omega) (by omega))) rfl ?_
  refine j_al (np := 76) rfl rfl hI gA4 (by decide) (n := 16) rfl rfl (lo := -2147483648) (hi := 2147483647) (fun _ => rfl) (by omega) (by omega) ?_
  intro v82 e83 b84
  refine w_t (np := 77) (l2 := [some (eR a0), some (eR a1), some (eI (a2)), some (eI (a3)), some (eR a4), some (eI (a5))]) (s2 := [eR a1, eI (v82), eJ (v76), eJ (v61), eJ (v52), eJ (v37), eJ (v22), eJ (v7), eR a0]) rfl (s_an rfl (pos_g hI gA1 (by decide))) rfl ?_
  refine w_t (np := 78) (l2 := [some (eR a0), some (eR a1), some (eI (a2)), some (eI (a3)), some (eR a4), some (eI (a5))]) (s2 := [eI (a2), eR a1, eI (v82), eJ (v76), eJ (v61), eJ (v52), eJ (v37), eJ (v22), eJ (v7), eR a0]) rfl rfl rfl ?_
  refine w_t (np := 79) (l2 := [some (eR a0), some (eR a1), some (eI (a2)), some (eI (a3)), some (eR a4), some (eI (a5))]) (s2 := [eI (2), eI (a2), eR a1, eI (v82), eJ (v76), eJ (v61), eJ (v52), eJ (v37), eJ (v22), eJ (v7), eR a0]) rfl rfl rfl ?_
  obtain ⟨v85, e86⟩ : ∃ zz : Int, zz = (a2) + (2) := ⟨_, rfl⟩
  have b87 : 2 ≤ v85 ∧ v85 ≤ 14 := by omega
  refine w_t (np := 80) (l2 := [some (eR a0), some (eR a1), some (eI (a2)), some (eI (a3)), some (eR a4), some (eI (a5))]) (s2 := [eI (v85), eR a1, eI (v82), eJ (v76), eJ (v61), eJ (v52), eJ (v37), eJ (v22), eJ (v7), eR a0]) rfl (b_iadd (by rw [← e86]; exact ev_w_in (by omega) (by omega))) rfl ?_
  refine j_al (np := 81) rfl rfl hI gA1 (by decide) (n := 16) rfl rfl (lo := -2147483648) (hi := 2147483647) (fun _ => rfl) (by omega) (by omega) ?_
  intro v88 e89 b90
  obtain ⟨v91, e92, b93⟩ : ∃ zz : Int, ev_w ((v82) - (v88)) = zz ∧ (-2147483648 ≤ zz ∧ zz ≤ 2147483647) := ⟨_, rfl, hw_bd _⟩
  refine w_t (np := 82) (l2 := [some (eR a0), some (eR a1), some (eI (a2)), some (eI (a3)), some (eR a4), some (eI (a5))]) (s2 := [eI (v91), eJ (v76), eJ (v61), eJ (v52), eJ (v37), eJ (v22), eJ (v7), eR a0]) rfl (b_isub e92) rfl ?_
  refine w_t (np := 83) (l2 := [some (eR a0), some (eR a1), some (eI (a2)), some (eI (a3)), some (eR a4), some (eI (a5))]) (s2 := [eJ (v91), eJ (v76), eJ (v61), eJ (v52), eJ (v37), eJ (v22), eJ (v7), eR a0]) rfl (b_i2l (ev_w_in (by omega) (by omega))) rfl ?_
  refine w_t (np := 85) (l2 := [some (eR a0), some (eR a1), some (eI (a2)), some (eI (a3)), some (eR a4), some (eI (a5))]) (s2 := [eR a4, eJ (v91), eJ (v76), eJ (v61), eJ (v52), eJ (v37), eJ (v22), eJ (v7), eR a0]) rfl (s_ao rfl (pos_g hI gA4 (by decide))) rfl ?_
  refine w_t (np := 87) (l2 := [some (eR a0), some (eR a1), some (eI (a2)), some (eI (a3)), some (eR a4), some (eI (a5))]) (s2 := [eI (a5), eR a4, eJ (v91), eJ (v76), eJ (v61), eJ (v52), eJ (v37), eJ (v22), eJ (v7), eR a0]) rfl rfl rfl ?_
  refine w_t (np := 88) (l2 := [some (eR a0), some (eR a1), some (eI (a2)), some (eI (a3)), some (eR a4), some (eI (a5))]) (s2 := [eI (3), eI (a5), eR a4, eJ (v91), eJ (v76), eJ (v61), eJ (v52), eJ (v37), eJ (v22), eJ (v7), eR a0]) rfl rfl rfl ?_
  obtain ⟨v94, e95⟩ : ∃ zz : Int, zz = (a5) + (3) := ⟨_, rfl⟩
  have b96 : 3 ≤ v94 ∧ v94 ≤ 15 := by omega
  refine w_t (np := 89) (l2 := [some (eR a0), some (eR a1), some (eI (a2)), some (eI (a3)), some (eR a4), some (eI (a5))]) (s2 := [eI (v94), eR a4, eJ (v91), eJ (v76), eJ (v61), eJ (v52), eJ (v37), eJ (v22), eJ (v7), eR a0]) rfl (b_iadd (by rw [← e95]; exact ev_w_in (by omega) (by omega))) rfl ?_
  refine j_al (np := 90) rfl rfl hI gA4 (by decide) (n := 16) rfl rfl (lo := -2147483648) (hi := 2147483647) (fun _ => rfl) (by omega) (by omega) ?_
  intro v97 e98 b99
  refine w_t (np := 91) (l2 := [some (eR a0), some (eR a1), some (eI (a2)), some (eI (a3)), some (eR a4), some (eI (a5))]) (s2 := [eR a1, eI (v97), eJ (v91), eJ (v76), eJ (v61), eJ (v52), eJ (v37), eJ (v22), eJ (v7), eR a0]) rfl (s_an rfl (pos_g hI gA1 (by decide))) rfl ?_
  refine w_t (np := 92) (l2 := [some (eR a0), some (eR a1), some (eI (a2)), some (eI (a3)), some (eR a4), some (eI (a5))]) (s2 := [eI (a2), eR a1, eI (v97), eJ (v91), eJ (v76), eJ (v61), eJ (v52), eJ (v37), eJ (v22), eJ (v7), eR a0]) rfl rfl rfl ?_
  refine w_t (np := 93) (l2 := [some (eR a0), some (eR a1), some (eI (a2)), some (eI (a3)), some (eR a4), some (eI (a5))]) (s2 := [eI (3), eI (a2), eR a1, eI (v97), eJ (v91), eJ (v76), eJ (v61), eJ (v52), eJ (v37), eJ (v22), eJ (v7), eR a0]) rfl rfl rfl ?_
  obtain ⟨v100, e101⟩ : ∃ zz : Int, zz = (a2) + (3) := ⟨_, rfl⟩
  have b102 : 3 ≤ v100 ∧ v100 ≤ 15 := by omega
  refine w_t (np := 94) (l2 := [some (eR a0), some (eR a1), some (eI (a2)), some (eI (a3)), some (eR a4), some (eI (a5))]) (s2 := [eI (v100), eR a1, eI (v97), eJ (v91), eJ (v76), eJ (v61), eJ (v52), eJ (v37), eJ (v22), eJ (v7), eR a0]) rfl (b_iadd (by rw [← e101]; exact ev_w_in (by omega) (by omega))) rfl ?_
  refine j_al (np := 95) rfl rfl hI gA1 (by decide) (n := 16) rfl rfl (lo := -2147483648) (hi := 2147483647) (fun _ => rfl) (by omega) (by omega) ?_
  intro v103 e104 b105
  obtain ⟨v106, e107, b108⟩ : ∃ zz : Int, ev_w ((v97) - (v103)) = zz ∧ (-2147483648 ≤ zz ∧ zz ≤ 2147483647) := ⟨_, rfl, hw_bd _⟩
  refine w_t (np := 96) (l2 := [some (eR a0), some (eR a1), some (eI (a2)), some (eI (a3)), some (eR a4), some (eI (a5))]) (s2 := [eI (v106), eJ (v91), eJ (v76), eJ (v61), eJ (v52), eJ (v37), eJ (v22), eJ (v7), eR a0]) rfl (b_isub e107) rfl ?_
  refine w_t (np := 97) (l2 := [some (eR a0), some (eR a1), some (eI (a2)), some (eI (a3)), some (eR a4), some (eI (a5))]) (s2 := [eJ (v106), eJ (v91), eJ (v76), eJ (v61), eJ (v52), eJ (v37), eJ (v22), eJ (v7), eR a0]) rfl (b_i2l (ev_w_in (by omega) (by omega))) rfl ?_
  refine w_cw (np := 100) (as := [eJ (v7), eJ (v22), eJ (v37), eJ (v52), eJ (v61), eJ (v76), eJ (v91), eJ (v106)]) (l2 := [some (eR a0), some (eJ (v7)), none, some (eJ (v22)), none, some (eJ (v37)), none, some (eJ (v52)), none, some (eJ (v61)), none, some (eJ (v76)), none, some (eJ (v91)), none, some (eJ (v106)), none]) (rest := []) rfl rfl rfl (Nat.ble_eq.mp rfl) rfl rfl rfl (hI.kd gA0 (by decide) (n := 69) rfl) rfl ?_
  refine s_225 hI gA0 (by omega) (by omega) (by omega) (by omega) (by omega) (by omega) (by omega) (by omega) ?_
  intro m109 v112 I110 F111 b113
  have F114 : Fr l_307 0 0 g μ m109 := F0.t F111 rfl
  show ex_q (dt_fg L ρ) rc (d + 4, (307, 100, [some (eR a0), some (eR a1), some (eI (a2)), some (eI (a3)), some (eR a4), some (eI (a5))], [eI (v112)]), f :: F, m109)
  exact b_ri rfl rfl (K m109 (v112) I110 F114 (by omega))
def l_307_2 : List Nat := [13315, 13316, 13317, 13318]
theorem s_307_2 {L : Nat} {ρ : Nat → Int} {rc : eQ} {d : Nat} {f : eFr} {F : List eFr} {μ : eM} {g : Nat → Nat} {a0 : Nat} {a1 : Nat} {a2 : Int} {a3 : Int} {a4 : Nat} {a5 : Int} (hI : SI g μ) (gA0 : g a0 = 52) (gA1 : g a1 = 84) (bA2 : 0 ≤ a2 ∧ a2 ≤ 12) (bA3 : 0 ≤ a3 ∧ a3 ≤ 12) (gA4 : g a4 = 83) (bA5 : 0 ≤ a5 ∧ a5 ≤ 12) (K : ∀ (μ2 : eM) (v : Int), SI g μ2 → Fr l_307_2 0 0 g μ μ2 → (-1 ≤ v ∧ v ≤ 1) → ex_q (dt_fg L ρ) rc (d + 5, (f.1, f.2.1, f.2.2.1, eI v :: f.2.2.2), F, μ2)) : ex_q (dt_fg L ρ) rc (d + 4, (307, 0, [some (eR a0), some (eR a1), some (eI (a2)), some (eI (a3)), some (eR a4), some (eI (a5))], []), f :: F, μ) := by
  have F0 : Fr l_307_2 0 0 g μ μ := Fr.r
  refine w_t (np := 1) (l2 := [some (eR a0), some (eR a1), some (eI (a2)), some (eI (a3)), some (eR a4), some (eI (a5))]) (s2 := [eR a0]) rfl (s_an rfl (pos_g hI gA0 (by decide))) rfl ?_
  refine w_t (np := 2) (l2 := [some (eR a0), some (eR a1), some (eI (a2)), some (eI (a3)), some (eR a4), some (eI (a5))]) (s2 := [eR a1, eR a0]) rfl (s_an rfl (pos_g hI gA1 (by decide))) rfl ?_
  refine w_t (np := 3) (l2 := [some (eR a0), some (eR a1), some (eI (a2)), some (eI (a3)), some (eR a4), some (eI (a5))]) (s2 := [eI (a3), eR a1, eR a0]) rfl rfl rfl ?_
  refine j_al (np := 4) rfl rfl hI gA1 (by decide) (n := 16) rfl rfl (lo := -2147483648) (hi := 2147483647) (fun _ => rfl) (by omega) (by omega) ?_
  intro v1 e2 b3
  refine w_t (np := 5) (l2 := [some (eR a0), some (eR a1), some (eI (a2)), some (eI (a3)), some (eR a4), some (eI (a5))]) (s2 := [eR a1, eI (v1), eR a0]) rfl (s_an rfl (pos_g hI gA1 (by decide))) rfl ?_
  refine w_t (np := 6) (l2 := [some (eR a0), some (eR a1), some (eI (a2)), some (eI (a3)), some (eR a4), some (eI (a5))]) (s2 := [eI (a2), eR a1, eI (v1), eR a0]) rfl rfl rfl ?_
  refine j_al (np := 7) rfl rfl hI gA1 (by decide) (n := 16) rfl rfl (lo := -2147483648) (hi := 2147483647) (fun _ => rfl) (by omega) (by omega) ?_
  intro v4 e5 b6
  obtain ⟨v7, e8, b9⟩ : ∃ zz : Int, ev_w ((v1) - (v4)) = zz ∧ (-2147483648 ≤ zz ∧ zz ≤ 2147483647) := ⟨_, rfl, hw_bd _⟩
  refine w_t (np := 8) (l2 := [some (eR a0), some (eR a1), some (eI (a2)), some (eI (a3)), some (eR a4), some (eI (a5))]) (s2 := [eI (v7), eR a0]) rfl (b_isub e8) rfl ?_
  refine w_t (np := 9) (l2 := [some (eR a0), some (eR a1), some (eI (a2)), some (eI (a3)), some (eR a4), some (eI (a5))]) (s2 := [eJ (v7), eR a0]) rfl (b_i2l (ev_w_in (by omega) (by omega))) rfl ?_
  refine w_t (np := 10) (l2 := [some (eR a0), some (eR a1), some (eI (a2)), some (eI (a3)), some (eR a4), some (eI (a5))]) (s2 := [eR a1, eJ (v7), eR a0]) rfl (s_an rfl (pos_g hI gA1 (by decide))) rfl ?_
  refine w_t (np := 11) (l2 := [some (eR a0), some (eR a1), some (eI (a2)), some (eI (a3)), some (eR a4), some (eI (a5))]) (s2 := [eI (a3), eR a1, eJ (v7), eR a0]) rfl rfl rfl ?_
  refine w_t (np := 12) (l2 := [some (eR a0), some (eR a1), some (eI (a2)), some (eI (a3)), some (eR a4), some (eI (a5))]) (s2 := [eI (1), eI (a3), eR a1, eJ (v7), eR a0]) rfl rfl rfl ?_
  obtain ⟨v10, e11⟩ : ∃ zz : Int, zz = (a3) + (1) := ⟨_, rfl⟩
  have b12 : 1 ≤ v10 ∧ v10 ≤ 13 := by omega
  refine w_t (np := 13) (l2 := [some (eR a0), some (eR a1), some (eI (a2)), some (eI (a3)), some (eR a4), some (eI (a5))]) (s2 := [eI (v10), eR a1, eJ (v7), eR a0]) rfl (b_iadd (by rw [← e11]; exact ev_w_in (by omega) (by omega))) rfl ?_
  refine j_al (np := 14) rfl rfl hI gA1 (by decide) (n := 16) rfl rfl (lo := -2147483648) (hi := 2147483647) (fun _ => rfl) (by omega) (by omega) ?_
  intro v13 e14 b15
  refine w_t (np := 15) (l2 := [some (eR a0), some (eR a1), some (eI (a2)), some (eI (a3)), some (eR a4), some (eI (a5))]) (s2 := [eR a1, eI (v13), eJ (v7), eR a0]) rfl (s_an rfl (pos_g hI gA1 (by decide))) rfl ?_
  refine w_t (np := 16) (l2 := [some (eR a0), some (eR a1), some (eI (a2)), some (eI (a3)), some (eR a4), some (eI (a5))]) (s2 := [eI (a2), eR a1, eI (v13), eJ (v7), eR a0]) rfl rfl rfl ?_
  refine w_t (np := 17) (l2 := [some (eR a0), some (eR a1), some (eI (a2)), some (eI (a3)), some (eR a4), some (eI (a5))]) (s2 := [eI (1), eI (a2), eR a1, eI (v13), eJ (v7), eR a0]) rfl rfl rfl ?_
  obtain ⟨v16, e17⟩ : ∃ zz : Int, zz = (a2) + (1) := ⟨_, rfl⟩
  have b18 : 1 ≤ v16 ∧ v16 ≤ 13 := by omega
  refine w_t (np := 18) (l2 := [some (eR a0), some (eR a1), some (eI (a2)), some (eI (a3)), some (eR a4), some (eI (a5))]) (s2 := [eI (v16), eR a1, eI (v13), eJ (v7), eR a0]) rfl (b_iadd (by rw [← e17]; exact ev_w_in (by omega) (by omega))) rfl ?_
  refine j_al (np := 19) rfl rfl hI gA1 (by decide) (n := 16) rfl rfl (lo := -2147483648) (hi := 2147483647) (fun _ => rfl) (by omega) (by omega) ?_
  intro v19 e20 b21
  obtain ⟨v22, e23, b24⟩ : ∃ zz : Int, ev_w ((v13) - (v19)) = zz ∧ (-2147483648 ≤ zz ∧ zz ≤ 2147483647) := ⟨_, rfl, hw_bd _⟩
  refine w_t (np := 20) (l2 := [some (eR a0), some (eR a1), some (eI (a2)), some (eI (a3)), some (eR a4), some (eI (a5))]) (s2 := [eI (v22), eJ (v7), eR a0]) rfl (b_isub e23) rfl ?_
  refine w_t (np := 21) (l2 := [some (eR a0), some (eR a1), some (eI (a2)), some (eI (a3)), some (eR a4), some (eI (a5))]) (s2 := [eJ (v22), eJ (v7), eR a0]) rfl (b_i2l (ev_w_in (by omega) (by omega))) rfl ?_
  refine w_t (np := 22) (l2 := [some (eR a0), some (eR a1), some (eI (a2)), some (eI (a3)), some (eR a4), some (eI (a5))]) (s2 := [eR a1, eJ (v22), eJ (v7), eR a0]) rfl (s_an rfl (pos_g hI gA1 (by decide))) rfl ?_
  refine w_t (np := 23) (l2 := [some (eR a0), some (eR a1), some (eI (a2)), some (eI (a3)), some (eR a4), some (eI (a5))]) (s2 := [eI (a3), eR a1, eJ (v22), eJ (v7), eR a0]) rfl rfl rfl ?_
  refine w_t (np := 24) (l2 := [some (eR a0), some (eR a1), some (eI (a2)), some (eI (a3)), some (eR a4), some (eI (a5))]) (s2 := [eI (2), eI (a3), eR a1, eJ (v22), eJ (v7), eR a0]) rfl rfl rfl ?_
  obtain ⟨v25, e26⟩ : ∃ zz : Int, zz = (a3) + (2) := ⟨_, rfl⟩
  have b27 : 2 ≤ v25 ∧ v25 ≤ 14 := by omega
  refine w_t (np := 25) (l2 := [some (eR a0), some (eR a1), some (eI (a2)), some (eI (a3)), some (eR a4), some (eI (a5))]) (s2 := [eI (v25), eR a1, eJ (v22), eJ (v7), eR a0]) rfl (b_iadd (by rw [← e26]; exact ev_w_in (by omega) (by omega))) rfl ?_
  refine j_al (np := 26) rfl rfl hI gA1 (by decide) (n := 16) rfl rfl (lo := -2147483648) (hi := 2147483647) (fun _ => rfl) (by omega) (by omega) ?_
  intro v28 e29 b30
  refine w_t (np := 27) (l2 := [some (eR a0), some (eR a1), some (eI (a2)), some (eI (a3)), some (eR a4), some (eI (a5))]) (s2 := [eR a1, eI (v28), eJ (v22), eJ (v7), eR a0]) rfl (s_an rfl (pos_g hI gA1 (by decide))) rfl ?_
  refine w_t (np := 28) (l2 := [some (eR a0), some (eR a1), some (eI (a2)), some (eI (a3)), some (eR a4), some (eI (a5))]) (s2 := [eI (a2), eR a1, eI (v28), eJ (v22), eJ (v7), eR a0]) rfl rfl rfl ?_
  refine w_t (np := 29) (l2 := [some (eR a0), some (eR a1), some (eI (a2)), some (eI (a3)), some (eR a4), some (eI (a5))]) (s2 := [eI (2), eI (a2), eR a1, eI (v28), eJ (v22), eJ (v7), eR a0]) rfl rfl rfl ?_
  obtain ⟨v31, e32⟩ : ∃ zz : Int, zz = (a2) + (2) := ⟨_, rfl⟩
  have b33 : 2 ≤ v31 ∧ v31 ≤ 14 := by omega
  refine w_t (np := 30) (l2 := [some (eR a0), some (eR a1), some (eI (a2)), some (eI (a3)), some (eR a4), some (eI (a5))]) (s2 := [eI (v31), eR a1, eI (v28), eJ (v22), eJ (v7), eR a0]) rfl (b_iadd (by rw [← e32]; exact ev_w_in (by omega) (by omega))) rfl ?_
  refine j_al (np := 31) rfl rfl hI gA1 (by decide) (n := 16) rfl rfl (lo := -2147483648) (hi := 2147483647) (fun _ => rfl) (by omega) (by omega) ?_
  intro v34 e35 b36
  obtain ⟨v37, e38, b39⟩ : ∃ zz : Int, ev_w ((v28) - (v34)) = zz ∧ (-2147483648 ≤ zz ∧ zz ≤ 2147483647) := ⟨_, rfl, hw_bd _⟩
  refine w_t (np := 32) (l2 := [some (eR a0), some (eR a1), some (eI (a2)), some (eI (a3)), some (eR a4), some (eI (a5))]) (s2 := [eI (v37), eJ (v22), eJ (v7), eR a0]) rfl (b_isub e38) rfl ?_
  refine w_t (np := 33) (l2 := [some (eR a0), some (eR a1), some (eI (a2)), some (eI (a3)), some (eR a4), some (eI (a5))]) (s2 := [eJ (v37), eJ (v22), eJ (v7), eR a0]) rfl (b_i2l (ev_w_in (by omega) (by omega))) rfl ?_
  refine w_t (np := 34) (l2 := [some (eR a0), some (eR a1), some (eI (a2)), some (eI (a3)), some (eR a4), some (eI (a5))]) (s2 := [eR a1, eJ (v37), eJ (v22), eJ (v7), eR a0]) rfl (s_an rfl (pos_g hI gA1 (by decide))) rfl ?_
  refine w_t (np := 35) (l2 := [some (eR a0), some (eR a1), some (eI (a2)), some (eI (a3)), some (eR a4), some (eI (a5))]) (s2 := [eI (a3), eR a1, eJ (v37), eJ (v22), eJ (v7), eR a0]) rfl rfl rfl ?_
  refine w_t (np := 36) (l2 := [some (eR a0), some (eR a1), some (eI (a2)), some (eI (a3)), some (eR a4), some (eI (a5))]) (s2 := [eI (3), eI (a3), eR a1, eJ (v37), eJ (v22), eJ (v7), eR a0]) rfl rfl rfl ?_
  obtain ⟨v40, e41⟩ : ∃ zz : Int, zz = (a3) + (3) := ⟨_, rfl⟩
  have b42 : 3 ≤ v40 ∧ v40 ≤ 15 := by omega
  refine w_t (np := 37) (l2 := [some (eR a0), some (eR a1), some (eI (a2)), some (eI (a3)), some (eR a4), some (eI (a5))]) (s2 := [eI (v40), eR a1, eJ (v37), eJ (v22), eJ (v7), eR a0]) rfl (b_iadd (by rw [← e41]; exact ev_w_in (by omega) (by omega))) rfl ?_
  refine j_al (np := 38) rfl rfl hI gA1 (by decide) (n := 16) rfl rfl (lo := -2147483648) (hi := 2147483647) (fun _ => rfl) (by omega) (by omega) ?_
  intro v43 e44 b45
  refine w_t (np := 39) (l2 := [some (eR a0), some (eR a1), some (eI (a2)), some (eI (a3)), some (eR a4), some (eI (a5))]) (s2 := [eR a1, eI (v43), eJ (v37), eJ (v22), eJ (v7), eR a0]) rfl (s_an rfl (pos_g hI gA1 (by decide))) rfl ?_
  refine w_t (np := 40) (l2 := [some (eR a0), some (eR a1), some (eI (a2)), some (eI (a3)), some (eR a4), some (eI (a5))]) (s2 := [eI (a2), eR a1, eI (v43), eJ (v37), eJ (v22), eJ (v7), eR a0]) rfl rfl rfl ?_
  refine w_t (np := 41) (l2 := [some (eR a0), some (eR a1), some (eI (a2)), some (eI (a3)), some (eR a4), some (eI (a5))]) (s2 := [eI (3), eI (a2), eR a1, eI (v43), eJ (v37), eJ (v22), eJ (v7), eR a0]) rfl rfl rfl ?_
  obtain ⟨v46, e47⟩ : ∃ zz : Int, zz = (a2) + (3) := ⟨_, rfl⟩
  have b48 : 3 ≤ v46 ∧ v46 ≤ 15 := by omega
  refine w_t (np := 42) (l2 := [some (eR a0), some (eR a1), some (eI (a2)), some (eI (a3)), some (eR a4), some (eI (a5))]) (s2 := [eI (v46), eR a1, eI (v43), eJ (v37), eJ (v22), eJ (v7), eR a0]) rfl (b_iadd (by rw [← e47]; exact ev_w_in (by omega) (by omega))) rfl ?_
  refine j_al (np := 43) rfl rfl hI gA1 (by decide) (n := 16) rfl rfl (lo := -2147483648) (hi := 2147483647) (fun _ => rfl) (by omega) (by omega) ?_
  intro v49 e50 b51
  obtain ⟨v52, e53, b54⟩ : ∃ zz : Int, ev_w ((v43) - (v49)) = zz ∧ (-2147483648 ≤ zz ∧ zz ≤ 2147483647) := ⟨_, rfl, hw_bd _⟩
  refine w_t (np := 44) (l2 := [some (eR a0), some (eR a1), some (eI (a2)), some (eI (a3)), some (eR a4), some (eI (a5))]) (s2 := [eI (v52), eJ (v37), eJ (v22), eJ (v7), eR a0]) rfl (b_isub e53) rfl ?_
  refine w_t (np := 45) (l2 := [some (eR a0), some (eR a1), some (eI (a2)), some (eI (a3)), some (eR a4), some (eI (a5))]) (s2 := [eJ (v52), eJ (v37), eJ (v22), eJ (v7), eR a0]) rfl (b_i2l (ev_w_in (by omega) (by omega))) rfl ?_
  refine w_t (np := 47) (l2 := [some (eR a0), some (eR a1), some (eI (a2)), some (eI (a3)), some (eR a4), some (eI (a5))]) (s2 := [eR a4, eJ (v52), eJ (v37), eJ (v22), eJ (v7), eR a0]) rfl (s_ao rfl (pos_g hI gA4 (by decide))) rfl ?_
  refine w_t (np := 49) (l2 := [some (eR a0), some (eR a1), some (eI (a2)), some (eI (a3)), some (eR a4), some (eI (a5))]) (s2 := [eI (a5), eR a4, eJ (v52), eJ (v37), eJ (v22), eJ (v7), eR a0]) rfl rfl rfl ?_
  refine j_al (np := 50) rfl rfl hI gA4 (by decide) (n := 16) rfl rfl (lo := -2147483648) (hi := 2147483647) (fun _ => rfl) (by omega) (by omega) ?_
  intro v55 e56 b57
  refine w_t (np := 51) (l2 := [some (eR a0), some (eR a1), some (eI (a2)), some (eI (a3)), some (eR a4), some (eI (a5))]) (s2 := [eR a1, eI (v55), eJ (v52), eJ (v37), eJ (v22), eJ (v7), eR a0]) rfl (s_an rfl (pos_g hI gA1 (by decide))) rfl ?_
  refine w_t (np := 52) (l2 := [some (eR a0), some (eR a1), some (eI (a2)), some (eI (a3)), some (eR a4), some (eI (a5))]) (s2 := [eI (a2), eR a1, eI (v55), eJ (v52), eJ (v37), eJ (v22), eJ (v7), eR a0]) rfl rfl rfl ?_
  refine j_al (np := 53) rfl rfl hI gA1 (by decide) (n := 16) rfl rfl (lo := -2147483648) (hi := 2147483647) (fun _ => rfl) (by omega) (by omega) ?_
  intro v58 e59 b60
  have e59 := e59.symm.trans e5
  rw [e59]
  obtain ⟨v61, e62, b63⟩ : ∃ zz : Int, ev_w ((v55) - (v4)) = zz ∧ (-2147483648 ≤ zz ∧ zz ≤ 2147483647) := ⟨_, rfl, hw_bd _⟩
  refine w_t (np := 54) (l2 := [some (eR a0), some (eR a1), some (eI (a2)), some (eI (a3)), some (eR a4), some (eI (a5))]) (s2 := [eI (v61), eJ (v52), eJ (v37), eJ (v22), eJ (v7), eR a0]) rfl (b_isub e62) rfl ?_
  refine w_t (np := 55) (l2 := [some (eR a0), some (eR a1), some (eI (a2)), some (eI (a3)), some (eR a4), some (eI (a5))]) (s2 := [eJ (v61), eJ (v52), eJ (v37), eJ (v22), eJ (v7), eR a0]) rfl (b_i2l (ev_w_in (by omega) (by omega))) rfl ?_
  refine w_t (np := 57) (l2 := [some (eR a0), some (eR a1), some (eI (a2)), some (eI (a3)), some (eR a4), some (eI (a5))]) (s2 := [eR a4, eJ (v61), eJ (v52), eJ (v37), eJ (v22), eJ (v7), eR a0]) rfl (s_ao rfl (pos_g hI gA4 (by decide))) rfl ?_
  refine w_t (np := 59) (l2 := [some (eR a0), some (eR a1), some (eI (a2)), some (eI (a3)), some (eR a4), some (eI (a5))]) (s2 := [eI (a5), eR a4, eJ (v61), eJ (v52), eJ (v37), eJ (v22), eJ (v7), eR a0]) rfl rfl rfl ?_
  refine w_t (np := 60) (l2 := [some (eR a0), some (eR a1), some (eI (a2)), some (eI (a3)), some (eR a4), some (eI (a5))]) (s2 := [eI (1), eI (a5), eR a4, eJ (v61), eJ (v52), eJ (v37), eJ (v22), eJ (v7), eR a0]) rfl rfl rfl ?_
  obtain ⟨v64, e65⟩ : ∃ zz : Int, zz = (a5) + (1) := ⟨_, rfl⟩
  have b66 : 1 ≤ v64 ∧ v64 ≤ 13 := by omega
  refine w_t (np := 61) (l2 := [some (eR a0), some (eR a1), some (eI (a2)), some (eI (a3)), some (eR a4), some (eI (a5))]) (s2 := [eI (v64), eR a4, eJ (v61), eJ (v52), eJ (v37), eJ (v22), eJ (v7), eR a0]) rfl (b_iadd (by rw [← e65]; exact ev_w_in (by omega) (by omega))) rfl ?_
  refine j_al (np := 62) rfl rfl hI gA4 (by decide) (n := 16) rfl rfl (lo := -2147483648) (hi := 2147483647) (fun _ => rfl) (by omega) (by omega) ?_
  intro v67 e68 b69
  refine w_t (np := 63) (l2 := [some (eR a0), some (eR a1), some (eI (a2)), some (eI (a3)), some (eR a4), some (eI (a5))]) (s2 := [eR a1, eI (v67), eJ (v61), eJ (v52), eJ (v37), eJ (v22), eJ (v7), eR a0]) rfl (s_an rfl (pos_g hI gA1 (by decide))) rfl ?_
  refine w_t (np := 64) (l2 := [some (eR a0), some (eR a1), some (eI (a2)), some (eI (a3)), some (eR a4), some (eI (a5))]) (s2 := [eI (a2), eR a1, eI (v67), eJ (v61), eJ (v52), eJ (v37), eJ (v22), eJ (v7), eR a0]) rfl rfl rfl ?_
  refine w_t (np := 65) (l2 := [some (eR a0), some (eR a1), some (eI (a2)), some (eI (a3)), some (eR a4), some (eI (a5))]) (s2 := [eI (1), eI (a2), eR a1, eI (v67), eJ (v61), eJ (v52), eJ (v37), eJ (v22), eJ (v7), eR a0]) rfl rfl rfl ?_
  obtain ⟨v70, e71⟩ : ∃ zz : Int, zz = (a2) + (1) := ⟨_, rfl⟩
  have b72 : 1 ≤ v70 ∧ v70 ≤ 13 := by omega
  refine w_t (np := 66) (l2 := [some (eR a0), some (eR a1), some (eI (a2)), some (eI (a3)), some (eR a4), some (eI (a5))]) (s2 := [eI (v70), eR a1, eI (v67), eJ (v61), eJ (v52), eJ (v37), eJ (v22), eJ (v7), eR a0]) rfl (b_iadd (by rw [← e71]; exact ev_w_in (by omega) (by omega))) rfl ?_
  refine j_al (np := 67) rfl rfl hI gA1 (by decide) (n := 16) rfl rfl (lo := -2147483648) (hi := 2147483647) (fun _ => rfl) (by omega) (by omega) ?_
  intro v73 e74 b75
  obtain ⟨v76, e77, b78⟩ : ∃ zz : Int, ev_w ((v67) - (v73)) = zz ∧ (-2147483648 ≤ zz ∧ zz ≤ 2147483647) := ⟨_, rfl, hw_bd _⟩
  refine w_t (np := 68) (l2 := [some (eR a0), some (eR a1), some (eI (a2)), some (eI (a3)), some (eR a4), some (eI (a5))]) (s2 := [eI (v76), eJ (v61), eJ (v52), eJ (v37), eJ (v22), eJ (v7), eR a0]) rfl (b_isub e77) rfl ?_
  refine w_t (np := 69) (l2 := [some (eR a0), some (eR a1), some (eI (a2)), some (eI (a3)), some (eR a4), some (eI (a5))]) (s2 := [eJ (v76), eJ (v61), eJ (v52), eJ (v37), eJ (v22), eJ (v7), eR a0]) rfl (b_i2l (ev_w_in (by omega) (by omega))) rfl ?_
  refine w_t (np := 71) (l2 := [some (eR a0), some (eR a1), some (eI (a2)), some (eI (a3)), some (eR a4), some (eI (a5))]) (s2 := [eR a4, eJ (v76), eJ (v61), eJ (v52), eJ (v37), eJ (v22), eJ (v7), eR a0]) rfl (s_ao rfl (pos_g hI gA4 (by decide))) rfl ?_
  refine w_t (np := 73) (l2 := [some (eR a0), some (eR a1), some (eI (a2)), some (eI (a3)), some (eR a4), some (eI (a5))]) (s2 := [eI (a5), eR a4, eJ (v76), eJ (v61), eJ (v52), eJ (v37), eJ (v22), eJ (v7), eR a0]) rfl rfl rfl ?_
  refine w_t (np := 74) (l2 := [some (eR a0), some (eR a1), some (eI (a2)), some (eI (a3)), some (eR a4), some (eI (a5))]) (s2 := [eI (2), eI (a5), eR a4, eJ (v76), eJ (v61), eJ (v52), eJ (v37), eJ (v22), eJ (v7), eR a0]) rfl rfl rfl ?_
  obtain ⟨v79, e80⟩ : ∃ zz : Int, zz = (a5) + (2) := ⟨_, rfl⟩
  have b81 : 2 ≤ v79 ∧ v79 ≤ 14 := by omega
  refine w_t (np := 75) (l2 := [some (eR a0), some (eR a1), some (eI (a2)), some (eI (a3)), some (eR a4), some (eI (a5))]) (s2 := [eI (v79), eR a4, eJ (v76), eJ (v61), eJ (v52), eJ (v37), eJ (v22), eJ (v7), eR a0]) rfl (b_iadd (by rw [← e80]; exact ev_w_in (by omega) (by omega))) rfl ?_
  refine j_al (np := 76) rfl rfl hI gA4 (by decide) (n := 16) rfl rfl (lo := -2147483648) (hi := 2147483647) (fun _ => rfl) (by omega) (by omega) ?_
  intro v82 e83 b84
  refine w_t (np := 77) (l2 := [some (eR a0), some (eR a1), some (eI (a2)), some (eI (a3)), some (eR a4), some (eI (a5))]) (s2 := [eR a1, eI (v82), eJ (v76), eJ (v61), eJ (v52), eJ (v37), eJ (v22), eJ (v7), eR a0]) rfl (s_an rfl (pos_g hI gA1 (by decide))) rfl ?_
  refine w_t (np := 78) (l2 := [some (eR a0), some (eR a1), some (eI (a2)), some (eI (a3)), some (eR a4), some (eI (a5))]) (s2 := [eI (a2), eR a1, eI (v82), eJ (v76), eJ (v61), eJ (v52), eJ (v37), eJ (v22), eJ (v7), eR a0]) rfl rfl rfl ?_
  refine w_t (np := 79) (l2 := [some (eR a0), some (eR a1), some (eI (a2)), some (eI (a3)), some (eR a4), some (eI (a5))]) (s2 := [eI (2), eI (a2), eR a1, eI (v82), eJ (v76), eJ (v61), eJ (v52), eJ (v37), eJ (v22), eJ (v7), eR a0]) rfl rfl rfl ?_
  obtain ⟨v85, e86⟩ : ∃ zz : Int, zz = (a2) + (2) := ⟨_, rfl⟩
  have b87 : 2 ≤ v85 ∧ v85 ≤ 14 := by omega
  refine w_t (np := 80) (l2 := [some (eR a0), some (eR a1), some (eI (a2)), some (eI (a3)), some (eR a4), some (eI (a5))]) (s2 := [eI (v85), eR a1, eI (v82), eJ (v76), eJ (v61), eJ (v52), eJ (v37), eJ (v22), eJ (v7), eR a0]) rfl (b_iadd (by rw [← e86]; exact ev_w_in (by omega) (by omega))) rfl ?_
  refine j_al (np := 81) rfl rfl hI gA1 (by decide) (n := 16) rfl rfl (lo := -2147483648) (hi := 2147483647) (fun _ => rfl) (by omega) (by omega) ?_
  intro v88 e89 b90
  obtain ⟨v91, e92, b93⟩ : ∃ zz : Int, ev_w ((v82) - (v88)) = zz ∧ (-2147483648 ≤ zz ∧ zz ≤ 2147483647) := ⟨_, rfl, hw_bd _⟩
  refine w_t (np := 82) (l2 := [some (eR a0), some (eR a1), some (eI (a2)), some (eI (a3)), some (eR a4), some (eI (a5))]) (s2 := [eI (v91), eJ (v76), eJ (v61), eJ (v52), eJ (v37), eJ (v22), eJ (v7), eR a0]) rfl (b_isub e92) rfl ?_
  refine w_t (np := 83) (l2 := [some (eR a0), some (eR a1), some (eI (a2)), some (eI (a3)), some (eR a4), some (eI (a5))]) (s2 := [eJ (v91), eJ (v76), eJ (v61), eJ (v52), eJ (v37), eJ (v22), eJ (v7), eR a0]) rfl (b_i2l (ev_w_in (by omega) (by omega))) rfl ?_
  refine w_t (np := 85) (l2 := [some (eR a0), some (eR a1), some (eI (a2)), some (eI (a3)), some (eR a4), some (eI (a5))]) (s2 := [eR a4, eJ (v91), eJ (v76), eJ (v61), eJ (v52), eJ (v37), eJ (v22), eJ (v7), eR a0]) rfl (s_ao rfl (pos_g hI gA4 (by decide))) rfl ?_
  refine w_t (np := 87) (l2 := [some (eR a0), some (eR a1), some (eI (a2)), some (eI (a3)), some (eR a4), some (eI (a5))]) (s2 := [eI (a5), eR a4, eJ (v91), eJ (v76), eJ (v61), eJ (v52), eJ (v37), eJ (v22), eJ (v7), eR a0]) rfl rfl rfl ?_
  refine w_t (np := 88) (l2 := [some (eR a0), some (eR a1), some (eI (a2)), some (eI (a3)), some (eR a4), some (eI (a5))]) (s2 := [eI (3), eI (a5), eR a4, eJ (v91), eJ (v76), eJ (v61), eJ (v52), eJ (v37), eJ (v22), eJ (v7), eR a0]) rfl rfl rfl ?_
  obtain ⟨v94, e95⟩ : ∃ zz : Int, zz = (a5) + (3) := ⟨_, rfl⟩
  have b96 : 3 ≤ v94 ∧ v94 ≤ 15 := by omega
  refine w_t (np := 89) (l2 := [some (eR a0), some (eR a1), some (eI (a2)), some (eI (a3)), some (eR a4), some (eI (a5))]) (s2 := [eI (v94), eR a4, eJ (v91), eJ (v76), eJ (v61), eJ (v52), eJ (v37), eJ (v22), eJ (v7), eR a0]) rfl (b_iadd (by rw [← e95]; exact ev_w_in (by omega) (by omega))) rfl ?_
  refine j_al (np := 90) rfl rfl hI gA4 (by decide) (n := 16) rfl rfl (lo := -2147483648) (hi := 2147483647) (fun _ => rfl) (by omega) (by omega) ?_
  intro v97 e98 b99
  refine w_t (np := 91) (l2 := [some (eR a0), some (eR a1), some (eI (a2)), some (eI (a3)), some (eR a4), some (eI (a5))]) (s2 := [eR a1, eI (v97), eJ (v91), eJ (v76), eJ (v61), eJ (v52), eJ (v37), eJ (v22), eJ (v7), eR a0]) rfl (s_an rfl (pos_g hI gA1 (by decide))) rfl ?_
  refine w_t (np := 92) (l2 := [some (eR a0), some (eR a1), some (eI (a2)), some (eI (a3)), some (eR a4), some (eI (a5))]) (s2 := [eI (a2), eR a1, eI (v97), eJ (v91), eJ (v76), eJ (v61), eJ (v52), eJ (v37), eJ (v22), eJ (v7), eR a0]) rfl rfl rfl ?_
  refine w_t (np := 93) (l2 := [some (eR a0), some (eR a1), some (eI (a2)), some (eI (a3)), some (eR a4), some (eI (a5))]) (s2 := [eI (3), eI (a2), eR a1, eI (v97), eJ (v91), eJ (v76), eJ (v61), eJ (v52), eJ (v37), eJ (v22), eJ (v7), eR a0]) rfl rfl rfl ?_
  obtain ⟨v100, e101⟩ : ∃ zz : Int, zz = (a2) + (3) := ⟨_, rfl⟩
  have b102 : 3 ≤ v100 ∧ v100 ≤ 15 := by omega
  refine w_t (np := 94) (l2 := [some (eR a0), some (eR a1), some (eI (a2)), some (eI (a3)), some (eR a4), some (eI (a5))]) (s2 := [eI (v100), eR a1, eI (v97), eJ (v91), eJ (v76), eJ (v61), eJ (v52), eJ (v37), eJ (v22), eJ (v7), eR a0]) rfl (b_iadd (by rw [← e101]; exact ev_w_in (by omega) (by omega))) rfl ?_
  refine j_al (np := 95) rfl rfl hI gA1 (by decide) (n := 16) rfl rfl (lo := -2147483648) (hi := 2147483647) (fun _ => rfl) (by omega) (by omega) ?_
  intro v103 e104 b105
  obtain ⟨v106, e107, b108⟩ : ∃ zz : Int, ev_w ((v97) - (v103)) = zz ∧ (-2147483648 ≤ zz ∧ zz ≤ 2147483647) := ⟨_, rfl, hw_bd _⟩
  refine w_t (np := 96) (l2 := [some (eR a0), some (eR a1), some (eI (a2)), some (eI (a3)), some (eR a4), some (eI (a5))]) (s2 := [eI (v106), eJ (v91), eJ (v76), eJ (v61), eJ (v52), eJ (v37), eJ (v22), eJ (v7), eR a0]) rfl (b_isub e107) rfl ?_
  refine w_t (np := 97) (l2 := [some (eR a0), some (eR a1), some (eI (a2)), some (eI (a3)), some (eR a4), some (eI (a5))]) (s2 := [eJ (v106), eJ (v91), eJ (v76), eJ (v61), eJ (v52), eJ (v37), eJ (v22), eJ (v7), eR a0]) rfl (b_i2l (ev_w_in (by omega) (by omega))) rfl ?_
  refine w_cw (np := 100) (as := [eJ (v7), eJ (v22), eJ (v37), eJ (v52), eJ (v61), eJ (v76), eJ (v91), eJ (v106)]) (l2 := [some (eR a0), some (eJ (v7)), none, some (eJ (v22)), none, some (eJ (v37)), none, some (eJ (v52)), none, some (eJ (v61)), none, some (eJ (v76)), none, some (eJ (v91)), none, some (eJ (v106)), none]) (rest := []) rfl rfl rfl (Nat.ble_eq.mp rfl) rfl rfl rfl (hI.kd gA0 (by decide) (n := 69) rfl) rfl ?_
  refine s_225 hI gA0 (by omega) (by omega) (by omega) (by omega) (by omega) (by omega) (by omega) (by omega) ?_
  intro m109 v112 I110 F111 b113
  have F114 : Fr l_307_2 0 0 g μ m109 := F0.t F111 rfl
  show ex_q (dt_fg L ρ) rc (d + 4, (307, 100, [some (eR a0), some (eR a1), some (eI (a2)), some (eI (a3)), some (eR a4), some (eI (a5))], [eI (v112)]), f :: F, m109)
  exact b_ri rfl rfl (K m109 (v112) I110 F114 (by omega))
def l_308 : List Nat := [13315, 13316, 13317, 13318]
theorem s_308 {L : Nat} {ρ : Nat → Int} {rc : eQ} {d : Nat} {f : eFr} {F : List eFr} {μ : eM} {g : Nat → Nat} {a0 : Nat} {a1 : Nat} {a2 : Nat} (hI : SI g μ) (gA0 : g a0 = 52) (gA1 : g a1 = 83) (gA2 : g a2 = 84) (K : ∀ (μ2 : eM) (v : Int), SI g μ2 → Fr l_308 0 0 g μ μ2 → (0 ≤ v ∧ v ≤ 1) → ex_q (dt_fg L ρ) rc (d + 6, (f.1, f.2.1, f.2.2.1, eI v :: f.2.2.2), F, μ2)) : ex_q (dt_fg L ρ) rc (d + 5, (308, 0, [some (eR a0), some (eR a1), some (eR a2), none, none, none, none], []), f :: F, μ) := by
  have F0 : Fr l_308 0 0 g μ μ := Fr.r
  refine w_t (np := 1) (l2 := [some (eR a0), some (eR a1), some (eR a2), none, none, none, none]) (s2 := [eI (0)]) rfl rfl rfl ?_
  refine w_t (np := 2) (l2 := [some (eR a0), some (eR a1), some (eR a2), some (eI (0)), none, none, none]) (s2 := []) rfl rfl rfl ?_
  have hL2 : ∀ (n1 : Nat) (m8 : eM) (i3 : Int) (o5 : Option eV) (o6 : Option eV) (o7 : Option eV), SI g m8 → Fr l_308 0 0 g μ m8 → (0 ≤ i3 ∧ i3 ≤ 4) → n1 = (4 - i3).toNat → ex_q (dt_fg L ρ) rc (d + 5, (308, 2, [some (eR a0), some (eR a1), some (eR a2), some (eI (i3)), o5, o6, o7], []), f :: F, m8) := by
    intro n1
    induction n1 using Nat.strongRecOn with
    | _ n1 ih2 =>
    intro m8 i3 o5 o6 o7 I9 F10 b4 hn11
    refine w_t (np := 3) (l2 := [some (eR a0), some (eR a1), some (eR a2), some (eI (i3)), o5, o6, o7]) (s2 := [eI (i3)]) rfl rfl rfl ?_
    refine w_t (np := 4) (l2 := [some (eR a0), some (eR a1), some (eR a2), some (eI (i3)), o5, o6, o7]) (s2 := [eI (4), eI (i3)]) rfl rfl rfl ?_
    refine b_cge (t1 := 95) (t2 := 7) rfl rfl rfl (ev_w_in (by omega) (by omega)) rfl (fun g12 => ?_) (fun g12 => ?_)
    · have b13 : 4 ≤ i3 ∧ i3 ≤ 4 := by omega
      refine w_t (np := 96) (l2 := [some (eR a0), some (eR a1), some (eR a2), some (eI (i3)), o5, o6, o7]) (s2 := [eI (0)]) rfl rfl rfl ?_
      exact b_rz rfl rfl (Or.inl rfl) (K m8 (0) I9 F10 (by decide))
    · have b13 : 0 ≤ i3 ∧ i3 ≤ 3 := by omega
      refine w_t (np := 8) (l2 := [some (eR a0), some (eR a1), some (eR a2), some (eI (i3)), o5, o6, o7]) (s2 := [eI (4)]) rfl rfl rfl ?_
      refine w_t (np := 9) (l2 := [some (eR a0), some (eR a1), some (eR a2), some (eI (i3)), o5, o6, o7]) (s2 := [eI (i3), eI (4)]) rfl rfl rfl ?_
      obtain ⟨v13, e14⟩ : ∃ zz : Int, zz = (4) * (i3) := ⟨_, rfl⟩
      have b15 : 0 ≤ v13 ∧ v13 ≤ 12 := by omega
      refine w_t (np := 10) (l2 := [some (eR a0), some (eR a1), some (eR a2), some (eI (i3)), o5, o6, o7]) (s2 := [eI (v13)]) rfl (b_imul (by rw [← e14]; exact ev_w_in (by omega) (by omega))) rfl ?_
      refine w_t (np := 12) (l2 := [some (eR a0), some (eR a1), some (eR a2), some (eI (i3)), some (eI (v13)), o6, o7]) (s2 := []) rfl rfl rfl ?_
      refine w_t (np := 13) (l2 := [some (eR a0), some (eR a1), some (eR a2), some (eI (i3)), some (eI (v13)), o6, o7]) (s2 := [eI (4)]) rfl rfl rfl ?_
      refine w_t (np := 14) (l2 := [some (eR a0), some (eR a1), some (eR a2), some (eI (i3)), some (eI (v13)), o6, o7]) (s2 := [eI (i3), eI (4)]) rfl rfl rfl ?_
      refine w_t (np := 15) (l2 := [some (eR a0), some (eR a1), some (eR a2), some (eI (i3)), some (eI (v13)), o6, o7]) (s2 := [eI (1), eI (i3), eI (4)]) rfl rfl rfl ?_
      obtain ⟨v16, e17⟩ : ∃ zz : Int, zz = (i3) + (1) := ⟨_, rfl⟩
      have b18 : 1 ≤ v16 ∧ v16 ≤ 4 := by omega
      refine w_t (np := 16) (l2 := [some (eR a0), some (eR a1), some (eR a2), some (eI (i3)), some (eI (v13)), o6, o7]) (s2 := [eI (v16), eI (4)]) rfl (b_iadd (by rw [← e17]; exact ev_w_in (by omega) (by omega))) rfl ?_
      refine w_t (np := 17) (l2 := [some (eR a0), some (eR a1), some (eR a2), some (eI (i3)), some (eI (v13)), o6, o7]) (s2 := [eI (4), eI (v16), eI (4)]) rfl rfl rfl ?_
      obtain ⟨v19, e20, b21⟩ := h_irem (a := v16) (k := 4) (by decide) (by decide) (show (-2147483648 : Int) ≤ v16 ∧ (v16 : Int) ≤ 2147483647 by omega)
      have b22 : 0 ≤ v19 ∧ v19 ≤ 3 := by omega
      refine w_t (np := 18) (l2 := [some (eR a0), some (eR a1), some (eR a2), some (eI (i3)), some (eI (v13)), o6, o7]) (s2 := [eI (v19), eI (4)]) rfl (e20 _ _) rfl ?_
      obtain ⟨v23, e24⟩ : ∃ zz : Int, zz = (4) * (v19) := ⟨_, rfl⟩
      have b25 : 0 ≤ v23 ∧ v23 ≤ 12 := by omega
      refine w_t (np := 19) (l2 := [some (eR a0), some (eR a1), some (eR a2), some (eI (i3)), some (eI (v13)), o6, o7]) (s2 := [eI (v23)]) rfl (b_imul (by rw [← e24]; exact ev_w_in (by omega) (by omega))) rfl ?_
      refine w_t (np := 21) (l2 := [some (eR a0), some (eR a1), some (eR a2), some (eI (i3)), some (eI (v13)), some (eI (v23)), o7]) (s2 := []) rfl rfl rfl ?_
      refine w_t (np := 22) (l2 := [some (eR a0), some (eR a1), some (eR a2), some (eI (i3)), some (eI (v13)), some (eI (v23)), o7]) (s2 := [eI (0)]) rfl rfl rfl ?_
      refine w_t (np := 24) (l2 := [some (eR a0), some (eR a1), some (eR a2), some (eI (i3)), some (eI (v13)), some (eI (v23)), some (eI (0))]) (s2 := []) rfl rfl rfl ?_
      have hL24 : ∀ (n26 : Nat) (m30 : eM) (i28 : Int), SI g m30 → Fr l_308 0 0 g μ m30 → (0 ≤ i28 ∧ i28 ≤ 4) → n26 = (4 - i28).toNat → ex_q (dt_fg L ρ) rc (d + 5, (308, 24, [some (eR a0), some (eR a1), some (eR a2), some (eI (i3)), some (eI (v13)), some (eI (v23)), some (eI (i28))], []), f :: F, m30) := by
        intro n26
        induction n26 using Nat.strongRecOn with
        | _ n26 ih27 =>
        intro m30 i28 I31 F32 b29 hn33
        refine w_t (np := 26) (l2 := [some (eR a0), some (eR a1), some (eR a2), some (eI (i3)), some (eI (v13)), some (eI (v23)), some (eI (i28))]) (s2 := [eI (i28)]) rfl rfl rfl ?_
        refine w_t (np := 27) (l2 := [some (eR a0), some (eR a1), some (eR a2), some (eI (i3)), some (eI (v13)), some (eI (v23)), some (eI (i28))]) (s2 := [eI (4), eI (i28)]) rfl rfl rfl ?_
        refine b_cge (t1 := 89) (t2 := 30) rfl rfl rfl (ev_w_in (by omega) (by omega)) rfl (fun g34 => ?_) (fun g34 => ?_)
        · have b35 : 4 ≤ i28 ∧ i28 ≤ 4 := by omega
          obtain ⟨v35, e36⟩ : ∃ zz : Int, zz = (i3) + (1) := ⟨_, rfl⟩
          have b37 : 1 ≤ v35 ∧ v35 ≤ 4 := by omega
          refine w_t (np := 92) (l2 := [some (eR a0), some (eR a1), some (eR a2), some (eI (v35)), some (eI (v13)), some (eI (v23)), some (eI (i28))]) (s2 := []) rfl (b_iinc rfl (by rw [← e36]; exact ev_w_in (by omega) (by omega)) rfl) rfl ?_
          refine w_go (t1 := 2) rfl rfl ?_
          exact ih2 (4 - (v35)).toNat (by omega) m30 (v35) (some (eI (v13))) (some (eI (v23))) (some (eI (i28))) I31 F32 (by omega)     rfl
        · have b35 : 0 ≤ i28 ∧ i28 ≤ 3 := by omega
          refine w_t (np := 31) (l2 := [some (eR a0), some (eR a1), some (eR a2), some (eI (i3)), some (eI (v13)), some (eI (v23)), some (eI (i28))]) (s2 := [eR a0]) rfl (s_an rfl (pos_g I31 gA0 (by decide))) rfl ?_
          refine w_t (np := 32) (l2 := [some (eR a0), some (eR a1), some (eR a2), some (eI (i3)), some (eI (v13)), some (eI (v23)), some (eI (i28))]) (s2 := [eR a1, eR a0]) rfl (s_an rfl (pos_g I31 gA1 (by decide))) rfl ?_
          refine w_t (np := 34) (l2 := [some (eR a0), some (eR a1), some (eR a2), some (eI (i3)), some (eI (v13)), some (eI (v23)), some (eI (i28))]) (s2 := [eI (v13), eR a1, eR a0]) rfl rfl rfl ?_
          refine w_t (np := 36) (l2 := [some (eR a0), some (eR a1), some (eR a2), some (eI (i3)), some (eI (v13)), some (eI (v23)), some (eI (i28))]) (s2 := [eI (v23), eI (v13), eR a1, eR a0]) rfl rfl rfl ?_
          refine w_t (np := 37) (l2 := [some (eR a0), some (eR a1), some (eR a2), some (eI (i3)), some (eI (v13)), some (eI (v23)), some (eI (i28))]) (s2 := [eR a2, eI (v23), eI (v13), eR a1, eR a0]) rfl (s_an rfl (pos_g I31 gA2 (by decide))) rfl ?_
          refine w_t (np := 38) (l2 := [some (eR a0), some (eR a1), some (eR a2), some (eI (i3)), some (eI (v13)), some (eI (v23)), some (eI (i28))]) (s2 := [eI (4), eR a2, eI (v23), eI (v13), eR a1, eR a0]) rfl rfl rfl ?_
          refine w_t (np := 40) (l2 := [some (eR a0), some (eR a1), some (eR a2), some (eI (i3)), some (eI (v13)), some (eI (v23)), some (eI (i28))]) (s2 := [eI (i28), eI (4), eR a2, eI (v23), eI (v13), eR a1, eR a0]) rfl rfl rfl ?_
          obtain ⟨v35, e36⟩ : ∃ zz : Int, zz = (4) * (i28) := ⟨_, rfl⟩
          have b37 : 0 ≤ v35 ∧ v35 ≤ 12 := by omega
          refine w_t (np := 41) (l2 := [some (eR a0), some (eR a1), some (eR a2), some (eI (i3)), some (eI (v13)), some (eI (v23)), some (eI (i28))]) (s2 := [eI (v35), eR a2, eI (v23), eI (v13), eR a1, eR a0]) rfl (b_imul (by rw [← e36]; exact ev_w_in (by omega) (by omega))) rfl ?_
          refine w_cw (np := 44) (as := [eR a1, eI (v13), eI (v23), eR a2, eI (v35)]) (l2 := [some (eR a0), some (eR a1), some (eI (v13)), some (eI (v23)), some (eR a2), some (eI (v35))]) (rest := []) rfl rfl rfl (Nat.ble_eq.mp rfl) rfl rfl rfl (I31.kd gA0 (by decide) (n := 69) rfl) rfl ?_
          refine s_305_2 (a2 := v13) (a3 := v23) (a5 := v35) I31 gA0 gA1 (by omega) (by omega) gA2 (by omega) ?_
          intro m38 v41 I39 F40 b42
          have F43 : Fr l_308 0 0 g μ m38 := F32.t F40 rfl
          show ex_q (dt_fg L ρ) rc (d + 5, (308, 44, [some (eR a0), some (eR a1), some (eR a2), some (eI (i3)), some (eI (v13)), some (eI (v23)), some (eI (i28))], [eI (v41)]), f :: F, m38)
          refine b_ine (t1 := 83) (t2 := 47) rfl rfl rfl (ev_w_in (by omega) (by omega)) (fun g44 => ?_) (fun g44 => ?_)
          · obtain ⟨v45, e46⟩ : ∃ zz : Int, zz = (i28) + (1) := ⟨_, rfl⟩
            have b47 : 1 ≤ v45 ∧ v45 ≤ 4 := by omega
            refine w_t (np := 86) (l2 := [some (eR a0), some (eR a1), some (eR a2), some (eI (i3)), some (eI (v13)), some (eI (v23)), some (eI (v45))]) (s2 := []) rfl (b_iinc rfl (by rw [← e46]; exact ev_w_in (by omega) (by omega)) rfl) rfl ?_
            refine w_go (t1 := 24) rfl rfl ?_
            exact ih27 (4 - (v45)).toNat (by omega) m38 (v45) I39 F43 (by omega)     rfl
          · have b45 : 0 ≤ v41 ∧ v41 ≤ 0 := by omega
            refine w_t (np := 48) (l2 := [some (eR a0), some (eR a1), some (eR a2), some (eI (i3)), some (eI (v13)), some (eI (v23)), some (eI (i28))]) (s2 := [eR a0]) rfl (s_an rfl (pos_g I39 gA0 (by decide))) rfl ?_
            refine w_t (np := 49) (l2 := [some (eR a0), some (eR a1), some (eR a2), some (eI (i3)), some (eI (v13)), some (eI (v23)), some (eI (i28))]) (s2 := [eR a1, eR a0]) rfl (s_an rfl (pos_g I39 gA1 (by decide))) rfl ?_
            refine w_t (np := 51) (l2 := [some (eR a0), some (eR a1), some (eR a2), some (eI (i3)), some (eI (v13)), some (eI (v23)), some (eI (i28))]) (s2 := [eI (v13), eR a1, eR a0]) rfl rfl rfl ?_
            refine w_t (np := 53) (l2 := [some (eR a0), some (eR a1), some (eR a2), some (eI (i3)), some (eI (v13)), some (eI (v23)), some (eI (i28))]) (s2 := [eI (v23), eI (v13), eR a1, eR a0]) rfl rfl rfl ?_
            refine w_t (np := 54) (l2 := [some (eR a0), some (eR a1), some (eR a2), some (eI (i3)), some (eI (v13)), some (eI (v23)), some (eI (i28))]) (s2 := [eR a2, eI (v23), eI (v13), eR a1, eR a0]) rfl (s_an rfl (pos_g I39 gA2 (by decide))) rfl ?_
            refine w_t (np := 55) (l2 := [some (eR a0), some (eR a1), some (eR a2), some (eI (i3)), some (eI (v13)), some (eI (v23)), some (eI (i28))]) (s2 := [eI (4), eR a2, eI (v23), eI (v13), eR a1, eR a0]) rfl rfl rfl ?_
            refine w_t (np := 57) (l2 := [some (eR a0), some (eR a1), some (eR a2), some (eI (i3)), some (eI (v13)), some (eI (v23)), some (eI (i28))]) (s2 := [eI (i28), eI (4), eR a2, eI (v23), eI (v13), eR a1, eR a0]) rfl rfl rfl ?_
            obtain ⟨v45, e46⟩ : ∃ zz : Int, zz = (4) * (i28) := ⟨_, rfl⟩
            have b47 : 0 ≤ v45 ∧ v45 ≤ 12 := by omega
            refine w_t (np := 58) (l2 := [some (eR a0), some (eR a1), some (eR a2), some (eI (i3)), some (eI (v13)), some (eI (v23)), some (eI (i28))]) (s2 := [eI (v45), eR a2, eI (v23), eI (v13), eR a1, eR a0]) rfl (b_imul (by rw [← e46]; exact ev_w_in (by omega) (by omega))) rfl ?_
            refine w_cw (np := 61) (as := [eR a1, eI (v13), eI (v23), eR a2, eI (v45)]) (l2 := [some (eR a0), some (eR a1), some (eI (v13)), some (eI (v23)), some (eR a2), some (eI (v45))]) (rest := []) rfl rfl rfl (Nat.ble_eq.mp rfl) rfl rfl rfl (I39.kd gA0 (by decide) (n := 69) rfl) rfl ?_
            refine s_307 (a2 := v13) (a3 := v23) (a5 := v45) I39 gA0 gA1 (by omega) (by omega) gA2 (by omega) ?_
            intro m48 v51 I49 F50 b52
            have F53 : Fr l_308 0 0 g μ m48 := F43.t F50 rfl
            show ex_q (dt_fg L ρ) rc (d + 5, (308, 61, [some (eR a0), some (eR a1), some (eR a2), some (eI (i3)), some (eI (v13)), some (eI (v23)), some (eI (i28))], [eI (v51)]), f :: F, m48)
            refine b_ile (t1 := 83) (t2 := 64) rfl rfl rfl (ev_w_in (by omega) (by omega)) (fun g54 => ?_) (fun g54 => ?_)
            · have b55 : -1 ≤ v51 ∧ v51 ≤ 0 := by omega
              obtain ⟨v55, e56⟩ : ∃ zz : Int, zz = (i28) + (1) := ⟨_, rfl⟩
              have b57 : 1 ≤ v55 ∧ v55 ≤ 4 := by omega
              refine w_t (np := 86) (l2 := [some (eR a0), some (eR a1), some (eR a2), some (eI (i3)), some (eI (v13)), some (eI (v23)), some (eI (v55))]) (s2 := []) rfl (b_iinc rfl (by rw [← e56]; exact ev_w_in (by omega) (by omega)) rfl) rfl ?_
              refine w_go (t1 := 24) rfl rfl ?_
              exact ih27 (4 - (v55)).toNat (by omega) m48 (v55) I49 F53 (by omega)     rfl
            · have b55 : 1 ≤ v51 ∧ v51 ≤ 1 := by omega
              refine w_t (np := 65) (l2 := [some (eR a0), some (eR a1), some (eR a2), some (eI (i3)), some (eI (v13)), some (eI (v23)), some (eI (i28))]) (s2 := [eR a0]) rfl (s_an rfl (pos_g I49 gA0 (by decide))) rfl ?_
              refine w_t (np := 66) (l2 := [some (eR a0), some (eR a1), some (eR a2), some (eI (i3)), some (eI (v13)), some (eI (v23)), some (eI (i28))]) (s2 := [eR a1, eR a0]) rfl (s_an rfl (pos_g I49 gA1 (by decide))) rfl ?_
              refine w_t (np := 68) (l2 := [some (eR a0), some (eR a1), some (eR a2), some (eI (i3)), some (eI (v13)), some (eI (v23)), some (eI (i28))]) (s2 := [eI (v23), eR a1, eR a0]) rfl rfl rfl ?_
              refine w_t (np := 70) (l2 := [some (eR a0), some (eR a1), some (eR a2), some (eI (i3)), some (eI (v13)), some (eI (v23)), some (eI (i28))]) (s2 := [eI (v13), eI (v23), eR a1, eR a0]) rfl rfl rfl ?_
              refine w_t (np := 71) (l2 := [some (eR a0), some (eR a1), some (eR a2), some (eI (i3)), some (eI (v13)), some (eI (v23)), some (eI (i28))]) (s2 := [eR a2, eI (v13), eI (v23), eR a1, eR a0]) rfl (s_an rfl (pos_g I49 gA2 (by decide))) rfl ?_
              refine w_t (np := 72) (l2 := [some (eR a0), some (eR a1), some (eR a2), some (eI (i3)), some (eI (v13)), some (eI (v23)), some (eI (i28))]) (s2 := [eI (4), eR a2, eI (v13), eI (v23), eR a1, eR a0]) rfl rfl rfl ?_
              refine w_t (np := 74) (l2 := [some (eR a0), some (eR a1), some (eR a2), some (eI (i3)), some (eI (v13)), some (eI (v23)), some (eI (i28))]) (s2 := [eI (i28), eI (4), eR a2, eI (v13), eI (v23), eR a1, eR a0]) rfl rfl rfl ?_
              obtain ⟨v55, e56⟩ : ∃ zz : Int, zz = (4) * (i28) := ⟨_, rfl⟩
              have b57 : 0 ≤ v55 ∧ v55 ≤ 12 := by omega
              refine w_t (np := 75) (l2 := [some (eR a0), some (eR a1), some (eR a2), some (eI (i3)), some (eI (v13)), some (eI (v23)), some (eI (i28))]) (s2 := [eI (v55), eR a2, eI (v13), eI (v23), eR a1, eR a0]) rfl (b_imul (by rw [← e56]; exact ev_w_in (by omega) (by omega))) rfl ?_
              refine w_cw (np := 78) (as := [eR a1, eI (v23), eI (v13), eR a2, eI (v55)]) (l2 := [some (eR a0), some (eR a1), some (eI (v23)), some (eI (v13)), some (eR a2), some (eI (v55))]) (rest := []) rfl rfl rfl (Nat.ble_eq.mp rfl) rfl rfl rfl (I49.kd gA0 (by decide) (n := 69) rfl) rfl ?_
              refine s_307 (a2 := v23) (a3 := v13) (a5 := v55) I49 gA0 gA1 (by omega) (by omega) gA2 (by omega) ?_
              intro m58 v61 I59 F60 b62
              have F63 : Fr l_308 0 0 g μ m58 := F53.t F60 rfl
              show ex_q (dt_fg L ρ) rc (d + 5, (308, 78, [some (eR a0), some (eR a1), some (eR a2), some (eI (i3)), some (eI (v13)), some (eI (v23)), some (eI (i28))], [eI (v61)]), f :: F, m58)
              refine b_ile (t1 := 83) (t2 := 81) rfl rfl rfl (ev_w_in (by omega) (by omega)) (fun g64 => ?_) (fun g64 => ?_)
              · have b65 : -1 ≤ v61 ∧ v61 ≤ 0 := by omega
                obtain ⟨v65, e66⟩ : ∃ zz : Int, zz = (i28) + (1) := ⟨_, rfl⟩
                have b67 : 1 ≤ v65 ∧ v65 ≤ 4 := by omega
                refine w_t (np := 86) (l2 := [some (eR a0), some (eR a1), some (eR a2), some (eI (i3)), some (eI (v13)), some (eI (v23)), some (eI (v65))]) (s2 := []) rfl (b_iinc rfl (by rw [← e66]; exact ev_w_in (by omega) (by omega)) rfl) rfl ?_
                refine w_go (t1 := 24) rfl rfl ?_
                exact ih27 (4 - (v65)).toNat (by omega) m58 (v65) I59 F63 (by omega)     rfl
              · have b65 : 1 ≤ v61 ∧ v61 ≤ 1 := by omega
                refine w_t (np := 82) (l2 := [some (eR a0), some (eR a1), some (eR a2), some (eI (i3)), some (eI (v13)), some (eI (v23)), some (eI (i28))]) (s2 := [eI (1)]) rfl rfl rfl ?_
                exact b_rz rfl rfl (Or.inr rfl) (K m58 (1) I59 F63 (by decide))
      exact hL24 _ m8 (0) I9 F10 (by decide)     rfl
  exact hL2 _ μ (0) (none) (none) (none) hI F0 (by decide)     rfl
def l_308_2 : List Nat := [13315, 13316, 13317, 13318]
theorem s_308_2 {L : Nat} {ρ : Nat → Int} {rc : eQ} {d : Nat} {f : eFr} {F : List eFr} {μ : eM} {g : Nat → Nat} {a0 : Nat} {a1 : Nat} {a2 : Nat} (hI : SI g μ) (gA0 : g a0 = 52) (gA1 : g a1 = 84) (gA2 : g a2 = 83) (K : ∀ (μ2 : eM) (v : Int), SI g μ2 → Fr l_308_2 0 0 g μ μ2 → (0 ≤ v ∧ v ≤ 1) → ex_q (dt_fg L ρ) rc (d + 6, (f.1, f.2.1, f.2.2.1, eI v :: f.2.2.2), F, μ2)) : ex_q (dt_fg L ρ) rc (d + 5, (308, 0, [some (eR a0), some (eR a1), some (eR a2), none, none, none, none], []), f :: F, μ) := by
  have F0 : Fr l_308_2 0 0 g μ μ := Fr.r
  refine w_t (np := 1) (l2 := [some (eR a0), some (eR a1), some (eR a2), none, none, none, none]) (s2 := [eI (0)]) rfl rfl rfl ?_
  refine w_t (np := 2) (l2 := [some (eR a0), some (eR a1), some (eR a2), some (eI (0)), none, none, none]) (s2 := []) rfl rfl rfl ?_
  have hL2 : ∀ (n1 : Nat) (m8 : eM) (i3 : Int) (o5 : Option eV) (o6 : Option eV) (o7 : Option eV), SI g m8 → Fr l_308_2 0 0 g μ m8 → (0 ≤ i3 ∧ i3 ≤ 4) → n1 = (4 - i3).toNat → ex_q (dt_fg L ρ) rc (d + 5, (308, 2, [some (eR a0), some (eR a1), some (eR a2), some (eI (i3)), o5, o6, o7], []), f :: F, m8) := by
    intro n1
    induction n1 using Nat.strongRecOn with
    | _ n1 ih2 =>
    intro m8 i3 o5 o6 o7 I9 F10 b4 hn11
    refine w_t (np := 3) (l2 := [some (eR a0), some (eR a1), some (eR a2), some (eI (i3)), o5, o6, o7]) (s2 := [eI (i3)]) rfl rfl rfl ?_
    refine w_t (np := 4) (l2 := [some (eR a0), some (eR a1), some (eR a2), some (eI (i3)), o5, o6, o7]) (s2 := [eI (4), eI (i3)]) rfl rfl rfl ?_
    refine b_cge (t1 := 95) (t2 := 7) rfl rfl rfl (ev_w_in (by omega) (by omega)) rfl (fun g12 => ?_) (fun g12 => ?_)
    · have b13 : 4 ≤ i3 ∧ i3 ≤ 4 := by omega
      refine w_t (np := 96) (l2 := [some (eR a0), some (eR a1), some (eR a2), some (eI (i3)), o5, o6, o7]) (s2 := [eI (0)]) rfl rfl rfl ?_
      exact b_rz rfl rfl (Or.inl rfl) (K m8 (0) I9 F10 (by decide))
    · have b13 : 0 ≤ i3 ∧ i3 ≤ 3 := by omega
      refine w_t (np := 8) (l2 := [some (eR a0), some (eR a1), some (eR a2), some (eI (i3)), o5, o6, o7]) (s2 := [eI (4)]) rfl rfl rfl ?_
      refine w_t (np := 9) (l2 := [some (eR a0), some (eR a1), some (eR a2), some (eI (i3)), o5, o6, o7]) (s2 := [eI (i3), eI (4)]) rfl rfl rfl ?_
      obtain ⟨v13, e14⟩ : ∃ zz : Int, zz = (4) * (i3) := ⟨_, rfl⟩
      have b15 : 0 ≤ v13 ∧ v13 ≤ 12 := by omega
      refine w_t (np := 10) (l2 := [some (eR a0), some (eR a1), some (eR a2), some (eI (i3)), o5, o6, o7]) (s2 := [eI (v13)]) rfl (b_imul (by rw [← e14]; exact ev_w_in (by omega) (by omega))) rfl ?_
      refine w_t (np := 12) (l2 := [some (eR a0), some (eR a1), some (eR a2), some (eI (i3)), some (eI (v13)), o6, o7]) (s2 := []) rfl rfl rfl ?_
      refine w_t (np := 13) (l2 := [some (eR a0), some (eR a1), some (eR a2), some (eI (i3)), some (eI (v13)), o6, o7]) (s2 := [eI (4)]) rfl rfl rfl ?_
      refine w_t (np := 14) (l2 := [some (eR a0), some (eR a1), some (eR a2), some (eI (i3)), some (eI (v13)), o6, o7]) (s2 := [eI (i3), eI (4)]) rfl rfl rfl ?_
      refine w_t (np := 15) (l2 := [some (eR a0), some (eR a1), some (eR a2), some (eI (i3)), some (eI (v13)), o6, o7]) (s2 := [eI (1), eI (i3), eI (4)]) rfl rfl rfl ?_
      obtain ⟨v16, e17⟩ : ∃ zz : Int, zz = (i3) + (1) := ⟨_, rfl⟩
      have b18 : 1 ≤ v16 ∧ v16 ≤ 4 := by omega
      refine w_t (np := 16) (l2 := [some (eR a0), some (eR a1), some (eR a2), some (eI (i3)), some (eI (v13)), o6, o7]) (s2 := [eI (v16), eI (4)]) rfl (b_iadd (by rw [← e17]; exact ev_w_in (by omega) (by omega))) rfl ?_
      refine w_t (np := 17) (l2 := [some (eR a0), some (eR a1), some (eR a2), some (eI (i3)), some (eI (v13)), o6, o7]) (s2 := [eI (4), eI (v16), eI (4)]) rfl rfl rfl ?_
      obtain ⟨v19, e20, b21⟩ := h_irem (a := v16) (k := 4) (by decide) (by decide) (show (-2147483648 : Int) ≤ v16 ∧ (v16 : Int) ≤ 2147483647 by omega)
      have b22 : 0 ≤ v19 ∧ v19 ≤ 3 := by omega
      refine w_t (np := 18) (l2 := [some (eR a0), some (eR a1), some (eR a2), some (eI (i3)), some (eI (v13)), o6, o7]) (s2 := [eI (v19), eI (4)]) rfl (e20 _ _) rfl ?_
      obtain ⟨v23, e24⟩ : ∃ zz : Int, zz = (4) * (v19) := ⟨_, rfl⟩
      have b25 : 0 ≤ v23 ∧ v23 ≤ 12 := by omega
      refine w_t (np := 19) (l2 := [some (eR a0), some (eR a1), some (eR a2), some (eI (i3)), some (eI (v13)), o6, o7]) (s2 := [eI (v23)]) rfl (b_imul (by rw [← e24]; exact ev_w_in (by omega) (by omega))) rfl ?_
      refine w_t (np := 21) (l2 := [some (eR a0), some (eR a1), some (eR a2), some (eI (i3)), some (eI (v13)), some (eI (v23)), o7]) (s2 := []) rfl rfl rfl ?_
      refine w_t (np := 22) (l2 := [some (eR a0), some (eR a1), some (eR a2), some (eI (i3)), some (eI (v13)), some (eI (v23)), o7]) (s2 := [eI (0)]) rfl rfl rfl ?_
      refine w_t (np := 24) (l2 := [some (eR a0), some (eR a1), some (eR a2), some (eI (i3)), some (eI (v13)), some (eI (v23)), some (eI (0))]) (s2 := []) rfl rfl rfl ?_
      have hL24 : ∀ (n26 : Nat) (m30 : eM) (i28 : Int), SI g m30 → Fr l_308_2 0 0 g μ m30 → (0 ≤ i28 ∧ i28 ≤ 4) → n26 = (4 - i28).toNat → ex_q (dt_fg L ρ) rc (d + 5, (308, 24, [some (eR a0), some (eR a1), some (eR a2), some (eI (i3)), some (eI (v13)), some (eI (v23)), some (eI (i28))], []), f :: F, m30) := by
        intro n26
        induction n26 using Nat.strongRecOn with
        | _ n26 ih27 =>
        intro m30 i28 I31 F32 b29 hn33
        refine w_t (np := 26) (l2 := [some (eR a0), some (eR a1), some (eR a2), some (eI (i3)), some (eI (v13)), some (eI (v23)), some (eI (i28))]) (s2 := [eI (i28)]) rfl rfl rfl ?_
        refine w_t (np := 27) (l2 := [some (eR a0), some (eR a1), some (eR a2), some (eI (i3)), some (eI (v13)), some (eI (v23)), some (eI (i28))]) (s2 := [eI (4), eI (i28)]) rfl rfl rfl ?_
        refine b_cge (t1 := 89) (t2 := 30) rfl rfl rfl (ev_w_in (by omega) (by omega)) rfl (fun g34 => ?_) (fun g34 => ?_)
        · have b35 : 4 ≤ i28 ∧ i28 ≤ 4 := by omega
          obtain ⟨v35, e36⟩ : ∃ zz : Int, zz = (i3) + (1) := ⟨_, rfl⟩
          have b37 : 1 ≤ v35 ∧ v35 ≤ 4 := by omega
          refine w_t (np := 92) (l2 := [some (eR a0), some (eR a1), some (eR a2), some (eI (v35)), some (eI (v13)), some (eI (v23)), some (eI (i28))]) (s2 := []) rfl (b_iinc rfl (by rw [← e36]; exact ev_w_in (by omega) (by omega)) rfl) rfl ?_
          refine w_go (t1 := 2) rfl rfl ?_
          exact ih2 (4 - (v35)).toNat (by omega) m30 (v35) (some (eI (v13))) (some (eI (v23))) (some (eI (i28))) I31 F32 (by omega)     rfl
        · have b35 : 0 ≤ i28 ∧ i28 ≤ 3 := by omega
          refine w_t (np := 31) (l2 := [some (eR a0), some (eR a1), some (eR a2), some (eI (i3)), some (eI (v13)), some (eI (v23)), some (eI (i28))]) (s2 := [eR a0]) rfl (s_an rfl (pos_g I31 gA0 (by decide))) rfl ?_
          refine w_t (np := 32) (l2 := [some (eR a0), some (eR a1), some (eR a2), some (eI (i3)), some (eI (v13)), some (eI (v23)), some (eI (i28))]) (s2 := [eR a1, eR a0]) rfl (s_an rfl (pos_g I31 gA1 (by decide))) rfl ?_
          refine w_t (np := 34) (l2 := [some (eR a0), some (eR a1), some (eR a2), some (eI (i3)), some (eI (v13)), some (eI (v23)), some (eI (i28))]) (s2 := [eI (v13), eR a1, eR a0]) rfl rfl rfl ?_
          refine w_t (np := 36) (l2 := [some (eR a0), some (eR a1), some (eR a2), some (eI (i3)), some (eI (v13)), some (eI (v23)), some (eI (i28))]) (s2 := [eI (v23), eI (v13), eR a1, eR a0]) rfl rfl rfl ?_
          refine w_t (np := 37) (l2 := [some (eR a0), some (eR a1), some (eR a2), some (eI (i3)), some (eI (v13)), some (eI (v23)), some (eI (i28))]) (s2 := [eR a2, eI (v23), eI (v13), eR a1, eR a0]) rfl (s_an rfl (pos_g I31 gA2 (by decide))) rfl ?_
          refine w_t (np := 38) (l2 := [some (eR a0), some (eR a1), some (eR a2), some (eI (i3)), some (eI (v13)), some (eI (v23)), some (eI (i28))]) (s2 := [eI (4), eR a2, eI (v23), eI (v13), eR a1, eR a0]) rfl rfl rfl ?_
          refine w_t (np := 40) (l2 := [some (eR a0), some (eR a1), some (eR a2), some (eI (i3)), some (eI (v13)), some (eI (v23)), some (eI (i28))]) (s2 := [eI (i28), eI (4), eR a2, eI (v23), eI (v13), eR a1, eR a0]) rfl rfl rfl ?_
          obtain ⟨v35, e36⟩ : ∃ zz : Int, zz = (4) * (i28) := ⟨_, rfl⟩
          have b37 : 0 ≤ v35 ∧ v35 ≤ 12 := by omega
          refine w_t (np := 41) (l2 := [some (eR a0), some (eR a1), some (eR a2), some (eI (i3)), some (eI (v13)), some (eI (v23)), some (eI (i28))]) (s2 := [eI (v35), eR a2, eI (v23), eI (v13), eR a1, eR a0]) rfl (b_imul (by rw [← e36]; exact ev_w_in (by omega) (by omega))) rfl ?_
          refine w_cw (np := 44) (as := [eR a1, eI (v13), eI (v23), eR a2, eI (v35)]) (l2 := [some (eR a0), some (eR a1), some (eI (v13)), some (eI (v23)), some (eR a2), some (eI (v35))]) (rest := []) rfl rfl rfl (Nat.ble_eq.mp rfl) rfl rfl rfl (I31.kd gA0 (by decide) (n := 69) rfl) rfl ?_
          refine s_305_3 (a2 := v13) (a3 := v23) (a5 := v35) I31 gA0 gA1 (by omega) (by omega) gA2 (by omega) ?_
          intro m38 v41 I39 F40 b42
          have F43 : Fr l_308_2 0 0 g μ m38 := F32.t F40 rfl
          show ex_q (dt_fg L ρ) rc (d + 5, (308, 44, [some (eR a0), some (eR a1), some (eR a2), some (eI (i3)), some (eI (v13)), some (eI (v23)), some (eI (i28))], [eI (v41)]), f :: F, m38)
          refine b_ine (t1 := 83) (t2 := 47) rfl rfl rfl (ev_w_in (by omega) (by omega)) (fun g44 => ?_) (fun g44 => ?_)
          · obtain ⟨v45, e46⟩ : ∃ zz : Int, zz = (i28) + (1) := ⟨_, rfl⟩
            have b47 : 1 ≤ v45 ∧ v45 ≤ 4 := by omega
            refine w_t (np := 86) (l2 := [some (eR a0), some (eR a1), some (eR a2), some (eI (i3)), some (eI (v13)), some (eI (v23)), some (eI (v45))]) (s2 := []) rfl (b_iinc rfl (by rw [← e46]; exact ev_w_in (by omega) (by omega)) rfl) rfl ?_
            refine w_go (t1 := 24) rfl rfl ?_
            exact ih27 (4 - (v45)).toNat (by omega) m38 (v45) I39 F43 (by omega)     rfl
          · have b45 : 0 ≤ v41 ∧ v41 ≤ 0 := by omega
            refine w_t (np := 48) (l2 := [some (eR a0), some (eR a1), some (eR a2), some (eI (i3)), some (eI (v13)), some (eI (v23)), some (eI (i28))]) (s2 := [eR a0]) rfl (s_an rfl (pos_g I39 gA0 (by decide))) rfl ?_
            refine w_t (np := 49) (l2 := [some (eR a0), some (eR a1), some (eR a2), some (eI (i3)), some (eI (v13)), some (eI (v23)), some (eI (i28))]) (s2 := [eR a1, eR a0]) rfl (s_an rfl (pos_g I39 gA1 (by decide))) rfl ?_
            refine w_t (np := 51) (l2 := [some (eR a0), some (eR a1), some (eR a2), some (eI (i3)), some (eI (v13)), some (eI (v23)), some (eI (i28))]) (s2 := [eI (v13), eR a1, eR a0]) rfl rfl rfl ?_
            refine w_t (np := 53) (l2 := [some (eR a0), some (eR a1), some (eR a2), some (eI (i3)), some (eI (v13)), some (eI (v23)), some (eI (i28))]) (s2 := [eI (v23), eI (v13), eR a1, eR a0]) rfl rfl rfl ?_
            refine w_t (np := 54) (l2 := [some (eR a0), some (eR a1), some (eR a2), some (eI (i3)), some (eI (v13)), some (eI (v23)), some (eI (i28))]) (s2 := [eR a2, eI (v23), eI (v13), eR a1, eR a0]) rfl (s_an rfl (pos_g I39 gA2 (by decide))) rfl ?_
            refine w_t (np := 55) (l2 := [some (eR a0), some (eR a1), some (eR a2), some (eI (i3)), some (eI (v13)), some (eI (v23)), some (eI (i28))]) (s2 := [eI (4), eR a2, eI (v23), eI (v13), eR a1, eR a0]) rfl rfl rfl ?_
            refine w_t (np := 57) (l2 := [some (eR a0), some (eR a1), some (eR a2), some (eI (i3)), some (eI (v13)), some (eI (v23)), some (eI (i28))]) (s2 := [eI (i28), eI (4), eR a2, eI (v23), eI (v13), eR a1, eR a0]) rfl rfl rfl ?_
            obtain ⟨v45, e46⟩ : ∃ zz : Int, zz = (4) * (i28) := ⟨_, rfl⟩
            have b47 : 0 ≤ v45 ∧ v45 ≤ 12 := by omega
            refine w_t (np := 58) (l2 := [some (eR a0), some (eR a1), some (eR a2), some (eI (i3)), some (eI (v13)), some (eI (v23)), some (eI (i28))]) (s2 := [eI (v45), eR a2, eI (v23), eI (v13), eR a1, eR a0]) rfl (b_imul (by rw [← e46]; exact ev_w_in (by omega) (by omega))) rfl ?_
            refine w_cw (np := 61) (as := [eR a1, eI (v13), eI (v23), eR a2, eI (v45)]) (l2 := [some (eR a0), some (eR a1), some (eI (v13)), some (eI (v23)), some (eR a2), some (eI (v45))]) (rest := []) rfl rfl rfl (Nat.ble_eq.mp rfl) rfl rfl rfl (I39.kd gA0 (by decide) (n := 69) rfl) rfl ?_
            refine s_307_2 (a2 := v13) (a3 := v23) (a5 := v45) I39 gA0 gA1 (by omega) (by omega) gA2 (by omega) ?_
            intro m48 v51 I49 F50 b52
            have F53 : Fr l_308_2 0 0 g μ m48 := F43.t F50 rfl
            show ex_q (dt_fg L ρ) rc (d + 5, (308, 61, [some (eR a0), some (eR a1), some (eR a2), some (eI (i3)), some (eI (v13)), some (eI (v23)), some (eI (i28))], [eI (v51)]), f :: F, m48)
            refine b_ile (t1 := 83) (t2 := 64) rfl rfl rfl (ev_w_in (by omega) (by omega)) (fun g54 => ?_) (fun g54 => ?_)
            · have b55 : -1 ≤ v51 ∧ v51 ≤ 0 := by omega
              obtain ⟨v55, e56⟩ : ∃ zz : Int, zz = (i28) + (1) := ⟨_, rfl⟩
              have b57 : 1 ≤ v55 ∧ v55 ≤ 4 := by omega
              refine w_t (np := 86) (l2 := [some (eR a0), some (eR a1), some (eR a2), some (eI (i3)), some (eI (v13)), some (eI (v23)), some (eI (v55))]) (s2 := []) rfl (b_iinc rfl (by rw [← e56]; exact ev_w_in (by omega) (by omega)) rfl) rfl ?_
              refine w_go (t1 := 24) rfl rfl ?_
              exact ih27 (4 - (v55)).toNat (by omega) m48 (v55) I49 F53 (by omega)     rfl
            · have b55 : 1 ≤ v51 ∧ v51 ≤ 1 := by omega
              refine w_t (np := 65) (l2 := [some (eR a0), some (eR a1), some (eR a2), some (eI (i3)), some (eI (v13)), some (eI (v23)), some (eI (i28))]) (s2 := [eR a0]) rfl (s_an rfl (pos_g I49 gA0 (by decide))) rfl ?_
              refine w_t (np := 66) (l2 := [some (eR a0), some (eR a1), some (eR a2), some (eI (i3)), some (eI (v13)), some (eI (v23)), some (eI (i28))]) (s2 := [eR a1, eR a0]) rfl (s_an rfl (pos_g I49 gA1 (by decide))) rfl ?_
              refine w_t (np := 68) (l2 := [some (eR a0), some (eR a1), some (eR a2), some (eI (i3)), some (eI (v13)), some (eI (v23)), some (eI (i28))]) (s2 := [eI (v23), eR a1, eR a0]) rfl rfl rfl ?_
              refine w_t (np := 70) (l2 := [some (eR a0), some (eR a1), some (eR a2), some (eI (i3)), some (eI (v13)), some (eI (v23)), some (eI (i28))]) (s2 := [eI (v13), eI (v23), eR a1, eR a0]) rfl rfl rfl ?_
              refine w_t (np := 71) (l2 := [some (eR a0), some (eR a1), some (eR a2), some (eI (i3)), some (eI (v13)), some (eI (v23)), some (eI (i28))]) (s2 := [eR a2, eI (v13), eI (v23), eR a1, eR a0]) rfl (s_an rfl (pos_g I49 gA2 (by decide))) rfl ?_
              refine w_t (np := 72) (l2 := [some (eR a0), some (eR a1), some (eR a2), some (eI (i3)), some (eI (v13)), some (eI (v23)), some (eI (i28))]) (s2 := [eI (4), eR a2, eI (v13), eI (v23), eR a1, eR a0]) rfl rfl rfl ?_
              refine w_t (np := 74) (l2 := [some (eR a0), some (eR a1), some (eR a2), some (eI (i3)), some (eI (v13)), some (eI (v23)), some (eI (i28))]) (s2 := [eI (i28), eI (4), eR a2, eI (v13), eI (v23), eR a1, eR a0]) rfl rfl rfl ?_
              obtain ⟨v55, e56⟩ : ∃ zz : Int, zz = (4) * (i28) := ⟨_, rfl⟩
              have b57 : 0 ≤ v55 ∧ v55 ≤ 12 := by omega
              refine w_t (np := 75) (l2 := [some (eR a0), some (eR a1), some (eR a2), some (eI (i3)), some (eI (v13)), some (eI (v23)), some (eI (i28))]) (s2 := [eI (v55), eR a2, eI (v13), eI (v23), eR a1, eR a0]) rfl (b_imul (by rw [← e56]; exact ev_w_in (by omega) (by omega))) rfl ?_
              refine w_cw (np := 78) (as := [eR a1, eI (v23), eI (v13), eR a2, eI (v55)]) (l2 := [some (eR a0), some (eR a1), some (eI (v23)), some (eI (v13)), some (eR a2), some (eI (v55))]) (rest := []) rfl rfl rfl (Nat.ble_eq.mp rfl) rfl rfl rfl (I49.kd gA0 (by decide) (n := 69) rfl) rfl ?_
              refine s_307_2 (a2 := v23) (a3 := v13) (a5 := v55) I49 gA0 gA1 (by omega) (by omega) gA2 (by omega) ?_
              intro m58 v61 I59 F60 b62
              have F63 : Fr l_308_2 0 0 g μ m58 := F53.t F60 rfl
              show ex_q (dt_fg L ρ) rc (d + 5, (308, 78, [some (eR a0), some (eR a1), some (eR a2), some (eI (i3)), some (eI (v13)), some (eI (v23)), some (eI (i28))], [eI (v61)]), f :: F, m58)
              refine b_ile (t1 := 83) (t2 := 81) rfl rfl rfl (ev_w_in (by omega) (by omega)) (fun g64 => ?_) (fun g64 => ?_)
              · have b65 : -1 ≤ v61 ∧ v61 ≤ 0 := by omega
                obtain ⟨v65, e66⟩ : ∃ zz : Int, zz = (i28) + (1) := ⟨_, rfl⟩
                have b67 : 1 ≤ v65 ∧ v65 ≤ 4 := by omega
                refine w_t (np := 86) (l2 := [some (eR a0), some (eR a1), some (eR a2), some (eI (i3)), some (eI (v13)), some (eI (v23)), some (eI (v65))]) (s2 := []) rfl (b_iinc rfl (by rw [← e66]; exact ev_w_in (by omega) (by omega)) rfl) rfl ?_
                refine w_go (t1 := 24) rfl rfl ?_
                exact ih27 (4 - (v65)).toNat (by omega) m58 (v65) I59 F63 (by omega)     rfl
              · have b65 : 1 ≤ v61 ∧ v61 ≤ 1 := by omega
                refine w_t (np := 82) (l2 := [some (eR a0), some (eR a1), some (eR a2), some (eI (i3)), some (eI (v13)), some (eI (v23)), some (eI (i28))]) (s2 := [eI (1)]) rfl rfl rfl ?_
                exact b_rz rfl rfl (Or.inr rfl) (K m58 (1) I59 F63 (by decide))
      exact hL24 _ m8 (0) I9 F10 (by decide)     rfl
  exact hL2 _ μ (0) (none) (none) (none) hI F0 (by decide)     rfl
theorem s_309 {L : Nat} {ρ : Nat → Int} {rc : eQ} {d : Nat} {f : eFr} {F : List eFr} {μ : eM} {g : Nat → Nat} {a0 : Int} {a1 : Int} (hI : SI g μ) (bA0 : -2147483648 ≤ a0 ∧ a0 ≤ 2147483647) (bA1 : -2147483648 ≤ a1 ∧ a1 ≤ 2147483647) (K : ∀ (v : Int), (0 ≤ v ∧ v ≤ 3) → ex_q (dt_fg L ρ) rc (d + 1, (f.1, f.2.1, f.2.2.1, eI v :: f.2.2.2), F, μ)) : ex_q (dt_fg L ρ) rc (d, (309, 0, [some (eI (a0)), some (eI (a1)), none], []), f :: F, μ) := by
  refine w_t (np := 1) (l2 := [some (eI (a0)), some (eI (a1)), none]) (s2 := [eI (a0)]) rfl rfl rfl ?_
  refine b_ine (t1 := 8) (t2 := 4) rfl rfl rfl (ev_w_in (by omega) (by omega)) (fun g1 => ?_) (fun g1 => ?_)
  · refine w_t (np := 9) (l2 := [some (eI (a0)), some (eI (a1)), none]) (s2 := [eI (0)]) rfl rfl rfl ?_
    refine w_t (np := 10) (l2 := [some (eI (a0)), some (eI (a1)), some (eI (0))]) (s2 := []) rfl rfl rfl ?_
    refine w_t (np := 11) (l2 := [some (eI (a0)), some (eI (a1)), some (eI (0))]) (s2 := [eI (a1)]) rfl rfl rfl ?_
    refine b_ine (t1 := 26) (t2 := 14) rfl rfl rfl (ev_w_in (by omega) (by omega)) (fun g2 => ?_) (fun g2 => ?_)
    · refine w_t (np := 27) (l2 := [some (eI (a0)), some (eI (a1)), some (eI (0))]) (s2 := [eI (a1)]) rfl rfl rfl ?_
      refine w_t (np := 28) (l2 := [some (eI (a0)), some (eI (a1)), some (eI (0))]) (s2 := [eI (1), eI (a1)]) rfl rfl rfl ?_
      refine b_cne (t1 := 43) (t2 := 31) rfl rfl rfl (ev_w_in (by omega) (by omega)) rfl (fun g3 => ?_) (fun g3 => ?_)
      · refine w_t (np := 44) (l2 := [some (eI (a0)), some (eI (a1)), some (eI (0))]) (s2 := [eI (a1)]) rfl rfl rfl ?_
        refine w_t (np := 45) (l2 := [some (eI (a0)), some (eI (a1)), some (eI (0))]) (s2 := [eI (2), eI (a1)]) rfl rfl rfl ?_
        refine b_cne (t1 := 52) (t2 := 48) rfl rfl rfl (ev_w_in (by omega) (by omega)) rfl (fun g4 => ?_) (fun g4 => ?_)
        · refine w_t (np := 53) (l2 := [some (eI (a0)), some (eI (a1)), some (eI (0))]) (s2 := [eI (2)]) rfl rfl rfl ?_
          exact b_ri rfl rfl (K (2) (by decide))
        · have b5 : 2 ≤ a1 ∧ a1 ≤ 2 := by omega
          refine w_t (np := 49) (l2 := [some (eI (a0)), some (eI (a1)), some (eI (0))]) (s2 := [eI (3)]) rfl rfl rfl ?_
          refine w_go (t1 := 53) rfl rfl ?_
          exact b_ri rfl rfl (K (3) (by decide))
      · have b4 : 1 ≤ a1 ∧ a1 ≤ 1 := by omega
        refine w_t (np := 32) (l2 := [some (eI (a0)), some (eI (a1)), some (eI (0))]) (s2 := [eI (0)]) rfl rfl rfl ?_
        refine b_ieq (t1 := 39) (t2 := 35) rfl rfl rfl rfl (fun g4 => ?_) (fun g4 => absurd g4 (by decide))
        refine w_t (np := 40) (l2 := [some (eI (a0)), some (eI (a1)), some (eI (0))]) (s2 := [eI (1)]) rfl rfl rfl ?_
        refine w_go (t1 := 53) rfl rfl ?_
        exact b_ri rfl rfl (K (1) (by decide))
    · have b3 : 0 ≤ a1 ∧ a1 ≤ 0 := by omega
      refine w_t (np := 15) (l2 := [some (eI (a0)), some (eI (a1)), some (eI (0))]) (s2 := [eI (0)]) rfl rfl rfl ?_
      refine b_ieq (t1 := 22) (t2 := 18) rfl rfl rfl rfl (fun g3 => ?_) (fun g3 => absurd g3 (by decide))
      refine w_t (np := 23) (l2 := [some (eI (a0)), some (eI (a1)), some (eI (0))]) (s2 := [eI (0)]) rfl rfl rfl ?_
      refine w_go (t1 := 53) rfl rfl ?_
      exact b_ri rfl rfl (K (0) (by decide))
  · have b2 : 0 ≤ a0 ∧ a0 ≤ 0 := by omega
    refine w_t (np := 5) (l2 := [some (eI (a0)), some (eI (a1)), none]) (s2 := [eI (1)]) rfl rfl rfl ?_
    refine w_go (t1 := 9) rfl rfl ?_
    refine w_t (np := 10) (l2 := [some (eI (a0)), some (eI (a1)), some (eI (1))]) (s2 := []) rfl rfl rfl ?_
    refine w_t (np := 11) (l2 := [some (eI (a0)), some (eI (a1)), some (eI (1))]) (s2 := [eI (a1)]) rfl rfl rfl ?_
    refine b_ine (t1 := 26) (t2 := 14) rfl rfl rfl (ev_w_in (by omega) (by omega)) (fun g2 => ?_) (fun g2 => ?_)
    · refine w_t (np := 27) (l2 := [some (eI (a0)), some (eI (a1)), some (eI (1))]) (s2 := [eI (a1)]) rfl rfl rfl ?_
      refine w_t (np := 28) (l2 := [some (eI (a0)), some (eI (a1)), some (eI (1))]) (s2 := [eI (1), eI (a1)]) rfl rfl rfl ?_
      refine b_cne (t1 := 43) (t2 := 31) rfl rfl rfl (ev_w_in (by omega) (by omega)) rfl (fun g3 => ?_) (fun g3 => ?_)
      · refine w_t (np := 44) (l2 := [some (eI (a0)), some (eI (a1)), some (eI (1))]) (s2 := [eI (a1)]) rfl rfl rfl ?_
        refine w_t (np := 45) (l2 := [some (eI (a0)), some (eI (a1)), some (eI (1))]) (s2 := [eI (2), eI (a1)]) rfl rfl rfl ?_
        refine b_cne (t1 := 52) (t2 := 48) rfl rfl rfl (ev_w_in (by omega) (by omega)) rfl (fun g4 => ?_) (fun g4 => ?_)
        · refine w_t (np := 53) (l2 := [some (eI (a0)), some (eI (a1)), some (eI (1))]) (s2 := [eI (2)]) rfl rfl rfl ?_
          exact b_ri rfl rfl (K (2) (by decide))
        · have b5 : 2 ≤ a1 ∧ a1 ≤ 2 := by omega
          refine w_t (np := 49) (l2 := [some (eI (a0)), some (eI (a1)), some (eI (1))]) (s2 := [eI (3)]) rfl rfl rfl ?_
          refine w_go (t1 := 53) rfl rfl ?_
          exact b_ri rfl rfl (K (3) (by decide))
      · have b4 : 1 ≤ a1 ∧ a1 ≤ 1 := by omega
        refine w_t (np := 32) (l2 := [some (eI (a0)), some (eI (a1)), some (eI (1))]) (s2 := [eI (1)]) rfl rfl rfl ?_
        refine b_ieq (t1 := 39) (t2 := 35) rfl rfl rfl rfl (fun g4 => absurd g4 (by decide)) (fun g4 => ?_)
        refine w_t (np := 36) (l2 := [some (eI (a0)), some (eI (a1)), some (eI (1))]) (s2 := [eI (0)]) rfl rfl rfl ?_
        refine w_go (t1 := 53) rfl rfl ?_
        exact b_ri rfl rfl (K (0) (by decide))
    · have b3 : 0 ≤ a1 ∧ a1 ≤ 0 := by omega
      refine w_t (np := 15) (l2 := [some (eI (a0)), some (eI (a1)), some (eI (1))]) (s2 := [eI (1)]) rfl rfl rfl ?_
      refine b_ieq (t1 := 22) (t2 := 18) rfl rfl rfl rfl (fun g3 => absurd g3 (by decide)) (fun g3 => ?_)
      refine w_t (np := 19) (l2 := [some (eI (a0)), some (eI (a1)), some (eI (1))]) (s2 := [eI (1)]) rfl rfl rfl ?_
      refine w_go (t1 := 53) rfl rfl ?_
      exact b_ri rfl rfl (K (1) (by decide))
theorem s_310 {L : Nat} {ρ : Nat → Int} {rc : eQ} {d : Nat} {f : eFr} {F : List eFr} {μ : eM} {g : Nat → Nat} {a0 : Nat} {a1 : Int} {a2 : Nat} {a3 : Int} {a4 : Int} {a5 : Nat} (hI : SI g μ) (gA0 : g a0 = 52) (bA1 : -2147483648 ≤ a1 ∧ a1 ≤ 2147483647) (gA2 : g a2 = 83) (bA3 : 0 ≤ a3 ∧ a3 ≤ 3) (bA4 : -2147483648 ≤ a4 ∧ a4 ≤ 2147483647) (gA5 : g a5 = 84) (K : ∀ (v : Int), (0 ≤ v ∧ v ≤ 2) → ex_q (dt_fg L ρ) rc (d + 2, (f.1, f.2.1, f.2.2.1, eI v :: f.2.2.2), F, μ)) : ex_q (dt_fg L ρ) rc (d + 1, (310, 0, [some (eR a0), some (eI (a1)), some (eR a2), some (eI (a3)), some (eI (a4)), some (eR a5), none, none, none], []), f :: F, μ) := by
  refine w_t (np := 1) (l2 := [some (eR a0), some (eI (a1)), some (eR a2), some (eI (a3)), some (eI (a4)), some (eR a5), none, none, none]) (s2 := [eI (a3)]) rfl rfl rfl ?_
  refine w_t (np := 2) (l2 := [some (eR a0), some (eI (a1)), some (eR a2), some (eI (a3)), some (eI (a4)), some (eR a5), none, none, none]) (s2 := [eI (1), eI (a3)]) rfl rfl rfl ?_
  obtain ⟨v1, e2⟩ : ∃ zz : Int, zz = (a3) + (1) := ⟨_, rfl⟩
  have b3 : 1 ≤ v1 ∧ v1 ≤ 4 := by omega
  refine w_t (np := 3) (l2 := [some (eR a0), some (eI (a1)), some (eR a2), some (eI (a3)), some (eI (a4)), some (eR a5), none, none, none]) (s2 := [eI (v1)]) rfl (b_iadd (by rw [← e2]; exact ev_w_in (by omega) (by omega))) rfl ?_
  refine w_t (np := 4) (l2 := [some (eR a0), some (eI (a1)), some (eR a2), some (eI (a3)), some (eI (a4)), some (eR a5), none, none, none]) (s2 := [eI (4), eI (v1)]) rfl rfl rfl ?_
  obtain ⟨v4, e5, b6⟩ := h_irem (a := v1) (k := 4) (by decide) (by decide) (show (-2147483648 : Int) ≤ v1 ∧ (v1 : Int) ≤ 2147483647 by omega)
  have b7 : 0 ≤ v4 ∧ v4 ≤ 3 := by omega
  refine w_t (np := 5) (l2 := [some (eR a0), some (eI (a1)), some (eR a2), some (eI (a3)), some (eI (a4)), some (eR a5), none, none, none]) (s2 := [eI (v4)]) rfl (e5 _ _) rfl ?_
  refine w_t (np := 7) (l2 := [some (eR a0), some (eI (a1)), some (eR a2), some (eI (a3)), some (eI (a4)), some (eR a5), some (eI (v4)), none, none]) (s2 := []) rfl rfl rfl ?_
  refine w_t (np := 8) (l2 := [some (eR a0), some (eI (a1)), some (eR a2), some (eI (a3)), some (eI (a4)), some (eR a5), some (eI (v4)), none, none]) (s2 := [eI (0)]) rfl rfl rfl ?_
  refine w_t (np := 10) (l2 := [some (eR a0), some (eI (a1)), some (eR a2), some (eI (a3)), some (eI (a4)), some (eR a5), some (eI (v4)), some (eI (0)), none]) (s2 := []) rfl rfl rfl ?_
  have hL10 : ∀ (n8 : Nat) (i10 : Int) (o12 : Option eV), (0 ≤ i10 ∧ i10 ≤ 4) → n8 = (4 - i10).toNat → ex_q (dt_fg L ρ) rc (d + 1, (310, 10, [some (eR a0), some (eI (a1)), some (eR a2), some (eI (a3)), some (eI (a4)), some (eR a5), some (eI (v4)), some (eI (i10)), o12], []), f :: F, μ) := by
    intro n8
    induction n8 using Nat.strongRecOn with
    | _ n8 ih9 =>
    intro i10 o12 b11 hn13
    refine w_t (np := 12) (l2 := [some (eR a0), some (eI (a1)), some (eR a2), some (eI (a3)), some (eI (a4)), some (eR a5), some (eI (v4)), some (eI (i10)), o12]) (s2 := [eI (i10)]) rfl rfl rfl ?_
    refine w_t (np := 13) (l2 := [some (eR a0), some (eI (a1)), some (eR a2), some (eI (a3)), some (eI (a4)), some (eR a5), some (eI (v4)), some (eI (i10)), o12]) (s2 := [eI (4), eI (i10)]) rfl rfl rfl ?_
    refine b_cge (t1 := 140) (t2 := 16) rfl rfl rfl (ev_w_in (by omega) (by omega)) rfl (fun g14 => ?_) (fun g14 => ?_)
    · have b15 : 4 ≤ i10 ∧ i10 ≤ 4 := by omega
      refine w_t (np := 141) (l2 := [some (eR a0), some (eI (a1)), some (eR a2), some (eI (a3)), some (eI (a4)), some (eR a5), some (eI (v4)), some (eI (i10)), o12]) (s2 := [eI (0)]) rfl rfl rfl ?_
      exact b_ri rfl rfl (K (0) (by decide))
    · have b15 : 0 ≤ i10 ∧ i10 ≤ 3 := by omega
      refine w_t (np := 18) (l2 := [some (eR a0), some (eI (a1)), some (eR a2), some (eI (a3)), some (eI (a4)), some (eR a5), some (eI (v4)), some (eI (i10)), o12]) (s2 := [eI (i10)]) rfl rfl rfl ?_
      refine w_t (np := 19) (l2 := [some (eR a0), some (eI (a1)), some (eR a2), some (eI (a3)), some (eI (a4)), some (eR a5), some (eI (v4)), some (eI (i10)), o12]) (s2 := [eI (1), eI (i10)]) rfl rfl rfl ?_
      obtain ⟨v15, e16⟩ : ∃ zz : Int, zz = (i10) + (1) := ⟨_, rfl⟩
      have b17 : 1 ≤ v15 ∧ v15 ≤ 4 := by omega
      refine w_t (np := 20) (l2 := [some (eR a0), some (eI (a1)), some (eR a2), some (eI (a3)), some (eI (a4)), some (eR a5), some (eI (v4)), some (eI (i10)), o12]) (s2 := [eI (v15)]) rfl (b_iadd (by rw [← e16]; exact ev_w_in (by omega) (by omega))) rfl ?_
      refine w_t (np := 21) (l2 := [some (eR a0), some (eI (a1)), some (eR a2), some (eI (a3)), some (eI (a4)), some (eR a5), some (eI (v4)), some (eI (i10)), o12]) (s2 := [eI (4), eI (v15)]) rfl rfl rfl ?_
      obtain ⟨v18, e19, b20⟩ := h_irem (a := v15) (k := 4) (by decide) (by decide) (show (-2147483648 : Int) ≤ v15 ∧ (v15 : Int) ≤ 2147483647 by omega)
      have b21 : 0 ≤ v18 ∧ v18 ≤ 3 := by omega
      refine w_t (np := 22) (l2 := [some (eR a0), some (eI (a1)), some (eR a2), some (eI (a3)), some (eI (a4)), some (eR a5), some (eI (v4)), some (eI (i10)), o12]) (s2 := [eI (v18)]) rfl (e19 _ _) rfl ?_
      refine w_t (np := 24) (l2 := [some (eR a0), some (eI (a1)), some (eR a2), some (eI (a3)), some (eI (a4)), some (eR a5), some (eI (v4)), some (eI (i10)), some (eI (v18))]) (s2 := []) rfl rfl rfl ?_
      refine w_t (np := 25) (l2 := [some (eR a0), some (eI (a1)), some (eR a2), some (eI (a3)), some (eI (a4)), some (eR a5), some (eI (v4)), some (eI (i10)), some (eI (v18))]) (s2 := [eR a2]) rfl (s_an rfl (pos_g hI gA2 (by decide))) rfl ?_
      refine w_t (np := 26) (l2 := [some (eR a0), some (eI (a1)), some (eR a2), some (eI (a3)), some (eI (a4)), some (eR a5), some (eI (v4)), some (eI (i10)), some (eI (v18))]) (s2 := [eI (4), eR a2]) rfl rfl rfl ?_
      refine w_t (np := 27) (l2 := [some (eR a0), some (eI (a1)), some (eR a2), some (eI (a3)), some (eI (a4)), some (eR a5), some (eI (v4)), some (eI (i10)), some (eI (v18))]) (s2 := [eI (a3), eI (4), eR a2]) rfl rfl rfl ?_
      obtain ⟨v22, e23⟩ : ∃ zz : Int, zz = (4) * (a3) := ⟨_, rfl⟩
      have b24 : 0 ≤ v22 ∧ v22 ≤ 12 := by omega
      refine w_t (np := 28) (l2 := [some (eR a0), some (eI (a1)), some (eR a2), some (eI (a3)), some (eI (a4)), some (eR a5), some (eI (v4)), some (eI (i10)), some (eI (v18))]) (s2 := [eI (v22), eR a2]) rfl (b_imul (by rw [← e23]; exact ev_w_in (by omega) (by omega))) rfl ?_
      refine w_t (np := 30) (l2 := [some (eR a0), some (eI (a1)), some (eR a2), some (eI (a3)), some (eI (a4)), some (eR a5), some (eI (v4)), some (eI (i10)), some (eI (v18))]) (s2 := [eR a5, eI (v22), eR a2]) rfl (s_ao rfl (pos_g hI gA5 (by decide))) rfl ?_
      refine w_t (np := 31) (l2 := [some (eR a0), some (eI (a1)), some (eR a2), some (eI (a3)), some (eI (a4)), some (eR a5), some (eI (v4)), some (eI (i10)), some (eI (v18))]) (s2 := [eI (4), eR a5, eI (v22), eR a2]) rfl rfl rfl ?_
      refine w_t (np := 33) (l2 := [some (eR a0), some (eI (a1)), some (eR a2), some (eI (a3)), some (eI (a4)), some (eR a5), some (eI (v4)), some (eI (i10)), some (eI (v18))]) (s2 := [eI (i10), eI (4), eR a5, eI (v22), eR a2]) rfl rfl rfl ?_
      obtain ⟨v25, e26⟩ : ∃ zz : Int, zz = (4) * (i10) := ⟨_, rfl⟩
      have b27 : 0 ≤ v25 ∧ v25 ≤ 12 := by omega
      refine w_t (np := 34) (l2 := [some (eR a0), some (eI (a1)), some (eR a2), some (eI (a3)), some (eI (a4)), some (eR a5), some (eI (v4)), some (eI (i10)), some (eI (v18))]) (s2 := [eI (v25), eR a5, eI (v22), eR a2]) rfl (b_imul (by rw [← e26]; exact ev_w_in (by omega) (by omega))) rfl ?_
      refine w_cu (np := 37) (as := [eR a2, eI (v22), eR a5, eI (v25)]) (l2 := [some (eR a2), some (eI (v22)), some (eR a5), some (eI (v25)), none]) (rest := []) rfl rfl rfl (Nat.ble_eq.mp rfl) rfl rfl rfl rfl ?_
      refine s_303_2 (a1 := v22) (a3 := v25) hI gA2 (by omega) gA5 (by omega) ?_
      intro v28 b29
      show ex_q (dt_fg L ρ) rc (d + 1, (310, 37, [some (eR a0), some (eI (a1)), some (eR a2), some (eI (a3)), some (eI (a4)), some (eR a5), some (eI (v4)), some (eI (i10)), some (eI (v18))], [eI (v28)]), f :: F, μ)
      refine b_ieq (t1 := 78) (t2 := 40) rfl rfl rfl (ev_w_in (by omega) (by omega)) (fun g30 => ?_) (fun g30 => ?_)
      · have b31 : 0 ≤ v28 ∧ v28 ≤ 0 := by omega
        refine w_t (np := 79) (l2 := [some (eR a0), some (eI (a1)), some (eR a2), some (eI (a3)), some (eI (a4)), some (eR a5), some (eI (v4)), some (eI (i10)), some (eI (v18))]) (s2 := [eR a2]) rfl (s_an rfl (pos_g hI gA2 (by decide))) rfl ?_
        refine w_t (np := 80) (l2 := [some (eR a0), some (eI (a1)), some (eR a2), some (eI (a3)), some (eI (a4)), some (eR a5), some (eI (v4)), some (eI (i10)), some (eI (v18))]) (s2 := [eI (4), eR a2]) rfl rfl rfl ?_
        refine w_t (np := 81) (l2 := [some (eR a0), some (eI (a1)), some (eR a2), some (eI (a3)), some (eI (a4)), some (eR a5), some (eI (v4)), some (eI (i10)), some (eI (v18))]) (s2 := [eI (a3), eI (4), eR a2]) rfl rfl rfl ?_
        obtain ⟨v31, e32⟩ : ∃ zz : Int, zz = (4) * (a3) := ⟨_, rfl⟩
        have b33 : 0 ≤ v31 ∧ v31 ≤ 12 := by omega
        refine w_t (np := 82) (l2 := [some (eR a0), some (eI (a1)), some (eR a2), some (eI (a3)), some (eI (a4)), some (eR a5), some (eI (v4)), some (eI (i10)), some (eI (v18))]) (s2 := [eI (v31), eR a2]) rfl (b_imul (by rw [← e32]; exact ev_w_in (by omega) (by omega))) rfl ?_
        refine w_t (np := 84) (l2 := [some (eR a0), some (eI (a1)), some (eR a2), some (eI (a3)), some (eI (a4)), some (eR a5), some (eI (v4)), some (eI (i10)), some (eI (v18))]) (s2 := [eR a5, eI (v31), eR a2]) rfl (s_ao rfl (pos_g hI gA5 (by decide))) rfl ?_
        refine w_t (np := 85) (l2 := [some (eR a0), some (eI (a1)), some (eR a2), some (eI (a3)), some (eI (a4)), some (eR a5), some (eI (v4)), some (eI (i10)), some (eI (v18))]) (s2 := [eI (4), eR a5, eI (v31), eR a2]) rfl rfl rfl ?_
        refine w_t (np := 87) (l2 := [some (eR a0), some (eI (a1)), some (eR a2), some (eI (a3)), some (eI (a4)), some (eR a5), some (eI (v4)), some (eI (i10)), some (eI (v18))]) (s2 := [eI (v18), eI (4), eR a5, eI (v31), eR a2]) rfl rfl rfl ?_
        obtain ⟨v34, e35⟩ : ∃ zz : Int, zz = (4) * (v18) := ⟨_, rfl⟩
        have b36 : 0 ≤ v34 ∧ v34 ≤ 12 := by omega
        refine w_t (np := 88) (l2 := [some (eR a0), some (eI (a1)), some (eR a2), some (eI (a3)), some (eI (a4)), some (eR a5), some (eI (v4)), some (eI (i10)), some (eI (v18))]) (s2 := [eI (v34), eR a5, eI (v31), eR a2]) rfl (b_imul (by rw [← e35]; exact ev_w_in (by omega) (by omega))) rfl ?_
        refine w_cu (np := 91) (as := [eR a2, eI (v31), eR a5, eI (v34)]) (l2 := [some (eR a2), some (eI (v31)), some (eR a5), some (eI (v34)), none]) (rest := []) rfl rfl rfl (Nat.ble_eq.mp rfl) rfl rfl rfl rfl ?_
        refine s_303_2 (a1 := v31) (a3 := v34) hI gA2 (by omega) gA5 (by omega) ?_
        intro v37 b38
        show ex_q (dt_fg L ρ) rc (d + 1, (310, 91, [some (eR a0), some (eI (a1)), some (eR a2), some (eI (a3)), some (eI (a4)), some (eR a5), some (eI (v4)), some (eI (i10)), some (eI (v18))], [eI (v37)]), f :: F, μ)
        refine b_ieq (t1 := 134) (t2 := 94) rfl rfl rfl (ev_w_in (by omega) (by omega)) (fun g39 => ?_) (fun g39 => ?_)
        · have b40 : 0 ≤ v37 ∧ v37 ≤ 0 := by omega
          obtain ⟨v40, e41⟩ : ∃ zz : Int, zz = (i10) + (1) := ⟨_, rfl⟩
          have b42 : 1 ≤ v40 ∧ v40 ≤ 4 := by omega
          refine w_t (np := 137) (l2 := [some (eR a0), some (eI (a1)), some (eR a2), some (eI (a3)), some (eI (a4)), some (eR a5), some (eI (v4)), some (eI (v40)), some (eI (v18))]) (s2 := []) rfl (b_iinc rfl (by rw [← e41]; exact ev_w_in (by omega) (by omega)) rfl) rfl ?_
          refine w_go (t1 := 10) rfl rfl ?_
          exact ih9 (4 - (v40)).toNat (by omega) (v40) (some (eI (v18))) (by omega)     rfl
        · have b40 : 1 ≤ v37 ∧ v37 ≤ 1 := by omega
          refine w_t (np := 95) (l2 := [some (eR a0), some (eI (a1)), some (eR a2), some (eI (a3)), some (eI (a4)), some (eR a5), some (eI (v4)), some (eI (i10)), some (eI (v18))]) (s2 := [eR a2]) rfl (s_an rfl (pos_g hI gA2 (by decide))) rfl ?_
          refine w_t (np := 96) (l2 := [some (eR a0), some (eI (a1)), some (eR a2), some (eI (a3)), some (eI (a4)), some (eR a5), some (eI (v4)), some (eI (i10)), some (eI (v18))]) (s2 := [eI (4), eR a2]) rfl rfl rfl ?_
          refine w_t (np := 98) (l2 := [some (eR a0), some (eI (a1)), some (eR a2), some (eI (a3)), some (eI (a4)), some (eR a5), some (eI (v4)), some (eI (i10)), some (eI (v18))]) (s2 := [eI (v4), eI (4), eR a2]) rfl rfl rfl ?_
          obtain ⟨v40, e41⟩ : ∃ zz : Int, zz = (4) * (v4) := ⟨_, rfl⟩
          have b42 : 0 ≤ v40 ∧ v40 ≤ 12 := by omega
          refine w_t (np := 99) (l2 := [some (eR a0), some (eI (a1)), some (eR a2), some (eI (a3)), some (eI (a4)), some (eR a5), some (eI (v4)), some (eI (i10)), some (eI (v18))]) (s2 := [eI (v40), eR a2]) rfl (b_imul (by rw [← e41]; exact ev_w_in (by omega) (by omega))) rfl ?_
          refine w_t (np := 101) (l2 := [some (eR a0), some (eI (a1)), some (eR a2), some (eI (a3)), some (eI (a4)), some (eR a5), some (eI (v4)), some (eI (i10)), some (eI (v18))]) (s2 := [eR a5, eI (v40), eR a2]) rfl (s_ao rfl (pos_g hI gA5 (by decide))) rfl ?_
          refine w_t (np := 102) (l2 := [some (eR a0), some (eI (a1)), some (eR a2), some (eI (a3)), some (eI (a4)), some (eR a5), some (eI (v4)), some (eI (i10)), some (eI (v18))]) (s2 := [eI (4), eR a5, eI (v40), eR a2]) rfl rfl rfl ?_
          refine w_t (np := 104) (l2 := [some (eR a0), some (eI (a1)), some (eR a2), some (eI (a3)), some (eI (a4)), some (eR a5), some (eI (v4)), some (eI (i10)), some (eI (v18))]) (s2 := [eI (i10), eI (4), eR a5, eI (v40), eR a2]) rfl rfl rfl ?_
          obtain ⟨v43, e44⟩ : ∃ zz : Int, zz = (4) * (i10) := ⟨_, rfl⟩
          have b45 : 0 ≤ v43 ∧ v43 ≤ 12 := by omega
          refine w_t (np := 105) (l2 := [some (eR a0), some (eI (a1)), some (eR a2), some (eI (a3)), some (eI (a4)), some (eR a5), some (eI (v4)), some (eI (i10)), some (eI (v18))]) (s2 := [eI (v43), eR a5, eI (v40), eR a2]) rfl (b_imul (by rw [← e44]; exact ev_w_in (by omega) (by omega))) rfl ?_
          refine w_cu (np := 108) (as := [eR a2, eI (v40), eR a5, eI (v43)]) (l2 := [some (eR a2), some (eI (v40)), some (eR a5), some (eI (v43)), none]) (rest := []) rfl rfl rfl (Nat.ble_eq.mp rfl) rfl rfl rfl rfl ?_
          refine s_303_2 (a1 := v40) (a3 := v43) hI gA2 (by omega) gA5 (by omega) ?_
          intro v46 b47
          show ex_q (dt_fg L ρ) rc (d + 1, (310, 108, [some (eR a0), some (eI (a1)), some (eR a2), some (eI (a3)), some (eI (a4)), some (eR a5), some (eI (v4)), some (eI (i10)), some (eI (v18))], [eI (v46)]), f :: F, μ)
          refine b_ieq (t1 := 134) (t2 := 111) rfl rfl rfl (ev_w_in (by omega) (by omega)) (fun g48 => ?_) (fun g48 => ?_)
          · have b49 : 0 ≤ v46 ∧ v46 ≤ 0 := by omega
            obtain ⟨v49, e50⟩ : ∃ zz : Int, zz = (i10) + (1) := ⟨_, rfl⟩
            have b51 : 1 ≤ v49 ∧ v49 ≤ 4 := by omega
            refine w_t (np := 137) (l2 := [some (eR a0), some (eI (a1)), some (eR a2), some (eI (a3)), some (eI (a4)), some (eR a5), some (eI (v4)), some (eI (v49)), some (eI (v18))]) (s2 := []) rfl (b_iinc rfl (by rw [← e50]; exact ev_w_in (by omega) (by omega)) rfl) rfl ?_
            refine w_go (t1 := 10) rfl rfl ?_
            exact ih9 (4 - (v49)).toNat (by omega) (v49) (some (eI (v18))) (by omega)     rfl
          · have b49 : 1 ≤ v46 ∧ v46 ≤ 1 := by omega
            refine w_t (np := 112) (l2 := [some (eR a0), some (eI (a1)), some (eR a2), some (eI (a3)), some (eI (a4)), some (eR a5), some (eI (v4)), some (eI (i10)), some (eI (v18))]) (s2 := [eI (a1)]) rfl rfl rfl ?_
            refine w_t (np := 113) (l2 := [some (eR a0), some (eI (a1)), some (eR a2), some (eI (a3)), some (eI (a4)), some (eR a5), some (eI (v4)), some (eI (i10)), some (eI (v18))]) (s2 := [eI (a3), eI (a1)]) rfl rfl rfl ?_
            refine w_cu (np := 116) (as := [eI (a1), eI (a3)]) (l2 := [some (eI (a1)), some (eI (a3)), none]) (rest := []) rfl rfl rfl (Nat.ble_eq.mp rfl) rfl rfl rfl rfl ?_
            refine s_309 (a0 := a1) (a1 := a3) hI (by omega) (by omega) ?_
            intro v49 b50
            show ex_q (dt_fg L ρ) rc (d + 1, (310, 116, [some (eR a0), some (eI (a1)), some (eR a2), some (eI (a3)), some (eI (a4)), some (eR a5), some (eI (v4)), some (eI (i10)), some (eI (v18))], [eI (v49)]), f :: F, μ)
            refine w_t (np := 117) (l2 := [some (eR a0), some (eI (a1)), some (eR a2), some (eI (a3)), some (eI (a4)), some (eR a5), some (eI (v4)), some (eI (i10)), some (eI (v18))]) (s2 := [eI (1), eI (v49)]) rfl rfl rfl ?_
            obtain ⟨v51, e52, b53, h54⟩ := h_ixor2 (a := v49) (b := 1) (by omega) (by decide) (by decide)
            have b55 : 0 ≤ v51 ∧ v51 ≤ 2147483647 := by omega
            refine w_t (np := 118) (l2 := [some (eR a0), some (eI (a1)), some (eR a2), some (eI (a3)), some (eI (a4)), some (eR a5), some (eI (v4)), some (eI (i10)), some (eI (v18))]) (s2 := [eI (v51)]) rfl (e52 _ _) rfl ?_
            refine w_t (np := 120) (l2 := [some (eR a0), some (eI (a1)), some (eR a2), some (eI (a3)), some (eI (a4)), some (eR a5), some (eI (v4)), some (eI (i10)), some (eI (v18))]) (s2 := [eI (a4), eI (v51)]) rfl rfl rfl ?_
            refine w_t (np := 122) (l2 := [some (eR a0), some (eI (a1)), some (eR a2), some (eI (a3)), some (eI (a4)), some (eR a5), some (eI (v4)), some (eI (i10)), some (eI (v18))]) (s2 := [eI (i10), eI (a4), eI (v51)]) rfl rfl rfl ?_
            refine w_cu (np := 125) (as := [eI (a4), eI (i10)]) (l2 := [some (eI (a4)), some (eI (i10)), none]) (rest := [eI (v51)]) rfl rfl rfl (Nat.ble_eq.mp rfl) rfl rfl rfl rfl ?_
            refine s_309 (a0 := a4) (a1 := i10) hI (by omega) (by omega) ?_
            intro v56 b57
            show ex_q (dt_fg L ρ) rc (d + 1, (310, 125, [some (eR a0), some (eI (a1)), some (eR a2), some (eI (a3)), some (eI (a4)), some (eR a5), some (eI (v4)), some (eI (i10)), some (eI (v18))], [eI (v56), eI (v51)]), f :: F, μ)
            refine b_cne (t1 := 132) (t2 := 128) rfl rfl rfl (ev_w_in (by omega) (by omega)) (ev_w_in (by omega) (by omega)) (fun g58 => ?_) (fun g58 => ?_)
            · refine w_t (np := 133) (l2 := [some (eR a0), some (eI (a1)), some (eR a2), some (eI (a3)), some (eI (a4)), some (eR a5), some (eI (v4)), some (eI (i10)), some (eI (v18))]) (s2 := [eI (2)]) rfl rfl rfl ?_
              exact b_ri rfl rfl (K (2) (by decide))
            · have b59 : 0 ≤ v51 ∧ v51 ≤ 3 := by omega
              refine w_t (np := 129) (l2 := [some (eR a0), some (eI (a1)), some (eR a2), some (eI (a3)), some (eI (a4)), some (eR a5), some (eI (v4)), some (eI (i10)), some (eI (v18))]) (s2 := [eI (1)]) rfl rfl rfl ?_
              refine w_go (t1 := 133) rfl rfl ?_
              exact b_ri rfl rfl (K (1) (by decide))
      · have b31 : 1 ≤ v28 ∧ v28 ≤ 1 := by omega
        refine w_t (np := 41) (l2 := [some (eR a0), some (eI (a1)), some (eR a2), some (eI (a3)), some (eI (a4)), some (eR a5), some (eI (v4)), some (eI (i10)), some (eI (v18))]) (s2 := [eR a2]) rfl (s_an rfl (pos_g hI gA2 (by decide))) rfl ?_
        refine w_t (np := 42) (l2 := [some (eR a0), some (eI (a1)), some (eR a2), some (eI (a3)), some (eI (a4)), some (eR a5), some (eI (v4)), some (eI (i10)), some (eI (v18))]) (s2 := [eI (4), eR a2]) rfl rfl rfl ?_
        refine w_t (np := 44) (l2 := [some (eR a0), some (eI (a1)), some (eR a2), some (eI (a3)), some (eI (a4)), some (eR a5), some (eI (v4)), some (eI (i10)), some (eI (v18))]) (s2 := [eI (v4), eI (4), eR a2]) rfl rfl rfl ?_
        obtain ⟨v31, e32⟩ : ∃ zz : Int, zz = (4) * (v4) := ⟨_, rfl⟩
        have b33 : 0 ≤ v31 ∧ v31 ≤ 12 := by omega
        refine w_t (np := 45) (l2 := [some (eR a0), some (eI (a1)), some (eR a2), some (eI (a3)), some (eI (a4)), some (eR a5), some (eI (v4)), some (eI (i10)), some (eI (v18))]) (s2 := [eI (v31), eR a2]) rfl (b_imul (by rw [← e32]; exact ev_w_in (by omega) (by omega))) rfl ?_
        refine w_t (np := 47) (l2 := [some (eR a0), some (eI (a1)), some (eR a2), some (eI (a3)), some (eI (a4)), some (eR a5), some (eI (v4)), some (eI (i10)), some (eI (v18))]) (s2 := [eR a5, eI (v31), eR a2]) rfl (s_ao rfl (pos_g hI gA5 (by decide))) rfl ?_
        refine w_t (np := 48) (l2 := [some (eR a0), some (eI (a1)), some (eR a2), some (eI (a3)), some (eI (a4)), some (eR a5), some (eI (v4)), some (eI (i10)), some (eI (v18))]) (s2 := [eI (4), eR a5, eI (v31), eR a2]) rfl rfl rfl ?_
        refine w_t (np := 50) (l2 := [some (eR a0), some (eI (a1)), some (eR a2), some (eI (a3)), some (eI (a4)), some (eR a5), some (eI (v4)), some (eI (i10)), some (eI (v18))]) (s2 := [eI (v18), eI (4), eR a5, eI (v31), eR a2]) rfl rfl rfl ?_
        obtain ⟨v34, e35⟩ : ∃ zz : Int, zz = (4) * (v18) := ⟨_, rfl⟩
        have b36 : 0 ≤ v34 ∧ v34 ≤ 12 := by omega
        refine w_t (np := 51) (l2 := [some (eR a0), some (eI (a1)), some (eR a2), some (eI (a3)), some (eI (a4)), some (eR a5), some (eI (v4)), some (eI (i10)), some (eI (v18))]) (s2 := [eI (v34), eR a5, eI (v31), eR a2]) rfl (b_imul (by rw [← e35]; exact ev_w_in (by omega) (by omega))) rfl ?_
        refine w_cu (np := 54) (as := [eR a2, eI (v31), eR a5, eI (v34)]) (l2 := [some (eR a2), some (eI (v31)), some (eR a5), some (eI (v34)), none]) (rest := []) rfl rfl rfl (Nat.ble_eq.mp rfl) rfl rfl rfl rfl ?_
        refine s_303_2 (a1 := v31) (a3 := v34) hI gA2 (by omega) gA5 (by omega) ?_
        intro v37 b38
        show ex_q (dt_fg L ρ) rc (d + 1, (310, 54, [some (eR a0), some (eI (a1)), some (eR a2), some (eI (a3)), some (eI (a4)), some (eR a5), some (eI (v4)), some (eI (i10)), some (eI (v18))], [eI (v37)]), f :: F, μ)
        refine b_ieq (t1 := 78) (t2 := 57) rfl rfl rfl (ev_w_in (by omega) (by omega)) (fun g39 => ?_) (fun g39 => ?_)
        · have b40 : 0 ≤ v37 ∧ v37 ≤ 0 := by omega
          refine w_t (np := 79) (l2 := [some (eR a0), some (eI (a1)), some (eR a2), some (eI (a3)), some (eI (a4)), some (eR a5), some (eI (v4)), some (eI (i10)), some (eI (v18))]) (s2 := [eR a2]) rfl (s_an rfl (pos_g hI gA2 (by decide))) rfl ?_
          refine w_t (np := 80) (l2 := [some (eR a0), some (eI (a1)), some (eR a2), some (eI (a3)), some (eI (a4)), some (eR a5), some (eI (v4)), some (eI (i10)), some (eI (v18))]) (s2 := [eI (4), eR a2]) rfl rfl rfl ?_
          refine w_t (np := 81) (l2 := [some (eR a0), some (eI (a1)), some (eR a2), some (eI (a3)), some (eI (a4)), some (eR a5), some (eI (v4)), some (eI (i10)), some (eI (v18))]) (s2 := [eI (a3), eI (4), eR a2]) rfl rfl rfl ?_
          obtain ⟨v40, e41⟩ : ∃ zz : Int, zz = (4) * (a3) := ⟨_, rfl⟩
          have b42 : 0 ≤ v40 ∧ v40 ≤ 12 := by omega
          refine w_t (np := 82) (l2 := [some (eR a0), some (eI (a1)), some (eR a2), some (eI (a3)), some (eI (a4)), some (eR a5), some (eI (v4)), some (eI (i10)), some (eI (v18))]) (s2 := [eI (v40), eR a2]) rfl (b_imul (by rw [← e41]; exact ev_w_in (by omega) (by omega))) rfl ?_
          refine w_t (np := 84) (l2 := [some (eR a0), some (eI (a1)), some (eR a2), some (eI (a3)), some (eI (a4)), some (eR a5), some (eI (v4)), some (eI (i10)), some (eI (v18))]) (s2 := [eR a5, eI (v40), eR a2]) rfl (s_ao rfl (pos_g hI gA5 (by decide))) rfl ?_
          refine w_t (np := 85) (l2 := [some (eR a0), some (eI (a1)), some (eR a2), some (eI (a3)), some (eI (a4)), some (eR a5), some (eI (v4)), some (eI (i10)), some (eI (v18))]) (s2 := [eI (4), eR a5, eI (v40), eR a2]) rfl rfl rfl ?_
          refine w_t (np := 87) (l2 := [some (eR a0), some (eI (a1)), some (eR a2), some (eI (a3)), some (eI (a4)), some (eR a5), some (eI (v4)), some (eI (i10)), some (eI (v18))]) (s2 := [eI (v18), eI (4), eR a5, eI (v40), eR a2]) rfl rfl rfl ?_
          obtain ⟨v43, e44⟩ : ∃ zz : Int, zz = (4) * (v18) := ⟨_, rfl⟩
          have b45 : 0 ≤ v43 ∧ v43 ≤ 12 := by omega
          refine w_t (np := 88) (l2 := [some (eR a0), some (eI (a1)), some (eR a2), some (eI (a3)), some (eI (a4)), some (eR a5), some (eI (v4)), some (eI (i10)), some (eI (v18))]) (s2 := [eI (v43), eR a5, eI (v40), eR a2]) rfl (b_imul (by rw [← e44]; exact ev_w_in (by omega) (by omega))) rfl ?_
          refine w_cu (np := 91) (as := [eR a2, eI (v40), eR a5, eI (v43)]) (l2 := [some (eR a2), some (eI (v40)), some (eR a5), some (eI (v43)), none]) (rest := []) rfl rfl rfl (Nat.ble_eq.mp rfl) rfl rfl rfl rfl ?_
          refine s_303_2 (a1 := v40) (a3 := v43) hI gA2 (by omega) gA5 (by omega) ?_
          intro v46 b47
          show ex_q (dt_fg L ρ) rc (d + 1, (310, 91, [some (eR a0), some (eI (a1)), some (eR a2), some (eI (a3)), some (eI (a4)), some (eR a5), some (eI (v4)), some (eI (i10)), some (eI (v18))], [eI (v46)]), f :: F, μ)
          refine b_ieq (t1 := 134) (t2 := 94) rfl rfl rfl (ev_w_in (by omega) (by omega)) (fun g48 => ?_) (fun g48 => ?_)
          · have b49 : 0 ≤ v46 ∧ v46 ≤ 0 := by omega
            obtain ⟨v49, e50⟩ : ∃ zz : Int, zz = (i10) + (1) := ⟨_, rfl⟩
            have b51 : 1 ≤ v49 ∧ v49 ≤ 4 := by omega
            refine w_t (np := 137) (l2 := [some (eR a0), some (eI (a1)), some (eR a2), some (eI (a3)), some (eI (a4)), some (eR a5), some (eI (v4)), some (eI (v49)), some (eI (v18))]) (s2 := []) rfl (b_iinc rfl (by rw [← e50]; exact ev_w_in (by omega) (by omega)) rfl) rfl ?_
            refine w_go (t1 := 10) rfl rfl ?_
            exact ih9 (4 - (v49)).toNat (by omega) (v49) (some (eI (v18))) (by omega)     rfl
          · have b49 : 1 ≤ v46 ∧ v46 ≤ 1 := by omega
            refine w_t (np := 95) (l2 := [some (eR a0), some (eI (a1)), some (eR a2), some (eI (a3)), some (eI (a4)), some (eR a5), some (eI (v4)), some (eI (i10)), some (eI (v18))]) (s2 := [eR a2]) rfl (s_an rfl (pos_g hI gA2 (by decide))) rfl ?_
            refine w_t (np := 96) (l2 := [some (eR a0), some (eI (a1)), some (eR a2), some (eI (a3)), some (eI (a4)), some (eR a5), some (eI (v4)), some (eI (i10)), some (eI (v18))]) (s2 := [eI (4), eR a2]) rfl rfl rfl ?_
            refine w_t (np := 98) (l2 := [some (eR a0), some (eI (a1)), some (eR a2), some (eI (a3)), some (eI (a4)), some (eR a5), some (eI (v4)), some (eI (i10)), some (eI (v18))]) (s2 := [eI (v4), eI (4), eR a2]) rfl rfl rfl ?_
            obtain ⟨v49, e50⟩ : ∃ zz : Int, zz = (4) * (v4) := ⟨_, rfl⟩
            have b51 : 0 ≤ v49 ∧ v49 ≤ 12 := by omega
            refine w_t (np := 99) (l2 := [some (eR a0), some (eI (a1)), some (eR a2), some (eI (a3)), some (eI (a4)), some (eR a5), some (eI (v4)), some (eI (i10)), some (eI (v18))]) (s2 := [eI (v49), eR a2]) rfl (b_imul (by rw [← e50]; exact ev_w_in (by omega) (by omega))) rfl ?_
            refine w_t (np := 101) (l2 := [some (eR a0), some (eI (a1)), some (eR a2), some (eI (a3)), some (eI (a4)), some (eR a5), some (eI (v4)), some (eI (i10)), some (eI (v18))]) (s2 := [eR a5, eI (v49), eR a2]) rfl (s_ao rfl (pos_g hI gA5 (by decide))) rfl ?_
            refine w_t (np := 102) (l2 := [some (eR a0), some (eI (a1)), some (eR a2), some (eI (a3)), some (eI (a4)), some (eR a5), some (eI (v4)), some (eI (i10)), some (eI (v18))]) (s2 := [eI (4), eR a5, eI (v49), eR a2]) rfl rfl rfl ?_
            refine w_t (np := 104) (l2 := [some (eR a0), some (eI (a1)), some (eR a2), some (eI (a3)), some (eI (a4)), some (eR a5), some (eI (v4)), some (eI (i10)), some (eI (v18))]) (s2 := [eI (i10), eI (4), eR a5, eI (v49), eR a2]) rfl rfl rfl ?_
            obtain ⟨v52, e53⟩ : ∃ zz : Int, zz = (4) * (i10) := ⟨_, rfl⟩
            have b54 : 0 ≤ v52 ∧ v52 ≤ 12 := by omega
            refine w_t (np := 105) (l2 := [some (eR a0), some (eI (a1)), some (eR a2), some (eI (a3)), some (eI (a4)), some (eR a5), some (eI (v4)), some (eI (i10)), some (eI (v18))]) (s2 := [eI (v52), eR a5, eI (v49), eR a2]) rfl (b_imul (by rw [← e53]; exact ev_w_in (by omega) (by omega))) rfl ?_
            refine w_cu (np := 108) (as := [eR a2, eI (v49), eR a5, eI (v52)]) (l2 := [some (eR a2), some (eI (v49)), some (eR a5), some (eI (v52)), none]) (rest := []) rfl rfl rfl (Nat.ble_eq.mp rfl) rfl rfl rfl rfl ?_
            refine s_303_2 (a1 := v49) (a3 := v52) hI gA2 (by omega) gA5 (by omega) ?_
            intro v55 b56
            show ex_q (dt_fg L ρ) rc (d + 1, (310, 108, [some (eR a0), some (eI (a1)), some (eR a2), some (eI (a3)), some (eI (a4)), some (eR a5), some (eI (v4)), some (eI (i10)), some (eI (v18))], [eI (v55)]), f :: F, μ)
            refine b_ieq (t1 := 134) (t2 := 111) rfl rfl rfl (ev_w_in (by omega) (by omega)) (fun g57 => ?_) (fun g57 => ?_)
            · have b58 : 0 ≤ v55 ∧ v55 ≤ 0 := by omega
              obtain ⟨v58, e59⟩ : ∃ zz : Int, zz = (i10) + (1) := ⟨_, rfl⟩
              have b60 : 1 ≤ v58 ∧ v58 ≤ 4 := by omega
              refine w_t (np := 137) (l2 := [some (eR a0), some (eI (a1)), some (eR a2), some (eI (a3)), some (eI (a4)), some (eR a5), some (eI (v4)), some (eI (v58)), some (eI (v18))]) (s2 := []) rfl (b_iinc rfl (by rw [← e59]; exact ev_w_in (by omega) (by omega)) rfl) rfl ?_
              refine w_go (t1 := 10) rfl rfl ?_
              exact ih9 (4 - (v58)).toNat (by omega) (v58) (some (eI (v18))) (by omega)     rfl
            · have b58 : 1 ≤ v55 ∧ v55 ≤ 1 := by omega
              refine w_t (np := 112) (l2 := [some (eR a0), some (eI (a1)), some (eR a2), some (eI (a3)), some (eI (a4)), some (eR a5), some (eI (v4)), some (eI (i10)), some (eI (v18))]) (s2 := [eI (a1)]) rfl rfl rfl ?_
              refine w_t (np := 113) (l2 := [some (eR a0), some (eI (a1)), some (eR a2), some (eI (a3)), some (eI (a4)), some (eR a5), some (eI (v4)), some (eI (i10)), some (eI (v18))]) (s2 := [eI (a3), eI (a1)]) rfl rfl rfl ?_
              refine w_cu (np := 116) (as := [eI (a1), eI (a3)]) (l2 := [some (eI (a1)), some (eI (a3)), none]) (rest := []) rfl rfl rfl (Nat.ble_eq.mp rfl) rfl rfl rfl rfl ?_
              refine s_309 (a0 := a1) (a1 := a3) hI (by omega) (by omega) ?_
              intro v58 b59
              show ex_q (dt_fg L ρ) rc (d + 1, (310, 116, [some (eR a0), some (eI (a1)), some (eR a2), some (eI (a3)), some (eI (a4)), some (eR a5), some (eI (v4)), some (eI (i10)), some (eI (v18))], [eI (v58)]), f :: F, μ)
              refine w_t (np := 117) (l2 := [some (eR a0), some (eI (a1)), some (eR a2), some (eI (a3)), some (eI (a4)), some (eR a5), some (eI (v4)), some (eI (i10)), some (eI (v18))]) (s2 := [eI (1), eI (v58)]) rfl rfl rfl ?_
              obtain ⟨v60, e61, b62, h63⟩ := h_ixor2 (a := v58) (b := 1) (by omega) (by decide) (by decide)
              have b64 : 0 ≤ v60 ∧ v60 ≤ 2147483647 := by omega
              refine w_t (np := 118) (l2 := [some (eR a0), some (eI (a1)), some (eR a2), some (eI (a3)), some (eI (a4)), some (eR a5), some (eI (v4)), some (eI (i10)), some (eI (v18))]) (s2 := [eI (v60)]) rfl (e61 _ _) rfl ?_
              refine w_t (np := 120) (l2 := [some (eR a0), some (eI (a1)), some (eR a2), some (eI (a3)), some (eI (a4)), some (eR a5), some (eI (v4)), some (eI (i10)), some (eI (v18))]) (s2 := [eI (a4), eI (v60)]) rfl rfl rfl ?_
              refine w_t (np := 122) (l2 := [some (eR a0), some (eI (a1)), some (eR a2), some (eI (a3)), some (eI (a4)), some (eR a5), some (eI (v4)), some (eI (i10)), some (eI (v18))]) (s2 := [eI (i10), eI (a4), eI (v60)]) rfl rfl rfl ?_
              refine w_cu (np := 125) (as := [eI (a4), eI (i10)]) (l2 := [some (eI (a4)), some (eI (i10)), none]) (rest := [eI (v60)]) rfl rfl rfl (Nat.ble_eq.mp rfl) rfl rfl rfl rfl ?_
              refine s_309 (a0 := a4) (a1 := i10) hI (by omega) (by omega) ?_
              intro v65 b66
              show ex_q (dt_fg L ρ) rc (d + 1, (310, 125, [some (eR a0), some (eI (a1)), some (eR a2), some (eI (a3)), some (eI (a4)), some (eR a5), some (eI (v4)), some (eI (i10)), some (eI (v18))], [eI (v65), eI (v60)]), f :: F, μ)
              refine b_cne (t1 := 132) (t2 := 128) rfl rfl rfl (ev_w_in (by omega) (by omega)) (ev_w_in (by omega) (by omega)) (fun g67 => ?_) (fun g67 => ?_)
              · refine w_t (np := 133) (l2 := [some (eR a0), some (eI (a1)), some (eR a2), some (eI (a3)), some (eI (a4)), some (eR a5), some (eI (v4)), some (eI (i10)), some (eI (v18))]) (s2 := [eI (2)]) rfl rfl rfl ?_
                exact b_ri rfl rfl (K (2) (by decide))
              · have b68 : 0 ≤ v60 ∧ v60 ≤ 3 := by omega
                refine w_t (np := 129) (l2 := [some (eR a0), some (eI (a1)), some (eR a2), some (eI (a3)), some (eI (a4)), some (eR a5), some (eI (v4)), some (eI (i10)), some (eI (v18))]) (s2 := [eI (1)]) rfl rfl rfl ?_
                refine w_go (t1 := 133) rfl rfl ?_
                exact b_ri rfl rfl (K (1) (by decide))
        · have b40 : 1 ≤ v37 ∧ v37 ≤ 1 := by omega
          refine w_t (np := 58) (l2 := [some (eR a0), some (eI (a1)), some (eR a2), some (eI (a3)), some (eI (a4)), some (eR a5), some (eI (v4)), some (eI (i10)), some (eI (v18))]) (s2 := [eI (a1)]) rfl rfl rfl ?_
          refine w_t (np := 59) (l2 := [some (eR a0), some (eI (a1)), some (eR a2), some (eI (a3)), some (eI (a4)), some (eR a5), some (eI (v4)), some (eI (i10)), some (eI (v18))]) (s2 := [eI (a3), eI (a1)]) rfl rfl rfl ?_
          refine w_cu (np := 62) (as := [eI (a1), eI (a3)]) (l2 := [some (eI (a1)), some (eI (a3)), none]) (rest := []) rfl rfl rfl (Nat.ble_eq.mp rfl) rfl rfl rfl rfl ?_
          refine s_309 (a0 := a1) (a1 := a3) hI (by omega) (by omega) ?_
          intro v40 b41
          show ex_q (dt_fg L ρ) rc (d + 1, (310, 62, [some (eR a0), some (eI (a1)), some (eR a2), some (eI (a3)), some (eI (a4)), some (eR a5), some (eI (v4)), some (eI (i10)), some (eI (v18))], [eI (v40)]), f :: F, μ)
          refine w_t (np := 64) (l2 := [some (eR a0), some (eI (a1)), some (eR a2), some (eI (a3)), some (eI (a4)), some (eR a5), some (eI (v4)), some (eI (i10)), some (eI (v18))]) (s2 := [eI (a4), eI (v40)]) rfl rfl rfl ?_
          refine w_t (np := 66) (l2 := [some (eR a0), some (eI (a1)), some (eR a2), some (eI (a3)), some (eI (a4)), some (eR a5), some (eI (v4)), some (eI (i10)), some (eI (v18))]) (s2 := [eI (i10), eI (a4), eI (v40)]) rfl rfl rfl ?_
          refine w_cu (np := 69) (as := [eI (a4), eI (i10)]) (l2 := [some (eI (a4)), some (eI (i10)), none]) (rest := [eI (v40)]) rfl rfl rfl (Nat.ble_eq.mp rfl) rfl rfl rfl rfl ?_
          refine s_309 (a0 := a4) (a1 := i10) hI (by omega) (by omega) ?_
          intro v42 b43
          show ex_q (dt_fg L ρ) rc (d + 1, (310, 69, [some (eR a0), some (eI (a1)), some (eR a2), some (eI (a3)), some (eI (a4)), some (eR a5), some (eI (v4)), some (eI (i10)), some (eI (v18))], [eI (v42), eI (v40)]), f :: F, μ)
          refine b_cne (t1 := 76) (t2 := 72) rfl rfl rfl (ev_w_in (by omega) (by omega)) (ev_w_in (by omega) (by omega)) (fun g44 => ?_) (fun g44 => ?_)
          · refine w_t (np := 77) (l2 := [some (eR a0), some (eI (a1)), some (eR a2), some (eI (a3)), some (eI (a4)), some (eR a5), some (eI (v4)), some (eI (i10)), some (eI (v18))]) (s2 := [eI (2)]) rfl rfl rfl ?_
            exact b_ri rfl rfl (K (2) (by decide))
          · refine w_t (np := 73) (l2 := [some (eR a0), some (eI (a1)), some (eR a2), some (eI (a3)), some (eI (a4)), some (eR a5), some (eI (v4)), some (eI (i10)), some (eI (v18))]) (s2 := [eI (1)]) rfl rfl rfl ?_
            refine w_go (t1 := 77) rfl rfl ?_
            exact b_ri rfl rfl (K (1) (by decide))
  exact hL10 _ (0) (none) (by decide)     rfl
def l_311 : List Nat := [13315, 13316, 13317, 13318, 21504, 21248]
theorem s_311 {L : Nat} {ρ : Nat → Int} {rc : eQ} {d : Nat} {f : eFr} {F : List eFr} {μ : eM} {g : Nat → Nat} {a0 : Nat} {rh : Int} (hI : SI g μ) (gA0 : g a0 = 52) (h_rh : μ.1 a0 49 = rh) (hp0 : rh ≤ 23) (K : ∀ (μ2 : eM) (v : Int) (rh2 : Int), SI g μ2 → Fr l_311 0 0 g μ μ2 → (0 ≤ v ∧ v ≤ 7) → μ2.1 a0 49 = rh2 → (rh2 = rh) → ex_q (dt_fg L ρ) rc (d + 7, (f.1, f.2.1, f.2.2.1, eI v :: f.2.2.2), F, μ2)) : ex_q (dt_fg L ρ) rc (d + 6, (311, 0, [some (eR a0), none, none, none, none], []), f :: F, μ) := by
  have F0 : Fr l_311 0 0 g μ μ := Fr.r
  have b_rh : 0 ≤ rh ∧ rh ≤ 24 := by
    rw [← h_rh]
    exact hI.int gA0 (by decide) (n := 69) rfl (by decide) rfl
  refine w_t (np := 1) (l2 := [some (eR a0), none, none, none, none]) (s2 := [eR a0]) rfl (s_an rfl (pos_g hI gA0 (by decide))) rfl ?_
  refine w_gf (np := 4) (v := eI (rh)) rfl rfl (hI.kd gA0 (by decide) (n := 69) rfl) (by rw [h_rh]; rfl) ?_
  refine w_t (np := 5) (l2 := [some (eR a0), some (eI (rh)), none, none, none]) (s2 := []) rfl rfl rfl ?_
  refine w_t (np := 6) (l2 := [some (eR a0), some (eI (rh)), none, none, none]) (s2 := [eR a0]) rfl (s_an rfl (pos_g hI gA0 (by decide))) rfl ?_
  refine w_t (np := 7) (l2 := [some (eR a0), some (eI (rh)), none, none, none]) (s2 := [eI (rh), eR a0]) rfl rfl rfl ?_
  refine w_t (np := 8) (l2 := [some (eR a0), some (eI (rh)), none, none, none]) (s2 := [eR a0, eI (rh), eR a0]) rfl (s_an rfl (pos_g hI gA0 (by decide))) rfl ?_
  refine j_gr (np := 11) rfl rfl hI gA0 (by decide) (n := 69) rfl rfl rfl ?_
  intro v1 e2 b3 z4
  have b3 : g v1 = 83 := Nat.eq_of_beq_eq_true b3
  refine w_cw (np := 14) (as := [eI (rh), eR v1]) (l2 := [some (eR a0), some (eI (rh)), some (eR v1), none, none, none, none]) (rest := []) rfl rfl rfl (Nat.ble_eq.mp rfl) rfl rfl rfl (hI.kd gA0 (by decide) (n := 69) rfl) rfl ?_
  refine s_302 (a1 := rh) hI gA0 (by omega) b3 ?_
  intro m5 I6 F7
  have F8 : Fr l_311 0 0 g μ m5 := F0.t F7 rfl
  show ex_q (dt_fg L ρ) rc (d + 6, (311, 14, [some (eR a0), some (eI (rh)), none, none, none], []), f :: F, m5)
  refine w_t (np := 15) (l2 := [some (eR a0), some (eI (rh)), none, none, none]) (s2 := [eI (0)]) rfl rfl rfl ?_
  refine w_t (np := 16) (l2 := [some (eR a0), some (eI (rh)), some (eI (0)), none, none]) (s2 := []) rfl rfl rfl ?_
  refine w_t (np := 17) (l2 := [some (eR a0), some (eI (rh)), some (eI (0)), none, none]) (s2 := [eI (0)]) rfl rfl rfl ?_
  refine w_t (np := 18) (l2 := [some (eR a0), some (eI (rh)), some (eI (0)), some (eI (0)), none]) (s2 := []) rfl rfl rfl ?_
  have hL18 : ∀ (n9 : Nat) (m16 : eM) (i11 : Int) (i13 : Int) (o15 : Option eV), SI g m16 → Fr l_311 0 0 g μ m16 → (0 ≤ i11 ∧ i11 ≤ 1) → (0 ≤ i13 ∧ i13 ≤ 24) → m16.1 a0 49 = rh → m16.1 a0 47 = ((v1 : Nat) : Int) → n9 = (24 - i13).toNat → ex_q (dt_fg L ρ) rc (d + 6, (311, 18, [some (eR a0), some (eI (rh)), some (eI (i11)), some (eI (i13)), o15], []), f :: F, m16) := by
    intro n9
    induction n9 using Nat.strongRecOn with
    | _ n9 ih10 =>
    intro m16 i11 i13 o15 I17 F18 b12 b14 k19 k20 hn21
    refine w_t (np := 19) (l2 := [some (eR a0), some (eI (rh)), some (eI (i11)), some (eI (i13)), o15]) (s2 := [eI (i13)]) rfl rfl rfl ?_
    refine w_t (np := 20) (l2 := [some (eR a0), some (eI (rh)), some (eI (i11)), some (eI (i13)), o15]) (s2 := [eR a0, eI (i13)]) rfl (s_an rfl (pos_g I17 gA0 (by decide))) rfl ?_
    refine w_gf (np := 23) (v := eI (rh)) rfl rfl (I17.kd gA0 (by decide) (n := 69) rfl) (by rw [k19]; rfl) ?_
    refine b_cge (t1 := 165) (t2 := 26) rfl rfl rfl (ev_w_in (by omega) (by omega)) (ev_w_in (by omega) (by omega)) (fun g22 => ?_) (fun g22 => ?_)
    · refine w_t (np := 166) (l2 := [some (eR a0), some (eI (rh)), some (eI (i11)), some (eI (i13)), o15]) (s2 := [eI (i11)]) rfl rfl rfl ?_
      refine b_ieq (t1 := 174) (t2 := 169) rfl rfl rfl (ev_w_in (by omega) (by omega)) (fun g23 => ?_) (fun g23 => ?_)
      · have b24 : 0 ≤ i11 ∧ i11 ≤ 0 := by omega
        refine w_t (np := 175) (l2 := [some (eR a0), some (eI (rh)), some (eI (i11)), some (eI (i13)), o15]) (s2 := [eI (0)]) rfl rfl rfl ?_
        exact b_ri rfl rfl (K m16 (0) (rh) I17 F18 (by decide) k19 (by omega))
      · have b24 : 1 ≤ i11 ∧ i11 ≤ 1 := by omega
        refine w_t (np := 171) (l2 := [some (eR a0), some (eI (rh)), some (eI (i11)), some (eI (i13)), o15]) (s2 := [eI (7)]) rfl rfl rfl ?_
        refine w_go (t1 := 175) rfl rfl ?_
        exact b_ri rfl rfl (K m16 (7) (rh) I17 F18 (by decide) k19 (by omega))
    · have b23 : 0 ≤ i13 ∧ i13 ≤ 23 := by omega
      have b24 : 1 ≤ rh ∧ rh ≤ 24 := by omega
      refine w_t (np := 27) (l2 := [some (eR a0), some (eI (rh)), some (eI (i11)), some (eI (i13)), o15]) (s2 := [eR a0]) rfl (s_an rfl (pos_g I17 gA0 (by decide))) rfl ?_
      refine w_t (np := 28) (l2 := [some (eR a0), some (eI (rh)), some (eI (i11)), some (eI (i13)), o15]) (s2 := [eI (i13), eR a0]) rfl rfl rfl ?_
      refine w_t (np := 29) (l2 := [some (eR a0), some (eI (rh)), some (eI (i11)), some (eI (i13)), o15]) (s2 := [eR a0, eI (i13), eR a0]) rfl (s_an rfl (pos_g I17 gA0 (by decide))) rfl ?_
      refine j_gr (np := 32) rfl rfl I17 gA0 (by decide) (n := 69) rfl rfl rfl ?_
      intro v23 e24 b25 z26
      have b25 : g v23 = 84 := Nat.eq_of_beq_eq_true b25
      refine w_cw (np := 35) (as := [eI (i13), eR v23]) (l2 := [some (eR a0), some (eI (i13)), some (eR v23), none, none, none, none]) (rest := []) rfl rfl rfl (Nat.ble_eq.mp rfl) rfl rfl rfl (I17.kd gA0 (by decide) (n := 69) rfl) rfl ?_
      refine s_302_2 (a1 := i13) I17 gA0 (by omega) b25 ?_
      intro m27 I28 F29
      have F30 : Fr l_311 0 0 g μ m27 := F18.t F29 rfl
      show ex_q (dt_fg L ρ) rc (d + 6, (311, 35, [some (eR a0), some (eI (rh)), some (eI (i11)), some (eI (i13)), o15], []), f :: F, m27)
      refine w_t (np := 36) (l2 := [some (eR a0), some (eI (rh)), some (eI (i11)), some (eI (i13)), o15]) (s2 := [eR a0]) rfl (s_an rfl (pos_g I28 gA0 (by decide))) rfl ?_
      refine w_t (np := 37) (l2 := [some (eR a0), some (eI (rh)), some (eI (i11)), some (eI (i13)), o15]) (s2 := [eR a0, eR a0]) rfl (s_an rfl (pos_g I28 gA0 (by decide))) rfl ?_
      refine w_gf (np := 40) (v := eR v1) rfl rfl (I28.kd gA0 (by decide) (n := 69) rfl) (by rw [(F29.k k20 gA0 (by decide) rfl)]; rfl) ?_
      refine w_t (np := 41) (l2 := [some (eR a0), some (eI (rh)), some (eI (i11)), some (eI (i13)), o15]) (s2 := [eR a0, eR v1, eR a0]) rfl (s_an rfl (pos_g I28 gA0 (by decide))) rfl ?_
      refine w_gf (np := 44) (v := eR v23) rfl rfl (I28.kd gA0 (by decide) (n := 69) rfl) (by rw [(F29.k e24 gA0 (by decide) rfl)]; rfl) ?_
      refine w_cw (np := 47) (as := [eR v1, eR v23]) (l2 := [some (eR a0), some (eR v1), some (eR v23), none, none, none, none, none, none]) (rest := []) rfl rfl rfl (Nat.ble_eq.mp rfl) rfl rfl rfl (I28.kd gA0 (by decide) (n := 69) rfl) rfl ?_
      refine s_306 I28 gA0 b3 b25 ?_
      intro m31 v34 I32 F33 b35
      have F36 : Fr l_311 0 0 g μ m31 := F30.t F33 rfl
      show ex_q (dt_fg L ρ) rc (d + 6, (311, 47, [some (eR a0), some (eI (rh)), some (eI (i11)), some (eI (i13)), o15], [eI (v34)]), f :: F, m31)
      refine b_ine (t1 := 65) (t2 := 50) rfl rfl rfl (ev_w_in (by omega) (by omega)) (fun g37 => ?_) (fun g37 => ?_)
      · have b38 : 1 ≤ v34 ∧ v34 ≤ 1 := by omega
        refine w_t (np := 66) (l2 := [some (eR a0), some (eI (rh)), some (eI (i11)), some (eI (i13)), o15]) (s2 := [eR a0]) rfl (s_an rfl (pos_g I32 gA0 (by decide))) rfl ?_
        refine w_t (np := 67) (l2 := [some (eR a0), some (eI (rh)), some (eI (i11)), some (eI (i13)), o15]) (s2 := [eR a0, eR a0]) rfl (s_an rfl (pos_g I32 gA0 (by decide))) rfl ?_
        refine w_gf (np := 70) (v := eR v1) rfl rfl (I32.kd gA0 (by decide) (n := 69) rfl) (by rw [(F33.k (F29.k k20 gA0 (by decide) rfl) gA0 (by decide) rfl)]; rfl) ?_
        refine w_t (np := 71) (l2 := [some (eR a0), some (eI (rh)), some (eI (i11)), some (eI (i13)), o15]) (s2 := [eR a0, eR v1, eR a0]) rfl (s_an rfl (pos_g I32 gA0 (by decide))) rfl ?_
        refine w_gf (np := 74) (v := eR v23) rfl rfl (I32.kd gA0 (by decide) (n := 69) rfl) (by rw [(F33.k (F29.k e24 gA0 (by decide) rfl) gA0 (by decide) rfl)]; rfl) ?_
        refine w_cw (np := 77) (as := [eR v1, eR v23]) (l2 := [some (eR a0), some (eR v1), some (eR v23), none, none, none, none]) (rest := []) rfl rfl rfl (Nat.ble_eq.mp rfl) rfl rfl rfl (I32.kd gA0 (by decide) (n := 69) rfl) rfl ?_
        refine s_308 I32 gA0 b3 b25 ?_
        intro m38 v41 I39 F40 b42
        have F43 : Fr l_311 0 0 g μ m38 := F36.t F40 rfl
        show ex_q (dt_fg L ρ) rc (d + 6, (311, 77, [some (eR a0), some (eI (rh)), some (eI (i11)), some (eI (i13)), o15], [eI (v41)]), f :: F, m38)
        refine b_ine (t1 := 95) (t2 := 80) rfl rfl rfl (ev_w_in (by omega) (by omega)) (fun g44 => ?_) (fun g44 => ?_)
        · have b45 : 1 ≤ v41 ∧ v41 ≤ 1 := by omega
          refine w_t (np := 97) (l2 := [some (eR a0), some (eI (rh)), some (eI (i11)), some (eI (i13)), o15]) (s2 := [eI (6)]) rfl rfl rfl ?_
          exact b_ri rfl rfl (K m38 (6) (rh) I39 F43 (by decide) (F40.k (F33.k (F29.k k19 gA0 (by decide) rfl) gA0 (by decide) rfl) gA0 (by decide) rfl) (by omega))
        · have b45 : 0 ≤ v41 ∧ v41 ≤ 0 := by omega
          refine w_t (np := 81) (l2 := [some (eR a0), some (eI (rh)), some (eI (i11)), some (eI (i13)), o15]) (s2 := [eR a0]) rfl (s_an rfl (pos_g I39 gA0 (by decide))) rfl ?_
          refine w_t (np := 82) (l2 := [some (eR a0), some (eI (rh)), some (eI (i11)), some (eI (i13)), o15]) (s2 := [eR a0, eR a0]) rfl (s_an rfl (pos_g I39 gA0 (by decide))) rfl ?_
          refine w_gf (np := 85) (v := eR v23) rfl rfl (I39.kd gA0 (by decide) (n := 69) rfl) (by rw [(F40.k (F33.k (F29.k e24 gA0 (by decide) rfl) gA0 (by decide) rfl) gA0 (by decide) rfl)]; rfl) ?_
          refine w_t (np := 86) (l2 := [some (eR a0), some (eI (rh)), some (eI (i11)), some (eI (i13)), o15]) (s2 := [eR a0, eR v23, eR a0]) rfl (s_an rfl (pos_g I39 gA0 (by decide))) rfl ?_
          refine w_gf (np := 89) (v := eR v1) rfl rfl (I39.kd gA0 (by decide) (n := 69) rfl) (by rw [(F40.k (F33.k (F29.k k20 gA0 (by decide) rfl) gA0 (by decide) rfl) gA0 (by decide) rfl)]; rfl) ?_
          refine w_cw (np := 92) (as := [eR v23, eR v1]) (l2 := [some (eR a0), some (eR v23), some (eR v1), none, none, none, none]) (rest := []) rfl rfl rfl (Nat.ble_eq.mp rfl) rfl rfl rfl (I39.kd gA0 (by decide) (n := 69) rfl) rfl ?_
          refine s_308_2 I39 gA0 b25 b3 ?_
          intro m45 v48 I46 F47 b49
          have F50 : Fr l_311 0 0 g μ m45 := F43.t F47 rfl
          show ex_q (dt_fg L ρ) rc (d + 6, (311, 92, [some (eR a0), some (eI (rh)), some (eI (i11)), some (eI (i13)), o15], [eI (v48)]), f :: F, m45)
          refine b_ieq (t1 := 98) (t2 := 95) rfl rfl rfl (ev_w_in (by omega) (by omega)) (fun g51 => ?_) (fun g51 => ?_)
          · have b52 : 0 ≤ v48 ∧ v48 ≤ 0 := by omega
            refine w_t (np := 99) (l2 := [some (eR a0), some (eI (rh)), some (eI (i11)), some (eI (i13)), o15]) (s2 := [eI (0)]) rfl rfl rfl ?_
            refine w_t (np := 101) (l2 := [some (eR a0), some (eI (rh)), some (eI (i11)), some (eI (i13)), some (eI (0))]) (s2 := []) rfl rfl rfl ?_
            have hL101 : ∀ (n52 : Nat) (m58 : eM) (i54 : Int) (i56 : Int), SI g m58 → Fr l_311 0 0 g μ m58 → (0 ≤ i54 ∧ i54 ≤ 1) → (0 ≤ i56 ∧ i56 ≤ 4) → m58.1 a0 49 = rh → m58.1 a0 47 = ((v1 : Nat) : Int) → m58.1 a0 48 = ((v23 : Nat) : Int) → n52 = (4 - i56).toNat → ex_q (dt_fg L ρ) rc (d + 6, (311, 101, [some (eR a0), some (eI (rh)), some (eI (i54)), some (eI (i13)), some (eI (i56))], []), f :: F, m58) := by
              intro n52
              induction n52 using Nat.strongRecOn with
              | _ n52 ih53 =>
              intro m58 i54 i56 I59 F60 b55 b57 k61 k62 k63 hn64
              refine w_t (np := 103) (l2 := [some (eR a0), some (eI (rh)), some (eI (i54)), some (eI (i13)), some (eI (i56))]) (s2 := [eI (i56)]) rfl rfl rfl ?_
              refine w_t (np := 104) (l2 := [some (eR a0), some (eI (rh)), some (eI (i54)), some (eI (i13)), some (eI (i56))]) (s2 := [eI (4), eI (i56)]) rfl rfl rfl ?_
              refine b_cge (t1 := 159) (t2 := 107) rfl rfl rfl (ev_w_in (by omega) (by omega)) rfl (fun g65 => ?_) (fun g65 => ?_)
              · have b66 : 4 ≤ i56 ∧ i56 ≤ 4 := by omega
                obtain ⟨v66, e67⟩ : ∃ zz : Int, zz = (i13) + (1) := ⟨_, rfl⟩
                have b68 : 1 ≤ v66 ∧ v66 ≤ 24 := by omega
                refine w_t (np := 162) (l2 := [some (eR a0), some (eI (rh)), some (eI (i54)), some (eI (v66)), some (eI (i56))]) (s2 := []) rfl (b_iinc rfl (by rw [← e67]; exact ev_w_in (by omega) (by omega)) rfl) rfl ?_
                refine w_go (t1 := 18) rfl rfl ?_
                exact ih10 (24 - (v66)).toNat (by omega) m58 (i54) (v66) (some (eI (i56))) I59 F60 (by omega) (by omega) k61 k62    rfl
              · have b66 : 0 ≤ i56 ∧ i56 ≤ 3 := by omega
                refine w_t (np := 108) (l2 := [some (eR a0), some (eI (rh)), some (eI (i54)), some (eI (i13)), some (eI (i56))]) (s2 := [eI (i54)]) rfl rfl rfl ?_
                refine b_ine (t1 := 147) (t2 := 111) rfl rfl rfl (ev_w_in (by omega) (by omega)) (fun g66 => ?_) (fun g66 => ?_)
                · have b67 : 1 ≤ i54 ∧ i54 ≤ 1 := by omega
                  refine w_t (np := 148) (l2 := [some (eR a0), some (eI (rh)), some (eI (i54)), some (eI (i13)), some (eI (i56))]) (s2 := [eI (1)]) rfl rfl rfl ?_
                  refine w_go (t1 := 152) rfl rfl ?_
                  refine w_t (np := 153) (l2 := [some (eR a0), some (eI (rh)), some (eI (1)), some (eI (i13)), some (eI (i56))]) (s2 := []) rfl rfl rfl ?_
                  obtain ⟨v67, e68⟩ : ∃ zz : Int, zz = (i56) + (1) := ⟨_, rfl⟩
                  have b69 : 1 ≤ v67 ∧ v67 ≤ 4 := by omega
                  refine w_t (np := 156) (l2 := [some (eR a0), some (eI (rh)), some (eI (1)), some (eI (i13)), some (eI (v67))]) (s2 := []) rfl (b_iinc rfl (by rw [← e68]; exact ev_w_in (by omega) (by omega)) rfl) rfl ?_
                  refine w_go (t1 := 101) rfl rfl ?_
                  exact ih53 (4 - (v67)).toNat (by omega) m58 (1) (v67) I59 F60 (by decide) (by omega) k61 k62 k63    rfl
                · have b67 : 0 ≤ i54 ∧ i54 ≤ 0 := by omega
                  refine w_t (np := 112) (l2 := [some (eR a0), some (eI (rh)), some (eI (i54)), some (eI (i13)), some (eI (i56))]) (s2 := [eR a0]) rfl (s_an rfl (pos_g I59 gA0 (by decide))) rfl ?_
                  refine w_t (np := 113) (l2 := [some (eR a0), some (eI (rh)), some (eI (i54)), some (eI (i13)), some (eI (i56))]) (s2 := [eR a0, eR a0]) rfl (s_an rfl (pos_g I59 gA0 (by decide))) rfl ?_
                  refine j_gr (np := 116) rfl rfl I59 gA0 (by decide) (n := 69) rfl rfl rfl ?_
                  intro v67 e68 b69 z70
                  have b69 : g v67 = 79 := Nat.eq_of_beq_eq_true b69
                  refine w_t (np := 118) (l2 := [some (eR a0), some (eI (rh)), some (eI (i54)), some (eI (i13)), some (eI (i56))]) (s2 := [eI (7), eR v67, eR a0]) rfl rfl rfl ?_
                  refine w_t (np := 119) (l2 := [some (eR a0), some (eI (rh)), some (eI (i54)), some (eI (i13)), some (eI (i56))]) (s2 := [eI (rh), eI (7), eR v67, eR a0]) rfl rfl rfl ?_
                  obtain ⟨v71, e72⟩ : ∃ zz : Int, zz = (7) * (rh) := ⟨_, rfl⟩
                  have b73 : 7 ≤ v71 ∧ v71 ≤ 168 := by omega
                  refine w_t (np := 120) (l2 := [some (eR a0), some (eI (rh)), some (eI (i54)), some (eI (i13)), some (eI (i56))]) (s2 := [eI (v71), eR v67, eR a0]) rfl (b_imul (by rw [← e72]; exact ev_w_in (by omega) (by omega))) rfl ?_
                  refine j_al (np := 121) rfl rfl I59 b69 (by decide) (n := 168) rfl rfl (lo := -2147483648) (hi := 2147483647) (fun _ => rfl) (by omega) (by omega) ?_
                  intro v74 e75 b76
                  refine w_t (np := 122) (l2 := [some (eR a0), some (eI (rh)), some (eI (i54)), some (eI (i13)), some (eI (i56))]) (s2 := [eR a0, eI (v74), eR a0]) rfl (s_an rfl (pos_g I59 gA0 (by decide))) rfl ?_
                  refine w_gf (np := 125) (v := eR v1) rfl rfl (I59.kd gA0 (by decide) (n := 69) rfl) (by rw [k62]; rfl) ?_
                  refine w_t (np := 127) (l2 := [some (eR a0), some (eI (rh)), some (eI (i54)), some (eI (i13)), some (eI (i56))]) (s2 := [eI (i56), eR v1, eI (v74), eR a0]) rfl rfl rfl ?_
                  refine w_t (np := 128) (l2 := [some (eR a0), some (eI (rh)), some (eI (i54)), some (eI (i13)), some (eI (i56))]) (s2 := [eR a0, eI (i56), eR v1, eI (v74), eR a0]) rfl (s_an rfl (pos_g I59 gA0 (by decide))) rfl ?_
                  refine w_gf (np := 131) (v := eR v67) rfl rfl (I59.kd gA0 (by decide) (n := 69) rfl) (by rw [e68]; rfl) ?_
                  refine w_t (np := 133) (l2 := [some (eR a0), some (eI (rh)), some (eI (i54)), some (eI (i13)), some (eI (i56))]) (s2 := [eI (7), eR v67, eI (i56), eR v1, eI (v74), eR a0]) rfl rfl rfl ?_
                  refine w_t (np := 134) (l2 := [some (eR a0), some (eI (rh)), some (eI (i54)), some (eI (i13)), some (eI (i56))]) (s2 := [eI (i13), eI (7), eR v67, eI (i56), eR v1, eI (v74), eR a0]) rfl rfl rfl ?_
                  obtain ⟨v77, e78⟩ : ∃ zz : Int, zz = (7) * (i13) := ⟨_, rfl⟩
                  have b79 : 0 ≤ v77 ∧ v77 ≤ 161 := by omega
                  refine w_t (np := 135) (l2 := [some (eR a0), some (eI (rh)), some (eI (i54)), some (eI (i13)), some (eI (i56))]) (s2 := [eI (v77), eR v67, eI (i56), eR v1, eI (v74), eR a0]) rfl (b_imul (by rw [← e78]; exact ev_w_in (by omega) (by omega))) rfl ?_
                  refine j_al (np := 136) rfl rfl I59 b69 (by decide) (n := 168) rfl rfl (lo := -2147483648) (hi := 2147483647) (fun _ => rfl) (by omega) (by omega) ?_
                  intro v80 e81 b82
                  refine w_t (np := 137) (l2 := [some (eR a0), some (eI (rh)), some (eI (i54)), some (eI (i13)), some (eI (i56))]) (s2 := [eR a0, eI (v80), eI (i56), eR v1, eI (v74), eR a0]) rfl (s_an rfl (pos_g I59 gA0 (by decide))) rfl ?_
                  refine w_gf (np := 140) (v := eR v23) rfl rfl (I59.kd gA0 (by decide) (n := 69) rfl) (by rw [k63]; rfl) ?_
                  refine w_cw (np := 143) (as := [eI (v74), eR v1, eI (i56), eI (v80), eR v23]) (l2 := [some (eR a0), some (eI (v74)), some (eR v1), some (eI (i56)), some (eI (v80)), some (eR v23), none, none, none]) (rest := []) rfl rfl rfl (Nat.ble_eq.mp rfl) rfl rfl rfl (I59.kd gA0 (by decide) (n := 69) rfl) rfl ?_
                  refine s_310 (a1 := v74) (a3 := i56) (a4 := v80) I59 gA0 (by omega) b3 (by omega) (by omega) b25 ?_
                  intro v83 b84
                  show ex_q (dt_fg L ρ) rc (d + 6, (311, 143, [some (eR a0), some (eI (rh)), some (eI (i54)), some (eI (i13)), some (eI (i56))], [eI (v83)]), f :: F, m58)
                  refine w_t (np := 144) (l2 := [some (eR a0), some (eI (rh)), some (eI (i54)), some (eI (i13)), some (eI (i56))]) (s2 := [eI (2), eI (v83)]) rfl rfl rfl ?_
                  refine b_cne (t1 := 151) (t2 := 147) rfl rfl rfl (ev_w_in (by omega) (by omega)) rfl (fun g85 => ?_) (fun g85 => ?_)
                  · have b86 : 0 ≤ v83 ∧ v83 ≤ 1 := by omega
                    refine w_t (np := 152) (l2 := [some (eR a0), some (eI (rh)), some (eI (i54)), some (eI (i13)), some (eI (i56))]) (s2 := [eI (0)]) rfl rfl rfl ?_
                    refine w_t (np := 153) (l2 := [some (eR a0), some (eI (rh)), some (eI (0)), some (eI (i13)), some (eI (i56))]) (s2 := []) rfl rfl rfl ?_
                    obtain ⟨v86, e87⟩ : ∃ zz : Int, zz = (i56) + (1) := ⟨_, rfl⟩
                    have b88 : 1 ≤ v86 ∧ v86 ≤ 4 := by omega
                    refine w_t (np := 156) (l2 := [some (eR a0), some (eI (rh)), some (eI (0)), some (eI (i13)), some (eI (v86))]) (s2 := []) rfl (b_iinc rfl (by rw [← e87]; exact ev_w_in (by omega) (by omega)) rfl) rfl ?_
                    refine w_go (t1 := 101) rfl rfl ?_
                    exact ih53 (4 - (v86)).toNat (by omega) m58 (0) (v86) I59 F60 (by decide) (by omega) k61 k62 k63    rfl
                  · have b86 : 2 ≤ v83 ∧ v83 ≤ 2 := by omega
                    refine w_t (np := 148) (l2 := [some (eR a0), some (eI (rh)), some (eI (i54)), some (eI (i13)), some (eI (i56))]) (s2 := [eI (1)]) rfl rfl rfl ?_
                    refine w_go (t1 := 152) rfl rfl ?_
                    refine w_t (np := 153) (l2 := [some (eR a0), some (eI (rh)), some (eI (1)), some (eI (i13)), some (eI (i56))]) (s2 := []) rfl rfl rfl ?_
                    obtain ⟨v86, e87⟩ : ∃ zz : Int, zz = (i56) + (1) := ⟨_, rfl⟩
                    have b88 : 1 ≤ v86 ∧ v86 ≤ 4 := by omega
                    refine w_t (np := 156) (l2 := [some (eR a0), some (eI (rh)), some (eI (1)), some (eI (i13)), some (eI (v86))]) (s2 := []) rfl (b_iinc rfl (by rw [← e87]; exact ev_w_in (by omega) (by omega)) rfl) rfl ?_
                    refine w_go (t1 := 101) rfl rfl ?_
                    exact ih53 (4 - (v86)).toNat (by omega) m58 (1) (v86) I59 F60 (by decide) (by omega) k61 k62 k63    rfl
            exact hL101 _ m45 (i11) (0) I46 F50 (by omega) (by decide) (F47.k (F40.k (F33.k (F29.k k19 gA0 (by decide) rfl) gA0 (by decide) rfl) gA0 (by decide) rfl) gA0 (by decide) rfl) (F47.k (F40.k (F33.k (F29.k k20 gA0 (by decide) rfl) gA0 (by decide) rfl) gA0 (by decide) rfl) gA0 (by decide) rfl) (F47.k (F40.k (F33.k (F29.k e24 gA0 (by decide) rfl) gA0 (by decide) rfl) gA0 (by decide) rfl) gA0 (by decide) rfl)    rfl
          · have b52 : 1 ≤ v48 ∧ v48 ≤ 1 := by omega
            refine w_t (np := 97) (l2 := [some (eR a0), some (eI (rh)), some (eI (i11)), some (eI (i13)), o15]) (s2 := [eI (6)]) rfl rfl rfl ?_
            exact b_ri rfl rfl (K m45 (6) (rh) I46 F50 (by decide) (F47.k (F40.k (F33.k (F29.k k19 gA0 (by decide) rfl) gA0 (by decide) rfl) gA0 (by decide) rfl) gA0 (by decide) rfl) (by omega))
      · have b38 : 0 ≤ v34 ∧ v34 ≤ 0 := by omega
        refine w_t (np := 51) (l2 := [some (eR a0), some (eI (rh)), some (eI (i11)), some (eI (i13)), o15]) (s2 := [eR a0]) rfl (s_an rfl (pos_g I32 gA0 (by decide))) rfl ?_
        refine w_t (np := 52) (l2 := [some (eR a0), some (eI (rh)), some (eI (i11)), some (eI (i13)), o15]) (s2 := [eR a0, eR a0]) rfl (s_an rfl (pos_g I32 gA0 (by decide))) rfl ?_
        refine w_gf (np := 55) (v := eR v23) rfl rfl (I32.kd gA0 (by decide) (n := 69) rfl) (by rw [(F33.k (F29.k e24 gA0 (by decide) rfl) gA0 (by decide) rfl)]; rfl) ?_
        refine w_t (np := 56) (l2 := [some (eR a0), some (eI (rh)), some (eI (i11)), some (eI (i13)), o15]) (s2 := [eR a0, eR v23, eR a0]) rfl (s_an rfl (pos_g I32 gA0 (by decide))) rfl ?_
        refine w_gf (np := 59) (v := eR v1) rfl rfl (I32.kd gA0 (by decide) (n := 69) rfl) (by rw [(F33.k (F29.k k20 gA0 (by decide) rfl) gA0 (by decide) rfl)]; rfl) ?_
        refine w_cw (np := 62) (as := [eR v23, eR v1]) (l2 := [some (eR a0), some (eR v23), some (eR v1), none, none, none, none, none, none]) (rest := []) rfl rfl rfl (Nat.ble_eq.mp rfl) rfl rfl rfl (I32.kd gA0 (by decide) (n := 69) rfl) rfl ?_
        refine s_306_2 I32 gA0 b25 b3 ?_
        intro m38 v41 I39 F40 b42
        have F43 : Fr l_311 0 0 g μ m38 := F36.t F40 rfl
        show ex_q (dt_fg L ρ) rc (d + 6, (311, 62, [some (eR a0), some (eI (rh)), some (eI (i11)), some (eI (i13)), o15], [eI (v41)]), f :: F, m38)
        refine b_ieq (t1 := 95) (t2 := 65) rfl rfl rfl (ev_w_in (by omega) (by omega)) (fun g44 => ?_) (fun g44 => ?_)
        · have b45 : 0 ≤ v41 ∧ v41 ≤ 0 := by omega
          refine w_t (np := 97) (l2 := [some (eR a0), some (eI (rh)), some (eI (i11)), some (eI (i13)), o15]) (s2 := [eI (6)]) rfl rfl rfl ?_
          exact b_ri rfl rfl (K m38 (6) (rh) I39 F43 (by decide) (F40.k (F33.k (F29.k k19 gA0 (by decide) rfl) gA0 (by decide) rfl) gA0 (by decide) rfl) (by omega))
        · have b45 : 1 ≤ v41 ∧ v41 ≤ 1 := by omega
          refine w_t (np := 66) (l2 := [some (eR a0), some (eI (rh)), some (eI (i11)), some (eI (i13)), o15]) (s2 := [eR a0]) rfl (s_an rfl (pos_g I39 gA0 (by decide))) rfl ?_
          refine w_t (np := 67) (l2 := [some (eR a0), some (eI (rh)), some (eI (i11)), some (eI (i13)), o15]) (s2 := [eR a0, eR a0]) rfl (s_an rfl (pos_g I39 gA0 (by decide))) rfl ?_
          refine w_gf (np := 70) (v := eR v1) rfl rfl (I39.kd gA0 (by decide) (n := 69) rfl) (by rw [(F40.k (F33.k (F29.k k20 gA0 (by decide) rfl) gA0 (by decide) rfl) gA0 (by decide) rfl)]; rfl) ?_
          refine w_t (np := 71) (l2 := [some (eR a0), some (eI (rh)), some (eI (i11)), some (eI (i13)), o15]) (s2 := [eR a0, eR v1, eR a0]) rfl (s_an rfl (pos_g I39 gA0 (by decide))) rfl ?_
          refine w_gf (np := 74) (v := eR v23) rfl rfl (I39.kd gA0 (by decide) (n := 69) rfl) (by rw [(F40.k (F33.k (F29.k e24 gA0 (by decide) rfl) gA0 (by decide) rfl) gA0 (by decide) rfl)]; rfl) ?_
          refine w_cw (np := 77) (as := [eR v1, eR v23]) (l2 := [some (eR a0), some (eR v1), some (eR v23), none, none, none, none]) (rest := []) rfl rfl rfl (Nat.ble_eq.mp rfl) rfl rfl rfl (I39.kd gA0 (by decide) (n := 69) rfl) rfl ?_
          refine s_308 I39 gA0 b3 b25 ?_
          intro m45 v48 I46 F47 b49
          have F50 : Fr l_311 0 0 g μ m45 := F43.t F47 rfl
          show ex_q (dt_fg L ρ) rc (d + 6, (311, 77, [some (eR a0), some (eI (rh)), some (eI (i11)), some (eI (i13)), o15], [eI (v48)]), f :: F, m45)
          refine b_ine (t1 := 95) (t2 := 80) rfl rfl rfl (ev_w_in (by omega) (by omega)) (fun g51 => ?_) (fun g51 => ?_)
          · have b52 : 1 ≤ v48 ∧ v48 ≤ 1 := by omega
            refine w_t (np := 97) (l2 := [some (eR a0), some (eI (rh)), some (eI (i11)), some (eI (i13)), o15]) (s2 := [eI (6)]) rfl rfl rfl ?_
            exact b_ri rfl rfl (K m45 (6) (rh) I46 F50 (by decide) (F47.k (F40.k (F33.k (F29.k k19 gA0 (by decide) rfl) gA0 (by decide) rfl) gA0 (by decide) rfl) gA0 (by decide) rfl) (by omega))
          · have b52 : 0 ≤ v48 ∧ v48 ≤ 0 := by omega
            refine w_t (np := 81) (l2 := [some (eR a0), some (eI (rh)), some (eI (i11)), some (eI (i13)), o15]) (s2 := [eR a0]) rfl (s_an rfl (pos_g I46 gA0 (by decide))) rfl ?_
            refine w_t (np := 82) (l2 := [some (eR a0), some (eI (rh)), some (eI (i11)), some (eI (i13)), o15]) (s2 := [eR a0, eR a0]) rfl (s_an rfl (pos_g I46 gA0 (by decide))) rfl ?_
            refine w_gf (np := 85) (v := eR v23) rfl rfl (I46.kd gA0 (by decide) (n := 69) rfl) (by rw [(F47.k (F40.k (F33.k (F29.k e24 gA0 (by decide) rfl) gA0 (by decide) rfl) gA0 (by decide) rfl) gA0 (by decide) rfl)]; rfl) ?_
            refine w_t (np := 86) (l2 := [some (eR a0), some (eI (rh)), some (eI (i11)), some (eI (i13)), o15]) (s2 := [eR a0, eR v23, eR a0]) rfl (s_an rfl (pos_g I46 gA0 (by decide))) rfl ?_
            refine w_gf (np := 89) (v := eR v1) rfl rfl (I46.kd gA0 (by decide) (n := 69) rfl) (by rw [(F47.k (F40.k (F33.k (F29.k k20 gA0 (by decide) rfl) gA0 (by decide) rfl) gA0 (by decide) rfl) gA0 (by decide) rfl)]; rfl) ?_
            refine w_cw (np := 92) (as := [eR v23, eR v1]) (l2 := [some (eR a0), some (eR v23), some (eR v1), none, none, none, none]) (rest := []) rfl rfl rfl (Nat.ble_eq.mp rfl) rfl rfl rfl (I46.kd gA0 (by decide) (n := 69) rfl) rfl ?_
            refine s_308_2 I46 gA0 b25 b3 ?_
            intro m52 v55 I53 F54 b56
            have F57 : Fr l_311 0 0 g μ m52 := F50.t F54 rfl
            show ex_q (dt_fg L ρ) rc (d + 6, (311, 92, [some (eR a0), some (eI (rh)), some (eI (i11)), some (eI (i13)), o15], [eI (v55)]), f :: F, m52)
            refine b_ieq (t1 := 98) (t2 := 95) rfl rfl rfl (ev_w_in (by omega) (by omega)) (fun g58 => ?_) (fun g58 => ?_)
            · have b59 : 0 ≤ v55 ∧ v55 ≤ 0 := by omega
              refine w_t (np := 99) (l2 := [some (eR a0), some (eI (rh)), some (eI (i11)), some (eI (i13)), o15]) (s2 := [eI (0)]) rfl rfl rfl ?_
              refine w_t (np := 101) (l2 := [some (eR a0), some (eI (rh)), some (eI (i11)), some (eI (i13)), some (eI (0))]) (s2 := []) rfl rfl rfl ?_
              have hL101 : ∀ (n59 : Nat) (m65 : eM) (i61 : Int) (i63 : Int), SI g m65 → Fr l_311 0 0 g μ m65 → (0 ≤ i61 ∧ i61 ≤ 1) → (0 ≤ i63 ∧ i63 ≤ 4) → m65.1 a0 49 = rh → m65.1 a0 47 = ((v1 : Nat) : Int) → m65.1 a0 48 = ((v23 : Nat) : Int) → n59 = (4 - i63).toNat → ex_q (dt_fg L ρ) rc (d + 6, (311, 101, [some (eR a0), some (eI (rh)), some (eI (i61)), some (eI (i13)), some (eI (i63))], []), f :: F, m65) := by
                intro n59
                induction n59 using Nat.strongRecOn with
                | _ n59 ih60 =>
                intro m65 i61 i63 I66 F67 b62 b64 k68 k69 k70 hn71
                refine w_t (np := 103) (l2 := [some (eR a0), some (eI (rh)), some (eI (i61)), some (eI (i13)), some (eI (i63))]) (s2 := [eI (i63)]) rfl rfl rfl ?_
                refine w_t (np := 104) (l2 := [some (eR a0), some (eI (rh)), some (eI (i61)), some (eI (i13)), some (eI (i63))]) (s2 := [eI (4), eI (i63)]) rfl rfl rfl ?_
                refine b_cge (t1 := 159) (t2 := 107) rfl rfl rfl (ev_w_in (by omega) (by omega)) rfl (fun g72 => ?_) (fun g72 => ?_)
                · have b73 : 4 ≤ i63 ∧ i63 ≤ 4 := by omega
                  obtain ⟨v73, e74⟩ : ∃ zz : Int, zz = (i13) + (1) := ⟨_, rfl⟩
                  have b75 : 1 ≤ v73 ∧ v73 ≤ 24 := by omega
                  refine w_t (np := 162) (l2 := [some (eR a0), some (eI (rh)), some (eI (i61)), some (eI (v73)), some (eI (i63))]) (s2 := []) rfl (b_iinc rfl (by rw [← e74]; exact ev_w_in (by omega) (by omega)) rfl) rfl ?_
                  refine w_go (t1 := 18) rfl rfl ?_
                  exact ih10 (24 - (v73)).toNat (by omega) m65 (i61) (v73) (some (eI (i63))) I66 F67 (by omega) (by omega) k68 k69    rfl
                · have b73 : 0 ≤ i63 ∧ i63 ≤ 3 := by omega
                  refine w_t (np := 108) (l2 := [some (eR a0), some (eI (rh)), some (eI (i61)), some (eI (i13)), some (eI (i63))]) (s2 := [eI (i61)]) rfl rfl rfl ?_
                  refine b_ine (t1 := 147) (t2 := 111) rfl rfl rfl (ev_w_in (by omega) (by omega)) (fun g73 => ?_) (fun g73 => ?_)
                  · have b74 : 1 ≤ i61 ∧ i61 ≤ 1 := by omega
                    refine w_t (np := 148) (l2 := [some (eR a0), some (eI (rh)), some (eI (i61)), some (eI (i13)), some (eI (i63))]) (s2 := [eI (1)]) rfl rfl rfl ?_
                    refine w_go (t1 := 152) rfl rfl ?_
                    refine w_t (np := 153) (l2 := [some (eR a0), some (eI (rh)), some (eI (1)), some (eI (i13)), some (eI (i63))]) (s2 := []) rfl rfl rfl ?_
                    obtain ⟨v74, e75⟩ : ∃ zz : Int, zz = (i63) + (1) := ⟨_, rfl⟩
                    have b76 : 1 ≤ v74 ∧ v74 ≤ 4 := by omega
                    refine w_t (np := 156) (l2 := [some (eR a0), some (eI (rh)), some (eI (1)), some (eI (i13)), some (eI (v74))]) (s2 := []) rfl (b_iinc rfl (by rw [← e75]; exact ev_w_in (by omega) (by omega)) rfl) rfl ?_
                    refine w_go (t1 := 101) rfl rfl ?_
                    exact ih60 (4 - (v74)).toNat (by omega) m65 (1) (v74) I66 F67 (by decide) (by omega) k68 k69 k70    rfl
                  · have b74 : 0 ≤ i61 ∧ i61 ≤ 0 := by omega
                    refine w_t (np := 112) (l2 := [some (eR a0), some (eI (rh)), some (eI (i61)), some (eI (i13)), some (eI (i63))]) (s2 := [eR a0]) rfl (s_an rfl (pos_g I66 gA0 (by decide))) rfl ?_
                    refine w_t (np := 113) (l2 := [some (eR a0), some (eI (rh)), some (eI (i61)), some (eI (i13)), some (eI (i63))]) (s2 := [eR a0, eR a0]) rfl (s_an rfl (pos_g I66 gA0 (by decide))) rfl ?_
                    refine j_gr (np := 116) rfl rfl I66 gA0 (by decide) (n := 69) rfl rfl rfl ?_
                    intro v74 e75 b76 z77
                    have b76 : g v74 = 79 := Nat.eq_of_beq_eq_true b76
                    refine w_t (np := 118) (l2 := [some (eR a0), some (eI (rh)), some (eI (i61)), some (eI (i13)), some (eI (i63))]) (s2 := [eI (7), eR v74, eR a0]) rfl rfl rfl ?_
                    refine w_t (np := 119) (l2 := [some (eR a0), some (eI (rh)), some (eI (i61)), some (eI (i13)), some (eI (i63))]) (s2 := [eI (rh), eI (7), eR v74, eR a0]) rfl rfl rfl ?_
                    obtain ⟨v78, e79⟩ : ∃ zz : Int, zz = (7) * (rh) := ⟨_, rfl⟩
                    have b80 : 7 ≤ v78 ∧ v78 ≤ 168 := by omega
                    refine w_t (np := 120) (l2 := [some (eR a0), some (eI (rh)), some (eI (i61)), some (eI (i13)), some (eI (i63))]) (s2 := [eI (v78), eR v74, eR a0]) rfl (b_imul (by rw [← e79]; exact ev_w_in (by omega) (by omega))) rfl ?_
                    refine j_al (np := 121) rfl rfl I66 b76 (by decide) (n := 168) rfl rfl (lo := -2147483648) (hi := 2147483647) (fun _ => rfl) (by omega) (by omega) ?_
                    intro v81 e82 b83
                    refine w_t (np := 122) (l2 := [some (eR a0), some (eI (rh)), some (eI (i61)), some (eI (i13)), some (eI (i63))]) (s2 := [eR a0, eI (v81), eR a0]) rfl (s_an rfl (pos_g I66 gA0 (by decide))) rfl ?_
                    refine w_gf (np := 125) (v := eR v1) rfl rfl (I66.kd gA0 (by decide) (n := 69) rfl) (by rw [k69]; rfl) ?_
                    refine w_t (np := 127) (l2 := [some (eR a0), some (eI (rh)), some (eI (i61)), some (eI (i13)), some (eI (i63))]) (s2 := [eI (i63), eR v1, eI (v81), eR a0]) rfl rfl rfl ?_
                    refine w_t (np := 128) (l2 := [some (eR a0), some (eI (rh)), some (eI (i61)), some (eI (i13)), some (eI (i63))]) (s2 := [eR a0, eI (i63), eR v1, eI (v81), eR a0]) rfl (s_an rfl (pos_g I66 gA0 (by decide))) rfl ?_
                    refine w_gf (np := 131) (v := eR v74) rfl rfl (I66.kd gA0 (by decide) (n := 69) rfl) (by rw [e75]; rfl) ?_
                    refine w_t (np := 133) (l2 := [some (eR a0), some (eI (rh)), some (eI (i61)), some (eI (i13)), some (eI (i63))]) (s2 := [eI (7), eR v74, eI (i63), eR v1, eI (v81), eR a0]) rfl rfl rfl ?_
                    refine w_t (np := 134) (l2 := [some (eR a0), some (eI (rh)), some (eI (i61)), some (eI (i13)), some (eI (i63))]) (s2 := [eI (i13), eI (7), eR v74, eI (i63), eR v1, eI (v81), eR a0]) rfl rfl rfl ?_
                    obtain ⟨v84, e85⟩ : ∃ zz : Int, zz = (7) * (i13) := ⟨_, rfl⟩
                    have b86 : 0 ≤ v84 ∧ v84 ≤ 161 := by omega
                    refine w_t (np := 135) (l2 := [some (eR a0), some (eI (rh)), some (eI (i61)), some (eI (i13)), some (eI (i63))]) (s2 := [eI (v84), eR v74, eI (i63), eR v1, eI (v81), eR a0]) rfl (b_imul (by rw [← e85]; exact ev_w_in (by omega) (by omega))) rfl ?_
                    refine j_al (np := 136) rfl rfl I66 b76 (by decide) (n := 168) rfl rfl (lo := -2147483648) (hi := 2147483647) (fun _ => rfl) (by omega) (by omega) ?_
                    intro v87 e88 b89
                    refine w_t (np := 137) (l2 := [some (eR a0), some (eI (rh)), some (eI (i61)), some (eI (i13)), some (eI (i63))]) (s2 := [eR a0, eI (v87), eI (i63), eR v1, eI (v81), eR a0]) rfl (s_an rfl (pos_g I66 gA0 (by decide))) rfl ?_
                    refine w_gf (np := 140) (v := eR v23) rfl rfl (I66.kd gA0 (by decide) (n := 69) rfl) (by rw [k70]; rfl) ?_
                    refine w_cw (np := 143) (as := [eI (v81), eR v1, eI (i63), eI (v87), eR v23]) (l2 := [some (eR a0), some (eI (v81)), some (eR v1), some (eI (i63)), some (eI (v87)), some (eR v23), none, none, none]) (rest := []) rfl rfl rfl (Nat.ble_eq.mp rfl) rfl rfl rfl (I66.kd gA0 (by decide) (n := 69) rfl) rfl ?_
                    refine s_310 (a1 := v81) (a3 := i63) (a4 := v87) I66 gA0 (by omega) b3 (by omega) (by omega) b25 ?_
                    intro v90 b91
                    show ex_q (dt_fg L ρ) rc (d + 6, (311, 143, [some (eR a0), some (eI (rh)), some (eI (i61)), some (eI (i13)), some (eI (i63))], [eI (v90)]), f :: F, m65)
                    refine w_t (np := 144) (l2 := [some (eR a0), some (eI (rh)), some (eI (i61)), some (eI (i13)), some (eI (i63))]) (s2 := [eI (2), eI (v90)]) rfl rfl rfl ?_
                    refine b_cne (t1 := 151) (t2 := 147) rfl rfl rfl (ev_w_in (by omega) (by omega)) rfl (fun g92 => ?_) (fun g92 => ?_)
                    · have b93 : 0 ≤ v90 ∧ v90 ≤ 1 := by omega
                      refine w_t (np := 152) (l2 := [some (eR a0), some (eI (rh)), some (eI (i61)), some (eI (i13)), some (eI (i63))]) (s2 := [eI (0)]) rfl rfl rfl ?_
                      refine w_t (np := 153) (l2 := [some (eR a0), some (eI (rh)), some (eI (0)), some (eI (i13)), some (eI (i63))]) (s2 := []) rfl rfl rfl ?_
                      obtain ⟨v93, e94⟩ : ∃ zz : Int, zz = (i63) + (1) := ⟨_, rfl⟩
                      have b95 : 1 ≤ v93 ∧ v93 ≤ 4 := by omega
                      refine w_t (np := 156) (l2 := [some (eR a0), some (eI (rh)), some (eI (0)), some (eI (i13)), some (eI (v93))]) (s2 := []) rfl (b_iinc rfl (by rw [← e94]; exact ev_w_in (by omega) (by omega)) rfl) rfl ?_
                      refine w_go (t1 := 101) rfl rfl ?_
                      exact ih60 (4 - (v93)).toNat (by omega) m65 (0) (v93) I66 F67 (by decide) (by omega) k68 k69 k70    rfl
                    · have b93 : 2 ≤ v90 ∧ v90 ≤ 2 := by omega
                      refine w_t (np := 148) (l2 := [some (eR a0), some (eI (rh)), some (eI (i61)), some (eI (i13)), some (eI (i63))]) (s2 := [eI (1)]) rfl rfl rfl ?_
                      refine w_go (t1 := 152) rfl rfl ?_
                      refine w_t (np := 153) (l2 := [some (eR a0), some (eI (rh)), some (eI (1)), some (eI (i13)), some (eI (i63))]) (s2 := []) rfl rfl rfl ?_
                      obtain ⟨v93, e94⟩ : ∃ zz : Int, zz = (i63) + (1) := ⟨_, rfl⟩
                      have b95 : 1 ≤ v93 ∧ v93 ≤ 4 := by omega
                      refine w_t (np := 156) (l2 := [some (eR a0), some (eI (rh)), some (eI (1)), some (eI (i13)), some (eI (v93))]) (s2 := []) rfl (b_iinc rfl (by rw [← e94]; exact ev_w_in (by omega) (by omega)) rfl) rfl ?_
                      refine w_go (t1 := 101) rfl rfl ?_
                      exact ih60 (4 - (v93)).toNat (by omega) m65 (1) (v93) I66 F67 (by decide) (by omega) k68 k69 k70    rfl
              exact hL101 _ m52 (i11) (0) I53 F57 (by omega) (by decide) (F54.k (F47.k (F40.k (F33.k (F29.k k19 gA0 (by decide) rfl) gA0 (by decide) rfl) gA0 (by decide) rfl) gA0 (by decide) rfl) gA0 (by decide) rfl) (F54.k (F47.k (F40.k (F33.k (F29.k k20 gA0 (by decide) rfl) gA0 (by decide) rfl) gA0 (by decide) rfl) gA0 (by decide) rfl) gA0 (by decide) rfl) (F54.k (F47.k (F40.k (F33.k (F29.k e24 gA0 (by decide) rfl) gA0 (by decide) rfl) gA0 (by decide) rfl) gA0 (by decide) rfl) gA0 (by decide) rfl)    rfl
            · have b59 : 1 ≤ v55 ∧ v55 ≤ 1 := by omega
              refine w_t (np := 97) (l2 := [some (eR a0), some (eI (rh)), some (eI (i11)), some (eI (i13)), o15]) (s2 := [eI (6)]) rfl rfl rfl ?_
              exact b_ri rfl rfl (K m52 (6) (rh) I53 F57 (by decide) (F54.k (F47.k (F40.k (F33.k (F29.k k19 gA0 (by decide) rfl) gA0 (by decide) rfl) gA0 (by decide) rfl) gA0 (by decide) rfl) gA0 (by decide) rfl) (by omega))
  exact hL18 _ m5 (0) (0) (none) I6 F8 (by decide) (by decide) (F7.k h_rh gA0 (by decide) rfl) (F7.k e2 gA0 (by decide) rfl)    rfl
def l_312 : List Nat := [20224]
theorem s_312 {L : Nat} {ρ : Nat → Int} {rc : eQ} {d : Nat} {f : eFr} {F : List eFr} {μ : eM} {g : Nat → Nat} {a0 : Nat} {a1 : Int} {a2 : Int} {a3 : Int} {a4 : Int} {a5 : Int} {a6 : Int} {a7 : Int} {rh : Int} (hI : SI g μ) (gA0 : g a0 = 52) (bA1 : 0 ≤ a1 ∧ a1 ≤ 1) (bA2 : -2147483648 ≤ a2 ∧ a2 ≤ 2147483647) (bA3 : -2147483648 ≤ a3 ∧ a3 ≤ 2147483647) (bA4 : -2147483648 ≤ a4 ∧ a4 ≤ 2147483647) (bA5 : -2147483648 ≤ a5 ∧ a5 ≤ 2147483647) (bA6 : -2147483648 ≤ a6 ∧ a6 ≤ 2147483647) (bA7 : -2147483648 ≤ a7 ∧ a7 ≤ 2147483647) (h_rh : μ.1 a0 49 = rh) (hp0 : rh ≤ 23) (K : ∀ (μ2 : eM) (rh2 : Int), SI g μ2 → Fr l_312 0 0 g μ μ2 → μ2.1 a0 49 = rh2 → (rh2 = rh) → ex_q (dt_fg L ρ) rc (d + 2, (f.1, f.2.1, f.2.2.1, f.2.2.2), F, μ2)) : ex_q (dt_fg L ρ) rc (d + 1, (312, 0, [some (eR a0), some (eI (a1)), some (eI (a2)), some (eI (a3)), some (eI (a4)), some (eI (a5)), some (eI (a6)), some (eI (a7)), none], []), f :: F, μ) := by
  have F0 : Fr l_312 0 0 g μ μ := Fr.r
  have b_rh : 0 ≤ rh ∧ rh ≤ 24 := by
    rw [← h_rh]
    exact hI.int gA0 (by decide) (n := 69) rfl (by decide) rfl
  refine w_t (np := 2) (l2 := [some (eR a0), some (eI (a1)), some (eI (a2)), some (eI (a3)), some (eI (a4)), some (eI (a5)), some (eI (a6)), some (eI (a7)), none]) (s2 := [eI (7)]) rfl rfl rfl ?_
  refine w_t (np := 3) (l2 := [some (eR a0), some (eI (a1)), some (eI (a2)), some (eI (a3)), some (eI (a4)), some (eI (a5)), some (eI (a6)), some (eI (a7)), none]) (s2 := [eR a0, eI (7)]) rfl (s_an rfl (pos_g hI gA0 (by decide))) rfl ?_
  refine w_gf (np := 6) (v := eI (rh)) rfl rfl (hI.kd gA0 (by decide) (n := 69) rfl) (by rw [h_rh]; rfl) ?_
  obtain ⟨v1, e2⟩ : ∃ zz : Int, zz = (7) * (rh) := ⟨_, rfl⟩
  have b3 : 0 ≤ v1 ∧ v1 ≤ 168 := by omega
  refine w_t (np := 7) (l2 := [some (eR a0), some (eI (a1)), some (eI (a2)), some (eI (a3)), some (eI (a4)), some (eI (a5)), some (eI (a6)), some (eI (a7)), none]) (s2 := [eI (v1)]) rfl (b_imul (by rw [← e2]; exact ev_w_in (by omega) (by omega))) rfl ?_
  refine w_t (np := 9) (l2 := [some (eR a0), some (eI (a1)), some (eI (a2)), some (eI (a3)), some (eI (a4)), some (eI (a5)), some (eI (a6)), some (eI (a7)), some (eI (v1))]) (s2 := []) rfl rfl rfl ?_
  refine w_t (np := 10) (l2 := [some (eR a0), some (eI (a1)), some (eI (a2)), some (eI (a3)), some (eI (a4)), some (eI (a5)), some (eI (a6)), some (eI (a7)), some (eI (v1))]) (s2 := [eR a0]) rfl (s_an rfl (pos_g hI gA0 (by decide))) rfl ?_
  refine j_gr (np := 13) rfl rfl hI gA0 (by decide) (n := 69) rfl rfl rfl ?_
  intro v4 e5 b6 z7
  have b6 : g v4 = 79 := Nat.eq_of_beq_eq_true b6
  refine w_t (np := 15) (l2 := [some (eR a0), some (eI (a1)), some (eI (a2)), some (eI (a3)), some (eI (a4)), some (eI (a5)), some (eI (a6)), some (eI (a7)), some (eI (v1))]) (s2 := [eI (v1), eR v4]) rfl rfl rfl ?_
  refine w_t (np := 16) (l2 := [some (eR a0), some (eI (a1)), some (eI (a2)), some (eI (a3)), some (eI (a4)), some (eI (a5)), some (eI (a6)), some (eI (a7)), some (eI (v1))]) (s2 := [eI (a1), eI (v1), eR v4]) rfl rfl rfl ?_
  refine j_as (np := 17) rfl rfl hI b6 (by decide) (n := 168) rfl rfl (lo := -2147483648) (hi := 2147483647) (fun _ => rfl) (by omega) (by omega) (by omega) ?_
  intro m8 I9 W10
  have F11 : Fr l_312 0 0 g μ m8 := F0.v W10 b6 rfl rfl
  refine w_t (np := 18) (l2 := [some (eR a0), some (eI (a1)), some (eI (a2)), some (eI (a3)), some (eI (a4)), some (eI (a5)), some (eI (a6)), some (eI (a7)), some (eI (v1))]) (s2 := [eR a0]) rfl (s_an rfl (pos_g I9 gA0 (by decide))) rfl ?_
  refine w_gf (np := 21) (v := eR v4) rfl rfl (I9.kd gA0 (by decide) (n := 69) rfl) (by rw [(W10.addr e5 b6 gA0 (by decide))]; rfl) ?_
  refine w_t (np := 23) (l2 := [some (eR a0), some (eI (a1)), some (eI (a2)), some (eI (a3)), some (eI (a4)), some (eI (a5)), some (eI (a6)), some (eI (a7)), some (eI (v1))]) (s2 := [eI (v1), eR v4]) rfl rfl rfl ?_
  refine w_t (np := 24) (l2 := [some (eR a0), some (eI (a1)), some (eI (a2)), some (eI (a3)), some (eI (a4)), some (eI (a5)), some (eI (a6)), some (eI (a7)), some (eI (v1))]) (s2 := [eI (1), eI (v1), eR v4]) rfl rfl rfl ?_
  obtain ⟨v12, e13⟩ : ∃ zz : Int, zz = (v1) + (1) := ⟨_, rfl⟩
  have b14 : 1 ≤ v12 ∧ v12 ≤ 169 := by omega
  refine w_t (np := 25) (l2 := [some (eR a0), some (eI (a1)), some (eI (a2)), some (eI (a3)), some (eI (a4)), some (eI (a5)), some (eI (a6)), some (eI (a7)), some (eI (v1))]) (s2 := [eI (v12), eR v4]) rfl (b_iadd (by rw [← e13]; exact ev_w_in (by omega) (by omega))) rfl ?_
  refine w_t (np := 26) (l2 := [some (eR a0), some (eI (a1)), some (eI (a2)), some (eI (a3)), some (eI (a4)), some (eI (a5)), some (eI (a6)), some (eI (a7)), some (eI (v1))]) (s2 := [eI (a2), eI (v12), eR v4]) rfl rfl rfl ?_
  refine j_as (np := 27) rfl rfl I9 b6 (by decide) (n := 168) rfl rfl (lo := -2147483648) (hi := 2147483647) (fun _ => rfl) (by omega) (by omega) (by omega) ?_
  intro m15 I16 W17
  have F18 : Fr l_312 0 0 g μ m15 := F11.v W17 b6 rfl rfl
  refine w_t (np := 28) (l2 := [some (eR a0), some (eI (a1)), some (eI (a2)), some (eI (a3)), some (eI (a4)), some (eI (a5)), some (eI (a6)), some (eI (a7)), some (eI (v1))]) (s2 := [eR a0]) rfl (s_an rfl (pos_g I16 gA0 (by decide))) rfl ?_
  refine w_gf (np := 31) (v := eR v4) rfl rfl (I16.kd gA0 (by decide) (n := 69) rfl) (by rw [(W17.addr (W10.addr e5 b6 gA0 (by decide)) b6 gA0 (by decide))]; rfl) ?_
  refine w_t (np := 33) (l2 := [some (eR a0), some (eI (a1)), some (eI (a2)), some (eI (a3)), some (eI (a4)), some (eI (a5)), some (eI (a6)), some (eI (a7)), some (eI (v1))]) (s2 := [eI (v1), eR v4]) rfl rfl rfl ?_
  refine w_t (np := 34) (l2 := [some (eR a0), some (eI (a1)), some (eI (a2)), some (eI (a3)), some (eI (a4)), some (eI (a5)), some (eI (a6)), some (eI (a7)), some (eI (v1))]) (s2 := [eI (2), eI (v1), eR v4]) rfl rfl rfl ?_
  obtain ⟨v19, e20⟩ : ∃ zz : Int, zz = (v1) + (2) := ⟨_, rfl⟩
  have b21 : 2 ≤ v19 ∧ v19 ≤ 170 := by omega
  refine w_t (np := 35) (l2 := [some (eR a0), some (eI (a1)), some (eI (a2)), some (eI (a3)), some (eI (a4)), some (eI (a5)), some (eI (a6)), some (eI (a7)), some (eI (v1))]) (s2 := [eI (v19), eR v4]) rfl (b_iadd (by rw [← e20]; exact ev_w_in (by omega) (by omega))) rfl ?_
  refine w_t (np := 36) (l2 := [some (eR a0), some (eI (a1)), some (eI (a2)), some (eI (a3)), some (eI (a4)), some (eI (a5)), some (eI (a6)), some (eI (a7)), some (eI (v1))]) (s2 := [eI (a3), eI (v19), eR v4]) rfl rfl rfl ?_
  refine j_as (np := 37) rfl rfl I16 b6 (by decide) (n := 168) rfl rfl (lo := -2147483648) (hi := 2147483647) (fun _ => rfl) (by omega) (by omega) (by omega) ?_
  intro m22 I23 W24
  have F25 : Fr l_312 0 0 g μ m22 := F18.v W24 b6 rfl rfl
  refine w_t (np := 38) (l2 := [some (eR a0), some (eI (a1)), some (eI (a2)), some (eI (a3)), some (eI (a4)), some (eI (a5)), some (eI (a6)), some (eI (a7)), some (eI (v1))]) (s2 := [eR a0]) rfl (s_an rfl (pos_g I23 gA0 (by decide))) rfl ?_
  refine w_gf (np := 41) (v := eR v4) rfl rfl (I23.kd gA0 (by decide) (n := 69) rfl) (by rw [(W24.addr (W17.addr (W10.addr e5 b6 gA0 (by decide)) b6 gA0 (by decide)) b6 gA0 (by decide))]; rfl) ?_
  refine w_t (np := 43) (l2 := [some (eR a0), some (eI (a1)), some (eI (a2)), some (eI (a3)), some (eI (a4)), some (eI (a5)), some (eI (a6)), some (eI (a7)), some (eI (v1))]) (s2 := [eI (v1), eR v4]) rfl rfl rfl ?_
  refine w_t (np := 44) (l2 := [some (eR a0), some (eI (a1)), some (eI (a2)), some (eI (a3)), some (eI (a4)), some (eI (a5)), some (eI (a6)), some (eI (a7)), some (eI (v1))]) (s2 := [eI (3), eI (v1), eR v4]) rfl rfl rfl ?_
  obtain ⟨v26, e27⟩ : ∃ zz : Int, zz = (v1) + (3) := ⟨_, rfl⟩
  have b28 : 3 ≤ v26 ∧ v26 ≤ 171 := by omega
  refine w_t (np := 45) (l2 := [some (eR a0), some (eI (a1)), some (eI (a2)), some (eI (a3)), some (eI (a4)), some (eI (a5)), some (eI (a6)), some (eI (a7)), some (eI (v1))]) (s2 := [eI (v26), eR v4]) rfl (b_iadd (by rw [← e27]; exact ev_w_in (by omega) (by omega))) rfl ?_
  refine w_t (np := 47) (l2 := [some (eR a0), some (eI (a1)), some (eI (a2)), some (eI (a3)), some (eI (a4)), some (eI (a5)), some (eI (a6)), some (eI (a7)), some (eI (v1))]) (s2 := [eI (a4), eI (v26), eR v4]) rfl rfl rfl ?_
  refine j_as (np := 48) rfl rfl I23 b6 (by decide) (n := 168) rfl rfl (lo := -2147483648) (hi := 2147483647) (fun _ => rfl) (by omega) (by omega) (by omega) ?_
  intro m29 I30 W31
  have F32 : Fr l_312 0 0 g μ m29 := F25.v W31 b6 rfl rfl
  refine w_t (np := 49) (l2 := [some (eR a0), some (eI (a1)), some (eI (a2)), some (eI (a3)), some (eI (a4)), some (eI (a5)), some (eI (a6)), some (eI (a7)), some (eI (v1))]) (s2 := [eR a0]) rfl (s_an rfl (pos_g I30 gA0 (by decide))) rfl ?_
  refine w_gf (np := 52) (v := eR v4) rfl rfl (I30.kd gA0 (by decide) (n := 69) rfl) (by rw [(W31.addr (W24.addr (W17.addr (W10.addr e5 b6 gA0 (by decide)) b6 gA0 (by decide)) b6 gA0 (by decide)) b6 gA0 (by decide))]; rfl) ?_
  refine w_t (np := 54) (l2 := [some (eR a0), some (eI (a1)), some (eI (a2)), some (eI (a3)), some (eI (a4)), some (eI (a5)), some (eI (a6)), some (eI (a7)), some (eI (v1))]) (s2 := [eI (v1), eR v4]) rfl rfl rfl ?_
  refine w_t (np := 55) (l2 := [some (eR a0), some (eI (a1)), some (eI (a2)), some (eI (a3)), some (eI (a4)), some (eI (a5)), some (eI (a6)), some (eI (a7)), some (eI (v1))]) (s2 := [eI (4), eI (v1), eR v4]) rfl rfl rfl ?_
  obtain ⟨v33, e34⟩ : ∃ zz : Int, zz = (v1) + (4) := ⟨_, rfl⟩
  have b35 : 4 ≤ v33 ∧ v33 ≤ 172 := by omega
  refine w_t (np := 56) (l2 := [some (eR a0), some (eI (a1)), some (eI (a2)), some (eI (a3)), some (eI (a4)), some (eI (a5)), some (eI (a6)), some (eI (a7)), some (eI (v1))]) (s2 := [eI (v33), eR v4]) rfl (b_iadd (by rw [← e34]; exact ev_w_in (by omega) (by omega))) rfl ?_
  refine w_t (np := 58) (l2 := [some (eR a0), some (eI (a1)), some (eI (a2)), some (eI (a3)), some (eI (a4)), some (eI (a5)), some (eI (a6)), some (eI (a7)), some (eI (v1))]) (s2 := [eI (a5), eI (v33), eR v4]) rfl rfl rfl ?_
  refine j_as (np := 59) rfl rfl I30 b6 (by decide) (n := 168) rfl rfl (lo := -2147483648) (hi := 2147483647) (fun _ => rfl) (by omega) (by omega) (by omega) ?_
  intro m36 I37 W38
  have F39 : Fr l_312 0 0 g μ m36 := F32.v W38 b6 rfl rfl
  refine w_t (np := 60) (l2 := [some (eR a0), some (eI (a1)), some (eI (a2)), some (eI (a3)), some (eI (a4)), some (eI (a5)), some (eI (a6)), some (eI (a7)), some (eI (v1))]) (s2 := [eR a0]) rfl (s_an rfl (pos_g I37 gA0 (by decide))) rfl ?_
  refine w_gf (np := 63) (v := eR v4) rfl rfl (I37.kd gA0 (by decide) (n := 69) rfl) (by rw [(W38.addr (W31.addr (W24.addr (W17.addr (W10.addr e5 b6 gA0 (by decide)) b6 gA0 (by decide)) b6 gA0 (by decide)) b6 gA0 (by decide)) b6 gA0 (by decide))]; rfl) ?_
  refine w_t (np := 65) (l2 := [some (eR a0), some (eI (a1)), some (eI (a2)), some (eI (a3)), some (eI (a4)), some (eI (a5)), some (eI (a6)), some (eI (a7)), some (eI (v1))]) (s2 := [eI (v1), eR v4]) rfl rfl rfl ?_
  refine w_t (np := 66) (l2 := [some (eR a0), some (eI (a1)), some (eI (a2)), some (eI (a3)), some (eI (a4)), some (eI (a5)), some (eI (a6)), some (eI (a7)), some (eI (v1))]) (s2 := [eI (5), eI (v1), eR v4]) rfl rfl rfl ?_
  obtain ⟨v40, e41⟩ : ∃ zz : Int, zz = (v1) + (5) := ⟨_, rfl⟩
  have b42 : 5 ≤ v40 ∧ v40 ≤ 173 := by omega
  refine w_t (np := 67) (l2 := [some (eR a0), some (eI (a1)), some (eI (a2)), some (eI (a3)), some (eI (a4)), some (eI (a5)), some (eI (a6)), some (eI (a7)), some (eI (v1))]) (s2 := [eI (v40), eR v4]) rfl (b_iadd (by rw [← e41]; exact ev_w_in (by omega) (by omega))) rfl ?_
  refine w_t (np := 69) (l2 := [some (eR a0), some (eI (a1)), some (eI (a2)), some (eI (a3)), some (eI (a4)), some (eI (a5)), some (eI (a6)), some (eI (a7)), some (eI (v1))]) (s2 := [eI (a6), eI (v40), eR v4]) rfl rfl rfl ?_
  refine w_cu (np := 72) (as := [eI (a6)]) (l2 := [some (eI (a6))]) (rest := [eI (v40), eR v4]) rfl rfl rfl (Nat.ble_eq.mp rfl) rfl rfl rfl rfl ?_
  refine s_217 (a0 := a6) I37 (by omega) ?_
  intro v43 b44
  show ex_q (dt_fg L ρ) rc (d + 1, (312, 72, [some (eR a0), some (eI (a1)), some (eI (a2)), some (eI (a3)), some (eI (a4)), some (eI (a5)), some (eI (a6)), some (eI (a7)), some (eI (v1))], [eI (v43), eI (v40), eR v4]), f :: F, m36)
  refine j_as (np := 73) rfl rfl I37 b6 (by decide) (n := 168) rfl rfl (lo := -2147483648) (hi := 2147483647) (fun _ => rfl) (by omega) (by omega) (by omega) ?_
  intro m45 I46 W47
  have F48 : Fr l_312 0 0 g μ m45 := F39.v W47 b6 rfl rfl
  refine w_t (np := 74) (l2 := [some (eR a0), some (eI (a1)), some (eI (a2)), some (eI (a3)), some (eI (a4)), some (eI (a5)), some (eI (a6)), some (eI (a7)), some (eI (v1))]) (s2 := [eR a0]) rfl (s_an rfl (pos_g I46 gA0 (by decide))) rfl ?_
  refine w_gf (np := 77) (v := eR v4) rfl rfl (I46.kd gA0 (by decide) (n := 69) rfl) (by rw [(W47.addr (W38.addr (W31.addr (W24.addr (W17.addr (W10.addr e5 b6 gA0 (by decide)) b6 gA0 (by decide)) b6 gA0 (by decide)) b6 gA0 (by decide)) b6 gA0 (by decide)) b6 gA0 (by decide))]; rfl) ?_
  refine w_t (np := 79) (l2 := [some (eR a0), some (eI (a1)), some (eI (a2)), some (eI (a3)), some (eI (a4)), some (eI (a5)), some (eI (a6)), some (eI (a7)), some (eI (v1))]) (s2 := [eI (v1), eR v4]) rfl rfl rfl ?_
  refine w_t (np := 81) (l2 := [some (eR a0), some (eI (a1)), some (eI (a2)), some (eI (a3)), some (eI (a4)), some (eI (a5)), some (eI (a6)), some (eI (a7)), some (eI (v1))]) (s2 := [eI (6), eI (v1), eR v4]) rfl rfl rfl ?_
  obtain ⟨v49, e50⟩ : ∃ zz : Int, zz = (v1) + (6) := ⟨_, rfl⟩
  have b51 : 6 ≤ v49 ∧ v49 ≤ 174 := by omega
  refine w_t (np := 82) (l2 := [some (eR a0), some (eI (a1)), some (eI (a2)), some (eI (a3)), some (eI (a4)), some (eI (a5)), some (eI (a6)), some (eI (a7)), some (eI (v1))]) (s2 := [eI (v49), eR v4]) rfl (b_iadd (by rw [← e50]; exact ev_w_in (by omega) (by omega))) rfl ?_
  refine w_t (np := 84) (l2 := [some (eR a0), some (eI (a1)), some (eI (a2)), some (eI (a3)), some (eI (a4)), some (eI (a5)), some (eI (a6)), some (eI (a7)), some (eI (v1))]) (s2 := [eI (a7), eI (v49), eR v4]) rfl rfl rfl ?_
  refine j_as (np := 85) rfl rfl I46 b6 (by decide) (n := 168) rfl rfl (lo := -2147483648) (hi := 2147483647) (fun _ => rfl) (by omega) (by omega) (by omega) ?_
  intro m52 I53 W54
  have F55 : Fr l_312 0 0 g μ m52 := F48.v W54 b6 rfl rfl
  exact v_rv rfl rfl (K m52 (rh) I53 F55 (W54.addr (W47.addr (W38.addr (W31.addr (W24.addr (W17.addr (W10.addr h_rh b6 gA0 (by decide)) b6 gA0 (by decide)) b6 gA0 (by decide)) b6 gA0 (by decide)) b6 gA0 (by decide)) b6 gA0 (by decide)) b6 gA0 (by decide)) (by omega))
