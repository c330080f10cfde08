def l_323 : List Nat := [22016, 21760, 21248]
set_option maxHeartbeats 8000000 in
theorem s_323 {L : Nat} {ρ : Nat → Int} {rc : eQ} {d : Nat} {f : eFr} {F : List eFr} {μ : eM} {g : Nat → Nat} {a0 : Nat} {a1 : Int} (hI : SI g μ) (gA0 : g a0 = 52) (bA1 : -2147483648 ≤ a1 ∧ a1 ≤ 2147483647) (K : ∀ (μ2 : eM), SI g μ2 → Fr l_323 0 0 g μ μ2 → ex_q (dt_fg L ρ) rc (d + 4, (f.1, f.2.1, f.2.2.1, f.2.2.2), F, μ2)) : ex_q (dt_fg L ρ) rc (d + 3, (323, 0, [some (eR a0), some (eI (a1)), none, none, none, none, none, none, none, none, none], []), f :: F, μ) := by
  have F0 : Fr l_323 0 0 g μ μ := Fr.r
  refine w_t (np := 1) (l2 := [some (eR a0), some (eI (a1)), none, none, none, none, none, none, none, none, none]) (s2 := [eI (0)]) rfl rfl rfl ?_
  refine w_t (np := 2) (l2 := [some (eR a0), some (eI (a1)), some (eI (0)), none, none, none, none, none, none, none, none]) (s2 := []) rfl rfl rfl ?_
  have hL2 : ∀ (n1 : Nat) (m5 : eM) (i3 : Int), SI g m5 → Fr l_323 0 0 g μ m5 → (0 ≤ i3 ∧ i3 ≤ 10) → n1 = (10 - i3).toNat → ex_q (dt_fg L ρ) rc (d + 3, (323, 2, [some (eR a0), some (eI (a1)), some (eI (i3)), none, none, none, none, none, none, none, none], []), f :: F, m5) := by
    intro n1
    induction n1 using Nat.strongRecOn with
    | _ n1 ih2 =>
    intro m5 i3 I6 F7 b4 hn8
    refine w_t (np := 3) (l2 := [some (eR a0), some (eI (a1)), some (eI (i3)), none, none, none, none, none, none, none, none]) (s2 := [eI (i3)]) rfl rfl rfl ?_
    refine w_t (np := 5) (l2 := [some (eR a0), some (eI (a1)), some (eI (i3)), none, none, none, none, none, none, none, none]) (s2 := [eI (10), eI (i3)]) rfl rfl rfl ?_
    refine b_cge (t1 := 28) (t2 := 8) rfl rfl rfl (ev_w_in (by omega) (by omega)) rfl (fun g9 => ?_) (fun g9 => ?_)
    · have b10 : 10 ≤ i3 ∧ i3 ≤ 10 := by omega
      refine w_t (np := 29) (l2 := [some (eR a0), some (eI (a1)), some (eI (i3)), none, none, none, none, none, none, none, none]) (s2 := [eI (0)]) rfl rfl rfl ?_
      refine w_t (np := 30) (l2 := [some (eR a0), some (eI (a1)), some (eI (0)), none, none, none, none, none, none, none, none]) (s2 := []) rfl rfl rfl ?_
      have hL30 : ∀ (n10 : Nat) (m22 : eM) (i12 : Int) (o14 : Option eV) (o15 : Option eV) (o16 : Option eV) (o17 : Option eV) (o18 : Option eV) (o19 : Option eV) (o20 : Option eV) (o21 : Option eV), SI g m22 → Fr l_323 0 0 g μ m22 → (0 ≤ i12 ∧ i12 ≤ 24) → n10 = (24 - i12).toNat → ex_q (dt_fg L ρ) rc (d + 3, (323, 30, [some (eR a0), some (eI (a1)), some (eI (i12)), o14, o15, o16, o17, o18, o19, o20, o21], []), f :: F, m22) := by
        intro n10
        induction n10 using Nat.strongRecOn with
        | _ n10 ih11 =>
        intro m22 i12 o14 o15 o16 o17 o18 o19 o20 o21 I23 F24 b13 hn25
        refine w_t (np := 31) (l2 := [some (eR a0), some (eI (a1)), some (eI (i12)), o14, o15, o16, o17, o18, o19, o20, o21]) (s2 := [eI (i12)]) rfl rfl rfl ?_
        refine w_t (np := 32) (l2 := [some (eR a0), some (eI (a1)), some (eI (i12)), o14, o15, o16, o17, o18, o19, o20, o21]) (s2 := [eR a0, eI (i12)]) rfl (s_an rfl (pos_g I23 gA0 (by decide))) rfl ?_
        refine j_gi (np := 35) rfl rfl rfl I23 gA0 (by decide) (n := 69) rfl rfl (lo := 0) (hi := 24) rfl ?_
        intro v26 e27 b28
        refine b_cge (t1 := 232) (t2 := 38) rfl rfl rfl (ev_w_in (by omega) (by omega)) (ev_w_in (by omega) (by omega)) (fun g29 => ?_) (fun g29 => ?_)
        · exact v_rv rfl rfl (K m22 I23 F24)
        · have b30 : 0 ≤ i12 ∧ i12 ≤ 23 := by omega
          have b31 : 1 ≤ v26 ∧ v26 ≤ 24 := by omega
          refine w_t (np := 39) (l2 := [some (eR a0), some (eI (a1)), some (eI (i12)), o14, o15, o16, o17, o18, o19, o20, o21]) (s2 := [eR a0]) rfl (s_an rfl (pos_g I23 gA0 (by decide))) rfl ?_
          refine w_t (np := 40) (l2 := [some (eR a0), some (eI (a1)), some (eI (i12)), o14, o15, o16, o17, o18, o19, o20, o21]) (s2 := [eI (i12), eR a0]) rfl rfl rfl ?_
          refine w_t (np := 41) (l2 := [some (eR a0), some (eI (a1)), some (eI (i12)), o14, o15, o16, o17, o18, o19, o20, o21]) (s2 := [eR a0, eI (i12), eR a0]) rfl (s_an rfl (pos_g I23 gA0 (by decide))) rfl ?_
          refine j_gr (np := 44) rfl rfl I23 gA0 (by decide) (n := 69) rfl rfl rfl ?_
          intro v30 e31 b32 z33
          have b32 : g v30 = 83 := Nat.eq_of_beq_eq_true b32
          refine w_cw (np := 47) (as := [eI (i12), eR v30]) (l2 := [some (eR a0), some (eI (i12)), some (eR v30), none, none, none, none]) (rest := []) rfl rfl rfl (Nat.ble_eq.mp rfl) rfl rfl rfl (I23.kd gA0 (by decide) (n := 69) rfl) rfl ?_
          refine s_302e (a1 := i12) I23 gA0 (by omega) b32 ?_
          intro m34 I35 F36 p37
          have F38 : Fr l_323 0 0 g μ m34 := F24.t F36 rfl
          show ex_q (dt_fg L ρ) rc (d + 3, (323, 47, [some (eR a0), some (eI (a1)), some (eI (i12)), o14, o15, o16, o17, o18, o19, o20, o21], []), f :: F, m34)
          refine w_t (np := 48) (l2 := [some (eR a0), some (eI (a1)), some (eI (i12)), o14, o15, o16, o17, o18, o19, o20, o21]) (s2 := [eR a0]) rfl (s_an rfl (pos_g I35 gA0 (by decide))) rfl ?_
          refine j_gr (np := 51) rfl rfl I35 gA0 (by decide) (n := 69) rfl rfl rfl ?_
          intro v39 e40 b41 z42
          have b41 : g v39 = 79 := Nat.eq_of_beq_eq_true b41
          refine w_t (np := 53) (l2 := [some (eR a0), some (eI (a1)), some (eI (i12)), o14, o15, o16, o17, o18, o19, o20, o21]) (s2 := [eI (7), eR v39]) rfl rfl rfl ?_
          refine w_t (np := 54) (l2 := [some (eR a0), some (eI (a1)), some (eI (i12)), o14, o15, o16, o17, o18, o19, o20, o21]) (s2 := [eI (i12), eI (7), eR v39]) rfl rfl rfl ?_
          obtain ⟨v43, e44⟩ : ∃ zz : Int, zz = (7) * (i12) := ⟨_, rfl⟩
          have b45 : 0 ≤ v43 ∧ v43 ≤ 161 := by omega
          refine w_t (np := 55) (l2 := [some (eR a0), some (eI (a1)), some (eI (i12)), o14, o15, o16, o17, o18, o19, o20, o21]) (s2 := [eI (v43), eR v39]) rfl (b_imul (by rw [← e44]; exact ev_w_in (by omega) (by omega))) rfl ?_
          refine j_al (np := 56) rfl rfl I35 b41 (by decide) (n := 168) rfl rfl (lo := -2147483648) (hi := 2147483647) (fun _ => rfl) (by omega) (by omega) ?_
          intro v46 e47 b48
          refine w_t (np := 57) (l2 := [some (eR a0), some (eI (a1)), some (eI (i12)), some (eI (v46)), o15, o16, o17, o18, o19, o20, o21]) (s2 := []) rfl rfl rfl ?_
          refine w_t (np := 58) (l2 := [some (eR a0), some (eI (a1)), some (eI (i12)), some (eI (v46)), o15, o16, o17, o18, o19, o20, o21]) (s2 := [eI (0)]) rfl rfl rfl ?_
          refine w_t (np := 60) (l2 := [some (eR a0), some (eI (a1)), some (eI (i12)), some (eI (v46)), some (eI (0)), o16, o17, o18, o19, o20, o21]) (s2 := []) rfl rfl rfl ?_
          have hL60 : ∀ (n49 : Nat) (m59 : eM) (i51 : Int) (o53 : Option eV) (o54 : Option eV) (o55 : Option eV) (o56 : Option eV) (o57 : Option eV) (o58 : Option eV), SI g m59 → Fr l_323 0 0 g μ m59 → (0 ≤ i51 ∧ i51 ≤ 4) → m59.1 a0 49 = v26 → m59.1 a0 47 = ((v30 : Nat) : Int) → m59.1 a0 43 = ((v39 : Nat) : Int) → m59.1 v39 (v43).toNat = v46 → CR g m59 → n49 = (4 - i51).toNat → ex_q (dt_fg L ρ) rc (d + 3, (323, 60, [some (eR a0), some (eI (a1)), some (eI (i12)), some (eI (v46)), some (eI (i51)), o53, o54, o55, o56, o57, o58], []), f :: F, m59) := by
            intro n49
            induction n49 using Nat.strongRecOn with
            | _ n49 ih50 =>
            intro m59 i51 o53 o54 o55 o56 o57 o58 I60 F61 b52 k62 k63 k64 k65 p66 hn67
            refine w_t (np := 62) (l2 := [some (eR a0), some (eI (a1)), some (eI (i12)), some (eI (v46)), some (eI (i51)), o53, o54, o55, o56, o57, o58]) (s2 := [eI (i51)]) rfl rfl rfl ?_
            refine w_t (np := 63) (l2 := [some (eR a0), some (eI (a1)), some (eI (i12)), some (eI (v46)), some (eI (i51)), o53, o54, o55, o56, o57, o58]) (s2 := [eI (4), eI (i51)]) rfl rfl rfl ?_
            refine b_cge (t1 := 226) (t2 := 66) rfl rfl rfl (ev_w_in (by omega) (by omega)) rfl (fun g68 => ?_) (fun g68 => ?_)
            · have b69 : 4 ≤ i51 ∧ i51 ≤ 4 := by omega
              obtain ⟨v69, e70⟩ : ∃ zz : Int, zz = (i12) + (1) := ⟨_, rfl⟩
              have b71 : 1 ≤ v69 ∧ v69 ≤ 24 := by omega
              refine w_t (np := 229) (l2 := [some (eR a0), some (eI (a1)), some (eI (v69)), some (eI (v46)), some (eI (i51)), o53, o54, o55, o56, o57, o58]) (s2 := []) rfl (b_iinc rfl (by rw [← e70]; exact ev_w_in (by omega) (by omega)) rfl) rfl ?_
              refine w_go (t1 := 30) rfl rfl ?_
              exact ih11 (24 - (v69)).toNat (by omega) m59 (v69) (some (eI (v46))) (some (eI (i51))) (o53) (o54) (o55) (o56) (o57) (o58) I60 F61 (by omega)     rfl
            · have b69 : 0 ≤ i51 ∧ i51 ≤ 3 := by omega
              refine w_t (np := 67) (l2 := [some (eR a0), some (eI (a1)), some (eI (i12)), some (eI (v46)), some (eI (i51)), o53, o54, o55, o56, o57, o58]) (s2 := [eR a0]) rfl (s_an rfl (pos_g I60 gA0 (by decide))) rfl ?_
              refine j_gr (np := 70) rfl rfl I60 gA0 (by decide) (n := 69) rfl rfl rfl ?_
              intro v69 e70 b71 z72
              have b71 : g v69 = 81 := Nat.eq_of_beq_eq_true b71
              refine w_t (np := 71) (l2 := [some (eR a0), some (eI (a1)), some (eI (i12)), some (eI (v46)), some (eI (i51)), o53, o54, o55, o56, o57, o58]) (s2 := [eI (4), eR v69]) rfl rfl rfl ?_
              refine w_t (np := 72) (l2 := [some (eR a0), some (eI (a1)), some (eI (i12)), some (eI (v46)), some (eI (i51)), o53, o54, o55, o56, o57, o58]) (s2 := [eI (i12), eI (4), eR v69]) rfl rfl rfl ?_
              obtain ⟨v73, e74⟩ : ∃ zz : Int, zz = (4) * (i12) := ⟨_, rfl⟩
              have b75 : 0 ≤ v73 ∧ v73 ≤ 92 := by omega
              refine w_t (np := 73) (l2 := [some (eR a0), some (eI (a1)), some (eI (i12)), some (eI (v46)), some (eI (i51)), o53, o54, o55, o56, o57, o58]) (s2 := [eI (v73), eR v69]) rfl (b_imul (by rw [← e74]; exact ev_w_in (by omega) (by omega))) rfl ?_
              refine w_t (np := 75) (l2 := [some (eR a0), some (eI (a1)), some (eI (i12)), some (eI (v46)), some (eI (i51)), o53, o54, o55, o56, o57, o58]) (s2 := [eI (i51), eI (v73), eR v69]) rfl rfl rfl ?_
              obtain ⟨v76, e77⟩ : ∃ zz : Int, zz = (v73) + (i51) := ⟨_, rfl⟩
              have b78 : 0 ≤ v76 ∧ v76 ≤ 95 := by omega
              refine w_t (np := 76) (l2 := [some (eR a0), some (eI (a1)), some (eI (i12)), some (eI (v46)), some (eI (i51)), o53, o54, o55, o56, o57, o58]) (s2 := [eI (v76), eR v69]) rfl (b_iadd (by rw [← e77]; exact ev_w_in (by omega) (by omega))) rfl ?_
              refine j_al (np := 77) rfl rfl I60 b71 (by decide) (n := 96) rfl rfl (lo := 0) (hi := 95) (fun _ => rfl) (by omega) (by omega) ?_
              intro v79 e80 b81
              refine w_t (np := 78) (l2 := [some (eR a0), some (eI (a1)), some (eI (i12)), some (eI (v46)), some (eI (i51)), o53, o54, o55, o56, o57, o58]) (s2 := [eI (a1), eI (v79)]) rfl rfl rfl ?_
              refine b_ceq (t1 := 84) (t2 := 81) rfl rfl rfl (ev_w_in (by omega) (by omega)) (ev_w_in (by omega) (by omega)) (fun g82 => ?_) (fun g82 => ?_)
              · have b83 : 0 ≤ a1 ∧ a1 ≤ 95 := by omega
                refine w_t (np := 86) (l2 := [some (eR a0), some (eI (a1)), some (eI (i12)), some (eI (v46)), some (eI (i51)), o53, o54, o55, o56, o57, o58]) (s2 := [eI (i51)]) rfl rfl rfl ?_
                refine w_t (np := 87) (l2 := [some (eR a0), some (eI (a1)), some (eI (i12)), some (eI (v46)), some (eI (i51)), o53, o54, o55, o56, o57, o58]) (s2 := [eI (3), eI (i51)]) rfl rfl rfl ?_
                obtain ⟨v83, e84⟩ : ∃ zz : Int, zz = (i51) + (3) := ⟨_, rfl⟩
                have b85 : 3 ≤ v83 ∧ v83 ≤ 6 := by omega
                refine w_t (np := 88) (l2 := [some (eR a0), some (eI (a1)), some (eI (i12)), some (eI (v46)), some (eI (i51)), o53, o54, o55, o56, o57, o58]) (s2 := [eI (v83)]) rfl (b_iadd (by rw [← e84]; exact ev_w_in (by omega) (by omega))) rfl ?_
                refine w_t (np := 89) (l2 := [some (eR a0), some (eI (a1)), some (eI (i12)), some (eI (v46)), some (eI (i51)), o53, o54, o55, o56, o57, o58]) (s2 := [eI (4), eI (v83)]) rfl rfl rfl ?_
                obtain ⟨v86, e87, b88⟩ := h_irem (a := v83) (k := 4) (by decide) (by decide) (show (-2147483648 : Int) ≤ v83 ∧ (v83 : Int) ≤ 2147483647 by omega)
                have b90 : v86 = (v83) % 4 := b88.1 (by omega)
                clear b88
                have b89 : 0 ≤ v86 ∧ v86 ≤ 3 := by omega
                refine w_t (np := 90) (l2 := [some (eR a0), some (eI (a1)), some (eI (i12)), some (eI (v46)), some (eI (i51)), o53, o54, o55, o56, o57, o58]) (s2 := [eI (v86)]) rfl (e87 _ _) rfl ?_
                refine w_t (np := 92) (l2 := [some (eR a0), some (eI (a1)), some (eI (i12)), some (eI (v46)), some (eI (i51)), some (eI (v86)), o54, o55, o56, o57, o58]) (s2 := []) rfl rfl rfl ?_
                refine w_t (np := 93) (l2 := [some (eR a0), some (eI (a1)), some (eI (i12)), some (eI (v46)), some (eI (i51)), some (eI (v86)), o54, o55, o56, o57, o58]) (s2 := [eR a0]) rfl (s_an rfl (pos_g I60 gA0 (by decide))) rfl ?_
                refine w_gf (np := 96) (v := eR v30) rfl rfl (I60.kd gA0 (by decide) (n := 69) rfl) (by rw [k63]; rfl) ?_
                refine w_t (np := 97) (l2 := [some (eR a0), some (eI (a1)), some (eI (i12)), some (eI (v46)), some (eI (i51)), some (eI (v86)), o54, o55, o56, o57, o58]) (s2 := [eI (4), eR v30]) rfl rfl rfl ?_
                refine w_t (np := 99) (l2 := [some (eR a0), some (eI (a1)), some (eI (i12)), some (eI (v46)), some (eI (i51)), some (eI (v86)), o54, o55, o56, o57, o58]) (s2 := [eI (i51), eI (4), eR v30]) rfl rfl rfl ?_
                obtain ⟨v91, e92⟩ : ∃ zz : Int, zz = (4) * (i51) := ⟨_, rfl⟩
                have b93 : 0 ≤ v91 ∧ v91 ≤ 12 := by omega
                refine w_t (np := 100) (l2 := [some (eR a0), some (eI (a1)), some (eI (i12)), some (eI (v46)), some (eI (i51)), some (eI (v86)), o54, o55, o56, o57, o58]) (s2 := [eI (v91), eR v30]) rfl (b_imul (by rw [← e92]; exact ev_w_in (by omega) (by omega))) rfl ?_
                refine w_t (np := 101) (l2 := [some (eR a0), some (eI (a1)), some (eI (i12)), some (eI (v46)), some (eI (i51)), some (eI (v86)), o54, o55, o56, o57, o58]) (s2 := [eI (4), eI (v91), eR v30]) rfl rfl rfl ?_
                refine w_t (np := 103) (l2 := [some (eR a0), some (eI (a1)), some (eI (i12)), some (eI (v46)), some (eI (i51)), some (eI (v86)), o54, o55, o56, o57, o58]) (s2 := [eI (i51), eI (4), eI (v91), eR v30]) rfl rfl rfl ?_
                refine w_t (np := 104) (l2 := [some (eR a0), some (eI (a1)), some (eI (i12)), some (eI (v46)), some (eI (i51)), some (eI (v86)), o54, o55, o56, o57, o58]) (s2 := [eI (1), eI (i51), eI (4), eI (v91), eR v30]) rfl rfl rfl ?_
                obtain ⟨v94, e95⟩ : ∃ zz : Int, zz = (i51) + (1) := ⟨_, rfl⟩
                have b96 : 1 ≤ v94 ∧ v94 ≤ 4 := by omega
                refine w_t (np := 105) (l2 := [some (eR a0), some (eI (a1)), some (eI (i12)), some (eI (v46)), some (eI (i51)), some (eI (v86)), o54, o55, o56, o57, o58]) (s2 := [eI (v94), eI (4), eI (v91), eR v30]) rfl (b_iadd (by rw [← e95]; exact ev_w_in (by omega) (by omega))) rfl ?_
                refine w_t (np := 106) (l2 := [some (eR a0), some (eI (a1)), some (eI (i12)), some (eI (v46)), some (eI (i51)), some (eI (v86)), o54, o55, o56, o57, o58]) (s2 := [eI (4), eI (v94), eI (4), eI (v91), eR v30]) rfl rfl rfl ?_
                obtain ⟨v97, e98, b99⟩ := h_irem (a := v94) (k := 4) (by decide) (by decide) (show (-2147483648 : Int) ≤ v94 ∧ (v94 : Int) ≤ 2147483647 by omega)
                have b101 : v97 = (v94) % 4 := b99.1 (by omega)
                clear b99
                have b100 : 0 ≤ v97 ∧ v97 ≤ 3 := by omega
                refine w_t (np := 107) (l2 := [some (eR a0), some (eI (a1)), some (eI (i12)), some (eI (v46)), some (eI (i51)), some (eI (v86)), o54, o55, o56, o57, o58]) (s2 := [eI (v97), eI (4), eI (v91), eR v30]) rfl (e98 _ _) rfl ?_
                obtain ⟨v102, e103⟩ : ∃ zz : Int, zz = (4) * (v97) := ⟨_, rfl⟩
                have b104 : 0 ≤ v102 ∧ v102 ≤ 12 := by omega
                refine w_t (np := 108) (l2 := [some (eR a0), some (eI (a1)), some (eI (i12)), some (eI (v46)), some (eI (i51)), some (eI (v86)), o54, o55, o56, o57, o58]) (s2 := [eI (v102), eI (v91), eR v30]) rfl (b_imul (by rw [← e103]; exact ev_w_in (by omega) (by omega))) rfl ?_
                obtain ⟨D105, h106⟩ := (CRr.d (p66 _ b32) (i := i51) (a := v91) (b := v102) (by omega) (by omega) (by omega)).1
                refine w_cu (np := 111) (as := [eR v30, eI (v91), eI (v102)]) (l2 := [some (eR v30), some (eI (v91)), some (eI (v102)), none]) (rest := []) rfl rfl rfl (Nat.ble_eq.mp rfl) rfl rfl rfl rfl ?_
                refine s_322 (a1 := v91) (a2 := v102) I60 b32 (by omega) (by omega) h106 ?_
                intro v107 b108
                show ex_q (dt_fg L ρ) rc (d + 3, (323, 111, [some (eR a0), some (eI (a1)), some (eI (i12)), some (eI (v46)), some (eI (i51)), some (eI (v86)), o54, o55, o56, o57, o58], [eI (v107)]), f :: F, m59)
                refine w_t (np := 113) (l2 := [some (eR a0), some (eI (a1)), some (eI (i12)), some (eI (v46)), some (eI (i51)), some (eI (v86)), some (eI (v107)), o55, o56, o57, o58]) (s2 := []) rfl rfl rfl ?_
                refine w_t (np := 114) (l2 := [some (eR a0), some (eI (a1)), some (eI (i12)), some (eI (v46)), some (eI (i51)), some (eI (v86)), some (eI (v107)), o55, o56, o57, o58]) (s2 := [eR a0]) rfl (s_an rfl (pos_g I60 gA0 (by decide))) rfl ?_
                refine w_gf (np := 117) (v := eR v30) rfl rfl (I60.kd gA0 (by decide) (n := 69) rfl) (by rw [k63]; rfl) ?_
                refine w_t (np := 118) (l2 := [some (eR a0), some (eI (a1)), some (eI (i12)), some (eI (v46)), some (eI (i51)), some (eI (v86)), some (eI (v107)), o55, o56, o57, o58]) (s2 := [eI (4), eR v30]) rfl rfl rfl ?_
                refine w_t (np := 120) (l2 := [some (eR a0), some (eI (a1)), some (eI (i12)), some (eI (v46)), some (eI (i51)), some (eI (v86)), some (eI (v107)), o55, o56, o57, o58]) (s2 := [eI (i51), eI (4), eR v30]) rfl rfl rfl ?_
                obtain ⟨v109, e110⟩ : ∃ zz : Int, zz = (4) * (i51) := ⟨_, rfl⟩
                have b111 : 0 ≤ v109 ∧ v109 ≤ 12 := by omega
                refine w_t (np := 121) (l2 := [some (eR a0), some (eI (a1)), some (eI (i12)), some (eI (v46)), some (eI (i51)), some (eI (v86)), some (eI (v107)), o55, o56, o57, o58]) (s2 := [eI (v109), eR v30]) rfl (b_imul (by rw [← e110]; exact ev_w_in (by omega) (by omega))) rfl ?_
                refine w_t (np := 122) (l2 := [some (eR a0), some (eI (a1)), some (eI (i12)), some (eI (v46)), some (eI (i51)), some (eI (v86)), some (eI (v107)), o55, o56, o57, o58]) (s2 := [eI (4), eI (v109), eR v30]) rfl rfl rfl ?_
                refine w_t (np := 124) (l2 := [some (eR a0), some (eI (a1)), some (eI (i12)), some (eI (v46)), some (eI (i51)), some (eI (v86)), some (eI (v107)), o55, o56, o57, o58]) (s2 := [eI (v86), eI (4), eI (v109), eR v30]) rfl rfl rfl ?_
                obtain ⟨v112, e113⟩ : ∃ zz : Int, zz = (4) * (v86) := ⟨_, rfl⟩
                have b114 : 0 ≤ v112 ∧ v112 ≤ 12 := by omega
                refine w_t (np := 125) (l2 := [some (eR a0), some (eI (a1)), some (eI (i12)), some (eI (v46)), some (eI (i51)), some (eI (v86)), some (eI (v107)), o55, o56, o57, o58]) (s2 := [eI (v112), eI (v109), eR v30]) rfl (b_imul (by rw [← e113]; exact ev_w_in (by omega) (by omega))) rfl ?_
                obtain ⟨D115, h116⟩ := (CRr.d (p66 _ b32) (i := v86) (a := v112) (b := v109) (by omega) (by omega) (by omega)).2
                refine w_cu (np := 128) (as := [eR v30, eI (v109), eI (v112)]) (l2 := [some (eR v30), some (eI (v109)), some (eI (v112)), none]) (rest := []) rfl rfl rfl (Nat.ble_eq.mp rfl) rfl rfl rfl rfl ?_
                refine s_322 (a1 := v109) (a2 := v112) I60 b32 (by omega) (by omega) h116 ?_
                intro v117 b118
                show ex_q (dt_fg L ρ) rc (d + 3, (323, 128, [some (eR a0), some (eI (a1)), some (eI (i12)), some (eI (v46)), some (eI (i51)), some (eI (v86)), some (eI (v107)), o55, o56, o57, o58], [eI (v117)]), f :: F, m59)
                refine w_t (np := 130) (l2 := [some (eR a0), some (eI (a1)), some (eI (i12)), some (eI (v46)), some (eI (i51)), some (eI (v86)), some (eI (v107)), some (eI (v117)), o56, o57, o58]) (s2 := []) rfl rfl rfl ?_
                refine w_t (np := 131) (l2 := [some (eR a0), some (eI (a1)), some (eI (i12)), some (eI (v46)), some (eI (i51)), some (eI (v86)), some (eI (v107)), some (eI (v117)), o56, o57, o58]) (s2 := [eR a0]) rfl (s_an rfl (pos_g I60 gA0 (by decide))) rfl ?_
                refine j_gr (np := 134) rfl rfl I60 gA0 (by decide) (n := 69) rfl rfl rfl ?_
                intro v119 e120 b121 z122
                have b121 : g v119 = 86 := Nat.eq_of_beq_eq_true b121
                refine w_t (np := 136) (l2 := [some (eR a0), some (eI (a1)), some (eI (i12)), some (eI (v46)), some (eI (i51)), some (eI (v86)), some (eI (v107)), some (eI (v117)), o56, o57, o58]) (s2 := [eI (v107), eR v119]) rfl rfl rfl ?_
                refine w_t (np := 137) (l2 := [some (eR a0), some (eI (a1)), some (eI (i12)), some (eI (v46)), some (eI (i51)), some (eI (v86)), some (eI (v107)), some (eI (v117)), o56, o57, o58]) (s2 := [eI (v46), eI (v107), eR v119]) rfl rfl rfl ?_
                refine w_t (np := 139) (l2 := [some (eR a0), some (eI (a1)), some (eI (i12)), some (eI (v46)), some (eI (i51)), some (eI (v86)), some (eI (v107)), some (eI (v117)), o56, o57, o58]) (s2 := [eI (i51), eI (v46), eI (v107), eR v119]) rfl rfl rfl ?_
                refine w_cu (np := 142) (as := [eI (v46), eI (i51)]) (l2 := [some (eI (v46)), some (eI (i51)), none]) (rest := [eI (v107), eR v119]) rfl rfl rfl (Nat.ble_eq.mp rfl) rfl rfl rfl rfl ?_
                refine s_309 (a0 := v46) (a1 := i51) I60 (by omega) (by omega) ?_
                intro v123 b124
                show ex_q (dt_fg L ρ) rc (d + 3, (323, 142, [some (eR a0), some (eI (a1)), some (eI (i12)), some (eI (v46)), some (eI (i51)), some (eI (v86)), some (eI (v107)), some (eI (v117)), o56, o57, o58], [eI (v123), eI (v107), eR v119]), f :: F, m59)
                refine j_as (np := 143) rfl rfl I60 b121 (by decide) (n := 10) rfl rfl (lo := -1) (hi := 3) (fun _ => rfl) (by omega) (by omega) (by omega) ?_
                intro m125 I126 W127
                have F128 : Fr l_323 0 0 g μ m125 := F61.v W127 b121 rfl rfl
                have p129 : CR g m125 := CR.fr p66 (Fr.o W127 b121 rfl) rfl
                refine w_t (np := 144) (l2 := [some (eR a0), some (eI (a1)), some (eI (i12)), some (eI (v46)), some (eI (i51)), some (eI (v86)), some (eI (v107)), some (eI (v117)), o56, o57, o58]) (s2 := [eR a0]) rfl (s_an rfl (pos_g I126 gA0 (by decide))) rfl ?_
                refine w_gf (np := 147) (v := eR v119) rfl rfl (I126.kd gA0 (by decide) (n := 69) rfl) (by rw [(W127.addr e120 b121 gA0 (by decide))]; rfl) ?_
                refine w_t (np := 149) (l2 := [some (eR a0), some (eI (a1)), some (eI (i12)), some (eI (v46)), some (eI (i51)), some (eI (v86)), some (eI (v107)), some (eI (v117)), o56, o57, o58]) (s2 := [eI (v117), eR v119]) rfl rfl rfl ?_
                refine w_t (np := 150) (l2 := [some (eR a0), some (eI (a1)), some (eI (i12)), some (eI (v46)), some (eI (i51)), some (eI (v86)), some (eI (v107)), some (eI (v117)), o56, o57, o58]) (s2 := [eI (v46), eI (v117), eR v119]) rfl rfl rfl ?_
                refine w_t (np := 152) (l2 := [some (eR a0), some (eI (a1)), some (eI (i12)), some (eI (v46)), some (eI (i51)), some (eI (v86)), some (eI (v107)), some (eI (v117)), o56, o57, o58]) (s2 := [eI (v86), eI (v46), eI (v117), eR v119]) rfl rfl rfl ?_
                refine w_cu (np := 155) (as := [eI (v46), eI (v86)]) (l2 := [some (eI (v46)), some (eI (v86)), none]) (rest := [eI (v117), eR v119]) rfl rfl rfl (Nat.ble_eq.mp rfl) rfl rfl rfl rfl ?_
                refine s_309 (a0 := v46) (a1 := v86) I126 (by omega) (by omega) ?_
                intro v130 b131
                show ex_q (dt_fg L ρ) rc (d + 3, (323, 155, [some (eR a0), some (eI (a1)), some (eI (i12)), some (eI (v46)), some (eI (i51)), some (eI (v86)), some (eI (v107)), some (eI (v117)), o56, o57, o58], [eI (v130), eI (v117), eR v119]), f :: F, m125)
                refine w_t (np := 156) (l2 := [some (eR a0), some (eI (a1)), some (eI (i12)), some (eI (v46)), some (eI (i51)), some (eI (v86)), some (eI (v107)), some (eI (v117)), o56, o57, o58]) (s2 := [eI (1), eI (v130), eI (v117), eR v119]) rfl rfl rfl ?_
                obtain ⟨v132, e133, b134⟩ := h_ixor3 (a := v130) (by omega)
                refine w_t (np := 157) (l2 := [some (eR a0), some (eI (a1)), some (eI (i12)), some (eI (v46)), some (eI (i51)), some (eI (v86)), some (eI (v107)), some (eI (v117)), o56, o57, o58]) (s2 := [eI (v132), eI (v117), eR v119]) rfl (e133 _ _) rfl ?_
                refine j_as (np := 158) rfl rfl I126 b121 (by decide) (n := 10) rfl rfl (lo := -1) (hi := 3) (fun _ => rfl) (by omega) (by omega) (by omega) ?_
                intro m135 I136 W137
                have F138 : Fr l_323 0 0 g μ m135 := F128.v W137 b121 rfl rfl
                have p139 : CR g m135 := CR.fr p129 (Fr.o W137 b121 rfl) rfl
                refine w_t (np := 159) (l2 := [some (eR a0), some (eI (a1)), some (eI (i12)), some (eI (v46)), some (eI (i51)), some (eI (v86)), some (eI (v107)), some (eI (v117)), o56, o57, o58]) (s2 := [eI (v46)]) rfl rfl rfl ?_
                refine w_t (np := 161) (l2 := [some (eR a0), some (eI (a1)), some (eI (i12)), some (eI (v46)), some (eI (i51)), some (eI (v86)), some (eI (v107)), some (eI (v117)), o56, o57, o58]) (s2 := [eI (i51), eI (v46)]) rfl rfl rfl ?_
                refine w_t (np := 162) (l2 := [some (eR a0), some (eI (a1)), some (eI (i12)), some (eI (v46)), some (eI (i51)), some (eI (v86)), some (eI (v107)), some (eI (v117)), o56, o57, o58]) (s2 := [eI (2), eI (i51), eI (v46)]) rfl rfl rfl ?_
                obtain ⟨v140, e141, b142⟩ := h_irem (a := i51) (k := 2) (by decide) (by decide) (show (-2147483648 : Int) ≤ i51 ∧ (i51 : Int) ≤ 2147483647 by omega)
                have b144 : v140 = (i51) % 2 := b142.1 (by omega)
                clear b142
                have b143 : 0 ≤ v140 ∧ v140 ≤ 1 := by omega
                refine w_t (np := 163) (l2 := [some (eR a0), some (eI (a1)), some (eI (i12)), some (eI (v46)), some (eI (i51)), some (eI (v86)), some (eI (v107)), some (eI (v117)), o56, o57, o58]) (s2 := [eI (v140), eI (v46)]) rfl (e141 _ _) rfl ?_
                refine w_cu (np := 166) (as := [eI (v46), eI (v140)]) (l2 := [some (eI (v46)), some (eI (v140))]) (rest := []) rfl rfl rfl (Nat.ble_eq.mp rfl) rfl rfl rfl rfl ?_
                refine w_t (np := 1) (l2 := [some (eI (v46)), some (eI (v140))]) (s2 := [eI (v46)]) rfl rfl rfl ?_
                refine b_ine (t1 := 16) (t2 := 4) rfl rfl rfl (ev_w_in (by omega) (by omega)) (fun g145 => ?_) (fun g145 => ?_)
                · refine w_t (np := 17) (l2 := [some (eI (v46)), some (eI (v140))]) (s2 := [eI (v140)]) rfl rfl rfl ?_
                  refine b_ine (t1 := 24) (t2 := 20) rfl rfl rfl (ev_w_in (by omega) (by omega)) (fun g146 => ?_) (fun g146 => ?_)
                  · have b147 : 1 ≤ v140 ∧ v140 ≤ 1 := by omega
                    refine w_t (np := 25) (l2 := [some (eI (v46)), some (eI (v140))]) (s2 := [eI (2)]) rfl rfl rfl ?_
                    refine b_ri rfl rfl ?_
                    show ex_q (dt_fg L ρ) rc (d + 3, (323, 166, [some (eR a0), some (eI (a1)), some (eI (i12)), some (eI (v46)), some (eI (i51)), some (eI (v86)), some (eI (v107)), some (eI (v117)), o56, o57, o58], [eI (2)]), f :: F, m135)
                    refine w_t (np := 168) (l2 := [some (eR a0), some (eI (a1)), some (eI (i12)), some (eI (v46)), some (eI (i51)), some (eI (v86)), some (eI (v107)), some (eI (v117)), some (eI (2)), o57, o58]) (s2 := []) rfl rfl rfl ?_
                    refine w_t (np := 170) (l2 := [some (eR a0), some (eI (a1)), some (eI (i12)), some (eI (v46)), some (eI (i51)), some (eI (v86)), some (eI (v107)), some (eI (v117)), some (eI (2)), o57, o58]) (s2 := [eI (v117)]) rfl rfl rfl ?_
                    refine w_t (np := 172) (l2 := [some (eR a0), some (eI (a1)), some (eI (i12)), some (eI (v46)), some (eI (i51)), some (eI (v86)), some (eI (v107)), some (eI (v117)), some (eI (2)), o57, o58]) (s2 := [eI (v107), eI (v117)]) rfl rfl rfl ?_
                    obtain ⟨v147, e148⟩ : ∃ zz : Int, zz = (v117) - (v107) := ⟨_, rfl⟩
                    have b149 : -9 ≤ v147 ∧ v147 ≤ 9 := by omega
                    refine w_t (np := 173) (l2 := [some (eR a0), some (eI (a1)), some (eI (i12)), some (eI (v46)), some (eI (i51)), some (eI (v86)), some (eI (v107)), some (eI (v117)), some (eI (2)), o57, o58]) (s2 := [eI (v147)]) rfl (b_isub (by rw [← e148]; exact ev_w_in (by omega) (by omega))) rfl ?_
                    refine w_cu (np := 176) (as := [eI (v147)]) (l2 := [some (eI (v147))]) (rest := []) rfl rfl rfl (Nat.ble_eq.mp rfl) rfl rfl rfl rfl ?_
                    refine s_217e (a0 := v147) I136 (by omega) ?_
                    intro v150 b151 h152
                    show ex_q (dt_fg L ρ) rc (d + 3, (323, 176, [some (eR a0), some (eI (a1)), some (eI (i12)), some (eI (v46)), some (eI (i51)), some (eI (v86)), some (eI (v107)), some (eI (v117)), some (eI (2)), o57, o58], [eI (v150)]), f :: F, m135)
                    refine w_t (np := 178) (l2 := [some (eR a0), some (eI (a1)), some (eI (i12)), some (eI (v46)), some (eI (i51)), some (eI (v86)), some (eI (v107)), some (eI (v117)), some (eI (2)), o57, o58]) (s2 := [eI (2), eI (v150)]) rfl rfl rfl ?_
                    refine b_cne (t1 := 186) (t2 := 181) rfl rfl rfl (ev_w_in (by omega) (by omega)) rfl (fun g153 => ?_) (fun g153 => ?_)
                    · refine w_t (np := 188) (l2 := [some (eR a0), some (eI (a1)), some (eI (i12)), some (eI (v46)), some (eI (i51)), some (eI (v86)), some (eI (v107)), some (eI (v117)), some (eI (2)), o57, o58]) (s2 := [eI (v117)]) rfl rfl rfl ?_
                      refine w_t (np := 190) (l2 := [some (eR a0), some (eI (a1)), some (eI (i12)), some (eI (v46)), some (eI (i51)), some (eI (v86)), some (eI (v107)), some (eI (v117)), some (eI (2)), some (eI (v117)), o58]) (s2 := []) rfl rfl rfl ?_
                      refine w_t (np := 191) (l2 := [some (eR a0), some (eI (a1)), some (eI (i12)), some (eI (v46)), some (eI (i51)), some (eI (v86)), some (eI (v107)), some (eI (v117)), some (eI (2)), some (eI (v117)), o58]) (s2 := [eI (0)]) rfl rfl rfl ?_
                      refine w_t (np := 193) (l2 := [some (eR a0), some (eI (a1)), some (eI (i12)), some (eI (v46)), some (eI (i51)), some (eI (v86)), some (eI (v107)), some (eI (v117)), some (eI (2)), some (eI (v117)), some (eI (0))]) (s2 := []) rfl rfl rfl ?_
                      have hL193 : ∀ (n154 : Nat) (m158 : eM) (i156 : Int), SI g m158 → Fr l_323 0 0 g μ m158 → (0 ≤ i156 ∧ i156 ≤ 4) → m158.1 a0 49 = v26 → m158.1 a0 47 = ((v30 : Nat) : Int) → m158.1 a0 43 = ((v39 : Nat) : Int) → m158.1 v39 (v43).toNat = v46 → m158.1 a0 45 = ((v69 : Nat) : Int) → m158.1 v69 (v76).toNat = v79 → m158.1 a0 52 = ((v119 : Nat) : Int) → CR g m158 → n154 = (4 - i156).toNat → ex_q (dt_fg L ρ) rc (d + 3, (323, 193, [some (eR a0), some (eI (a1)), some (eI (i12)), some (eI (v46)), some (eI (i51)), some (eI (v86)), some (eI (v107)), some (eI (v117)), some (eI (2)), some (eI (v117)), some (eI (i156))], []), f :: F, m158) := by
                        intro n154
                        induction n154 using Nat.strongRecOn with
                        | _ n154 ih155 =>
                        intro m158 i156 I159 F160 b157 k161 k162 k163 k164 k165 k166 k167 p168 hn169
                        refine w_t (np := 195) (l2 := [some (eR a0), some (eI (a1)), some (eI (i12)), some (eI (v46)), some (eI (i51)), some (eI (v86)), some (eI (v107)), some (eI (v117)), some (eI (2)), some (eI (v117)), some (eI (i156))]) (s2 := [eI (i156)]) rfl rfl rfl ?_
                        refine w_t (np := 197) (l2 := [some (eR a0), some (eI (a1)), some (eI (i12)), some (eI (v46)), some (eI (i51)), some (eI (v86)), some (eI (v107)), some (eI (v117)), some (eI (2)), some (eI (v117)), some (eI (i156))]) (s2 := [eI (2), eI (i156)]) rfl rfl rfl ?_
                        refine b_cge (t1 := 220) (t2 := 200) rfl rfl rfl (ev_w_in (by omega) (by omega)) rfl (fun g170 => ?_) (fun g170 => ?_)
                        · have b171 : 2 ≤ i156 ∧ i156 ≤ 4 := by omega
                          obtain ⟨v171, e172⟩ : ∃ zz : Int, zz = (i51) + (1) := ⟨_, rfl⟩
                          have b173 : 1 ≤ v171 ∧ v171 ≤ 4 := by omega
                          refine w_t (np := 223) (l2 := [some (eR a0), some (eI (a1)), some (eI (i12)), some (eI (v46)), some (eI (v171)), some (eI (v86)), some (eI (v107)), some (eI (v117)), some (eI (2)), some (eI (v117)), some (eI (i156))]) (s2 := []) rfl (b_iinc rfl (by rw [← e172]; exact ev_w_in (by omega) (by omega)) rfl) rfl ?_
                          refine w_go (t1 := 60) rfl rfl ?_
                          exact ih50 (4 - (v171)).toNat (by omega) m158 (v171) (some (eI (v86))) (some (eI (v107))) (some (eI (v117))) (some (eI (2))) (some (eI (v117))) (some (eI (i156))) I159 F160 (by omega) k161 k162 k163 k164  p168  rfl
                        · have b171 : 0 ≤ i156 ∧ i156 ≤ 1 := by omega
                          refine w_t (np := 201) (l2 := [some (eR a0), some (eI (a1)), some (eI (i12)), some (eI (v46)), some (eI (i51)), some (eI (v86)), some (eI (v107)), some (eI (v117)), some (eI (2)), some (eI (v117)), some (eI (i156))]) (s2 := [eR a0]) rfl (s_an rfl (pos_g I159 gA0 (by decide))) rfl ?_
                          refine j_gr (np := 204) rfl rfl I159 gA0 (by decide) (n := 69) rfl rfl rfl ?_
                          intro v171 e172 b173 z174
                          have b173 : g v171 = 85 := Nat.eq_of_beq_eq_true b173
                          refine w_t (np := 206) (l2 := [some (eR a0), some (eI (a1)), some (eI (i12)), some (eI (v46)), some (eI (i51)), some (eI (v86)), some (eI (v107)), some (eI (v117)), some (eI (2)), some (eI (v117)), some (eI (i156))]) (s2 := [eI (v117), eR v171]) rfl rfl rfl ?_
                          refine w_t (np := 208) (l2 := [some (eR a0), some (eI (a1)), some (eI (i12)), some (eI (v46)), some (eI (i51)), some (eI (v86)), some (eI (v107)), some (eI (v117)), some (eI (2)), some (eI (v117)), some (eI (i156))]) (s2 := [eI (i156), eI (v117), eR v171]) rfl rfl rfl ?_
                          obtain ⟨v175, e176⟩ : ∃ zz : Int, zz = (v117) + (i156) := ⟨_, rfl⟩
                          have b177 : 0 ≤ v175 ∧ v175 ≤ 10 := by omega
                          refine w_t (np := 209) (l2 := [some (eR a0), some (eI (a1)), some (eI (i12)), some (eI (v46)), some (eI (i51)), some (eI (v86)), some (eI (v107)), some (eI (v117)), some (eI (2)), some (eI (v117)), some (eI (i156))]) (s2 := [eI (v175), eR v171]) rfl (b_iadd (by rw [← e176]; exact ev_w_in (by omega) (by omega))) rfl ?_
                          refine w_cu (np := 212) (as := [eI (v175)]) (l2 := [some (eI (v175))]) (rest := [eR v171]) rfl rfl rfl (Nat.ble_eq.mp rfl) rfl rfl rfl rfl ?_
                          refine s_217e (a0 := v175) I159 (by omega) ?_
                          intro v178 b179 h180
                          show ex_q (dt_fg L ρ) rc (d + 3, (323, 212, [some (eR a0), some (eI (a1)), some (eI (i12)), some (eI (v46)), some (eI (i51)), some (eI (v86)), some (eI (v107)), some (eI (v117)), some (eI (2)), some (eI (v117)), some (eI (i156))], [eI (v178), eR v171]), f :: F, m158)
                          refine w_t (np := 213) (l2 := [some (eR a0), some (eI (a1)), some (eI (i12)), some (eI (v46)), some (eI (i51)), some (eI (v86)), some (eI (v107)), some (eI (v117)), some (eI (2)), some (eI (v117)), some (eI (i156))]) (s2 := [eI (1), eI (v178), eR v171]) rfl rfl rfl ?_
                          refine j_sb3 (np := 214) rfl rfl I159 b173 (by decide) (n := 10) rfl rfl (lo := 0) (hi := 1) (fun _ => rfl) (by omega) (by omega) (by decide) (by decide) ?_
                          intro m181 I182 W183
                          have F184 : Fr l_323 0 0 g μ m181 := F160.v W183 b173 rfl rfl
                          have p185 : CR g m181 := CR.fr p168 (Fr.o W183 b173 rfl) rfl
                          obtain ⟨v186, e187⟩ : ∃ zz : Int, zz = (i156) + (1) := ⟨_, rfl⟩
                          have b188 : 1 ≤ v186 ∧ v186 ≤ 2 := by omega
                          refine w_t (np := 217) (l2 := [some (eR a0), some (eI (a1)), some (eI (i12)), some (eI (v46)), some (eI (i51)), some (eI (v86)), some (eI (v107)), some (eI (v117)), some (eI (2)), some (eI (v117)), some (eI (v186))]) (s2 := []) rfl (b_iinc rfl (by rw [← e187]; exact ev_w_in (by omega) (by omega)) rfl) rfl ?_
                          refine w_go (t1 := 193) rfl rfl ?_
                          exact ih155 (4 - (v186)).toNat (by omega) m181 (v186) I182 F184 (by omega) (W183.addr k161 b173 gA0 (by decide)) (W183.addr k162 b173 gA0 (by decide)) (W183.addr k163 b173 gA0 (by decide)) (W183.addr k164 b173 b41 (by decide)) (W183.addr k165 b173 gA0 (by decide)) (W183.addr k166 b173 b71 (by decide)) (W183.addr k167 b173 gA0 (by decide))  p185  rfl
                      exact hL193 _ m135 (0) I136 F138 (by decide) (W137.addr (W127.addr k62 b121 gA0 (by decide)) b121 gA0 (by decide)) (W137.addr (W127.addr k63 b121 gA0 (by decide)) b121 gA0 (by decide)) (W137.addr (W127.addr k64 b121 gA0 (by decide)) b121 gA0 (by decide)) (W137.addr (W127.addr k65 b121 b41 (by decide)) b121 b41 (by decide)) (W137.addr (W127.addr e70 b121 gA0 (by decide)) b121 gA0 (by decide)) (W137.addr (W127.addr e80 b121 b71 (by decide)) b121 b71 (by decide)) (W137.addr (W127.addr e120 b121 gA0 (by decide)) b121 gA0 (by decide))  p139  rfl
                    · have b154 : 2 ≤ v150 ∧ v150 ≤ 2 := by omega
                      refine w_t (np := 183) (l2 := [some (eR a0), some (eI (a1)), some (eI (i12)), some (eI (v46)), some (eI (i51)), some (eI (v86)), some (eI (v107)), some (eI (v117)), some (eI (2)), o57, o58]) (s2 := [eI (v107)]) rfl rfl rfl ?_
                      refine w_go (t1 := 188) rfl rfl ?_
                      refine w_t (np := 190) (l2 := [some (eR a0), some (eI (a1)), some (eI (i12)), some (eI (v46)), some (eI (i51)), some (eI (v86)), some (eI (v107)), some (eI (v117)), some (eI (2)), some (eI (v107)), o58]) (s2 := []) rfl rfl rfl ?_
                      refine w_t (np := 191) (l2 := [some (eR a0), some (eI (a1)), some (eI (i12)), some (eI (v46)), some (eI (i51)), some (eI (v86)), some (eI (v107)), some (eI (v117)), some (eI (2)), some (eI (v107)), o58]) (s2 := [eI (0)]) rfl rfl rfl ?_
                      refine w_t (np := 193) (l2 := [some (eR a0), some (eI (a1)), some (eI (i12)), some (eI (v46)), some (eI (i51)), some (eI (v86)), some (eI (v107)), some (eI (v117)), some (eI (2)), some (eI (v107)), some (eI (0))]) (s2 := []) rfl rfl rfl ?_
                      have hL193 : ∀ (n154 : Nat) (m158 : eM) (i156 : Int), SI g m158 → Fr l_323 0 0 g μ m158 → (0 ≤ i156 ∧ i156 ≤ 4) → m158.1 a0 49 = v26 → m158.1 a0 47 = ((v30 : Nat) : Int) → m158.1 a0 43 = ((v39 : Nat) : Int) → m158.1 v39 (v43).toNat = v46 → m158.1 a0 45 = ((v69 : Nat) : Int) → m158.1 v69 (v76).toNat = v79 → m158.1 a0 52 = ((v119 : Nat) : Int) → CR g m158 → n154 = (4 - i156).toNat → ex_q (dt_fg L ρ) rc (d + 3, (323, 193, [some (eR a0), some (eI (a1)), some (eI (i12)), some (eI (v46)), some (eI (i51)), some (eI (v86)), some (eI (v107)), some (eI (v117)), some (eI (2)), some (eI (v107)), some (eI (i156))], []), f :: F, m158) := by
                        intro n154
                        induction n154 using Nat.strongRecOn with
                        | _ n154 ih155 =>
                        intro m158 i156 I159 F160 b157 k161 k162 k163 k164 k165 k166 k167 p168 hn169
                        refine w_t (np := 195) (l2 := [some (eR a0), some (eI (a1)), some (eI (i12)), some (eI (v46)), some (eI (i51)), some (eI (v86)), some (eI (v107)), some (eI (v117)), some (eI (2)), some (eI (v107)), some (eI (i156))]) (s2 := [eI (i156)]) rfl rfl rfl ?_
                        refine w_t (np := 197) (l2 := [some (eR a0), some (eI (a1)), some (eI (i12)), some (eI (v46)), some (eI (i51)), some (eI (v86)), some (eI (v107)), some (eI (v117)), some (eI (2)), some (eI (v107)), some (eI (i156))]) (s2 := [eI (2), eI (i156)]) rfl rfl rfl ?_
                        refine b_cge (t1 := 220) (t2 := 200) rfl rfl rfl (ev_w_in (by omega) (by omega)) rfl (fun g170 => ?_) (fun g170 => ?_)
                        · have b171 : 2 ≤ i156 ∧ i156 ≤ 4 := by omega
                          obtain ⟨v171, e172⟩ : ∃ zz : Int, zz = (i51) + (1) := ⟨_, rfl⟩
                          have b173 : 1 ≤ v171 ∧ v171 ≤ 4 := by omega
                          refine w_t (np := 223) (l2 := [some (eR a0), some (eI (a1)), some (eI (i12)), some (eI (v46)), some (eI (v171)), some (eI (v86)), some (eI (v107)), some (eI (v117)), some (eI (2)), some (eI (v107)), some (eI (i156))]) (s2 := []) rfl (b_iinc rfl (by rw [← e172]; exact ev_w_in (by omega) (by omega)) rfl) rfl ?_
                          refine w_go (t1 := 60) rfl rfl ?_
                          exact ih50 (4 - (v171)).toNat (by omega) m158 (v171) (some (eI (v86))) (some (eI (v107))) (some (eI (v117))) (some (eI (2))) (some (eI (v107))) (some (eI (i156))) I159 F160 (by omega) k161 k162 k163 k164  p168  rfl
                        · have b171 : 0 ≤ i156 ∧ i156 ≤ 1 := by omega
                          refine w_t (np := 201) (l2 := [some (eR a0), some (eI (a1)), some (eI (i12)), some (eI (v46)), some (eI (i51)), some (eI (v86)), some (eI (v107)), some (eI (v117)), some (eI (2)), some (eI (v107)), some (eI (i156))]) (s2 := [eR a0]) rfl (s_an rfl (pos_g I159 gA0 (by decide))) rfl ?_
                          refine j_gr (np := 204) rfl rfl I159 gA0 (by decide) (n := 69) rfl rfl rfl ?_
                          intro v171 e172 b173 z174
                          have b173 : g v171 = 85 := Nat.eq_of_beq_eq_true b173
                          refine w_t (np := 206) (l2 := [some (eR a0), some (eI (a1)), some (eI (i12)), some (eI (v46)), some (eI (i51)), some (eI (v86)), some (eI (v107)), some (eI (v117)), some (eI (2)), some (eI (v107)), some (eI (i156))]) (s2 := [eI (v107), eR v171]) rfl rfl rfl ?_
                          refine w_t (np := 208) (l2 := [some (eR a0), some (eI (a1)), some (eI (i12)), some (eI (v46)), some (eI (i51)), some (eI (v86)), some (eI (v107)), some (eI (v117)), some (eI (2)), some (eI (v107)), some (eI (i156))]) (s2 := [eI (i156), eI (v107), eR v171]) rfl rfl rfl ?_
                          obtain ⟨v175, e176⟩ : ∃ zz : Int, zz = (v107) + (i156) := ⟨_, rfl⟩
                          have b177 : 0 ≤ v175 ∧ v175 ≤ 10 := by omega
                          refine w_t (np := 209) (l2 := [some (eR a0), some (eI (a1)), some (eI (i12)), some (eI (v46)), some (eI (i51)), some (eI (v86)), some (eI (v107)), some (eI (v117)), some (eI (2)), some (eI (v107)), some (eI (i156))]) (s2 := [eI (v175), eR v171]) rfl (b_iadd (by rw [← e176]; exact ev_w_in (by omega) (by omega))) rfl ?_
                          refine w_cu (np := 212) (as := [eI (v175)]) (l2 := [some (eI (v175))]) (rest := [eR v171]) rfl rfl rfl (Nat.ble_eq.mp rfl) rfl rfl rfl rfl ?_
                          refine s_217e (a0 := v175) I159 (by omega) ?_
                          intro v178 b179 h180
                          show ex_q (dt_fg L ρ) rc (d + 3, (323, 212, [some (eR a0), some (eI (a1)), some (eI (i12)), some (eI (v46)), some (eI (i51)), some (eI (v86)), some (eI (v107)), some (eI (v117)), some (eI (2)), some (eI (v107)), some (eI (i156))], [eI (v178), eR v171]), f :: F, m158)
                          refine w_t (np := 213) (l2 := [some (eR a0), some (eI (a1)), some (eI (i12)), some (eI (v46)), some (eI (i51)), some (eI (v86)), some (eI (v107)), some (eI (v117)), some (eI (2)), some (eI (v107)), some (eI (i156))]) (s2 := [eI (1), eI (v178), eR v171]) rfl rfl rfl ?_
                          refine j_sb3 (np := 214) rfl rfl I159 b173 (by decide) (n := 10) rfl rfl (lo := 0) (hi := 1) (fun _ => rfl) (by omega) (by omega) (by decide) (by decide) ?_
                          intro m181 I182 W183
                          have F184 : Fr l_323 0 0 g μ m181 := F160.v W183 b173 rfl rfl
                          have p185 : CR g m181 := CR.fr p168 (Fr.o W183 b173 rfl) rfl
                          obtain ⟨v186, e187⟩ : ∃ zz : Int, zz = (i156) + (1) := ⟨_, rfl⟩
                          have b188 : 1 ≤ v186 ∧ v186 ≤ 2 := by omega
                          refine w_t (np := 217) (l2 := [some (eR a0), some (eI (a1)), some (eI (i12)), some (eI (v46)), some (eI (i51)), some (eI (v86)), some (eI (v107)), some (eI (v117)), some (eI (2)), some (eI (v107)), some (eI (v186))]) (s2 := []) rfl (b_iinc rfl (by rw [← e187]; exact ev_w_in (by omega) (by omega)) rfl) rfl ?_
                          refine w_go (t1 := 193) rfl rfl ?_
                          exact ih155 (4 - (v186)).toNat (by omega) m181 (v186) I182 F184 (by omega) (W183.addr k161 b173 gA0 (by decide)) (W183.addr k162 b173 gA0 (by decide)) (W183.addr k163 b173 gA0 (by decide)) (W183.addr k164 b173 b41 (by decide)) (W183.addr k165 b173 gA0 (by decide)) (W183.addr k166 b173 b71 (by decide)) (W183.addr k167 b173 gA0 (by decide))  p185  rfl
                      exact hL193 _ m135 (0) I136 F138 (by decide) (W137.addr (W127.addr k62 b121 gA0 (by decide)) b121 gA0 (by decide)) (W137.addr (W127.addr k63 b121 gA0 (by decide)) b121 gA0 (by decide)) (W137.addr (W127.addr k64 b121 gA0 (by decide)) b121 gA0 (by decide)) (W137.addr (W127.addr k65 b121 b41 (by decide)) b121 b41 (by decide)) (W137.addr (W127.addr e70 b121 gA0 (by decide)) b121 gA0 (by decide)) (W137.addr (W127.addr e80 b121 b71 (by decide)) b121 b71 (by decide)) (W137.addr (W127.addr e120 b121 gA0 (by decide)) b121 gA0 (by decide))  p139  rfl
                  · have b147 : 0 ≤ v140 ∧ v140 ≤ 0 := by omega
                    refine w_t (np := 21) (l2 := [some (eI (v46)), some (eI (v140))]) (s2 := [eI (3)]) rfl rfl rfl ?_
                    refine w_go (t1 := 25) rfl rfl ?_
                    refine b_ri rfl rfl ?_
                    show ex_q (dt_fg L ρ) rc (d + 3, (323, 166, [some (eR a0), some (eI (a1)), some (eI (i12)), some (eI (v46)), some (eI (i51)), some (eI (v86)), some (eI (v107)), some (eI (v117)), o56, o57, o58], [eI (3)]), f :: F, m135)
                    refine w_t (np := 168) (l2 := [some (eR a0), some (eI (a1)), some (eI (i12)), some (eI (v46)), some (eI (i51)), some (eI (v86)), some (eI (v107)), some (eI (v117)), some (eI (3)), o57, o58]) (s2 := []) rfl rfl rfl ?_
                    refine w_t (np := 170) (l2 := [some (eR a0), some (eI (a1)), some (eI (i12)), some (eI (v46)), some (eI (i51)), some (eI (v86)), some (eI (v107)), some (eI (v117)), some (eI (3)), o57, o58]) (s2 := [eI (v117)]) rfl rfl rfl ?_
                    refine w_t (np := 172) (l2 := [some (eR a0), some (eI (a1)), some (eI (i12)), some (eI (v46)), some (eI (i51)), some (eI (v86)), some (eI (v107)), some (eI (v117)), some (eI (3)), o57, o58]) (s2 := [eI (v107), eI (v117)]) rfl rfl rfl ?_
                    obtain ⟨v147, e148⟩ : ∃ zz : Int, zz = (v117) - (v107) := ⟨_, rfl⟩
                    have b149 : -9 ≤ v147 ∧ v147 ≤ 9 := by omega
                    refine w_t (np := 173) (l2 := [some (eR a0), some (eI (a1)), some (eI (i12)), some (eI (v46)), some (eI (i51)), some (eI (v86)), some (eI (v107)), some (eI (v117)), some (eI (3)), o57, o58]) (s2 := [eI (v147)]) rfl (b_isub (by rw [← e148]; exact ev_w_in (by omega) (by omega))) rfl ?_
                    refine w_cu (np := 176) (as := [eI (v147)]) (l2 := [some (eI (v147))]) (rest := []) rfl rfl rfl (Nat.ble_eq.mp rfl) rfl rfl rfl rfl ?_
                    refine s_217e (a0 := v147) I136 (by omega) ?_
                    intro v150 b151 h152
                    show ex_q (dt_fg L ρ) rc (d + 3, (323, 176, [some (eR a0), some (eI (a1)), some (eI (i12)), some (eI (v46)), some (eI (i51)), some (eI (v86)), some (eI (v107)), some (eI (v117)), some (eI (3)), o57, o58], [eI (v150)]), f :: F, m135)
                    refine w_t (np := 178) (l2 := [some (eR a0), some (eI (a1)), some (eI (i12)), some (eI (v46)), some (eI (i51)), some (eI (v86)), some (eI (v107)), some (eI (v117)), some (eI (3)), o57, o58]) (s2 := [eI (3), eI (v150)]) rfl rfl rfl ?_
                    refine b_cne (t1 := 186) (t2 := 181) rfl rfl rfl (ev_w_in (by omega) (by omega)) rfl (fun g153 => ?_) (fun g153 => ?_)
                    · refine w_t (np := 188) (l2 := [some (eR a0), some (eI (a1)), some (eI (i12)), some (eI (v46)), some (eI (i51)), some (eI (v86)), some (eI (v107)), some (eI (v117)), some (eI (3)), o57, o58]) (s2 := [eI (v117)]) rfl rfl rfl ?_
                      refine w_t (np := 190) (l2 := [some (eR a0), some (eI (a1)), some (eI (i12)), some (eI (v46)), some (eI (i51)), some (eI (v86)), some (eI (v107)), some (eI (v117)), some (eI (3)), some (eI (v117)), o58]) (s2 := []) rfl rfl rfl ?_
                      refine w_t (np := 191) (l2 := [some (eR a0), some (eI (a1)), some (eI (i12)), some (eI (v46)), some (eI (i51)), some (eI (v86)), some (eI (v107)), some (eI (v117)), some (eI (3)), some (eI (v117)), o58]) (s2 := [eI (0)]) rfl rfl rfl ?_
                      refine w_t (np := 193) (l2 := [some (eR a0), some (eI (a1)), some (eI (i12)), some (eI (v46)), some (eI (i51)), some (eI (v86)), some (eI (v107)), some (eI (v117)), some (eI (3)), some (eI (v117)), some (eI (0))]) (s2 := []) rfl rfl rfl ?_
                      have hL193 : ∀ (n154 : Nat) (m158 : eM) (i156 : Int), SI g m158 → Fr l_323 0 0 g μ m158 → (0 ≤ i156 ∧ i156 ≤ 4) → m158.1 a0 49 = v26 → m158.1 a0 47 = ((v30 : Nat) : Int) → m158.1 a0 43 = ((v39 : Nat) : Int) → m158.1 v39 (v43).toNat = v46 → m158.1 a0 45 = ((v69 : Nat) : Int) → m158.1 v69 (v76).toNat = v79 → m158.1 a0 52 = ((v119 : Nat) : Int) → CR g m158 → n154 = (4 - i156).toNat → ex_q (dt_fg L ρ) rc (d + 3, (323, 193, [some (eR a0), some (eI (a1)), some (eI (i12)), some (eI (v46)), some (eI (i51)), some (eI (v86)), some (eI (v107)), some (eI (v117)), some (eI (3)), some (eI (v117)), some (eI (i156))], []), f :: F, m158) := by
                        intro n154
                        induction n154 using Nat.strongRecOn with
                        | _ n154 ih155 =>
                        intro m158 i156 I159 F160 b157 k161 k162 k163 k164 k165 k166 k167 p168 hn169
                        refine w_t (np := 195) (l2 := [some (eR a0), some (eI (a1)), some (eI (i12)), some (eI (v46)), some (eI (i51)), some (eI (v86)), some (eI (v107)), some (eI (v117)), some (eI (3)), some (eI (v117)), some (eI (i156))]) (s2 := [eI (i156)]) rfl rfl rfl ?_
                        refine w_t (np := 197) (l2 := [some (eR a0), some (eI (a1)), some (eI (i12)), some (eI (v46)), some (eI (i51)), some (eI (v86)), some (eI (v107)), some (eI (v117)), some (eI (3)), some (eI (v117)), some (eI (i156))]) (s2 := [eI (3), eI (i156)]) rfl rfl rfl ?_
                        refine b_cge (t1 := 220) (t2 := 200) rfl rfl rfl (ev_w_in (by omega) (by omega)) rfl (fun g170 => ?_) (fun g170 => ?_)
                        · have b171 : 3 ≤ i156 ∧ i156 ≤ 4 := by omega
                          obtain ⟨v171, e172⟩ : ∃ zz : Int, zz = (i51) + (1) := ⟨_, rfl⟩
                          have b173 : 1 ≤ v171 ∧ v171 ≤ 4 := by omega
                          refine w_t (np := 223) (l2 := [some (eR a0), some (eI (a1)), some (eI (i12)), some (eI (v46)), some (eI (v171)), some (eI (v86)), some (eI (v107)), some (eI (v117)), some (eI (3)), some (eI (v117)), some (eI (i156))]) (s2 := []) rfl (b_iinc rfl (by rw [← e172]; exact ev_w_in (by omega) (by omega)) rfl) rfl ?_
                          refine w_go (t1 := 60) rfl rfl ?_
                          exact ih50 (4 - (v171)).toNat (by omega) m158 (v171) (some (eI (v86))) (some (eI (v107))) (some (eI (v117))) (some (eI (3))) (some (eI (v117))) (some (eI (i156))) I159 F160 (by omega) k161 k162 k163 k164  p168  rfl
                        · have b171 : 0 ≤ i156 ∧ i156 ≤ 2 := by omega
                          refine w_t (np := 201) (l2 := [some (eR a0), some (eI (a1)), some (eI (i12)), some (eI (v46)), some (eI (i51)), some (eI (v86)), some (eI (v107)), some (eI (v117)), some (eI (3)), some (eI (v117)), some (eI (i156))]) (s2 := [eR a0]) rfl (s_an rfl (pos_g I159 gA0 (by decide))) rfl ?_
                          refine j_gr (np := 204) rfl rfl I159 gA0 (by decide) (n := 69) rfl rfl rfl ?_
                          intro v171 e172 b173 z174
                          have b173 : g v171 = 85 := Nat.eq_of_beq_eq_true b173
                          refine w_t (np := 206) (l2 := [some (eR a0), some (eI (a1)), some (eI (i12)), some (eI (v46)), some (eI (i51)), some (eI (v86)), some (eI (v107)), some (eI (v117)), some (eI (3)), some (eI (v117)), some (eI (i156))]) (s2 := [eI (v117), eR v171]) rfl rfl rfl ?_
                          refine w_t (np := 208) (l2 := [some (eR a0), some (eI (a1)), some (eI (i12)), some (eI (v46)), some (eI (i51)), some (eI (v86)), some (eI (v107)), some (eI (v117)), some (eI (3)), some (eI (v117)), some (eI (i156))]) (s2 := [eI (i156), eI (v117), eR v171]) rfl rfl rfl ?_
                          obtain ⟨v175, e176⟩ : ∃ zz : Int, zz = (v117) + (i156) := ⟨_, rfl⟩
                          have b177 : 0 ≤ v175 ∧ v175 ≤ 11 := by omega
                          refine w_t (np := 209) (l2 := [some (eR a0), some (eI (a1)), some (eI (i12)), some (eI (v46)), some (eI (i51)), some (eI (v86)), some (eI (v107)), some (eI (v117)), some (eI (3)), some (eI (v117)), some (eI (i156))]) (s2 := [eI (v175), eR v171]) rfl (b_iadd (by rw [← e176]; exact ev_w_in (by omega) (by omega))) rfl ?_
                          refine w_cu (np := 212) (as := [eI (v175)]) (l2 := [some (eI (v175))]) (rest := [eR v171]) rfl rfl rfl (Nat.ble_eq.mp rfl) rfl rfl rfl rfl ?_
                          refine s_217e (a0 := v175) I159 (by omega) ?_
                          intro v178 b179 h180
                          show ex_q (dt_fg L ρ) rc (d + 3, (323, 212, [some (eR a0), some (eI (a1)), some (eI (i12)), some (eI (v46)), some (eI (i51)), some (eI (v86)), some (eI (v107)), some (eI (v117)), some (eI (3)), some (eI (v117)), some (eI (i156))], [eI (v178), eR v171]), f :: F, m158)
                          refine w_t (np := 213) (l2 := [some (eR a0), some (eI (a1)), some (eI (i12)), some (eI (v46)), some (eI (i51)), some (eI (v86)), some (eI (v107)), some (eI (v117)), some (eI (3)), some (eI (v117)), some (eI (i156))]) (s2 := [eI (1), eI (v178), eR v171]) rfl rfl rfl ?_
                          refine j_sb3 (np := 214) rfl rfl I159 b173 (by decide) (n := 10) rfl rfl (lo := 0) (hi := 1) (fun _ => rfl) (by omega) (by omega) (by decide) (by decide) ?_
                          intro m181 I182 W183
                          have F184 : Fr l_323 0 0 g μ m181 := F160.v W183 b173 rfl rfl
                          have p185 : CR g m181 := CR.fr p168 (Fr.o W183 b173 rfl) rfl
                          obtain ⟨v186, e187⟩ : ∃ zz : Int, zz = (i156) + (1) := ⟨_, rfl⟩
                          have b188 : 1 ≤ v186 ∧ v186 ≤ 3 := by omega
                          refine w_t (np := 217) (l2 := [some (eR a0), some (eI (a1)), some (eI (i12)), some (eI (v46)), some (eI (i51)), some (eI (v86)), some (eI (v107)), some (eI (v117)), some (eI (3)), some (eI (v117)), some (eI (v186))]) (s2 := []) rfl (b_iinc rfl (by rw [← e187]; exact ev_w_in (by omega) (by omega)) rfl) rfl ?_
                          refine w_go (t1 := 193) rfl rfl ?_
                          exact ih155 (4 - (v186)).toNat (by omega) m181 (v186) I182 F184 (by omega) (W183.addr k161 b173 gA0 (by decide)) (W183.addr k162 b173 gA0 (by decide)) (W183.addr k163 b173 gA0 (by decide)) (W183.addr k164 b173 b41 (by decide)) (W183.addr k165 b173 gA0 (by decide)) (W183.addr k166 b173 b71 (by decide)) (W183.addr k167 b173 gA0 (by decide))  p185  rfl
                      exact hL193 _ m135 (0) I136 F138 (by decide) (W137.addr (W127.addr k62 b121 gA0 (by decide)) b121 gA0 (by decide)) (W137.addr (W127.addr k63 b121 gA0 (by decide)) b121 gA0 (by decide)) (W137.addr (W127.addr k64 b121 gA0 (by decide)) b121 gA0 (by decide)) (W137.addr (W127.addr k65 b121 b41 (by decide)) b121 b41 (by decide)) (W137.addr (W127.addr e70 b121 gA0 (by decide)) b121 gA0 (by decide)) (W137.addr (W127.addr e80 b121 b71 (by decide)) b121 b71 (by decide)) (W137.addr (W127.addr e120 b121 gA0 (by decide)) b121 gA0 (by decide))  p139  rfl
                    · have b154 : 3 ≤ v150 ∧ v150 ≤ 3 := by omega
                      refine w_t (np := 183) (l2 := [some (eR a0), some (eI (a1)), some (eI (i12)), some (eI (v46)), some (eI (i51)), some (eI (v86)), some (eI (v107)), some (eI (v117)), some (eI (3)), o57, o58]) (s2 := [eI (v107)]) rfl rfl rfl ?_
                      refine w_go (t1 := 188) rfl rfl ?_
                      refine w_t (np := 190) (l2 := [some (eR a0), some (eI (a1)), some (eI (i12)), some (eI (v46)), some (eI (i51)), some (eI (v86)), some (eI (v107)), some (eI (v117)), some (eI (3)), some (eI (v107)), o58]) (s2 := []) rfl rfl rfl ?_
                      refine w_t (np := 191) (l2 := [some (eR a0), some (eI (a1)), some (eI (i12)), some (eI (v46)), some (eI (i51)), some (eI (v86)), some (eI (v107)), some (eI (v117)), some (eI (3)), some (eI (v107)), o58]) (s2 := [eI (0)]) rfl rfl rfl ?_
                      refine w_t (np := 193) (l2 := [some (eR a0), some (eI (a1)), some (eI (i12)), some (eI (v46)), some (eI (i51)), some (eI (v86)), some (eI (v107)), some (eI (v117)), some (eI (3)), some (eI (v107)), some (eI (0))]) (s2 := []) rfl rfl rfl ?_
                      have hL193 : ∀ (n154 : Nat) (m158 : eM) (i156 : Int), SI g m158 → Fr l_323 0 0 g μ m158 → (0 ≤ i156 ∧ i156 ≤ 4) → m158.1 a0 49 = v26 → m158.1 a0 47 = ((v30 : Nat) : Int) → m158.1 a0 43 = ((v39 : Nat) : Int) → m158.1 v39 (v43).toNat = v46 → m158.1 a0 45 = ((v69 : Nat) : Int) → m158.1 v69 (v76).toNat = v79 → m158.1 a0 52 = ((v119 : Nat) : Int) → CR g m158 → n154 = (4 - i156).toNat → ex_q (dt_fg L ρ) rc (d + 3, (323, 193, [some (eR a0), some (eI (a1)), some (eI (i12)), some (eI (v46)), some (eI (i51)), some (eI (v86)), some (eI (v107)), some (eI (v117)), some (eI (3)), some (eI (v107)), some (eI (i156))], []), f :: F, m158) := by
                        intro n154
                        induction n154 using Nat.strongRecOn with
                        | _ n154 ih155 =>
                        intro m158 i156 I159 F160 b157 k161 k162 k163 k164 k165 k166 k167 p168 hn169
                        refine w_t (np := 195) (l2 := [some (eR a0), some (eI (a1)), some (eI (i12)), some (eI (v46)), some (eI (i51)), some (eI (v86)), some (eI (v107)), some (eI (v117)), some (eI (3)), some (eI (v107)), some (eI (i156))]) (s2 := [eI (i156)]) rfl rfl rfl ?_
                        refine w_t (np := 197) (l2 := [some (eR a0), some (eI (a1)), some (eI (i12)), some (eI (v46)), some (eI (i51)), some (eI (v86)), some (eI (v107)), some (eI (v117)), some (eI (3)), some (eI (v107)), some (eI (i156))]) (s2 := [eI (3), eI (i156)]) rfl rfl rfl ?_
                        refine b_cge (t1 := 220) (t2 := 200) rfl rfl rfl (ev_w_in (by omega) (by omega)) rfl (fun g170 => ?_) (fun g170 => ?_)
                        · have b171 : 3 ≤ i156 ∧ i156 ≤ 4 := by omega
                          obtain ⟨v171, e172⟩ : ∃ zz : Int, zz = (i51) + (1) := ⟨_, rfl⟩
                          have b173 : 1 ≤ v171 ∧ v171 ≤ 4 := by omega
                          refine w_t (np := 223) (l2 := [some (eR a0), some (eI (a1)), some (eI (i12)), some (eI (v46)), some (eI (v171)), some (eI (v86)), some (eI (v107)), some (eI (v117)), some (eI (3)), some (eI (v107)), some (eI (i156))]) (s2 := []) rfl (b_iinc rfl (by rw [← e172]; exact ev_w_in (by omega) (by omega)) rfl) rfl ?_
                          refine w_go (t1 := 60) rfl rfl ?_
                          exact ih50 (4 - (v171)).toNat (by omega) m158 (v171) (some (eI (v86))) (some (eI (v107))) (some (eI (v117))) (some (eI (3))) (some (eI (v107))) (some (eI (i156))) I159 F160 (by omega) k161 k162 k163 k164  p168  rfl
                        · have b171 : 0 ≤ i156 ∧ i156 ≤ 2 := by omega
                          refine w_t (np := 201) (l2 := [some (eR a0), some (eI (a1)), some (eI (i12)), some (eI (v46)), some (eI (i51)), some (eI (v86)), some (eI (v107)), some (eI (v117)), some (eI (3)), some (eI (v107)), some (eI (i156))]) (s2 := [eR a0]) rfl (s_an rfl (pos_g I159 gA0 (by decide))) rfl ?_
                          refine j_gr (np := 204) rfl rfl I159 gA0 (by decide) (n := 69) rfl rfl rfl ?_
                          intro v171 e172 b173 z174
                          have b173 : g v171 = 85 := Nat.eq_of_beq_eq_true b173
                          refine w_t (np := 206) (l2 := [some (eR a0), some (eI (a1)), some (eI (i12)), some (eI (v46)), some (eI (i51)), some (eI (v86)), some (eI (v107)), some (eI (v117)), some (eI (3)), some (eI (v107)), some (eI (i156))]) (s2 := [eI (v107), eR v171]) rfl rfl rfl ?_
                          refine w_t (np := 208) (l2 := [some (eR a0), some (eI (a1)), some (eI (i12)), some (eI (v46)), some (eI (i51)), some (eI (v86)), some (eI (v107)), some (eI (v117)), some (eI (3)), some (eI (v107)), some (eI (i156))]) (s2 := [eI (i156), eI (v107), eR v171]) rfl rfl rfl ?_
                          obtain ⟨v175, e176⟩ : ∃ zz : Int, zz = (v107) + (i156) := ⟨_, rfl⟩
                          have b177 : 0 ≤ v175 ∧ v175 ≤ 11 := by omega
                          refine w_t (np := 209) (l2 := [some (eR a0), some (eI (a1)), some (eI (i12)), some (eI (v46)), some (eI (i51)), some (eI (v86)), some (eI (v107)), some (eI (v117)), some (eI (3)), some (eI (v107)), some (eI (i156))]) (s2 := [eI (v175), eR v171]) rfl (b_iadd (by rw [← e176]; exact ev_w_in (by omega) (by omega))) rfl ?_
                          refine w_cu (np := 212) (as := [eI (v175)]) (l2 := [some (eI (v175))]) (rest := [eR v171]) rfl rfl rfl (Nat.ble_eq.mp rfl) rfl rfl rfl rfl ?_
                          refine s_217e (a0 := v175) I159 (by omega) ?_
                          intro v178 b179 h180
                          show ex_q (dt_fg L ρ) rc (d + 3, (323, 212, [some (eR a0), some (eI (a1)), some (eI (i12)), some (eI (v46)), some (eI (i51)), some (eI (v86)), some (eI (v107)), some (eI (v117)), some (eI (3)), some (eI (v107)), some (eI (i156))], [eI (v178), eR v171]), f :: F, m158)
                          refine w_t (np := 213) (l2 := [some (eR a0), some (eI (a1)), some (eI (i12)), some (eI (v46)), some (eI (i51)), some (eI (v86)), some (eI (v107)), some (eI (v117)), some (eI (3)), some (eI (v107)), some (eI (i156))]) (s2 := [eI (1), eI (v178), eR v171]) rfl rfl rfl ?_
                          refine j_sb3 (np := 214) rfl rfl I159 b173 (by decide) (n := 10) rfl rfl (lo := 0) (hi := 1) (fun _ => rfl) (by omega) (by omega) (by decide) (by decide) ?_
                          intro m181 I182 W183
                          have F184 : Fr l_323 0 0 g μ m181 := F160.v W183 b173 rfl rfl
                          have p185 : CR g m181 := CR.fr p168 (Fr.o W183 b173 rfl) rfl
                          obtain ⟨v186, e187⟩ : ∃ zz : Int, zz = (i156) + (1) := ⟨_, rfl⟩
                          have b188 : 1 ≤ v186 ∧ v186 ≤ 3 := by omega
                          refine w_t (np := 217) (l2 := [some (eR a0), some (eI (a1)), some (eI (i12)), some (eI (v46)), some (eI (i51)), some (eI (v86)), some (eI (v107)), some (eI (v117)), some (eI (3)), some (eI (v107)), some (eI (v186))]) (s2 := []) rfl (b_iinc rfl (by rw [← e187]; exact ev_w_in (by omega) (by omega)) rfl) rfl ?_
                          refine w_go (t1 := 193) rfl rfl ?_
                          exact ih155 (4 - (v186)).toNat (by omega) m181 (v186) I182 F184 (by omega) (W183.addr k161 b173 gA0 (by decide)) (W183.addr k162 b173 gA0 (by decide)) (W183.addr k163 b173 gA0 (by decide)) (W183.addr k164 b173 b41 (by decide)) (W183.addr k165 b173 gA0 (by decide)) (W183.addr k166 b173 b71 (by decide)) (W183.addr k167 b173 gA0 (by decide))  p185  rfl
                      exact hL193 _ m135 (0) I136 F138 (by decide) (W137.addr (W127.addr k62 b121 gA0 (by decide)) b121 gA0 (by decide)) (W137.addr (W127.addr k63 b121 gA0 (by decide)) b121 gA0 (by decide)) (W137.addr (W127.addr k64 b121 gA0 (by decide)) b121 gA0 (by decide)) (W137.addr (W127.addr k65 b121 b41 (by decide)) b121 b41 (by decide)) (W137.addr (W127.addr e70 b121 gA0 (by decide)) b121 gA0 (by decide)) (W137.addr (W127.addr e80 b121 b71 (by decide)) b121 b71 (by decide)) (W137.addr (W127.addr e120 b121 gA0 (by decide)) b121 gA0 (by decide))  p139  rfl
                · have b146 : 0 ≤ v46 ∧ v46 ≤ 0 := by omega
                  refine w_t (np := 5) (l2 := [some (eI (v46)), some (eI (v140))]) (s2 := [eI (v140)]) rfl rfl rfl ?_
                  refine b_ine (t1 := 12) (t2 := 8) rfl rfl rfl (ev_w_in (by omega) (by omega)) (fun g146 => ?_) (fun g146 => ?_)
                  · have b147 : 1 ≤ v140 ∧ v140 ≤ 1 := by omega
                    refine w_t (np := 13) (l2 := [some (eI (v46)), some (eI (v140))]) (s2 := [eI (4)]) rfl rfl rfl ?_
                    refine w_go (t1 := 25) rfl rfl ?_
                    refine b_ri rfl rfl ?_
                    show ex_q (dt_fg L ρ) rc (d + 3, (323, 166, [some (eR a0), some (eI (a1)), some (eI (i12)), some (eI (v46)), some (eI (i51)), some (eI (v86)), some (eI (v107)), some (eI (v117)), o56, o57, o58], [eI (4)]), f :: F, m135)
                    refine w_t (np := 168) (l2 := [some (eR a0), some (eI (a1)), some (eI (i12)), some (eI (v46)), some (eI (i51)), some (eI (v86)), some (eI (v107)), some (eI (v117)), some (eI (4)), o57, o58]) (s2 := []) rfl rfl rfl ?_
                    refine w_t (np := 170) (l2 := [some (eR a0), some (eI (a1)), some (eI (i12)), some (eI (v46)), some (eI (i51)), some (eI (v86)), some (eI (v107)), some (eI (v117)), some (eI (4)), o57, o58]) (s2 := [eI (v117)]) rfl rfl rfl ?_
                    refine w_t (np := 172) (l2 := [some (eR a0), some (eI (a1)), some (eI (i12)), some (eI (v46)), some (eI (i51)), some (eI (v86)), some (eI (v107)), some (eI (v117)), some (eI (4)), o57, o58]) (s2 := [eI (v107), eI (v117)]) rfl rfl rfl ?_
                    obtain ⟨v147, e148⟩ : ∃ zz : Int, zz = (v117) - (v107) := ⟨_, rfl⟩
                    have b149 : -9 ≤ v147 ∧ v147 ≤ 9 := by omega
                    refine w_t (np := 173) (l2 := [some (eR a0), some (eI (a1)), some (eI (i12)), some (eI (v46)), some (eI (i51)), some (eI (v86)), some (eI (v107)), some (eI (v117)), some (eI (4)), o57, o58]) (s2 := [eI (v147)]) rfl (b_isub (by rw [← e148]; exact ev_w_in (by omega) (by omega))) rfl ?_
                    refine w_cu (np := 176) (as := [eI (v147)]) (l2 := [some (eI (v147))]) (rest := []) rfl rfl rfl (Nat.ble_eq.mp rfl) rfl rfl rfl rfl ?_
                    refine s_217e (a0 := v147) I136 (by omega) ?_
                    intro v150 b151 h152
                    show ex_q (dt_fg L ρ) rc (d + 3, (323, 176, [some (eR a0), some (eI (a1)), some (eI (i12)), some (eI (v46)), some (eI (i51)), some (eI (v86)), some (eI (v107)), some (eI (v117)), some (eI (4)), o57, o58], [eI (v150)]), f :: F, m135)
                    refine w_t (np := 178) (l2 := [some (eR a0), some (eI (a1)), some (eI (i12)), some (eI (v46)), some (eI (i51)), some (eI (v86)), some (eI (v107)), some (eI (v117)), some (eI (4)), o57, o58]) (s2 := [eI (4), eI (v150)]) rfl rfl rfl ?_
                    refine b_cne (t1 := 186) (t2 := 181) rfl rfl rfl (ev_w_in (by omega) (by omega)) rfl (fun g153 => ?_) (fun g153 => ?_)
                    · refine w_t (np := 188) (l2 := [some (eR a0), some (eI (a1)), some (eI (i12)), some (eI (v46)), some (eI (i51)), some (eI (v86)), some (eI (v107)), some (eI (v117)), some (eI (4)), o57, o58]) (s2 := [eI (v117)]) rfl rfl rfl ?_
                      refine w_t (np := 190) (l2 := [some (eR a0), some (eI (a1)), some (eI (i12)), some (eI (v46)), some (eI (i51)), some (eI (v86)), some (eI (v107)), some (eI (v117)), some (eI (4)), some (eI (v117)), o58]) (s2 := []) rfl rfl rfl ?_
                      refine w_t (np := 191) (l2 := [some (eR a0), some (eI (a1)), some (eI (i12)), some (eI (v46)), some (eI (i51)), some (eI (v86)), some (eI (v107)), some (eI (v117)), some (eI (4)), some (eI (v117)), o58]) (s2 := [eI (0)]) rfl rfl rfl ?_
                      refine w_t (np := 193) (l2 := [some (eR a0), some (eI (a1)), some (eI (i12)), some (eI (v46)), some (eI (i51)), some (eI (v86)), some (eI (v107)), some (eI (v117)), some (eI (4)), some (eI (v117)), some (eI (0))]) (s2 := []) rfl rfl rfl ?_
                      have hL193 : ∀ (n154 : Nat) (m158 : eM) (i156 : Int), SI g m158 → Fr l_323 0 0 g μ m158 → (0 ≤ i156 ∧ i156 ≤ 4) → m158.1 a0 49 = v26 → m158.1 a0 47 = ((v30 : Nat) : Int) → m158.1 a0 43 = ((v39 : Nat) : Int) → m158.1 v39 (v43).toNat = v46 → m158.1 a0 45 = ((v69 : Nat) : Int) → m158.1 v69 (v76).toNat = v79 → m158.1 a0 52 = ((v119 : Nat) : Int) → CR g m158 → n154 = (4 - i156).toNat → ex_q (dt_fg L ρ) rc (d + 3, (323, 193, [some (eR a0), some (eI (a1)), some (eI (i12)), some (eI (v46)), some (eI (i51)), some (eI (v86)), some (eI (v107)), some (eI (v117)), some (eI (4)), some (eI (v117)), some (eI (i156))], []), f :: F, m158) := by
                        intro n154
                        induction n154 using Nat.strongRecOn with
                        | _ n154 ih155 =>
                        intro m158 i156 I159 F160 b157 k161 k162 k163 k164 k165 k166 k167 p168 hn169
                        refine w_t (np := 195) (l2 := [some (eR a0), some (eI (a1)), some (eI (i12)), some (eI (v46)), some (eI (i51)), some (eI (v86)), some (eI (v107)), some (eI (v117)), some (eI (4)), some (eI (v117)), some (eI (i156))]) (s2 := [eI (i156)]) rfl rfl rfl ?_
                        refine w_t (np := 197) (l2 := [some (eR a0), some (eI (a1)), some (eI (i12)), some (eI (v46)), some (eI (i51)), some (eI (v86)), some (eI (v107)), some (eI (v117)), some (eI (4)), some (eI (v117)), some (eI (i156))]) (s2 := [eI (4), eI (i156)]) rfl rfl rfl ?_
                        refine b_cge (t1 := 220) (t2 := 200) rfl rfl rfl (ev_w_in (by omega) (by omega)) rfl (fun g170 => ?_) (fun g170 => ?_)
                        · have b171 : 4 ≤ i156 ∧ i156 ≤ 4 := by omega
                          obtain ⟨v171, e172⟩ : ∃ zz : Int, zz = (i51) + (1) := ⟨_, rfl⟩
                          have b173 : 1 ≤ v171 ∧ v171 ≤ 4 := by omega
                          refine w_t (np := 223) (l2 := [some (eR a0), some (eI (a1)), some (eI (i12)), some (eI (v46)), some (eI (v171)), some (eI (v86)), some (eI (v107)), some (eI (v117)), some (eI (4)), some (eI (v117)), some (eI (i156))]) (s2 := []) rfl (b_iinc rfl (by rw [← e172]; exact ev_w_in (by omega) (by omega)) rfl) rfl ?_
                          refine w_go (t1 := 60) rfl rfl ?_
                          exact ih50 (4 - (v171)).toNat (by omega) m158 (v171) (some (eI (v86))) (some (eI (v107))) (some (eI (v117))) (some (eI (4))) (some (eI (v117))) (some (eI (i156))) I159 F160 (by omega) k161 k162 k163 k164  p168  rfl
                        · have b171 : 0 ≤ i156 ∧ i156 ≤ 3 := by omega
                          refine w_t (np := 201) (l2 := [some (eR a0), some (eI (a1)), some (eI (i12)), some (eI (v46)), some (eI (i51)), some (eI (v86)), some (eI (v107)), some (eI (v117)), some (eI (4)), some (eI (v117)), some (eI (i156))]) (s2 := [eR a0]) rfl (s_an rfl (pos_g I159 gA0 (by decide))) rfl ?_
                          refine j_gr (np := 204) rfl rfl I159 gA0 (by decide) (n := 69) rfl rfl rfl ?_
                          intro v171 e172 b173 z174
                          have b173 : g v171 = 85 := Nat.eq_of_beq_eq_true b173
                          refine w_t (np := 206) (l2 := [some (eR a0), some (eI (a1)), some (eI (i12)), some (eI (v46)), some (eI (i51)), some (eI (v86)), some (eI (v107)), some (eI (v117)), some (eI (4)), some (eI (v117)), some (eI (i156))]) (s2 := [eI (v117), eR v171]) rfl rfl rfl ?_
                          refine w_t (np := 208) (l2 := [some (eR a0), some (eI (a1)), some (eI (i12)), some (eI (v46)), some (eI (i51)), some (eI (v86)), some (eI (v107)), some (eI (v117)), some (eI (4)), some (eI (v117)), some (eI (i156))]) (s2 := [eI (i156), eI (v117), eR v171]) rfl rfl rfl ?_
                          obtain ⟨v175, e176⟩ : ∃ zz : Int, zz = (v117) + (i156) := ⟨_, rfl⟩
                          have b177 : 0 ≤ v175 ∧ v175 ≤ 12 := by omega
                          refine w_t (np := 209) (l2 := [some (eR a0), some (eI (a1)), some (eI (i12)), some (eI (v46)), some (eI (i51)), some (eI (v86)), some (eI (v107)), some (eI (v117)), some (eI (4)), some (eI (v117)), some (eI (i156))]) (s2 := [eI (v175), eR v171]) rfl (b_iadd (by rw [← e176]; exact ev_w_in (by omega) (by omega))) rfl ?_
                          refine w_cu (np := 212) (as := [eI (v175)]) (l2 := [some (eI (v175))]) (rest := [eR v171]) rfl rfl rfl (Nat.ble_eq.mp rfl) rfl rfl rfl rfl ?_
                          refine s_217e (a0 := v175) I159 (by omega) ?_
                          intro v178 b179 h180
                          show ex_q (dt_fg L ρ) rc (d + 3, (323, 212, [some (eR a0), some (eI (a1)), some (eI (i12)), some (eI (v46)), some (eI (i51)), some (eI (v86)), some (eI (v107)), some (eI (v117)), some (eI (4)), some (eI (v117)), some (eI (i156))], [eI (v178), eR v171]), f :: F, m158)
                          refine w_t (np := 213) (l2 := [some (eR a0), some (eI (a1)), some (eI (i12)), some (eI (v46)), some (eI (i51)), some (eI (v86)), some (eI (v107)), some (eI (v117)), some (eI (4)), some (eI (v117)), some (eI (i156))]) (s2 := [eI (1), eI (v178), eR v171]) rfl rfl rfl ?_
                          refine j_sb3 (np := 214) rfl rfl I159 b173 (by decide) (n := 10) rfl rfl (lo := 0) (hi := 1) (fun _ => rfl) (by omega) (by omega) (by decide) (by decide) ?_
                          intro m181 I182 W183
                          have F184 : Fr l_323 0 0 g μ m181 := F160.v W183 b173 rfl rfl
                          have p185 : CR g m181 := CR.fr p168 (Fr.o W183 b173 rfl) rfl
                          obtain ⟨v186, e187⟩ : ∃ zz : Int, zz = (i156) + (1) := ⟨_, rfl⟩
                          have b188 : 1 ≤ v186 ∧ v186 ≤ 4 := by omega
                          refine w_t (np := 217) (l2 := [some (eR a0), some (eI (a1)), some (eI (i12)), some (eI (v46)), some (eI (i51)), some (eI (v86)), some (eI (v107)), some (eI (v117)), some (eI (4)), some (eI (v117)), some (eI (v186))]) (s2 := []) rfl (b_iinc rfl (by rw [← e187]; exact ev_w_in (by omega) (by omega)) rfl) rfl ?_
                          refine w_go (t1 := 193) rfl rfl ?_
                          exact ih155 (4 - (v186)).toNat (by omega) m181 (v186) I182 F184 (by omega) (W183.addr k161 b173 gA0 (by decide)) (W183.addr k162 b173 gA0 (by decide)) (W183.addr k163 b173 gA0 (by decide)) (W183.addr k164 b173 b41 (by decide)) (W183.addr k165 b173 gA0 (by decide)) (W183.addr k166 b173 b71 (by decide)) (W183.addr k167 b173 gA0 (by decide))  p185  rfl
                      exact hL193 _ m135 (0) I136 F138 (by decide) (W137.addr (W127.addr k62 b121 gA0 (by decide)) b121 gA0 (by decide)) (W137.addr (W127.addr k63 b121 gA0 (by decide)) b121 gA0 (by decide)) (W137.addr (W127.addr k64 b121 gA0 (by decide)) b121 gA0 (by decide)) (W137.addr (W127.addr k65 b121 b41 (by decide)) b121 b41 (by decide)) (W137.addr (W127.addr e70 b121 gA0 (by decide)) b121 gA0 (by decide)) (W137.addr (W127.addr e80 b121 b71 (by decide)) b121 b71 (by decide)) (W137.addr (W127.addr e120 b121 gA0 (by decide)) b121 gA0 (by decide))  p139  rfl
                    · have b154 : 4 ≤ v150 ∧ v150 ≤ 4 := by omega
                      refine w_t (np := 183) (l2 := [some (eR a0), some (eI (a1)), some (eI (i12)), some (eI (v46)), some (eI (i51)), some (eI (v86)), some (eI (v107)), some (eI (v117)), some (eI (4)), o57, o58]) (s2 := [eI (v107)]) rfl rfl rfl ?_
                      refine w_go (t1 := 188) rfl rfl ?_
                      refine w_t (np := 190) (l2 := [some (eR a0), some (eI (a1)), some (eI (i12)), some (eI (v46)), some (eI (i51)), some (eI (v86)), some (eI (v107)), some (eI (v117)), some (eI (4)), some (eI (v107)), o58]) (s2 := []) rfl rfl rfl ?_
                      refine w_t (np := 191) (l2 := [some (eR a0), some (eI (a1)), some (eI (i12)), some (eI (v46)), some (eI (i51)), some (eI (v86)), some (eI (v107)), some (eI (v117)), some (eI (4)), some (eI (v107)), o58]) (s2 := [eI (0)]) rfl rfl rfl ?_
                      refine w_t (np := 193) (l2 := [some (eR a0), some (eI (a1)), some (eI (i12)), some (eI (v46)), some (eI (i51)), some (eI (v86)), some (eI (v107)), some (eI (v117)), some (eI (4)), some (eI (v107)), some (eI (0))]) (s2 := []) rfl rfl rfl ?_
                      have hL193 : ∀ (n154 : Nat) (m158 : eM) (i156 : Int), SI g m158 → Fr l_323 0 0 g μ m158 → (0 ≤ i156 ∧ i156 ≤ 4) → m158.1 a0 49 = v26 → m158.1 a0 47 = ((v30 : Nat) : Int) → m158.1 a0 43 = ((v39 : Nat) : Int) → m158.1 v39 (v43).toNat = v46 → m158.1 a0 45 = ((v69 : Nat) : Int) → m158.1 v69 (v76).toNat = v79 → m158.1 a0 52 = ((v119 : Nat) : Int) → CR g m158 → n154 = (4 - i156).toNat → ex_q (dt_fg L ρ) rc (d + 3, (323, 193, [some (eR a0), some (eI (a1)), some (eI (i12)), some (eI (v46)), some (eI (i51)), some (eI (v86)), some (eI (v107)), some (eI (v117)), some (eI (4)), some (eI (v107)), some (eI (i156))], []), f :: F, m158) := by
                        intro n154
                        induction n154 using Nat.strongRecOn with
                        | _ n154 ih155 =>
                        intro m158 i156 I159 F160 b157 k161 k162 k163 k164 k165 k166 k167 p168 hn169
                        refine w_t (np := 195) (l2 := [some (eR a0), some (eI (a1)), some (eI (i12)), some (eI (v46)), some (eI (i51)), some (eI (v86)), some (eI (v107)), some (eI (v117)), some (eI (4)), some (eI (v107)), some (eI (i156))]) (s2 := [eI (i156)]) rfl rfl rfl ?_
                        refine w_t (np := 197) (l2 := [some (eR a0), some (eI (a1)), some (eI (i12)), some (eI (v46)), some (eI (i51)), some (eI (v86)), some (eI (v107)), some (eI (v117)), some (eI (4)), some (eI (v107)), some (eI (i156))]) (s2 := [eI (4), eI (i156)]) rfl rfl rfl ?_
                        refine b_cge (t1 := 220) (t2 := 200) rfl rfl rfl (ev_w_in (by omega) (by omega)) rfl (fun g170 => ?_) (fun g170 => ?_)
                        · have b171 : 4 ≤ i156 ∧ i156 ≤ 4 := by omega
                          obtain ⟨v171, e172⟩ : ∃ zz : Int, zz = (i51) + (1) := ⟨_, rfl⟩
                          have b173 : 1 ≤ v171 ∧ v171 ≤ 4 := by omega
                          refine w_t (np := 223) (l2 := [some (eR a0), some (eI (a1)), some (eI (i12)), some (eI (v46)), some (eI (v171)), some (eI (v86)), some (eI (v107)), some (eI (v117)), some (eI (4)), some (eI (v107)), some (eI (i156))]) (s2 := []) rfl (b_iinc rfl (by rw [← e172]; exact ev_w_in (by omega) (by omega)) rfl) rfl ?_
                          refine w_go (t1 := 60) rfl rfl ?_
                          exact ih50 (4 - (v171)).toNat (by omega) m158 (v171) (some (eI (v86))) (some (eI (v107))) (some (eI (v117))) (some (eI (4))) (some (eI (v107))) (some (eI (i156))) I159 F160 (by omega) k161 k162 k163 k164  p168  rfl
                        · have b171 : 0 ≤ i156 ∧ i156 ≤ 3 := by omega
                          refine w_t (np := 201) (l2 := [some (eR a0), some (eI (a1)), some (eI (i12)), some (eI (v46)), some (eI (i51)), some (eI (v86)), some (eI (v107)), some (eI (v117)), some (eI (4)), some (eI (v107)), some (eI (i156))]) (s2 := [eR a0]) rfl (s_an rfl (pos_g I159 gA0 (by decide))) rfl ?_
                          refine j_gr (np := 204) rfl rfl I159 gA0 (by decide) (n := 69) rfl rfl rfl ?_
                          intro v171 e172 b173 z174
                          have b173 : g v171 = 85 := Nat.eq_of_beq_eq_true b173
                          refine w_t (np := 206) (l2 := [some (eR a0), some (eI (a1)), some (eI (i12)), some (eI (v46)), some (eI (i51)), some (eI (v86)), some (eI (v107)), some (eI (v117)), some (eI (4)), some (eI (v107)), some (eI (i156))]) (s2 := [eI (v107), eR v171]) rfl rfl rfl ?_
                          refine w_t (np := 208) (l2 := [some (eR a0), some (eI (a1)), some (eI (i12)), some (eI (v46)), some (eI (i51)), some (eI (v86)), some (eI (v107)), some (eI (v117)), some (eI (4)), some (eI (v107)), some (eI (i156))]) (s2 := [eI (i156), eI (v107), eR v171]) rfl rfl rfl ?_
                          obtain ⟨v175, e176⟩ : ∃ zz : Int, zz = (v107) + (i156) := ⟨_, rfl⟩
                          have b177 : 0 ≤ v175 ∧ v175 ≤ 12 := by omega
                          refine w_t (np := 209) (l2 := [some (eR a0), some (eI (a1)), some (eI (i12)), some (eI (v46)), some (eI (i51)), some (eI (v86)), some (eI (v107)), some (eI (v117)), some (eI (4)), some (eI (v107)), some (eI (i156))]) (s2 := [eI (v175), eR v171]) rfl (b_iadd (by rw [← e176]; exact ev_w_in (by omega) (by omega))) rfl ?_
                          refine w_cu (np := 212) (as := [eI (v175)]) (l2 := [some (eI (v175))]) (rest := [eR v171]) rfl rfl rfl (Nat.ble_eq.mp rfl) rfl rfl rfl rfl ?_
                          refine s_217e (a0 := v175) I159 (by omega) ?_
                          intro v178 b179 h180
                          show ex_q (dt_fg L ρ) rc (d + 3, (323, 212, [some (eR a0), some (eI (a1)), some (eI (i12)), some (eI (v46)), some (eI (i51)), some (eI (v86)), some (eI (v107)), some (eI (v117)), some (eI (4)), some (eI (v107)), some (eI (i156))], [eI (v178), eR v171]), f :: F, m158)
                          refine w_t (np := 213) (l2 := [some (eR a0), some (eI (a1)), some (eI (i12)), some (eI (v46)), some (eI (i51)), some (eI (v86)), some (eI (v107)), some (eI (v117)), some (eI (4)), some (eI (v107)), some (eI (i156))]) (s2 := [eI (1), eI (v178), eR v171]) rfl rfl rfl ?_
                          refine j_sb3 (np := 214) rfl rfl I159 b173 (by decide) (n := 10) rfl rfl (lo := 0) (hi := 1) (fun _ => rfl) (by omega) (by omega) (by decide) (by decide) ?_
                          intro m181 I182 W183
                          have F184 : Fr l_323 0 0 g μ m181 := F160.v W183 b173 rfl rfl
                          have p185 : CR g m181 := CR.fr p168 (Fr.o W183 b173 rfl) rfl
                          obtain ⟨v186, e187⟩ : ∃ zz : Int, zz = (i156) + (1) := ⟨_, rfl⟩
                          have b188 : 1 ≤ v186 ∧ v186 ≤ 4 := by omega
                          refine w_t (np := 217) (l2 := [some (eR a0), some (eI (a1)), some (eI (i12)), some (eI (v46)), some (eI (i51)), some (eI (v86)), some (eI (v107)), some (eI (v117)), some (eI (4)), some (eI (v107)), some (eI (v186))]) (s2 := []) rfl (b_iinc rfl (by rw [← e187]; exact ev_w_in (by omega) (by omega)) rfl) rfl ?_
                          refine w_go (t1 := 193) rfl rfl ?_
                          exact ih155 (4 - (v186)).toNat (by omega) m181 (v186) I182 F184 (by omega) (W183.addr k161 b173 gA0 (by decide)) (W183.addr k162 b173 gA0 (by decide)) (W183.addr k163 b173 gA0 (by decide)) (W183.addr k164 b173 b41 (by decide)) (W183.addr k165 b173 gA0 (by decide)) (W183.addr k166 b173 b71 (by decide)) (W183.addr k167 b173 gA0 (by decide))  p185  rfl
                      exact hL193 _ m135 (0) I136 F138 (by decide) (W137.addr (W127.addr k62 b121 gA0 (by decide)) b121 gA0 (by decide)) (W137.addr (W127.addr k63 b121 gA0 (by decide)) b121 gA0 (by decide)) (W137.addr (W127.addr k64 b121 gA0 (by decide)) b121 gA0 (by decide)) (W137.addr (W127.addr k65 b121 b41 (by decide)) b121 b41 (by decide)) (W137.addr (W127.addr e70 b121 gA0 (by decide)) b121 gA0 (by decide)) (W137.addr (W127.addr e80 b121 b71 (by decide)) b121 b71 (by decide)) (W137.addr (W127.addr e120 b121 gA0 (by decide)) b121 gA0 (by decide))  p139  rfl
                  · have b147 : 0 ≤ v140 ∧ v140 ≤ 0 := by omega
                    refine w_t (np := 9) (l2 := [some (eI (v46)), some (eI (v140))]) (s2 := [eI (1)]) rfl rfl rfl ?_
                    refine w_go (t1 := 25) rfl rfl ?_
                    refine b_ri rfl rfl ?_
                    show ex_q (dt_fg L ρ) rc (d + 3, (323, 166, [some (eR a0), some (eI (a1)), some (eI (i12)), some (eI (v46)), some (eI (i51)), some (eI (v86)), some (eI (v107)), some (eI (v117)), o56, o57, o58], [eI (1)]), f :: F, m135)
                    refine w_t (np := 168) (l2 := [some (eR a0), some (eI (a1)), some (eI (i12)), some (eI (v46)), some (eI (i51)), some (eI (v86)), some (eI (v107)), some (eI (v117)), some (eI (1)), o57, o58]) (s2 := []) rfl rfl rfl ?_
                    refine w_t (np := 170) (l2 := [some (eR a0), some (eI (a1)), some (eI (i12)), some (eI (v46)), some (eI (i51)), some (eI (v86)), some (eI (v107)), some (eI (v117)), some (eI (1)), o57, o58]) (s2 := [eI (v117)]) rfl rfl rfl ?_
                    refine w_t (np := 172) (l2 := [some (eR a0), some (eI (a1)), some (eI (i12)), some (eI (v46)), some (eI (i51)), some (eI (v86)), some (eI (v107)), some (eI (v117)), some (eI (1)), o57, o58]) (s2 := [eI (v107), eI (v117)]) rfl rfl rfl ?_
                    obtain ⟨v147, e148⟩ : ∃ zz : Int, zz = (v117) - (v107) := ⟨_, rfl⟩
                    have b149 : -9 ≤ v147 ∧ v147 ≤ 9 := by omega
                    refine w_t (np := 173) (l2 := [some (eR a0), some (eI (a1)), some (eI (i12)), some (eI (v46)), some (eI (i51)), some (eI (v86)), some (eI (v107)), some (eI (v117)), some (eI (1)), o57, o58]) (s2 := [eI (v147)]) rfl (b_isub (by rw [← e148]; exact ev_w_in (by omega) (by omega))) rfl ?_
                    refine w_cu (np := 176) (as := [eI (v147)]) (l2 := [some (eI (v147))]) (rest := []) rfl rfl rfl (Nat.ble_eq.mp rfl) rfl rfl rfl rfl ?_
                    refine s_217e (a0 := v147) I136 (by omega) ?_
                    intro v150 b151 h152
                    show ex_q (dt_fg L ρ) rc (d + 3, (323, 176, [some (eR a0), some (eI (a1)), some (eI (i12)), some (eI (v46)), some (eI (i51)), some (eI (v86)), some (eI (v107)), some (eI (v117)), some (eI (1)), o57, o58], [eI (v150)]), f :: F, m135)
                    refine w_t (np := 178) (l2 := [some (eR a0), some (eI (a1)), some (eI (i12)), some (eI (v46)), some (eI (i51)), some (eI (v86)), some (eI (v107)), some (eI (v117)), some (eI (1)), o57, o58]) (s2 := [eI (1), eI (v150)]) rfl rfl rfl ?_
                    refine b_cne (t1 := 186) (t2 := 181) rfl rfl rfl (ev_w_in (by omega) (by omega)) rfl (fun g153 => ?_) (fun g153 => ?_)
                    · refine w_t (np := 188) (l2 := [some (eR a0), some (eI (a1)), some (eI (i12)), some (eI (v46)), some (eI (i51)), some (eI (v86)), some (eI (v107)), some (eI (v117)), some (eI (1)), o57, o58]) (s2 := [eI (v117)]) rfl rfl rfl ?_
                      refine w_t (np := 190) (l2 := [some (eR a0), some (eI (a1)), some (eI (i12)), some (eI (v46)), some (eI (i51)), some (eI (v86)), some (eI (v107)), some (eI (v117)), some (eI (1)), some (eI (v117)), o58]) (s2 := []) rfl rfl rfl ?_
                      refine w_t (np := 191) (l2 := [some (eR a0), some (eI (a1)), some (eI (i12)), some (eI (v46)), some (eI (i51)), some (eI (v86)), some (eI (v107)), some (eI (v117)), some (eI (1)), some (eI (v117)), o58]) (s2 := [eI (0)]) rfl rfl rfl ?_
                      refine w_t (np := 193) (l2 := [some (eR a0), some (eI (a1)), some (eI (i12)), some (eI (v46)), some (eI (i51)), some (eI (v86)), some (eI (v107)), some (eI (v117)), some (eI (1)), some (eI (v117)), some (eI (0))]) (s2 := []) rfl rfl rfl ?_
                      have hL193 : ∀ (n154 : Nat) (m158 : eM) (i156 : Int), SI g m158 → Fr l_323 0 0 g μ m158 → (0 ≤ i156 ∧ i156 ≤ 4) → m158.1 a0 49 = v26 → m158.1 a0 47 = ((v30 : Nat) : Int) → m158.1 a0 43 = ((v39 : Nat) : Int) → m158.1 v39 (v43).toNat = v46 → m158.1 a0 45 = ((v69 : Nat) : Int) → m158.1 v69 (v76).toNat = v79 → m158.1 a0 52 = ((v119 : Nat) : Int) → CR g m158 → n154 = (4 - i156).toNat → ex_q (dt_fg L ρ) rc (d + 3, (323, 193, [some (eR a0), some (eI (a1)), some (eI (i12)), some (eI (v46)), some (eI (i51)), some (eI (v86)), some (eI (v107)), some (eI (v117)), some (eI (1)), some (eI (v117)), some (eI (i156))], []), f :: F, m158) := by
                        intro n154
                        induction n154 using Nat.strongRecOn with
                        | _ n154 ih155 =>
                        intro m158 i156 I159 F160 b157 k161 k162 k163 k164 k165 k166 k167 p168 hn169
                        refine w_t (np := 195) (l2 := [some (eR a0), some (eI (a1)), some (eI (i12)), some (eI (v46)), some (eI (i51)), some (eI (v86)), some (eI (v107)), some (eI (v117)), some (eI (1)), some (eI (v117)), some (eI (i156))]) (s2 := [eI (i156)]) rfl rfl rfl ?_
                        refine w_t (np := 197) (l2 := [some (eR a0), some (eI (a1)), some (eI (i12)), some (eI (v46)), some (eI (i51)), some (eI (v86)), some (eI (v107)), some (eI (v117)), some (eI (1)), some (eI (v117)), some (eI (i156))]) (s2 := [eI (1), eI (i156)]) rfl rfl rfl ?_
                        refine b_cge (t1 := 220) (t2 := 200) rfl rfl rfl (ev_w_in (by omega) (by omega)) rfl (fun g170 => ?_) (fun g170 => ?_)
                        · have b171 : 1 ≤ i156 ∧ i156 ≤ 4 := by omega
                          obtain ⟨v171, e172⟩ : ∃ zz : Int, zz = (i51) + (1) := ⟨_, rfl⟩
                          have b173 : 1 ≤ v171 ∧ v171 ≤ 4 := by omega
                          refine w_t (np := 223) (l2 := [some (eR a0), some (eI (a1)), some (eI (i12)), some (eI (v46)), some (eI (v171)), some (eI (v86)), some (eI (v107)), some (eI (v117)), some (eI (1)), some (eI (v117)), some (eI (i156))]) (s2 := []) rfl (b_iinc rfl (by rw [← e172]; exact ev_w_in (by omega) (by omega)) rfl) rfl ?_
                          refine w_go (t1 := 60) rfl rfl ?_
                          exact ih50 (4 - (v171)).toNat (by omega) m158 (v171) (some (eI (v86))) (some (eI (v107))) (some (eI (v117))) (some (eI (1))) (some (eI (v117))) (some (eI (i156))) I159 F160 (by omega) k161 k162 k163 k164  p168  rfl
                        · have b171 : 0 ≤ i156 ∧ i156 ≤ 0 := by omega
                          refine w_t (np := 201) (l2 := [some (eR a0), some (eI (a1)), some (eI (i12)), some (eI (v46)), some (eI (i51)), some (eI (v86)), some (eI (v107)), some (eI (v117)), some (eI (1)), some (eI (v117)), some (eI (i156))]) (s2 := [eR a0]) rfl (s_an rfl (pos_g I159 gA0 (by decide))) rfl ?_
                          refine j_gr (np := 204) rfl rfl I159 gA0 (by decide) (n := 69) rfl rfl rfl ?_
                          intro v171 e172 b173 z174
                          have b173 : g v171 = 85 := Nat.eq_of_beq_eq_true b173
                          refine w_t (np := 206) (l2 := [some (eR a0), some (eI (a1)), some (eI (i12)), some (eI (v46)), some (eI (i51)), some (eI (v86)), some (eI (v107)), some (eI (v117)), some (eI (1)), some (eI (v117)), some (eI (i156))]) (s2 := [eI (v117), eR v171]) rfl rfl rfl ?_
                          refine w_t (np := 208) (l2 := [some (eR a0), some (eI (a1)), some (eI (i12)), some (eI (v46)), some (eI (i51)), some (eI (v86)), some (eI (v107)), some (eI (v117)), some (eI (1)), some (eI (v117)), some (eI (i156))]) (s2 := [eI (i156), eI (v117), eR v171]) rfl rfl rfl ?_
                          obtain ⟨v175, e176⟩ : ∃ zz : Int, zz = (v117) + (i156) := ⟨_, rfl⟩
                          have b177 : 0 ≤ v175 ∧ v175 ≤ 9 := by omega
                          refine w_t (np := 209) (l2 := [some (eR a0), some (eI (a1)), some (eI (i12)), some (eI (v46)), some (eI (i51)), some (eI (v86)), some (eI (v107)), some (eI (v117)), some (eI (1)), some (eI (v117)), some (eI (i156))]) (s2 := [eI (v175), eR v171]) rfl (b_iadd (by rw [← e176]; exact ev_w_in (by omega) (by omega))) rfl ?_
                          refine w_cu (np := 212) (as := [eI (v175)]) (l2 := [some (eI (v175))]) (rest := [eR v171]) rfl rfl rfl (Nat.ble_eq.mp rfl) rfl rfl rfl rfl ?_
                          refine s_217e (a0 := v175) I159 (by omega) ?_
                          intro v178 b179 h180
                          show ex_q (dt_fg L ρ) rc (d + 3, (323, 212, [some (eR a0), some (eI (a1)), some (eI (i12)), some (eI (v46)), some (eI (i51)), some (eI (v86)), some (eI (v107)), some (eI (v117)), some (eI (1)), some (eI (v117)), some (eI (i156))], [eI (v178), eR v171]), f :: F, m158)
                          refine w_t (np := 213) (l2 := [some (eR a0), some (eI (a1)), some (eI (i12)), some (eI (v46)), some (eI (i51)), some (eI (v86)), some (eI (v107)), some (eI (v117)), some (eI (1)), some (eI (v117)), some (eI (i156))]) (s2 := [eI (1), eI (v178), eR v171]) rfl rfl rfl ?_
                          refine j_sb3 (np := 214) rfl rfl I159 b173 (by decide) (n := 10) rfl rfl (lo := 0) (hi := 1) (fun _ => rfl) (by omega) (by omega) (by decide) (by decide) ?_
                          intro m181 I182 W183
                          have F184 : Fr l_323 0 0 g μ m181 := F160.v W183 b173 rfl rfl
                          have p185 : CR g m181 := CR.fr p168 (Fr.o W183 b173 rfl) rfl
                          obtain ⟨v186, e187⟩ : ∃ zz : Int, zz = (i156) + (1) := ⟨_, rfl⟩
                          have b188 : 1 ≤ v186 ∧ v186 ≤ 1 := by omega
                          refine w_t (np := 217) (l2 := [some (eR a0), some (eI (a1)), some (eI (i12)), some (eI (v46)), some (eI (i51)), some (eI (v86)), some (eI (v107)), some (eI (v117)), some (eI (1)), some (eI (v117)), some (eI (v186))]) (s2 := []) rfl (b_iinc rfl (by rw [← e187]; exact ev_w_in (by omega) (by omega)) rfl) rfl ?_
                          refine w_go (t1 := 193) rfl rfl ?_
                          exact ih155 (4 - (v186)).toNat (by omega) m181 (v186) I182 F184 (by omega) (W183.addr k161 b173 gA0 (by decide)) (W183.addr k162 b173 gA0 (by decide)) (W183.addr k163 b173 gA0 (by decide)) (W183.addr k164 b173 b41 (by decide)) (W183.addr k165 b173 gA0 (by decide)) (W183.addr k166 b173 b71 (by decide)) (W183.addr k167 b173 gA0 (by decide))  p185  rfl
                      exact hL193 _ m135 (0) I136 F138 (by decide) (W137.addr (W127.addr k62 b121 gA0 (by decide)) b121 gA0 (by decide)) (W137.addr (W127.addr k63 b121 gA0 (by decide)) b121 gA0 (by decide)) (W137.addr (W127.addr k64 b121 gA0 (by decide)) b121 gA0 (by decide)) (W137.addr (W127.addr k65 b121 b41 (by decide)) b121 b41 (by decide)) (W137.addr (W127.addr e70 b121 gA0 (by decide)) b121 gA0 (by decide)) (W137.addr (W127.addr e80 b121 b71 (by decide)) b121 b71 (by decide)) (W137.addr (W127.addr e120 b121 gA0 (by decide)) b121 gA0 (by decide))  p139  rfl
                    · have b154 : 1 ≤ v150 ∧ v150 ≤ 1 := by omega
                      refine w_t (np := 183) (l2 := [some (eR a0), some (eI (a1)), some (eI (i12)), some (eI (v46)), some (eI (i51)), some (eI (v86)), some (eI (v107)), some (eI (v117)), some (eI (1)), o57, o58]) (s2 := [eI (v107)]) rfl rfl rfl ?_
                      refine w_go (t1 := 188) rfl rfl ?_
                      refine w_t (np := 190) (l2 := [some (eR a0), some (eI (a1)), some (eI (i12)), some (eI (v46)), some (eI (i51)), some (eI (v86)), some (eI (v107)), some (eI (v117)), some (eI (1)), some (eI (v107)), o58]) (s2 := []) rfl rfl rfl ?_
                      refine w_t (np := 191) (l2 := [some (eR a0), some (eI (a1)), some (eI (i12)), some (eI (v46)), some (eI (i51)), some (eI (v86)), some (eI (v107)), some (eI (v117)), some (eI (1)), some (eI (v107)), o58]) (s2 := [eI (0)]) rfl rfl rfl ?_
                      refine w_t (np := 193) (l2 := [some (eR a0), some (eI (a1)), some (eI (i12)), some (eI (v46)), some (eI (i51)), some (eI (v86)), some (eI (v107)), some (eI (v117)), some (eI (1)), some (eI (v107)), some (eI (0))]) (s2 := []) rfl rfl rfl ?_
                      have hL193 : ∀ (n154 : Nat) (m158 : eM) (i156 : Int), SI g m158 → Fr l_323 0 0 g μ m158 → (0 ≤ i156 ∧ i156 ≤ 4) → m158.1 a0 49 = v26 → m158.1 a0 47 = ((v30 : Nat) : Int) → m158.1 a0 43 = ((v39 : Nat) : Int) → m158.1 v39 (v43).toNat = v46 → m158.1 a0 45 = ((v69 : Nat) : Int) → m158.1 v69 (v76).toNat = v79 → m158.1 a0 52 = ((v119 : Nat) : Int) → CR g m158 → n154 = (4 - i156).toNat → ex_q (dt_fg L ρ) rc (d + 3, (323, 193, [some (eR a0), some (eI (a1)), some (eI (i12)), some (eI (v46)), some (eI (i51)), some (eI (v86)), some (eI (v107)), some (eI (v117)), some (eI (1)), some (eI (v107)), some (eI (i156))], []), f :: F, m158) := by
                        intro n154
                        induction n154 using Nat.strongRecOn with
                        | _ n154 ih155 =>
                        intro m158 i156 I159 F160 b157 k161 k162 k163 k164 k165 k166 k167 p168 hn169
                        refine w_t (np := 195) (l2 := [some (eR a0), some (eI (a1)), some (eI (i12)), some (eI (v46)), some (eI (i51)), some (eI (v86)), some (eI (v107)), some (eI (v117)), some (eI (1)), some (eI (v107)), some (eI (i156))]) (s2 := [eI (i156)]) rfl rfl rfl ?_
                        refine w_t (np := 197) (l2 := [some (eR a0), some (eI (a1)), some (eI (i12)), some (eI (v46)), some (eI (i51)), some (eI (v86)), some (eI (v107)), some (eI (v117)), some (eI (1)), some (eI (v107)), some (eI (i156))]) (s2 := [eI (1), eI (i156)]) rfl rfl rfl ?_
                        refine b_cge (t1 := 220) (t2 := 200) rfl rfl rfl (ev_w_in (by omega) (by omega)) rfl (fun g170 => ?_) (fun g170 => ?_)
                        · have b171 : 1 ≤ i156 ∧ i156 ≤ 4 := by omega
                          obtain ⟨v171, e172⟩ : ∃ zz : Int, zz = (i51) + (1) := ⟨_, rfl⟩
                          have b173 : 1 ≤ v171 ∧ v171 ≤ 4 := by omega
                          refine w_t (np := 223) (l2 := [some (eR a0), some (eI (a1)), some (eI (i12)), some (eI (v46)), some (eI (v171)), some (eI (v86)), some (eI (v107)), some (eI (v117)), some (eI (1)), some (eI (v107)), some (eI (i156))]) (s2 := []) rfl (b_iinc rfl (by rw [← e172]; exact ev_w_in (by omega) (by omega)) rfl) rfl ?_
                          refine w_go (t1 := 60) rfl rfl ?_
                          exact ih50 (4 - (v171)).toNat (by omega) m158 (v171) (some (eI (v86))) (some (eI (v107))) (some (eI (v117))) (some (eI (1))) (some (eI (v107))) (some (eI (i156))) I159 F160 (by omega) k161 k162 k163 k164  p168  rfl
                        · have b171 : 0 ≤ i156 ∧ i156 ≤ 0 := by omega
                          refine w_t (np := 201) (l2 := [some (eR a0), some (eI (a1)), some (eI (i12)), some (eI (v46)), some (eI (i51)), some (eI (v86)), some (eI (v107)), some (eI (v117)), some (eI (1)), some (eI (v107)), some (eI (i156))]) (s2 := [eR a0]) rfl (s_an rfl (pos_g I159 gA0 (by decide))) rfl ?_
                          refine j_gr (np := 204) rfl rfl I159 gA0 (by decide) (n := 69) rfl rfl rfl ?_
                          intro v171 e172 b173 z174
                          have b173 : g v171 = 85 := Nat.eq_of_beq_eq_true b173
                          refine w_t (np := 206) (l2 := [some (eR a0), some (eI (a1)), some (eI (i12)), some (eI (v46)), some (eI (i51)), some (eI (v86)), some (eI (v107)), some (eI (v117)), some (eI (1)), some (eI (v107)), some (eI (i156))]) (s2 := [eI (v107), eR v171]) rfl rfl rfl ?_
                          refine w_t (np := 208) (l2 := [some (eR a0), some (eI (a1)), some (eI (i12)), some (eI (v46)), some (eI (i51)), some (eI (v86)), some (eI (v107)), some (eI (v117)), some (eI (1)), some (eI (v107)), some (eI (i156))]) (s2 := [eI (i156), eI (v107), eR v171]) rfl rfl rfl ?_
                          obtain ⟨v175, e176⟩ : ∃ zz : Int, zz = (v107) + (i156) := ⟨_, rfl⟩
                          have b177 : 0 ≤ v175 ∧ v175 ≤ 9 := by omega
                          refine w_t (np := 209) (l2 := [some (eR a0), some (eI (a1)), some (eI (i12)), some (eI (v46)), some (eI (i51)), some (eI (v86)), some (eI (v107)), some (eI (v117)), some (eI (1)), some (eI (v107)), some (eI (i156))]) (s2 := [eI (v175), eR v171]) rfl (b_iadd (by rw [← e176]; exact ev_w_in (by omega) (by omega))) rfl ?_
                          refine w_cu (np := 212) (as := [eI (v175)]) (l2 := [some (eI (v175))]) (rest := [eR v171]) rfl rfl rfl (Nat.ble_eq.mp rfl) rfl rfl rfl rfl ?_
                          refine s_217e (a0 := v175) I159 (by omega) ?_
                          intro v178 b179 h180
                          show ex_q (dt_fg L ρ) rc (d + 3, (323, 212, [some (eR a0), some (eI (a1)), some (eI (i12)), some (eI (v46)), some (eI (i51)), some (eI (v86)), some (eI (v107)), some (eI (v117)), some (eI (1)), some (eI (v107)), some (eI (i156))], [eI (v178), eR v171]), f :: F, m158)
                          refine w_t (np := 213) (l2 := [some (eR a0), some (eI (a1)), some (eI (i12)), some (eI (v46)), some (eI (i51)), some (eI (v86)), some (eI (v107)), some (eI (v117)), some (eI (1)), some (eI (v107)), some (eI (i156))]) (s2 := [eI (1), eI (v178), eR v171]) rfl rfl rfl ?_
                          refine j_sb3 (np := 214) rfl rfl I159 b173 (by decide) (n := 10) rfl rfl (lo := 0) (hi := 1) (fun _ => rfl) (by omega) (by omega) (by decide) (by decide) ?_
                          intro m181 I182 W183
                          have F184 : Fr l_323 0 0 g μ m181 := F160.v W183 b173 rfl rfl
                          have p185 : CR g m181 := CR.fr p168 (Fr.o W183 b173 rfl) rfl
                          obtain ⟨v186, e187⟩ : ∃ zz : Int, zz = (i156) + (1) := ⟨_, rfl⟩
                          have b188 : 1 ≤ v186 ∧ v186 ≤ 1 := by omega
                          refine w_t (np := 217) (l2 := [some (eR a0), some (eI (a1)), some (eI (i12)), some (eI (v46)), some (eI (i51)), some (eI (v86)), some (eI (v107)), some (eI (v117)), some (eI (1)), some (eI (v107)), some (eI (v186))]) (s2 := []) rfl (b_iinc rfl (by rw [← e187]; exact ev_w_in (by omega) (by omega)) rfl) rfl ?_
                          refine w_go (t1 := 193) rfl rfl ?_
                          exact ih155 (4 - (v186)).toNat (by omega) m181 (v186) I182 F184 (by omega) (W183.addr k161 b173 gA0 (by decide)) (W183.addr k162 b173 gA0 (by decide)) (W183.addr k163 b173 gA0 (by decide)) (W183.addr k164 b173 b41 (by decide)) (W183.addr k165 b173 gA0 (by decide)) (W183.addr k166 b173 b71 (by decide)) (W183.addr k167 b173 gA0 (by decide))  p185  rfl
                      exact hL193 _ m135 (0) I136 F138 (by decide) (W137.addr (W127.addr k62 b121 gA0 (by decide)) b121 gA0 (by decide)) (W137.addr (W127.addr k63 b121 gA0 (by decide)) b121 gA0 (by decide)) (W137.addr (W127.addr k64 b121 gA0 (by decide)) b121 gA0 (by decide)) (W137.addr (W127.addr k65 b121 b41 (by decide)) b121 b41 (by decide)) (W137.addr (W127.addr e70 b121 gA0 (by decide)) b121 gA0 (by decide)) (W137.addr (W127.addr e80 b121 b71 (by decide)) b121 b71 (by decide)) (W137.addr (W127.addr e120 b121 gA0 (by decide)) b121 gA0 (by decide))  p139  rfl
              · refine w_go (t1 := 220) rfl rfl ?_
                obtain ⟨v83, e84⟩ : ∃ zz : Int, zz = (i51) + (1) := ⟨_, rfl⟩
                have b85 : 1 ≤ v83 ∧ v83 ≤ 4 := by omega
                refine w_t (np := 223) (l2 := [some (eR a0), some (eI (a1)), some (eI (i12)), some (eI (v46)), some (eI (v83)), o53, o54, o55, o56, o57, o58]) (s2 := []) rfl (b_iinc rfl (by rw [← e84]; exact ev_w_in (by omega) (by omega)) rfl) rfl ?_
                refine w_go (t1 := 60) rfl rfl ?_
                exact ih50 (4 - (v83)).toNat (by omega) m59 (v83) (o53) (o54) (o55) (o56) (o57) (o58) I60 F61 (by omega) k62 k63 k64 k65  p66  rfl
          exact hL60 _ m34 (0) (o16) (o17) (o18) (o19) (o20) (o21) I35 F38 (by decide) (F36.k e27 gA0 (by decide) rfl) (F36.k e31 gA0 (by decide) rfl) e40 e47  p37  rfl
      exact hL30 _ m5 (0) (none) (none) (none) (none) (none) (none) (none) (none) I6 F7 (by decide)     rfl
    · have b10 : 0 ≤ i3 ∧ i3 ≤ 9 := by omega
      refine w_t (np := 9) (l2 := [some (eR a0), some (eI (a1)), some (eI (i3)), none, none, none, none, none, none, none, none]) (s2 := [eR a0]) rfl (s_an rfl (pos_g I6 gA0 (by decide))) rfl ?_
      refine j_gr (np := 12) rfl rfl I6 gA0 (by decide) (n := 69) rfl rfl rfl ?_
      intro v10 e11 b12 z13
      have b12 : g v10 = 85 := Nat.eq_of_beq_eq_true b12
      refine w_t (np := 13) (l2 := [some (eR a0), some (eI (a1)), some (eI (i3)), none, none, none, none, none, none, none, none]) (s2 := [eI (i3), eR v10]) rfl rfl rfl ?_
      refine w_t (np := 14) (l2 := [some (eR a0), some (eI (a1)), some (eI (i3)), none, none, none, none, none, none, none, none]) (s2 := [eI (0), eI (i3), eR v10]) rfl rfl rfl ?_
      refine j_sb3 (np := 15) rfl rfl I6 b12 (by decide) (n := 10) rfl rfl (lo := 0) (hi := 1) (fun _ => rfl) (by omega) (by omega) (by decide) (by decide) ?_
      intro m14 I15 W16
      have F17 : Fr l_323 0 0 g μ m14 := F7.v W16 b12 rfl rfl
      refine w_t (np := 16) (l2 := [some (eR a0), some (eI (a1)), some (eI (i3)), none, none, none, none, none, none, none, none]) (s2 := [eR a0]) rfl (s_an rfl (pos_g I15 gA0 (by decide))) rfl ?_
      refine j_gr (np := 19) rfl rfl I15 gA0 (by decide) (n := 69) rfl rfl rfl ?_
      intro v18 e19 b20 z21
      have b20 : g v18 = 86 := Nat.eq_of_beq_eq_true b20
      refine w_t (np := 20) (l2 := [some (eR a0), some (eI (a1)), some (eI (i3)), none, none, none, none, none, none, none, none]) (s2 := [eI (i3), eR v18]) rfl rfl rfl ?_
      refine w_t (np := 21) (l2 := [some (eR a0), some (eI (a1)), some (eI (i3)), none, none, none, none, none, none, none, none]) (s2 := [eI (-1), eI (i3), eR v18]) rfl rfl rfl ?_
      refine j_as (np := 22) rfl rfl I15 b20 (by decide) (n := 10) rfl rfl (lo := -1) (hi := 3) (fun _ => rfl) (by omega) (by omega) (by decide) ?_
      intro m22 I23 W24
      have F25 : Fr l_323 0 0 g μ m22 := F17.v W24 b20 rfl rfl
      obtain ⟨v26, e27⟩ : ∃ zz : Int, zz = (i3) + (1) := ⟨_, rfl⟩
      have b28 : 1 ≤ v26 ∧ v26 ≤ 10 := by omega
      refine w_t (np := 25) (l2 := [some (eR a0), some (eI (a1)), some (eI (v26)), none, none, none, none, none, none, none, none]) (s2 := []) rfl (b_iinc rfl (by rw [← e27]; exact ev_w_in (by omega) (by omega)) rfl) rfl ?_
      refine w_go (t1 := 2) rfl rfl ?_
      exact ih2 (10 - (v26)).toNat (by omega) m22 (v26) I23 F25 (by omega)     rfl
  exact hL2 _ μ (0) hI F0 (by decide)     rfl
