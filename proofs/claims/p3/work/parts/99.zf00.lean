/-! methods, walked -/
def l_251 : List Nat := [17920, 18176]
theorem s_251 {L : Nat} {ρ : Nat → Int} {rc : eQ} {d : Nat} {f : eFr} {F : List eFr} {μ : eM} {g : Nat → Nat} {a0 : Nat} {a1 : Int} (hI : SI g μ) (gA0 : g a0 = 52) (bA1 : 0 ≤ a1 ∧ a1 ≤ 2669) (h_LG : LG g μ) (h_MT : MT g μ) (K : ∀ (μ2 : eM) (v : Int), SI g μ2 → Fr l_251 0 0 g μ μ2 → (0 ≤ v ∧ v ≤ 1) → ex_q (dt_fg L ρ) rc (d + 4, (f.1, f.2.1, f.2.2.1, eI v :: f.2.2.2), F, μ2)) : ex_q (dt_fg L ρ) rc (d + 3, (251, 0, [some (eR a0), some (eI (a1)), none, none], []), f :: F, μ) := by
  have F0 : Fr l_251 0 0 g μ μ := Fr.r
  refine w_t (np := 1) (l2 := [some (eR a0), some (eI (a1)), none, none]) (s2 := [eI (0)]) rfl rfl rfl ?_
  refine w_t (np := 2) (l2 := [some (eR a0), some (eI (a1)), some (eI (0)), none]) (s2 := []) rfl rfl rfl ?_
  have hL2 : ∀ (n1 : Nat) (m5 : eM) (i3 : Int), SI g m5 → Fr l_251 0 0 g μ m5 → (0 ≤ i3 ∧ i3 ≤ 10) → LG g m5 → MT g m5 → n1 = (10 - i3).toNat → ex_q (dt_fg L ρ) rc (d + 3, (251, 2, [some (eR a0), some (eI (a1)), some (eI (i3)), none], []), f :: F, m5) := by
    intro n1
    induction n1 using Nat.strongRecOn with
    | _ n1 ih2 =>
    intro m5 i3 I6 F7 b4 p8 p9 hn10
    refine w_t (np := 3) (l2 := [some (eR a0), some (eI (a1)), some (eI (i3)), none]) (s2 := [eI (i3)]) rfl rfl rfl ?_
    refine w_t (np := 5) (l2 := [some (eR a0), some (eI (a1)), some (eI (i3)), none]) (s2 := [eI (10), eI (i3)]) rfl rfl rfl ?_
    refine b_cge (t1 := 21) (t2 := 8) rfl rfl rfl (ev_w_in (by omega) (by omega)) rfl (fun g11 => ?_) (fun g11 => ?_)
    · have b12 : 10 ≤ i3 ∧ i3 ≤ 10 := by omega
      refine w_t (np := 22) (l2 := [some (eR a0), some (eI (a1)), some (eI (i3)), none]) (s2 := [eI (0)]) rfl rfl rfl ?_
      refine w_t (np := 23) (l2 := [some (eR a0), some (eI (a1)), some (eI (0)), none]) (s2 := []) rfl rfl rfl ?_
      have hL23 : ∀ (n12 : Nat) (m17 : eM) (i14 : Int) (o16 : Option eV), SI g m17 → Fr l_251 0 0 g μ m17 → (0 ≤ i14 ∧ i14 ≤ 890) → LG g m17 → MT g m17 → n12 = (890 - i14).toNat → ex_q (dt_fg L ρ) rc (d + 3, (251, 23, [some (eR a0), some (eI (a1)), some (eI (i14)), o16], []), f :: F, m17) := by
        intro n12
        induction n12 using Nat.strongRecOn with
        | _ n12 ih13 =>
        intro m17 i14 o16 I18 F19 b15 p20 p21 hn22
        refine w_t (np := 24) (l2 := [some (eR a0), some (eI (a1)), some (eI (i14)), o16]) (s2 := [eI (i14)]) rfl rfl rfl ?_
        refine w_t (np := 25) (l2 := [some (eR a0), some (eI (a1)), some (eI (i14)), o16]) (s2 := [eR a0, eI (i14)]) rfl (s_an rfl (pos_g I18 gA0 (by decide))) rfl ?_
        refine j_gi (np := 28) rfl rfl rfl I18 gA0 (by decide) (n := 69) rfl rfl (lo := 0) (hi := 890) rfl ?_
        intro v23 e24 b25
        refine b_cge (t1 := 190) (t2 := 31) rfl rfl rfl (ev_w_in (by omega) (by omega)) (ev_w_in (by omega) (by omega)) (fun g26 => ?_) (fun g26 => ?_)
        · refine w_t (np := 191) (l2 := [some (eR a0), some (eI (a1)), some (eI (i14)), o16]) (s2 := [eI (1)]) rfl rfl rfl ?_
          exact b_rz rfl rfl (Or.inr rfl) (K m17 (1) I18 F19 (by decide))
        · have b27 : 0 ≤ i14 ∧ i14 ≤ 889 := by omega
          have b28 : 1 ≤ v23 ∧ v23 ≤ 890 := by omega
          refine w_t (np := 32) (l2 := [some (eR a0), some (eI (a1)), some (eI (i14)), o16]) (s2 := [eR a0]) rfl (s_an rfl (pos_g I18 gA0 (by decide))) rfl ?_
          refine w_t (np := 33) (l2 := [some (eR a0), some (eI (a1)), some (eI (i14)), o16]) (s2 := [eI (i14), eR a0]) rfl rfl rfl ?_
          refine w_t (np := 34) (l2 := [some (eR a0), some (eI (a1)), some (eI (i14)), o16]) (s2 := [eI (0), eI (i14), eR a0]) rfl rfl rfl ?_
          refine w_cw (np := 37) (as := [eI (i14), eI (0)]) (l2 := [some (eR a0), some (eI (i14)), some (eI (0))]) (rest := []) rfl rfl rfl (Nat.ble_eq.mp rfl) rfl rfl rfl (I18.kd gA0 (by decide) (n := 69) rfl) rfl ?_
          refine w_t (np := 1) (l2 := [some (eR a0), some (eI (i14)), some (eI (0))]) (s2 := [eR a0]) rfl (s_an rfl (pos_g I18 gA0 (by decide))) rfl ?_
          refine j_gr (np := 4) rfl rfl I18 gA0 (by decide) (n := 69) rfl rfl rfl ?_
          intro v27 e28 b29 z30
          have b29 : g v27 = 64 := Nat.eq_of_beq_eq_true b29
          refine w_t (np := 5) (l2 := [some (eR a0), some (eI (i14)), some (eI (0))]) (s2 := [eI (3), eR v27]) rfl rfl rfl ?_
          refine w_t (np := 6) (l2 := [some (eR a0), some (eI (i14)), some (eI (0))]) (s2 := [eI (i14), eI (3), eR v27]) rfl rfl rfl ?_
          obtain ⟨v31, e32⟩ : ∃ zz : Int, zz = (3) * (i14) := ⟨_, rfl⟩
          have b33 : 0 ≤ v31 ∧ v31 ≤ 2667 := by omega
          refine w_t (np := 7) (l2 := [some (eR a0), some (eI (i14)), some (eI (0))]) (s2 := [eI (v31), eR v27]) rfl (b_imul (by rw [← e32]; exact ev_w_in (by omega) (by omega))) rfl ?_
          refine w_t (np := 8) (l2 := [some (eR a0), some (eI (i14)), some (eI (0))]) (s2 := [eI (0), eI (v31), eR v27]) rfl rfl rfl ?_
          refine w_t (np := 9) (l2 := [some (eR a0), some (eI (i14)), some (eI (0))]) (s2 := [eI (v31), eR v27]) rfl (b_iadd (by rw [Int.add_zero]; exact ev_w_in (by omega) (by omega))) rfl ?_
          refine j_al (np := 10) rfl rfl I18 b29 (by decide) (n := 2670) rfl rfl (lo := 0) (hi := 2669) (fun _ => rfl) (by omega) (by omega) ?_
          intro v34 e35 b36
          refine b_ri rfl rfl ?_
          show ex_q (dt_fg L ρ) rc (d + 3, (251, 37, [some (eR a0), some (eI (a1)), some (eI (i14)), o16], [eI (v34)]), f :: F, m17)
          refine w_t (np := 38) (l2 := [some (eR a0), some (eI (a1)), some (eI (i14)), o16]) (s2 := [eI (a1), eI (v34)]) rfl rfl rfl ?_
          refine b_ceq (t1 := 64) (t2 := 41) rfl rfl rfl (ev_w_in (by omega) (by omega)) (ev_w_in (by omega) (by omega)) (fun g37 => ?_) (fun g37 => ?_)
          · refine w_t (np := 65) (l2 := [some (eR a0), some (eI (a1)), some (eI (i14)), o16]) (s2 := [eR a0]) rfl (s_an rfl (pos_g I18 gA0 (by decide))) rfl ?_
            refine j_gr (np := 68) rfl rfl I18 gA0 (by decide) (n := 69) rfl rfl rfl ?_
            intro v38 e39 b40 z41
            have b40 : g v38 = 67 := Nat.eq_of_beq_eq_true b40
            refine w_t (np := 69) (l2 := [some (eR a0), some (eI (a1)), some (eI (i14)), o16]) (s2 := [eI (i14), eR v38]) rfl rfl rfl ?_
            refine j_al (np := 70) rfl rfl I18 b40 (by decide) (n := 890) rfl rfl (lo := -1) (hi := 889) (fun _ => rfl) (by omega) (by omega) ?_
            intro v42 e43 b44
            refine b_ige (t1 := 75) (t2 := 73) rfl rfl rfl (ev_w_in (by omega) (by omega)) (fun g45 => ?_) (fun g45 => ?_)
            · have b46 : 0 ≤ v42 ∧ v42 ≤ 889 := by omega
              refine w_t (np := 76) (l2 := [some (eR a0), some (eI (a1)), some (eI (i14)), o16]) (s2 := [eR a0]) rfl (s_an rfl (pos_g I18 gA0 (by decide))) rfl ?_
              refine j_gr (np := 79) rfl rfl I18 gA0 (by decide) (n := 69) rfl rfl rfl ?_
              intro v46 e47 b48 z49
              have b48 : g v46 = 56 := Nat.eq_of_beq_eq_true b48
              refine w_t (np := 80) (l2 := [some (eR a0), some (eI (a1)), some (eI (i14)), o16]) (s2 := [eI (i14), eR v46]) rfl rfl rfl ?_
              refine j_al (np := 81) rfl rfl I18 b48 (by decide) (n := 890) rfl rfl (lo := 0) (hi := 1) (fun _ => rfl) (by omega) (by omega) ?_
              intro v50 e51 b52
              refine w_t (np := 82) (l2 := [some (eR a0), some (eI (a1)), some (eI (i14)), some (eI (v50))]) (s2 := []) rfl rfl rfl ?_
              refine w_t (np := 83) (l2 := [some (eR a0), some (eI (a1)), some (eI (i14)), some (eI (v50))]) (s2 := [eR a0]) rfl (s_an rfl (pos_g I18 gA0 (by decide))) rfl ?_
              refine w_t (np := 84) (l2 := [some (eR a0), some (eI (a1)), some (eI (i14)), some (eI (v50))]) (s2 := [eI (i14), eR a0]) rfl rfl rfl ?_
              refine w_t (np := 85) (l2 := [some (eR a0), some (eI (a1)), some (eI (i14)), some (eI (v50))]) (s2 := [eI (0), eI (i14), eR a0]) rfl rfl rfl ?_
              refine w_cw (np := 88) (as := [eI (i14), eI (0)]) (l2 := [some (eR a0), some (eI (i14)), some (eI (0))]) (rest := []) rfl rfl rfl (Nat.ble_eq.mp rfl) rfl rfl rfl (I18.kd gA0 (by decide) (n := 69) rfl) rfl ?_
              refine w_t (np := 1) (l2 := [some (eR a0), some (eI (i14)), some (eI (0))]) (s2 := [eR a0]) rfl (s_an rfl (pos_g I18 gA0 (by decide))) rfl ?_
              refine w_gf (np := 4) (v := eR v27) rfl rfl (I18.kd gA0 (by decide) (n := 69) rfl) (by rw [e28]; rfl) ?_
              refine w_t (np := 5) (l2 := [some (eR a0), some (eI (i14)), some (eI (0))]) (s2 := [eI (3), eR v27]) rfl rfl rfl ?_
              refine w_t (np := 6) (l2 := [some (eR a0), some (eI (i14)), some (eI (0))]) (s2 := [eI (i14), eI (3), eR v27]) rfl rfl rfl ?_
              obtain ⟨v53, e54⟩ : ∃ zz : Int, zz = (3) * (i14) := ⟨_, rfl⟩
              have b55 : 0 ≤ v53 ∧ v53 ≤ 2667 := by omega
              refine w_t (np := 7) (l2 := [some (eR a0), some (eI (i14)), some (eI (0))]) (s2 := [eI (v53), eR v27]) rfl (b_imul (by rw [← e54]; exact ev_w_in (by omega) (by omega))) rfl ?_
              refine w_t (np := 8) (l2 := [some (eR a0), some (eI (i14)), some (eI (0))]) (s2 := [eI (0), eI (v53), eR v27]) rfl rfl rfl ?_
              refine w_t (np := 9) (l2 := [some (eR a0), some (eI (i14)), some (eI (0))]) (s2 := [eI (v53), eR v27]) rfl (b_iadd (by rw [Int.add_zero]; exact ev_w_in (by omega) (by omega))) rfl ?_
              refine j_al (np := 10) rfl rfl I18 b29 (by decide) (n := 2670) rfl rfl (lo := 0) (hi := 2669) (fun _ => rfl) (by omega) (by omega) ?_
              intro v56 e57 b58
              have e57 : v56 = v34 := e57.symm.trans (by rw [show v53 = v31 by omega]; exact e35)
              rw [e57]
              refine b_ri rfl rfl ?_
              show ex_q (dt_fg L ρ) rc (d + 3, (251, 88, [some (eR a0), some (eI (a1)), some (eI (i14)), some (eI (v50))], [eI (v34)]), f :: F, m17)
              refine w_t (np := 89) (l2 := [some (eR a0), some (eI (a1)), some (eI (i14)), some (eI (v50))]) (s2 := [eI (a1), eI (v34)]) rfl rfl rfl ?_
              refine b_cne (t1 := 129) (t2 := 92) rfl rfl rfl (ev_w_in (by omega) (by omega)) (ev_w_in (by omega) (by omega)) (fun g59 => False.elim (by omega)) (fun g59 => ?_)
              refine w_t (np := 93) (l2 := [some (eR a0), some (eI (a1)), some (eI (i14)), some (eI (v50))]) (s2 := [eR a0]) rfl (s_an rfl (pos_g I18 gA0 (by decide))) rfl ?_
              refine w_t (np := 94) (l2 := [some (eR a0), some (eI (a1)), some (eI (i14)), some (eI (v50))]) (s2 := [eI (3), eR a0]) rfl rfl rfl ?_
              refine w_t (np := 95) (l2 := [some (eR a0), some (eI (a1)), some (eI (i14)), some (eI (v50))]) (s2 := [eI (v50), eI (3), eR a0]) rfl rfl rfl ?_
              obtain ⟨v60, e61⟩ : ∃ zz : Int, zz = (3) * (v50) := ⟨_, rfl⟩
              have b62 : 0 ≤ v60 ∧ v60 ≤ 3 := by omega
              refine w_t (np := 96) (l2 := [some (eR a0), some (eI (a1)), some (eI (i14)), some (eI (v50))]) (s2 := [eI (v60), eR a0]) rfl (b_imul (by rw [← e61]; exact ev_w_in (by omega) (by omega))) rfl ?_
              refine w_t (np := 97) (l2 := [some (eR a0), some (eI (a1)), some (eI (i14)), some (eI (v50))]) (s2 := [eI (v50), eI (v60), eR a0]) rfl rfl rfl ?_
              refine w_t (np := 98) (l2 := [some (eR a0), some (eI (a1)), some (eI (i14)), some (eI (v50))]) (s2 := [eI (0), eI (v50), eI (v60), eR a0]) rfl rfl rfl ?_
              refine w_cu (np := 101) (as := [eI (v50), eI (0)]) (l2 := [some (eI (v50)), some (eI (0))]) (rest := [eI (v60), eR a0]) rfl rfl rfl (Nat.ble_eq.mp rfl) rfl rfl rfl rfl ?_
              refine w_t (np := 1) (l2 := [some (eI (v50)), some (eI (0))]) (s2 := [eI (v50)]) rfl rfl rfl ?_
              refine b_ine (t1 := 16) (t2 := 4) rfl rfl rfl (ev_w_in (by omega) (by omega)) (fun g63 => ?_) (fun g63 => ?_)
              · have b64 : 1 ≤ v50 ∧ v50 ≤ 1 := by omega
                refine w_t (np := 17) (l2 := [some (eI (v50)), some (eI (0))]) (s2 := [eI (0)]) rfl rfl rfl ?_
                refine b_ine (t1 := 24) (t2 := 20) rfl rfl rfl rfl (fun g64 => absurd g64 (by decide)) (fun g64 => ?_)
                refine w_t (np := 21) (l2 := [some (eI (v50)), some (eI (0))]) (s2 := [eI (3)]) rfl rfl rfl ?_
                refine w_go (t1 := 25) rfl rfl ?_
                refine b_ri rfl rfl ?_
                show ex_q (dt_fg L ρ) rc (d + 3, (251, 101, [some (eR a0), some (eI (a1)), some (eI (i14)), some (eI (v50))], [eI (3), eI (v60), eR a0]), f :: F, m17)
                refine w_t (np := 102) (l2 := [some (eR a0), some (eI (a1)), some (eI (i14)), some (eI (v50))]) (s2 := [eR a0, eI (3), eI (v60), eR a0]) rfl (s_an rfl (pos_g I18 gA0 (by decide))) rfl ?_
                refine w_t (np := 103) (l2 := [some (eR a0), some (eI (a1)), some (eI (i14)), some (eI (v50))]) (s2 := [eI (a1), eR a0, eI (3), eI (v60), eR a0]) rfl rfl rfl ?_
                refine w_t (np := 104) (l2 := [some (eR a0), some (eI (a1)), some (eI (i14)), some (eI (v50))]) (s2 := [eR a0, eI (a1), eR a0, eI (3), eI (v60), eR a0]) rfl (s_an rfl (pos_g I18 gA0 (by decide))) rfl ?_
                refine w_t (np := 105) (l2 := [some (eR a0), some (eI (a1)), some (eI (i14)), some (eI (v50))]) (s2 := [eI (i14), eR a0, eI (a1), eR a0, eI (3), eI (v60), eR a0]) rfl rfl rfl ?_
                refine w_t (np := 106) (l2 := [some (eR a0), some (eI (a1)), some (eI (i14)), some (eI (v50))]) (s2 := [eI (1), eI (i14), eR a0, eI (a1), eR a0, eI (3), eI (v60), eR a0]) rfl rfl rfl ?_
                refine w_cw (np := 109) (as := [eI (i14), eI (1)]) (l2 := [some (eR a0), some (eI (i14)), some (eI (1))]) (rest := [eI (a1), eR a0, eI (3), eI (v60), eR a0]) rfl rfl rfl (Nat.ble_eq.mp rfl) rfl rfl rfl (I18.kd gA0 (by decide) (n := 69) rfl) rfl ?_
                refine w_t (np := 1) (l2 := [some (eR a0), some (eI (i14)), some (eI (1))]) (s2 := [eR a0]) rfl (s_an rfl (pos_g I18 gA0 (by decide))) rfl ?_
                refine w_gf (np := 4) (v := eR v27) rfl rfl (I18.kd gA0 (by decide) (n := 69) rfl) (by rw [e28]; rfl) ?_
                refine w_t (np := 5) (l2 := [some (eR a0), some (eI (i14)), some (eI (1))]) (s2 := [eI (3), eR v27]) rfl rfl rfl ?_
                refine w_t (np := 6) (l2 := [some (eR a0), some (eI (i14)), some (eI (1))]) (s2 := [eI (i14), eI (3), eR v27]) rfl rfl rfl ?_
                obtain ⟨v65, e66⟩ : ∃ zz : Int, zz = (3) * (i14) := ⟨_, rfl⟩
                have b67 : 0 ≤ v65 ∧ v65 ≤ 2667 := by omega
                refine w_t (np := 7) (l2 := [some (eR a0), some (eI (i14)), some (eI (1))]) (s2 := [eI (v65), eR v27]) rfl (b_imul (by rw [← e66]; exact ev_w_in (by omega) (by omega))) rfl ?_
                refine w_t (np := 8) (l2 := [some (eR a0), some (eI (i14)), some (eI (1))]) (s2 := [eI (1), eI (v65), eR v27]) rfl rfl rfl ?_
                obtain ⟨v68, e69⟩ : ∃ zz : Int, zz = (v65) + (1) := ⟨_, rfl⟩
                have b70 : 1 ≤ v68 ∧ v68 ≤ 2668 := by omega
                refine w_t (np := 9) (l2 := [some (eR a0), some (eI (i14)), some (eI (1))]) (s2 := [eI (v68), eR v27]) rfl (b_iadd (by rw [← e69]; exact ev_w_in (by omega) (by omega))) rfl ?_
                refine j_al (np := 10) rfl rfl I18 b29 (by decide) (n := 2670) rfl rfl (lo := 0) (hi := 2669) (fun _ => rfl) (by omega) (by omega) ?_
                intro v71 e72 b73
                refine b_ri rfl rfl ?_
                show ex_q (dt_fg L ρ) rc (d + 3, (251, 109, [some (eR a0), some (eI (a1)), some (eI (i14)), some (eI (v50))], [eI (v71), eI (a1), eR a0, eI (3), eI (v60), eR a0]), f :: F, m17)
                obtain ⟨D74, h75⟩ := LG.d (i := i14) (c := 1) (v0 := v31) (v1 := v68) I18 p20 gA0 b29 e24 (by omega) (by omega) e35 (by omega) (by decide) e72
                obtain ⟨D76, h77⟩ := LG.c h75 (show v34 = a1 by omega)
                refine w_cw (np := 112) (as := [eI (a1), eI (v71)]) (l2 := [some (eR a0), some (eI (a1)), some (eI (v71)), none]) (rest := [eI (3), eI (v60), eR a0]) rfl rfl rfl (Nat.ble_eq.mp rfl) rfl rfl rfl (I18.kd gA0 (by decide) (n := 69) rfl) rfl ?_
                refine s_249 (a1 := a1) (a2 := v71) I18 gA0 (by omega) (by omega) h77 ?_
                intro v78 b79
                show ex_q (dt_fg L ρ) rc (d + 3, (251, 112, [some (eR a0), some (eI (a1)), some (eI (i14)), some (eI (v50))], [eI (v78), eI (3), eI (v60), eR a0]), f :: F, m17)
                refine w_t (np := 113) (l2 := [some (eR a0), some (eI (a1)), some (eI (i14)), some (eI (v50))]) (s2 := [eR a0, eI (v78), eI (3), eI (v60), eR a0]) rfl (s_an rfl (pos_g I18 gA0 (by decide))) rfl ?_
                refine w_t (np := 114) (l2 := [some (eR a0), some (eI (a1)), some (eI (i14)), some (eI (v50))]) (s2 := [eI (a1), eR a0, eI (v78), eI (3), eI (v60), eR a0]) rfl rfl rfl ?_
                refine w_t (np := 115) (l2 := [some (eR a0), some (eI (a1)), some (eI (i14)), some (eI (v50))]) (s2 := [eR a0, eI (a1), eR a0, eI (v78), eI (3), eI (v60), eR a0]) rfl (s_an rfl (pos_g I18 gA0 (by decide))) rfl ?_
                refine w_t (np := 116) (l2 := [some (eR a0), some (eI (a1)), some (eI (i14)), some (eI (v50))]) (s2 := [eI (i14), eR a0, eI (a1), eR a0, eI (v78), eI (3), eI (v60), eR a0]) rfl rfl rfl ?_
                refine w_t (np := 117) (l2 := [some (eR a0), some (eI (a1)), some (eI (i14)), some (eI (v50))]) (s2 := [eI (2), eI (i14), eR a0, eI (a1), eR a0, eI (v78), eI (3), eI (v60), eR a0]) rfl rfl rfl ?_
                refine w_cw (np := 120) (as := [eI (i14), eI (2)]) (l2 := [some (eR a0), some (eI (i14)), some (eI (2))]) (rest := [eI (a1), eR a0, eI (v78), eI (3), eI (v60), eR a0]) rfl rfl rfl (Nat.ble_eq.mp rfl) rfl rfl rfl (I18.kd gA0 (by decide) (n := 69) rfl) rfl ?_
                refine w_t (np := 1) (l2 := [some (eR a0), some (eI (i14)), some (eI (2))]) (s2 := [eR a0]) rfl (s_an rfl (pos_g I18 gA0 (by decide))) rfl ?_
                refine w_gf (np := 4) (v := eR v27) rfl rfl (I18.kd gA0 (by decide) (n := 69) rfl) (by rw [e28]; rfl) ?_
                refine w_t (np := 5) (l2 := [some (eR a0), some (eI (i14)), some (eI (2))]) (s2 := [eI (3), eR v27]) rfl rfl rfl ?_
                refine w_t (np := 6) (l2 := [some (eR a0), some (eI (i14)), some (eI (2))]) (s2 := [eI (i14), eI (3), eR v27]) rfl rfl rfl ?_
                obtain ⟨v80, e81⟩ : ∃ zz : Int, zz = (3) * (i14) := ⟨_, rfl⟩
                have b82 : 0 ≤ v80 ∧ v80 ≤ 2667 := by omega
                refine w_t (np := 7) (l2 := [some (eR a0), some (eI (i14)), some (eI (2))]) (s2 := [eI (v80), eR v27]) rfl (b_imul (by rw [← e81]; exact ev_w_in (by omega) (by omega))) rfl ?_
                refine w_t (np := 8) (l2 := [some (eR a0), some (eI (i14)), some (eI (2))]) (s2 := [eI (2), eI (v80), eR v27]) rfl rfl rfl ?_
                obtain ⟨v83, e84⟩ : ∃ zz : Int, zz = (v80) + (2) := ⟨_, rfl⟩
                have b85 : 2 ≤ v83 ∧ v83 ≤ 2669 := by omega
                refine w_t (np := 9) (l2 := [some (eR a0), some (eI (i14)), some (eI (2))]) (s2 := [eI (v83), eR v27]) rfl (b_iadd (by rw [← e84]; exact ev_w_in (by omega) (by omega))) rfl ?_
                refine j_al (np := 10) rfl rfl I18 b29 (by decide) (n := 2670) rfl rfl (lo := 0) (hi := 2669) (fun _ => rfl) (by omega) (by omega) ?_
                intro v86 e87 b88
                refine b_ri rfl rfl ?_
                show ex_q (dt_fg L ρ) rc (d + 3, (251, 120, [some (eR a0), some (eI (a1)), some (eI (i14)), some (eI (v50))], [eI (v86), eI (a1), eR a0, eI (v78), eI (3), eI (v60), eR a0]), f :: F, m17)
                obtain ⟨D89, h90⟩ := LG.d (i := i14) (c := 2) (v0 := v31) (v1 := v83) I18 p20 gA0 b29 e24 (by omega) (by omega) e35 (by omega) (by decide) e87
                obtain ⟨D91, h92⟩ := LG.c h90 (show v34 = a1 by omega)
                refine w_cw (np := 123) (as := [eI (a1), eI (v86)]) (l2 := [some (eR a0), some (eI (a1)), some (eI (v86)), none]) (rest := [eI (v78), eI (3), eI (v60), eR a0]) rfl rfl rfl (Nat.ble_eq.mp rfl) rfl rfl rfl (I18.kd gA0 (by decide) (n := 69) rfl) rfl ?_
                refine s_249 (a1 := a1) (a2 := v86) I18 gA0 (by omega) (by omega) h92 ?_
                intro v93 b94
                show ex_q (dt_fg L ρ) rc (d + 3, (251, 123, [some (eR a0), some (eI (a1)), some (eI (i14)), some (eI (v50))], [eI (v93), eI (v78), eI (3), eI (v60), eR a0]), f :: F, m17)
                refine w_cw (np := 126) (as := [eI (v60), eI (3), eI (v78), eI (v93)]) (l2 := [some (eR a0), some (eI (v60)), some (eI (3)), some (eI (v78)), some (eI (v93)), none]) (rest := []) rfl rfl rfl (Nat.ble_eq.mp rfl) rfl rfl rfl (I18.kd gA0 (by decide) (n := 69) rfl) rfl ?_
                refine s_250 (a1 := v60) (a2 := 3) (a3 := v78) (a4 := v93) I18 gA0 (by omega) (by decide) (by omega) (by omega) ?_
                intro m95 I96 F97
                have F98 : Fr l_251 0 0 g μ m95 := F19.t F97 rfl
                have p99 : LG g m95 := LG.fr p20 F97 rfl
                have p100 : MT g m95 := MT.fr p21 F97 rfl
                show ex_q (dt_fg L ρ) rc (d + 3, (251, 126, [some (eR a0), some (eI (a1)), some (eI (i14)), some (eI (v50))], []), f :: F, m95)
                refine w_go (t1 := 184) rfl rfl ?_
                obtain ⟨v101, e102⟩ : ∃ zz : Int, zz = (i14) + (1) := ⟨_, rfl⟩
                have b103 : 1 ≤ v101 ∧ v101 ≤ 890 := by omega
                refine w_t (np := 187) (l2 := [some (eR a0), some (eI (a1)), some (eI (v101)), some (eI (v50))]) (s2 := []) rfl (b_iinc rfl (by rw [← e102]; exact ev_w_in (by omega) (by omega)) rfl) rfl ?_
                refine w_go (t1 := 23) rfl rfl ?_
                exact ih13 (890 - (v101)).toNat (by omega) m95 (v101) (some (eI (v50))) I96 F98 (by omega)   p99 p100  rfl
              · have b64 : 0 ≤ v50 ∧ v50 ≤ 0 := by omega
                refine w_t (np := 5) (l2 := [some (eI (v50)), some (eI (0))]) (s2 := [eI (0)]) rfl rfl rfl ?_
                refine b_ine (t1 := 12) (t2 := 8) rfl rfl rfl rfl (fun g64 => absurd g64 (by decide)) (fun g64 => ?_)
                refine w_t (np := 9) (l2 := [some (eI (v50)), some (eI (0))]) (s2 := [eI (1)]) rfl rfl rfl ?_
                refine w_go (t1 := 25) rfl rfl ?_
                refine b_ri rfl rfl ?_
                show ex_q (dt_fg L ρ) rc (d + 3, (251, 101, [some (eR a0), some (eI (a1)), some (eI (i14)), some (eI (v50))], [eI (1), eI (v60), eR a0]), f :: F, m17)
                refine w_t (np := 102) (l2 := [some (eR a0), some (eI (a1)), some (eI (i14)), some (eI (v50))]) (s2 := [eR a0, eI (1), eI (v60), eR a0]) rfl (s_an rfl (pos_g I18 gA0 (by decide))) rfl ?_
                refine w_t (np := 103) (l2 := [some (eR a0), some (eI (a1)), some (eI (i14)), some (eI (v50))]) (s2 := [eI (a1), eR a0, eI (1), eI (v60), eR a0]) rfl rfl rfl ?_
                refine w_t (np := 104) (l2 := [some (eR a0), some (eI (a1)), some (eI (i14)), some (eI (v50))]) (s2 := [eR a0, eI (a1), eR a0, eI (1), eI (v60), eR a0]) rfl (s_an rfl (pos_g I18 gA0 (by decide))) rfl ?_
                refine w_t (np := 105) (l2 := [some (eR a0), some (eI (a1)), some (eI (i14)), some (eI (v50))]) (s2 := [eI (i14), eR a0, eI (a1), eR a0, eI (1), eI (v60), eR a0]) rfl rfl rfl ?_
                refine w_t (np := 106) (l2 := [some (eR a0), some (eI (a1)), some (eI (i14)), some (eI (v50))]) (s2 := [eI (1), eI (i14), eR a0, eI (a1), eR a0, eI (1), eI (v60), eR a0]) rfl rfl rfl ?_
                refine w_cw (np := 109) (as := [eI (i14), eI (1)]) (l2 := [some (eR a0), some (eI (i14)), some (eI (1))]) (rest := [eI (a1), eR a0, eI (1), eI (v60), eR a0]) rfl rfl rfl (Nat.ble_eq.mp rfl) rfl rfl rfl (I18.kd gA0 (by decide) (n := 69) rfl) rfl ?_
                refine w_t (np := 1) (l2 := [some (eR a0), some (eI (i14)), some (eI (1))]) (s2 := [eR a0]) rfl (s_an rfl (pos_g I18 gA0 (by decide))) rfl ?_
                refine w_gf (np := 4) (v := eR v27) rfl rfl (I18.kd gA0 (by decide) (n := 69) rfl) (by rw [e28]; rfl) ?_
                refine w_t (np := 5) (l2 := [some (eR a0), some (eI (i14)), some (eI (1))]) (s2 := [eI (3), eR v27]) rfl rfl rfl ?_
                refine w_t (np := 6) (l2 := [some (eR a0), some (eI (i14)), some (eI (1))]) (s2 := [eI (i14), eI (3), eR v27]) rfl rfl rfl ?_
                obtain ⟨v65, e66⟩ : ∃ zz : Int, zz = (3) * (i14) := ⟨_, rfl⟩
                have b67 : 0 ≤ v65 ∧ v65 ≤ 2667 := by omega
                refine w_t (np := 7) (l2 := [some (eR a0), some (eI (i14)), some (eI (1))]) (s2 := [eI (v65), eR v27]) rfl (b_imul (by rw [← e66]; exact ev_w_in (by omega) (by omega))) rfl ?_
                refine w_t (np := 8) (l2 := [some (eR a0), some (eI (i14)), some (eI (1))]) (s2 := [eI (1), eI (v65), eR v27]) rfl rfl rfl ?_
                obtain ⟨v68, e69⟩ : ∃ zz : Int, zz = (v65) + (1) := ⟨_, rfl⟩
                have b70 : 1 ≤ v68 ∧ v68 ≤ 2668 := by omega
                refine w_t (np := 9) (l2 := [some (eR a0), some (eI (i14)), some (eI (1))]) (s2 := [eI (v68), eR v27]) rfl (b_iadd (by rw [← e69]; exact ev_w_in (by omega) (by omega))) rfl ?_
                refine j_al (np := 10) rfl rfl I18 b29 (by decide) (n := 2670) rfl rfl (lo := 0) (hi := 2669) (fun _ => rfl) (by omega) (by omega) ?_
                intro v71 e72 b73
                refine b_ri rfl rfl ?_
                show ex_q (dt_fg L ρ) rc (d + 3, (251, 109, [some (eR a0), some (eI (a1)), some (eI (i14)), some (eI (v50))], [eI (v71), eI (a1), eR a0, eI (1), eI (v60), eR a0]), f :: F, m17)
                obtain ⟨D74, h75⟩ := LG.d (i := i14) (c := 1) (v0 := v31) (v1 := v68) I18 p20 gA0 b29 e24 (by omega) (by omega) e35 (by omega) (by decide) e72
                obtain ⟨D76, h77⟩ := LG.c h75 (show v34 = a1 by omega)
                refine w_cw (np := 112) (as := [eI (a1), eI (v71)]) (l2 := [some (eR a0), some (eI (a1)), some (eI (v71)), none]) (rest := [eI (1), eI (v60), eR a0]) rfl rfl rfl (Nat.ble_eq.mp rfl) rfl rfl rfl (I18.kd gA0 (by decide) (n := 69) rfl) rfl ?_
                refine s_249 (a1 := a1) (a2 := v71) I18 gA0 (by omega) (by omega) h77 ?_
                intro v78 b79
                show ex_q (dt_fg L ρ) rc (d + 3, (251, 112, [some (eR a0), some (eI (a1)), some (eI (i14)), some (eI (v50))], [eI (v78), eI (1), eI (v60), eR a0]), f :: F, m17)
                refine w_t (np := 113) (l2 := [some (eR a0), some (eI (a1)), some (eI (i14)), some (eI (v50))]) (s2 := [eR a0, eI (v78), eI (1), eI (v60), eR a0]) rfl (s_an rfl (pos_g I18 gA0 (by decide))) rfl ?_
                refine w_t (np := 114) (l2 := [some (eR a0), some (eI (a1)), some (eI (i14)), some (eI (v50))]) (s2 := [eI (a1), eR a0, eI (v78), eI (1), eI (v60), eR a0]) rfl rfl rfl ?_
                refine w_t (np := 115) (l2 := [some (eR a0), some (eI (a1)), some (eI (i14)), some (eI (v50))]) (s2 := [eR a0, eI (a1), eR a0, eI (v78), eI (1), eI (v60), eR a0]) rfl (s_an rfl (pos_g I18 gA0 (by decide))) rfl ?_
                refine w_t (np := 116) (l2 := [some (eR a0), some (eI (a1)), some (eI (i14)), some (eI (v50))]) (s2 := [eI (i14), eR a0, eI (a1), eR a0, eI (v78), eI (1), eI (v60), eR a0]) rfl rfl rfl ?_
                refine w_t (np := 117) (l2 := [some (eR a0), some (eI (a1)), some (eI (i14)), some (eI (v50))]) (s2 := [eI (2), eI (i14), eR a0, eI (a1), eR a0, eI (v78), eI (1), eI (v60), eR a0]) rfl rfl rfl ?_
                refine w_cw (np := 120) (as := [eI (i14), eI (2)]) (l2 := [some (eR a0), some (eI (i14)), some (eI (2))]) (rest := [eI (a1), eR a0, eI (v78), eI (1), eI (v60), eR a0]) rfl rfl rfl (Nat.ble_eq.mp rfl) rfl rfl rfl (I18.kd gA0 (by decide) (n := 69) rfl) rfl ?_
                refine w_t (np := 1) (l2 := [some (eR a0), some (eI (i14)), some (eI (2))]) (s2 := [eR a0]) rfl (s_an rfl (pos_g I18 gA0 (by decide))) rfl ?_
                refine w_gf (np := 4) (v := eR v27) rfl rfl (I18.kd gA0 (by decide) (n := 69) rfl) (by rw [e28]; rfl) ?_
                refine w_t (np := 5) (l2 := [some (eR a0), some (eI (i14)), some (eI (2))]) (s2 := [eI (3), eR v27]) rfl rfl rfl ?_
                refine w_t (np := 6) (l2 := [some (eR a0), some (eI (i14)), some (eI (2))]) (s2 := [eI (i14), eI (3), eR v27]) rfl rfl rfl ?_
                obtain ⟨v80, e81⟩ : ∃ zz : Int, zz = (3) * (i14) := ⟨_, rfl⟩
                have b82 : 0 ≤ v80 ∧ v80 ≤ 2667 := by omega
                refine w_t (np := 7) (l2 := [some (eR a0), some (eI (i14)), some (eI (2))]) (s2 := [eI (v80), eR v27]) rfl (b_imul (by rw [← e81]; exact ev_w_in (by omega) (by omega))) rfl ?_
                refine w_t (np := 8) (l2 := [some (eR a0), some (eI (i14)), some (eI (2))]) (s2 := [eI (2), eI (v80), eR v27]) rfl rfl rfl ?_
                obtain ⟨v83, e84⟩ : ∃ zz : Int, zz = (v80) + (2) := ⟨_, rfl⟩
                have b85 : 2 ≤ v83 ∧ v83 ≤ 2669 := by omega
                refine w_t (np := 9) (l2 := [some (eR a0), some (eI (i14)), some (eI (2))]) (s2 := [eI (v83), eR v27]) rfl (b_iadd (by rw [← e84]; exact ev_w_in (by omega) (by omega))) rfl ?_
                refine j_al (np := 10) rfl rfl I18 b29 (by decide) (n := 2670) rfl rfl (lo := 0) (hi := 2669) (fun _ => rfl) (by omega) (by omega) ?_
                intro v86 e87 b88
                refine b_ri rfl rfl ?_
                show ex_q (dt_fg L ρ) rc (d + 3, (251, 120, [some (eR a0), some (eI (a1)), some (eI (i14)), some (eI (v50))], [eI (v86), eI (a1), eR a0, eI (v78), eI (1), eI (v60), eR a0]), f :: F, m17)
                obtain ⟨D89, h90⟩ := LG.d (i := i14) (c := 2) (v0 := v31) (v1 := v83) I18 p20 gA0 b29 e24 (by omega) (by omega) e35 (by omega) (by decide) e87
                obtain ⟨D91, h92⟩ := LG.c h90 (show v34 = a1 by omega)
                refine w_cw (np := 123) (as := [eI (a1), eI (v86)]) (l2 := [some (eR a0), some (eI (a1)), some (eI (v86)), none]) (rest := [eI (v78), eI (1), eI (v60), eR a0]) rfl rfl rfl (Nat.ble_eq.mp rfl) rfl rfl rfl (I18.kd gA0 (by decide) (n := 69) rfl) rfl ?_
                refine s_249 (a1 := a1) (a2 := v86) I18 gA0 (by omega) (by omega) h92 ?_
                intro v93 b94
                show ex_q (dt_fg L ρ) rc (d + 3, (251, 123, [some (eR a0), some (eI (a1)), some (eI (i14)), some (eI (v50))], [eI (v93), eI (v78), eI (1), eI (v60), eR a0]), f :: F, m17)
                refine w_cw (np := 126) (as := [eI (v60), eI (1), eI (v78), eI (v93)]) (l2 := [some (eR a0), some (eI (v60)), some (eI (1)), some (eI (v78)), some (eI (v93)), none]) (rest := []) rfl rfl rfl (Nat.ble_eq.mp rfl) rfl rfl rfl (I18.kd gA0 (by decide) (n := 69) rfl) rfl ?_
                refine s_250 (a1 := v60) (a2 := 1) (a3 := v78) (a4 := v93) I18 gA0 (by omega) (by decide) (by omega) (by omega) ?_
                intro m95 I96 F97
                have F98 : Fr l_251 0 0 g μ m95 := F19.t F97 rfl
                have p99 : LG g m95 := LG.fr p20 F97 rfl
                have p100 : MT g m95 := MT.fr p21 F97 rfl
                show ex_q (dt_fg L ρ) rc (d + 3, (251, 126, [some (eR a0), some (eI (a1)), some (eI (i14)), some (eI (v50))], []), f :: F, m95)
                refine w_go (t1 := 184) rfl rfl ?_
                obtain ⟨v101, e102⟩ : ∃ zz : Int, zz = (i14) + (1) := ⟨_, rfl⟩
                have b103 : 1 ≤ v101 ∧ v101 ≤ 890 := by omega
                refine w_t (np := 187) (l2 := [some (eR a0), some (eI (a1)), some (eI (v101)), some (eI (v50))]) (s2 := []) rfl (b_iinc rfl (by rw [← e102]; exact ev_w_in (by omega) (by omega)) rfl) rfl ?_
                refine w_go (t1 := 23) rfl rfl ?_
                exact ih13 (890 - (v101)).toNat (by omega) m95 (v101) (some (eI (v50))) I96 F98 (by omega)   p99 p100  rfl
            · have b46 : -1 ≤ v42 ∧ v42 ≤ -1 := by omega
              refine w_t (np := 74) (l2 := [some (eR a0), some (eI (a1)), some (eI (i14)), o16]) (s2 := [eI (0)]) rfl rfl rfl ?_
              exact b_rz rfl rfl (Or.inl rfl) (K m17 (0) I18 F19 (by decide))
          · refine w_t (np := 42) (l2 := [some (eR a0), some (eI (a1)), some (eI (i14)), o16]) (s2 := [eR a0]) rfl (s_an rfl (pos_g I18 gA0 (by decide))) rfl ?_
            refine w_t (np := 43) (l2 := [some (eR a0), some (eI (a1)), some (eI (i14)), o16]) (s2 := [eI (i14), eR a0]) rfl rfl rfl ?_
            refine w_t (np := 44) (l2 := [some (eR a0), some (eI (a1)), some (eI (i14)), o16]) (s2 := [eI (1), eI (i14), eR a0]) rfl rfl rfl ?_
            refine w_cw (np := 47) (as := [eI (i14), eI (1)]) (l2 := [some (eR a0), some (eI (i14)), some (eI (1))]) (rest := []) rfl rfl rfl (Nat.ble_eq.mp rfl) rfl rfl rfl (I18.kd gA0 (by decide) (n := 69) rfl) rfl ?_
            refine w_t (np := 1) (l2 := [some (eR a0), some (eI (i14)), some (eI (1))]) (s2 := [eR a0]) rfl (s_an rfl (pos_g I18 gA0 (by decide))) rfl ?_
            refine w_gf (np := 4) (v := eR v27) rfl rfl (I18.kd gA0 (by decide) (n := 69) rfl) (by rw [e28]; rfl) ?_
            refine w_t (np := 5) (l2 := [some (eR a0), some (eI (i14)), some (eI (1))]) (s2 := [eI (3), eR v27]) rfl rfl rfl ?_
            refine w_t (np := 6) (l2 := [some (eR a0), some (eI (i14)), some (eI (1))]) (s2 := [eI (i14), eI (3), eR v27]) rfl rfl rfl ?_
            obtain ⟨v38, e39⟩ : ∃ zz : Int, zz = (3) * (i14) := ⟨_, rfl⟩
            have b40 : 0 ≤ v38 ∧ v38 ≤ 2667 := by omega
            refine w_t (np := 7) (l2 := [some (eR a0), some (eI (i14)), some (eI (1))]) (s2 := [eI (v38), eR v27]) rfl (b_imul (by rw [← e39]; exact ev_w_in (by omega) (by omega))) rfl ?_
            refine w_t (np := 8) (l2 := [some (eR a0), some (eI (i14)), some (eI (1))]) (s2 := [eI (1), eI (v38), eR v27]) rfl rfl rfl ?_
            obtain ⟨v41, e42⟩ : ∃ zz : Int, zz = (v38) + (1) := ⟨_, rfl⟩
            have b43 : 1 ≤ v41 ∧ v41 ≤ 2668 := by omega
            refine w_t (np := 9) (l2 := [some (eR a0), some (eI (i14)), some (eI (1))]) (s2 := [eI (v41), eR v27]) rfl (b_iadd (by rw [← e42]; exact ev_w_in (by omega) (by omega))) rfl ?_
            refine j_al (np := 10) rfl rfl I18 b29 (by decide) (n := 2670) rfl rfl (lo := 0) (hi := 2669) (fun _ => rfl) (by omega) (by omega) ?_
            intro v44 e45 b46
            refine b_ri rfl rfl ?_
            show ex_q (dt_fg L ρ) rc (d + 3, (251, 47, [some (eR a0), some (eI (a1)), some (eI (i14)), o16], [eI (v44)]), f :: F, m17)
            refine w_t (np := 48) (l2 := [some (eR a0), some (eI (a1)), some (eI (i14)), o16]) (s2 := [eI (a1), eI (v44)]) rfl rfl rfl ?_
            refine b_ceq (t1 := 64) (t2 := 51) rfl rfl rfl (ev_w_in (by omega) (by omega)) (ev_w_in (by omega) (by omega)) (fun g47 => ?_) (fun g47 => ?_)
            · refine w_t (np := 65) (l2 := [some (eR a0), some (eI (a1)), some (eI (i14)), o16]) (s2 := [eR a0]) rfl (s_an rfl (pos_g I18 gA0 (by decide))) rfl ?_
              refine j_gr (np := 68) rfl rfl I18 gA0 (by decide) (n := 69) rfl rfl rfl ?_
              intro v48 e49 b50 z51
              have b50 : g v48 = 67 := Nat.eq_of_beq_eq_true b50
              refine w_t (np := 69) (l2 := [some (eR a0), some (eI (a1)), some (eI (i14)), o16]) (s2 := [eI (i14), eR v48]) rfl rfl rfl ?_
              refine j_al (np := 70) rfl rfl I18 b50 (by decide) (n := 890) rfl rfl (lo := -1) (hi := 889) (fun _ => rfl) (by omega) (by omega) ?_
              intro v52 e53 b54
              refine b_ige (t1 := 75) (t2 := 73) rfl rfl rfl (ev_w_in (by omega) (by omega)) (fun g55 => ?_) (fun g55 => ?_)
              · have b56 : 0 ≤ v52 ∧ v52 ≤ 889 := by omega
                refine w_t (np := 76) (l2 := [some (eR a0), some (eI (a1)), some (eI (i14)), o16]) (s2 := [eR a0]) rfl (s_an rfl (pos_g I18 gA0 (by decide))) rfl ?_
                refine j_gr (np := 79) rfl rfl I18 gA0 (by decide) (n := 69) rfl rfl rfl ?_
                intro v56 e57 b58 z59
                have b58 : g v56 = 56 := Nat.eq_of_beq_eq_true b58
                refine w_t (np := 80) (l2 := [some (eR a0), some (eI (a1)), some (eI (i14)), o16]) (s2 := [eI (i14), eR v56]) rfl rfl rfl ?_
                refine j_al (np := 81) rfl rfl I18 b58 (by decide) (n := 890) rfl rfl (lo := 0) (hi := 1) (fun _ => rfl) (by omega) (by omega) ?_
                intro v60 e61 b62
                refine w_t (np := 82) (l2 := [some (eR a0), some (eI (a1)), some (eI (i14)), some (eI (v60))]) (s2 := []) rfl rfl rfl ?_
                refine w_t (np := 83) (l2 := [some (eR a0), some (eI (a1)), some (eI (i14)), some (eI (v60))]) (s2 := [eR a0]) rfl (s_an rfl (pos_g I18 gA0 (by decide))) rfl ?_
                refine w_t (np := 84) (l2 := [some (eR a0), some (eI (a1)), some (eI (i14)), some (eI (v60))]) (s2 := [eI (i14), eR a0]) rfl rfl rfl ?_
                refine w_t (np := 85) (l2 := [some (eR a0), some (eI (a1)), some (eI (i14)), some (eI (v60))]) (s2 := [eI (0), eI (i14), eR a0]) rfl rfl rfl ?_
                refine w_cw (np := 88) (as := [eI (i14), eI (0)]) (l2 := [some (eR a0), some (eI (i14)), some (eI (0))]) (rest := []) rfl rfl rfl (Nat.ble_eq.mp rfl) rfl rfl rfl (I18.kd gA0 (by decide) (n := 69) rfl) rfl ?_
                refine w_t (np := 1) (l2 := [some (eR a0), some (eI (i14)), some (eI (0))]) (s2 := [eR a0]) rfl (s_an rfl (pos_g I18 gA0 (by decide))) rfl ?_
                refine w_gf (np := 4) (v := eR v27) rfl rfl (I18.kd gA0 (by decide) (n := 69) rfl) (by rw [e28]; rfl) ?_
                refine w_t (np := 5) (l2 := [some (eR a0), some (eI (i14)), some (eI (0))]) (s2 := [eI (3), eR v27]) rfl rfl rfl ?_
                refine w_t (np := 6) (l2 := [some (eR a0), some (eI (i14)), some (eI (0))]) (s2 := [eI (i14), eI (3), eR v27]) rfl rfl rfl ?_
                obtain ⟨v63, e64⟩ : ∃ zz : Int, zz = (3) * (i14) := ⟨_, rfl⟩
                have b65 : 0 ≤ v63 ∧ v63 ≤ 2667 := by omega
                refine w_t (np := 7) (l2 := [some (eR a0), some (eI (i14)), some (eI (0))]) (s2 := [eI (v63), eR v27]) rfl (b_imul (by rw [← e64]; exact ev_w_in (by omega) (by omega))) rfl ?_
                refine w_t (np := 8) (l2 := [some (eR a0), some (eI (i14)), some (eI (0))]) (s2 := [eI (0), eI (v63), eR v27]) rfl rfl rfl ?_
                refine w_t (np := 9) (l2 := [some (eR a0), some (eI (i14)), some (eI (0))]) (s2 := [eI (v63), eR v27]) rfl (b_iadd (by rw [Int.add_zero]; exact ev_w_in (by omega) (by omega))) rfl ?_
                refine j_al (np := 10) rfl rfl I18 b29 (by decide) (n := 2670) rfl rfl (lo := 0) (hi := 2669) (fun _ => rfl) (by omega) (by omega) ?_
                intro v66 e67 b68
                have e67 : v66 = v34 := e67.symm.trans (by rw [show v63 = v31 by omega]; exact e35)
                rw [e67]
                refine b_ri rfl rfl ?_
                show ex_q (dt_fg L ρ) rc (d + 3, (251, 88, [some (eR a0), some (eI (a1)), some (eI (i14)), some (eI (v60))], [eI (v34)]), f :: F, m17)
                refine w_t (np := 89) (l2 := [some (eR a0), some (eI (a1)), some (eI (i14)), some (eI (v60))]) (s2 := [eI (a1), eI (v34)]) rfl rfl rfl ?_
                refine b_cne (t1 := 129) (t2 := 92) rfl rfl rfl (ev_w_in (by omega) (by omega)) (ev_w_in (by omega) (by omega)) (fun g69 => ?_) (fun g69 => False.elim (by omega))
                refine w_t (np := 130) (l2 := [some (eR a0), some (eI (a1)), some (eI (i14)), some (eI (v60))]) (s2 := [eR a0]) rfl (s_an rfl (pos_g I18 gA0 (by decide))) rfl ?_
                refine w_t (np := 131) (l2 := [some (eR a0), some (eI (a1)), some (eI (i14)), some (eI (v60))]) (s2 := [eI (3), eR a0]) rfl rfl rfl ?_
                refine w_t (np := 132) (l2 := [some (eR a0), some (eI (a1)), some (eI (i14)), some (eI (v60))]) (s2 := [eI (v60), eI (3), eR a0]) rfl rfl rfl ?_
                obtain ⟨v70, e71⟩ : ∃ zz : Int, zz = (3) * (v60) := ⟨_, rfl⟩
                have b72 : 0 ≤ v70 ∧ v70 ≤ 3 := by omega
                refine w_t (np := 133) (l2 := [some (eR a0), some (eI (a1)), some (eI (i14)), some (eI (v60))]) (s2 := [eI (v70), eR a0]) rfl (b_imul (by rw [← e71]; exact ev_w_in (by omega) (by omega))) rfl ?_
                refine w_t (np := 134) (l2 := [some (eR a0), some (eI (a1)), some (eI (i14)), some (eI (v60))]) (s2 := [eR a0, eI (v70), eR a0]) rfl (s_an rfl (pos_g I18 gA0 (by decide))) rfl ?_
                refine w_t (np := 135) (l2 := [some (eR a0), some (eI (a1)), some (eI (i14)), some (eI (v60))]) (s2 := [eI (i14), eR a0, eI (v70), eR a0]) rfl rfl rfl ?_
                refine w_t (np := 136) (l2 := [some (eR a0), some (eI (a1)), some (eI (i14)), some (eI (v60))]) (s2 := [eI (1), eI (i14), eR a0, eI (v70), eR a0]) rfl rfl rfl ?_
                refine w_cw (np := 139) (as := [eI (i14), eI (1)]) (l2 := [some (eR a0), some (eI (i14)), some (eI (1))]) (rest := [eI (v70), eR a0]) rfl rfl rfl (Nat.ble_eq.mp rfl) rfl rfl rfl (I18.kd gA0 (by decide) (n := 69) rfl) rfl ?_
                refine w_t (np := 1) (l2 := [some (eR a0), some (eI (i14)), some (eI (1))]) (s2 := [eR a0]) rfl (s_an rfl (pos_g I18 gA0 (by decide))) rfl ?_
                refine w_gf (np := 4) (v := eR v27) rfl rfl (I18.kd gA0 (by decide) (n := 69) rfl) (by rw [e28]; rfl) ?_
                refine w_t (np := 5) (l2 := [some (eR a0), some (eI (i14)), some (eI (1))]) (s2 := [eI (3), eR v27]) rfl rfl rfl ?_
                refine w_t (np := 6) (l2 := [some (eR a0), some (eI (i14)), some (eI (1))]) (s2 := [eI (i14), eI (3), eR v27]) rfl rfl rfl ?_
                obtain ⟨v73, e74⟩ : ∃ zz : Int, zz = (3) * (i14) := ⟨_, rfl⟩
                have b75 : 0 ≤ v73 ∧ v73 ≤ 2667 := by omega
                refine w_t (np := 7) (l2 := [some (eR a0), some (eI (i14)), some (eI (1))]) (s2 := [eI (v73), eR v27]) rfl (b_imul (by rw [← e74]; exact ev_w_in (by omega) (by omega))) rfl ?_
                refine w_t (np := 8) (l2 := [some (eR a0), some (eI (i14)), some (eI (1))]) (s2 := [eI (1), eI (v73), eR v27]) rfl rfl rfl ?_
                obtain ⟨v76, e77⟩ : ∃ zz : Int, zz = (v73) + (1) := ⟨_, rfl⟩
                have b78 : 1 ≤ v76 ∧ v76 ≤ 2668 := by omega
                refine w_t (np := 9) (l2 := [some (eR a0), some (eI (i14)), some (eI (1))]) (s2 := [eI (v76), eR v27]) rfl (b_iadd (by rw [← e77]; exact ev_w_in (by omega) (by omega))) rfl ?_
                refine j_al (np := 10) rfl rfl I18 b29 (by decide) (n := 2670) rfl rfl (lo := 0) (hi := 2669) (fun _ => rfl) (by omega) (by omega) ?_
                intro v79 e80 b81
                have e80 : v79 = v44 := e80.symm.trans (by rw [show v76 = v41 by omega]; exact e45)
                rw [e80]
                refine b_ri rfl rfl ?_
                show ex_q (dt_fg L ρ) rc (d + 3, (251, 139, [some (eR a0), some (eI (a1)), some (eI (i14)), some (eI (v60))], [eI (v44), eI (v70), eR a0]), f :: F, m17)
                refine w_t (np := 140) (l2 := [some (eR a0), some (eI (a1)), some (eI (i14)), some (eI (v60))]) (s2 := [eI (a1), eI (v44), eI (v70), eR a0]) rfl rfl rfl ?_
                refine b_cne (t1 := 147) (t2 := 143) rfl rfl rfl (ev_w_in (by omega) (by omega)) (ev_w_in (by omega) (by omega)) (fun g82 => False.elim (by omega)) (fun g82 => ?_)
                refine w_t (np := 144) (l2 := [some (eR a0), some (eI (a1)), some (eI (i14)), some (eI (v60))]) (s2 := [eI (1), eI (v70), eR a0]) rfl rfl rfl ?_
                refine w_go (t1 := 148) rfl rfl ?_
                obtain ⟨v83, e84⟩ : ∃ zz : Int, zz = (v70) + (1) := ⟨_, rfl⟩
                have b85 : 1 ≤ v83 ∧ v83 ≤ 4 := by omega
                refine w_t (np := 149) (l2 := [some (eR a0), some (eI (a1)), some (eI (i14)), some (eI (v60))]) (s2 := [eI (v83), eR a0]) rfl (b_iadd (by rw [← e84]; exact ev_w_in (by omega) (by omega))) rfl ?_
                refine w_t (np := 150) (l2 := [some (eR a0), some (eI (a1)), some (eI (i14)), some (eI (v60))]) (s2 := [eI (v60), eI (v83), eR a0]) rfl rfl rfl ?_
                refine w_t (np := 151) (l2 := [some (eR a0), some (eI (a1)), some (eI (i14)), some (eI (v60))]) (s2 := [eI (1), eI (v60), eI (v83), eR a0]) rfl rfl rfl ?_
                refine w_cu (np := 154) (as := [eI (v60), eI (1)]) (l2 := [some (eI (v60)), some (eI (1))]) (rest := [eI (v83), eR a0]) rfl rfl rfl (Nat.ble_eq.mp rfl) rfl rfl rfl rfl ?_
                refine w_t (np := 1) (l2 := [some (eI (v60)), some (eI (1))]) (s2 := [eI (v60)]) rfl rfl rfl ?_
                refine b_ine (t1 := 16) (t2 := 4) rfl rfl rfl (ev_w_in (by omega) (by omega)) (fun g86 => ?_) (fun g86 => ?_)
                · have b87 : 1 ≤ v60 ∧ v60 ≤ 1 := by omega
                  refine w_t (np := 17) (l2 := [some (eI (v60)), some (eI (1))]) (s2 := [eI (1)]) rfl rfl rfl ?_
                  refine b_ine (t1 := 24) (t2 := 20) rfl rfl rfl rfl (fun g87 => ?_) (fun g87 => absurd g87 (by decide))
                  refine w_t (np := 25) (l2 := [some (eI (v60)), some (eI (1))]) (s2 := [eI (2)]) rfl rfl rfl ?_
                  refine b_ri rfl rfl ?_
                  show ex_q (dt_fg L ρ) rc (d + 3, (251, 154, [some (eR a0), some (eI (a1)), some (eI (i14)), some (eI (v60))], [eI (2), eI (v83), eR a0]), f :: F, m17)
                  refine w_t (np := 155) (l2 := [some (eR a0), some (eI (a1)), some (eI (i14)), some (eI (v60))]) (s2 := [eR a0, eI (2), eI (v83), eR a0]) rfl (s_an rfl (pos_g I18 gA0 (by decide))) rfl ?_
                  refine w_t (np := 156) (l2 := [some (eR a0), some (eI (a1)), some (eI (i14)), some (eI (v60))]) (s2 := [eI (a1), eR a0, eI (2), eI (v83), eR a0]) rfl rfl rfl ?_
                  refine w_t (np := 157) (l2 := [some (eR a0), some (eI (a1)), some (eI (i14)), some (eI (v60))]) (s2 := [eR a0, eI (a1), eR a0, eI (2), eI (v83), eR a0]) rfl (s_an rfl (pos_g I18 gA0 (by decide))) rfl ?_
                  refine w_t (np := 158) (l2 := [some (eR a0), some (eI (a1)), some (eI (i14)), some (eI (v60))]) (s2 := [eI (i14), eR a0, eI (a1), eR a0, eI (2), eI (v83), eR a0]) rfl rfl rfl ?_
                  refine w_t (np := 159) (l2 := [some (eR a0), some (eI (a1)), some (eI (i14)), some (eI (v60))]) (s2 := [eI (0), eI (i14), eR a0, eI (a1), eR a0, eI (2), eI (v83), eR a0]) rfl rfl rfl ?_
                  refine w_cw (np := 162) (as := [eI (i14), eI (0)]) (l2 := [some (eR a0), some (eI (i14)), some (eI (0))]) (rest := [eI (a1), eR a0, eI (2), eI (v83), eR a0]) rfl rfl rfl (Nat.ble_eq.mp rfl) rfl rfl rfl (I18.kd gA0 (by decide) (n := 69) rfl) rfl ?_
                  refine w_t (np := 1) (l2 := [some (eR a0), some (eI (i14)), some (eI (0))]) (s2 := [eR a0]) rfl (s_an rfl (pos_g I18 gA0 (by decide))) rfl ?_
                  refine w_gf (np := 4) (v := eR v27) rfl rfl (I18.kd gA0 (by decide) (n := 69) rfl) (by rw [e28]; rfl) ?_
                  refine w_t (np := 5) (l2 := [some (eR a0), some (eI (i14)), some (eI (0))]) (s2 := [eI (3), eR v27]) rfl rfl rfl ?_
                  refine w_t (np := 6) (l2 := [some (eR a0), some (eI (i14)), some (eI (0))]) (s2 := [eI (i14), eI (3), eR v27]) rfl rfl rfl ?_
                  obtain ⟨v88, e89⟩ : ∃ zz : Int, zz = (3) * (i14) := ⟨_, rfl⟩
                  have b90 : 0 ≤ v88 ∧ v88 ≤ 2667 := by omega
                  refine w_t (np := 7) (l2 := [some (eR a0), some (eI (i14)), some (eI (0))]) (s2 := [eI (v88), eR v27]) rfl (b_imul (by rw [← e89]; exact ev_w_in (by omega) (by omega))) rfl ?_
                  refine w_t (np := 8) (l2 := [some (eR a0), some (eI (i14)), some (eI (0))]) (s2 := [eI (0), eI (v88), eR v27]) rfl rfl rfl ?_
                  refine w_t (np := 9) (l2 := [some (eR a0), some (eI (i14)), some (eI (0))]) (s2 := [eI (v88), eR v27]) rfl (b_iadd (by rw [Int.add_zero]; exact ev_w_in (by omega) (by omega))) rfl ?_
                  refine j_al (np := 10) rfl rfl I18 b29 (by decide) (n := 2670) rfl rfl (lo := 0) (hi := 2669) (fun _ => rfl) (by omega) (by omega) ?_
                  intro v91 e92 b93
                  have e92 : v91 = v34 := e92.symm.trans (by rw [show v88 = v31 by omega]; exact e35)
                  rw [e92]
                  refine b_ri rfl rfl ?_
                  show ex_q (dt_fg L ρ) rc (d + 3, (251, 162, [some (eR a0), some (eI (a1)), some (eI (i14)), some (eI (v60))], [eI (v34), eI (a1), eR a0, eI (2), eI (v83), eR a0]), f :: F, m17)
                  obtain ⟨D94, h95⟩ := LG.d (i := i14) (c := 1) (v0 := v31) (v1 := v41) I18 p20 gA0 b29 e24 (by omega) (by omega) e35 (by omega) (by decide) e45
                  obtain ⟨D96, h97⟩ := LG.b h95 (show v44 = a1 by omega)
                  refine w_cw (np := 165) (as := [eI (a1), eI (v34)]) (l2 := [some (eR a0), some (eI (a1)), some (eI (v34)), none]) (rest := [eI (2), eI (v83), eR a0]) rfl rfl rfl (Nat.ble_eq.mp rfl) rfl rfl rfl (I18.kd gA0 (by decide) (n := 69) rfl) rfl ?_
                  refine s_249 (a1 := a1) (a2 := v34) I18 gA0 (by omega) (by omega) h97 ?_
                  intro v98 b99
                  show ex_q (dt_fg L ρ) rc (d + 3, (251, 165, [some (eR a0), some (eI (a1)), some (eI (i14)), some (eI (v60))], [eI (v98), eI (2), eI (v83), eR a0]), f :: F, m17)
                  refine w_t (np := 166) (l2 := [some (eR a0), some (eI (a1)), some (eI (i14)), some (eI (v60))]) (s2 := [eR a0, eI (v98), eI (2), eI (v83), eR a0]) rfl (s_an rfl (pos_g I18 gA0 (by decide))) rfl ?_
                  refine w_t (np := 167) (l2 := [some (eR a0), some (eI (a1)), some (eI (i14)), some (eI (v60))]) (s2 := [eI (a1), eR a0, eI (v98), eI (2), eI (v83), eR a0]) rfl rfl rfl ?_
                  refine w_t (np := 168) (l2 := [some (eR a0), some (eI (a1)), some (eI (i14)), some (eI (v60))]) (s2 := [eR a0, eI (a1), eR a0, eI (v98), eI (2), eI (v83), eR a0]) rfl (s_an rfl (pos_g I18 gA0 (by decide))) rfl ?_
                  refine w_t (np := 169) (l2 := [some (eR a0), some (eI (a1)), some (eI (i14)), some (eI (v60))]) (s2 := [eR a0, eR a0, eI (a1), eR a0, eI (v98), eI (2), eI (v83), eR a0]) rfl (s_an rfl (pos_g I18 gA0 (by decide))) rfl ?_
                  refine w_gf (np := 172) (v := eR v48) rfl rfl (I18.kd gA0 (by decide) (n := 69) rfl) (by rw [e49]; rfl) ?_
                  refine w_t (np := 173) (l2 := [some (eR a0), some (eI (a1)), some (eI (i14)), some (eI (v60))]) (s2 := [eI (i14), eR v48, eR a0, eI (a1), eR a0, eI (v98), eI (2), eI (v83), eR a0]) rfl rfl rfl ?_
                  refine j_al (np := 174) rfl rfl I18 b50 (by decide) (n := 890) rfl rfl (lo := -1) (hi := 889) (fun _ => rfl) (by omega) (by omega) ?_
                  intro v100 e101 b102
                  have e101 := e101.symm.trans e53
                  rw [e101]
                  refine w_t (np := 175) (l2 := [some (eR a0), some (eI (a1)), some (eI (i14)), some (eI (v60))]) (s2 := [eI (0), eI (v52), eR a0, eI (a1), eR a0, eI (v98), eI (2), eI (v83), eR a0]) rfl rfl rfl ?_
                  refine w_cw (np := 178) (as := [eI (v52), eI (0)]) (l2 := [some (eR a0), some (eI (v52)), some (eI (0))]) (rest := [eI (a1), eR a0, eI (v98), eI (2), eI (v83), eR a0]) rfl rfl rfl (Nat.ble_eq.mp rfl) rfl rfl rfl (I18.kd gA0 (by decide) (n := 69) rfl) rfl ?_
                  refine w_t (np := 1) (l2 := [some (eR a0), some (eI (v52)), some (eI (0))]) (s2 := [eR a0]) rfl (s_an rfl (pos_g I18 gA0 (by decide))) rfl ?_
                  refine w_gf (np := 4) (v := eR v27) rfl rfl (I18.kd gA0 (by decide) (n := 69) rfl) (by rw [e28]; rfl) ?_
                  refine w_t (np := 5) (l2 := [some (eR a0), some (eI (v52)), some (eI (0))]) (s2 := [eI (3), eR v27]) rfl rfl rfl ?_
                  refine w_t (np := 6) (l2 := [some (eR a0), some (eI (v52)), some (eI (0))]) (s2 := [eI (v52), eI (3), eR v27]) rfl rfl rfl ?_
                  obtain ⟨v103, e104⟩ : ∃ zz : Int, zz = (3) * (v52) := ⟨_, rfl⟩
                  have b105 : 0 ≤ v103 ∧ v103 ≤ 2667 := by omega
                  refine w_t (np := 7) (l2 := [some (eR a0), some (eI (v52)), some (eI (0))]) (s2 := [eI (v103), eR v27]) rfl (b_imul (by rw [← e104]; exact ev_w_in (by omega) (by omega))) rfl ?_
                  refine w_t (np := 8) (l2 := [some (eR a0), some (eI (v52)), some (eI (0))]) (s2 := [eI (0), eI (v103), eR v27]) rfl rfl rfl ?_
                  refine w_t (np := 9) (l2 := [some (eR a0), some (eI (v52)), some (eI (0))]) (s2 := [eI (v103), eR v27]) rfl (b_iadd (by rw [Int.add_zero]; exact ev_w_in (by omega) (by omega))) rfl ?_
                  refine j_al (np := 10) rfl rfl I18 b29 (by decide) (n := 2670) rfl rfl (lo := 0) (hi := 2669) (fun _ => rfl) (by omega) (by omega) ?_
                  intro v106 e107 b108
                  refine b_ri rfl rfl ?_
                  show ex_q (dt_fg L ρ) rc (d + 3, (251, 178, [some (eR a0), some (eI (a1)), some (eI (i14)), some (eI (v60))], [eI (v106), eI (a1), eR a0, eI (v98), eI (2), eI (v83), eR a0]), f :: F, m17)
                  obtain ⟨D111, h112⟩ := LG.m (i := i14) (m := v52) (c := 1) (v0 := v103) (v1 := v41) I18 p20 p21 gA0 b29 b50 e24 (by omega) e53 (by omega) (by omega) e107 (by omega) (by decide) e45 (show v44 = a1 by omega)
                  refine w_cw (np := 181) (as := [eI (a1), eI (v106)]) (l2 := [some (eR a0), some (eI (a1)), some (eI (v106)), none]) (rest := [eI (v98), eI (2), eI (v83), eR a0]) rfl rfl rfl (Nat.ble_eq.mp rfl) rfl rfl rfl (I18.kd gA0 (by decide) (n := 69) rfl) rfl ?_
                  refine s_249 (a1 := a1) (a2 := v106) I18 gA0 (by omega) (by omega) h112 ?_
                  intro v113 b114
                  show ex_q (dt_fg L ρ) rc (d + 3, (251, 181, [some (eR a0), some (eI (a1)), some (eI (i14)), some (eI (v60))], [eI (v113), eI (v98), eI (2), eI (v83), eR a0]), f :: F, m17)
                  refine w_cw (np := 184) (as := [eI (v83), eI (2), eI (v98), eI (v113)]) (l2 := [some (eR a0), some (eI (v83)), some (eI (2)), some (eI (v98)), some (eI (v113)), none]) (rest := []) rfl rfl rfl (Nat.ble_eq.mp rfl) rfl rfl rfl (I18.kd gA0 (by decide) (n := 69) rfl) rfl ?_
                  refine s_250 (a1 := v83) (a2 := 2) (a3 := v98) (a4 := v113) I18 gA0 (by omega) (by decide) (by omega) (by omega) ?_
                  intro m115 I116 F117
                  have F118 : Fr l_251 0 0 g μ m115 := F19.t F117 rfl
                  have p119 : LG g m115 := LG.fr p20 F117 rfl
                  have p120 : MT g m115 := MT.fr p21 F117 rfl
                  show ex_q (dt_fg L ρ) rc (d + 3, (251, 184, [some (eR a0), some (eI (a1)), some (eI (i14)), some (eI (v60))], []), f :: F, m115)
                  obtain ⟨v121, e122⟩ : ∃ zz : Int, zz = (i14) + (1) := ⟨_, rfl⟩
                  have b123 : 1 ≤ v121 ∧ v121 ≤ 890 := by omega
                  refine w_t (np := 187) (l2 := [some (eR a0), some (eI (a1)), some (eI (v121)), some (eI (v60))]) (s2 := []) rfl (b_iinc rfl (by rw [← e122]; exact ev_w_in (by omega) (by omega)) rfl) rfl ?_
                  refine w_go (t1 := 23) rfl rfl ?_
                  exact ih13 (890 - (v121)).toNat (by omega) m115 (v121) (some (eI (v60))) I116 F118 (by omega)   p119 p120  rfl
                · have b87 : 0 ≤ v60 ∧ v60 ≤ 0 := by omega
                  refine w_t (np := 5) (l2 := [some (eI (v60)), some (eI (1))]) (s2 := [eI (1)]) rfl rfl rfl ?_
                  refine b_ine (t1 := 12) (t2 := 8) rfl rfl rfl rfl (fun g87 => ?_) (fun g87 => absurd g87 (by decide))
                  refine w_t (np := 13) (l2 := [some (eI (v60)), some (eI (1))]) (s2 := [eI (4)]) rfl rfl rfl ?_
                  refine w_go (t1 := 25) rfl rfl ?_
                  refine b_ri rfl rfl ?_
                  show ex_q (dt_fg L ρ) rc (d + 3, (251, 154, [some (eR a0), some (eI (a1)), some (eI (i14)), some (eI (v60))], [eI (4), eI (v83), eR a0]), f :: F, m17)
                  refine w_t (np := 155) (l2 := [some (eR a0), some (eI (a1)), some (eI (i14)), some (eI (v60))]) (s2 := [eR a0, eI (4), eI (v83), eR a0]) rfl (s_an rfl (pos_g I18 gA0 (by decide))) rfl ?_
                  refine w_t (np := 156) (l2 := [some (eR a0), some (eI (a1)), some (eI (i14)), some (eI (v60))]) (s2 := [eI (a1), eR a0, eI (4), eI (v83), eR a0]) rfl rfl rfl ?_
                  refine w_t (np := 157) (l2 := [some (eR a0), some (eI (a1)), some (eI (i14)), some (eI (v60))]) (s2 := [eR a0, eI (a1), eR a0, eI (4), eI (v83), eR a0]) rfl (s_an rfl (pos_g I18 gA0 (by decide))) rfl ?_
                  refine w_t (np := 158) (l2 := [some (eR a0), some (eI (a1)), some (eI (i14)), some (eI (v60))]) (s2 := [eI (i14), eR a0, eI (a1), eR a0, eI (4), eI (v83), eR a0]) rfl rfl rfl ?_
                  refine w_t (np := 159) (l2 := [some (eR a0), some (eI (a1)), some (eI (i14)), some (eI (v60))]) (s2 := [eI (0), eI (i14), eR a0, eI (a1), eR a0, eI (4), eI (v83), eR a0]) rfl rfl rfl ?_
                  refine w_cw (np := 162) (as := [eI (i14), eI (0)]) (l2 := [some (eR a0), some (eI (i14)), some (eI (0))]) (rest := [eI (a1), eR a0, eI (4), eI (v83), eR a0]) rfl rfl rfl (Nat.ble_eq.mp rfl) rfl rfl rfl (I18.kd gA0 (by decide) (n := 69) rfl) rfl ?_
                  refine w_t (np := 1) (l2 := [some (eR a0), some (eI (i14)), some (eI (0))]) (s2 := [eR a0]) rfl (s_an rfl (pos_g I18 gA0 (by decide))) rfl ?_
                  refine w_gf (np := 4) (v := eR v27) rfl rfl (I18.kd gA0 (by decide) (n := 69) rfl) (by rw [e28]; rfl) ?_
                  refine w_t (np := 5) (l2 := [some (eR a0), some (eI (i14)), some (eI (0))]) (s2 := [eI (3), eR v27]) rfl rfl rfl ?_
                  refine w_t (np := 6) (l2 := [some (eR a0), some (eI (i14)), some (eI (0))]) (s2 := [eI (i14), eI (3), eR v27]) rfl rfl rfl ?_
                  obtain ⟨v88, e89⟩ : ∃ zz : Int, zz = (3) * (i14) := ⟨_, rfl⟩
                  have b90 : 0 ≤ v88 ∧ v88 ≤ 2667 := by omega
                  refine w_t (np := 7) (l2 := [some (eR a0), some (eI (i14)), some (eI (0))]) (s2 := [eI (v88), eR v27]) rfl (b_imul (by rw [← e89]; exact ev_w_in (by omega) (by omega))) rfl ?_
                  refine w_t (np := 8) (l2 := [some (eR a0), some (eI (i14)), some (eI (0))]) (s2 := [eI (0), eI (v88), eR v27]) rfl rfl rfl ?_
                  refine w_t (np := 9) (l2 := [some (eR a0), some (eI (i14)), some (eI (0))]) (s2 := [eI (v88), eR v27]) rfl (b_iadd (by rw [Int.add_zero]; exact ev_w_in (by omega) (by omega))) rfl ?_
                  refine j_al (np := 10) rfl rfl I18 b29 (by decide) (n := 2670) rfl rfl (lo := 0) (hi := 2669) (fun _ => rfl) (by omega) (by omega) ?_
                  intro v91 e92 b93
                  have e92 : v91 = v34 := e92.symm.trans (by rw [show v88 = v31 by omega]; exact e35)
                  rw [e92]
                  refine b_ri rfl rfl ?_
                  show ex_q (dt_fg L ρ) rc (d + 3, (251, 162, [some (eR a0), some (eI (a1)), some (eI (i14)), some (eI (v60))], [eI (v34), eI (a1), eR a0, eI (4), eI (v83), eR a0]), f :: F, m17)
                  obtain ⟨D94, h95⟩ := LG.d (i := i14) (c := 1) (v0 := v31) (v1 := v41) I18 p20 gA0 b29 e24 (by omega) (by omega) e35 (by omega) (by decide) e45
                  obtain ⟨D96, h97⟩ := LG.b h95 (show v44 = a1 by omega)
                  refine w_cw (np := 165) (as := [eI (a1), eI (v34)]) (l2 := [some (eR a0), some (eI (a1)), some (eI (v34)), none]) (rest := [eI (4), eI (v83), eR a0]) rfl rfl rfl (Nat.ble_eq.mp rfl) rfl rfl rfl (I18.kd gA0 (by decide) (n := 69) rfl) rfl ?_
                  refine s_249 (a1 := a1) (a2 := v34) I18 gA0 (by omega) (by omega) h97 ?_
                  intro v98 b99
                  show ex_q (dt_fg L ρ) rc (d + 3, (251, 165, [some (eR a0), some (eI (a1)), some (eI (i14)), some (eI (v60))], [eI (v98), eI (4), eI (v83), eR a0]), f :: F, m17)
                  refine w_t (np := 166) (l2 := [some (eR a0), some (eI (a1)), some (eI (i14)), some (eI (v60))]) (s2 := [eR a0, eI (v98), eI (4), eI (v83), eR a0]) rfl (s_an rfl (pos_g I18 gA0 (by decide))) rfl ?_
                  refine w_t (np := 167) (l2 := [some (eR a0), some (eI (a1)), some (eI (i14)), some (eI (v60))]) (s2 := [eI (a1), eR a0, eI (v98), eI (4), eI (v83), eR a0]) rfl rfl rfl ?_
                  refine w_t (np := 168) (l2 := [some (eR a0), some (eI (a1)), some (eI (i14)), some (eI (v60))]) (s2 := [eR a0, eI (a1), eR a0, eI (v98), eI (4), eI (v83), eR a0]) rfl (s_an rfl (pos_g I18 gA0 (by decide))) rfl ?_
                  refine w_t (np := 169) (l2 := [some (eR a0), some (eI (a1)), some (eI (i14)), some (eI (v60))]) (s2 := [eR a0, eR a0, eI (a1), eR a0, eI (v98), eI (4), eI (v83), eR a0]) rfl (s_an rfl (pos_g I18 gA0 (by decide))) rfl ?_
                  refine w_gf (np := 172) (v := eR v48) rfl rfl (I18.kd gA0 (by decide) (n := 69) rfl) (by rw [e49]; rfl) ?_
                  refine w_t (np := 173) (l2 := [some (eR a0), some (eI (a1)), some (eI (i14)), some (eI (v60))]) (s2 := [eI (i14), eR v48, eR a0, eI (a1), eR a0, eI (v98), eI (4), eI (v83), eR a0]) rfl rfl rfl ?_
                  refine j_al (np := 174) rfl rfl I18 b50 (by decide) (n := 890) rfl rfl (lo := -1) (hi := 889) (fun _ => rfl) (by omega) (by omega) ?_
                  intro v100 e101 b102
                  have e101 := e101.symm.trans e53
                  rw [e101]
                  refine w_t (np := 175) (l2 := [some (eR a0), some (eI (a1)), some (eI (i14)), some (eI (v60))]) (s2 := [eI (0), eI (v52), eR a0, eI (a1), eR a0, eI (v98), eI (4), eI (v83), eR a0]) rfl rfl rfl ?_
                  refine w_cw (np := 178) (as := [eI (v52), eI (0)]) (l2 := [some (eR a0), some (eI (v52)), some (eI (0))]) (rest := [eI (a1), eR a0, eI (v98), eI (4), eI (v83), eR a0]) rfl rfl rfl (Nat.ble_eq.mp rfl) rfl rfl rfl (I18.kd gA0 (by decide) (n := 69) rfl) rfl ?_
                  refine w_t (np := 1) (l2 := [some (eR a0), some (eI (v52)), some (eI (0))]) (s2 := [eR a0]) rfl (s_an rfl (pos_g I18 gA0 (by decide))) rfl ?_
                  refine w_gf (np := 4) (v := eR v27) rfl rfl (I18.kd gA0 (by decide) (n := 69) rfl) (by rw [e28]; rfl) ?_
                  refine w_t (np := 5) (l2 := [some (eR a0), some (eI (v52)), some (eI (0))]) (s2 := [eI (3), eR v27]) rfl rfl rfl ?_
                  refine w_t (np := 6) (l2 := [some (eR a0), some (eI (v52)), some (eI (0))]) (s2 := [eI (v52), eI (3), eR v27]) rfl rfl rfl ?_
                  obtain ⟨v103, e104⟩ : ∃ zz : Int, zz = (3) * (v52) := ⟨_, rfl⟩
                  have b105 : 0 ≤ v103 ∧ v103 ≤ 2667 := by omega
                  refine w_t (np := 7) (l2 := [some (eR a0), some (eI (v52)), some (eI (0))]) (s2 := [eI (v103), eR v27]) rfl (b_imul (by rw [← e104]; exact ev_w_in (by omega) (by omega))) rfl ?_
                  refine w_t (np := 8) (l2 := [some (eR a0), some (eI (v52)), some (eI (0))]) (s2 := [eI (0), eI (v103), eR v27]) rfl rfl rfl ?_
                  refine w_t (np := 9) (l2 := [some (eR a0), some (eI (v52)), some (eI (0))]) (s2 := [eI (v103), eR v27]) rfl (b_iadd (by rw [Int.add_zero]; exact ev_w_in (by omega) (by omega))) rfl ?_
                  refine j_al (np := 10) rfl rfl I18 b29 (by decide) (n := 2670) rfl rfl (lo := 0) (hi := 2669) (fun _ => rfl) (by omega) (by omega) ?_
                  intro v106 e107 b108
                  refine b_ri rfl rfl ?_
                  show ex_q (dt_fg L ρ) rc (d + 3, (251, 178, [some (eR a0), some (eI (a1)), some (eI (i14)), some (eI (v60))], [eI (v106), eI (a1), eR a0, eI (v98), eI (4), eI (v83), eR a0]), f :: F, m17)
                  obtain ⟨D111, h112⟩ := LG.m (i := i14) (m := v52) (c := 1) (v0 := v103) (v1 := v41) I18 p20 p21 gA0 b29 b50 e24 (by omega) e53 (by omega) (by omega) e107 (by omega) (by decide) e45 (show v44 = a1 by omega)
                  refine w_cw (np := 181) (as := [eI (a1), eI (v106)]) (l2 := [some (eR a0), some (eI (a1)), some (eI (v106)), none]) (rest := [eI (v98), eI (4), eI (v83), eR a0]) rfl rfl rfl (Nat.ble_eq.mp rfl) rfl rfl rfl (I18.kd gA0 (by decide) (n := 69) rfl) rfl ?_
                  refine s_249 (a1 := a1) (a2 := v106) I18 gA0 (by omega) (by omega) h112 ?_
                  intro v113 b114
                  show ex_q (dt_fg L ρ) rc (d + 3, (251, 181, [some (eR a0), some (eI (a1)), some (eI (i14)), some (eI (v60))], [eI (v113), eI (v98), eI (4), eI (v83), eR a0]), f :: F, m17)
                  refine w_cw (np := 184) (as := [eI (v83), eI (4), eI (v98), eI (v113)]) (l2 := [some (eR a0), some (eI (v83)), some (eI (4)), some (eI (v98)), some (eI (v113)), none]) (rest := []) rfl rfl rfl (Nat.ble_eq.mp rfl) rfl rfl rfl (I18.kd gA0 (by decide) (n := 69) rfl) rfl ?_
                  refine s_250 (a1 := v83) (a2 := 4) (a3 := v98) (a4 := v113) I18 gA0 (by omega) (by decide) (by omega) (by omega) ?_
                  intro m115 I116 F117
                  have F118 : Fr l_251 0 0 g μ m115 := F19.t F117 rfl
                  have p119 : LG g m115 := LG.fr p20 F117 rfl
                  have p120 : MT g m115 := MT.fr p21 F117 rfl
                  show ex_q (dt_fg L ρ) rc (d + 3, (251, 184, [some (eR a0), some (eI (a1)), some (eI (i14)), some (eI (v60))], []), f :: F, m115)
                  obtain ⟨v121, e122⟩ : ∃ zz : Int, zz = (i14) + (1) := ⟨_, rfl⟩
                  have b123 : 1 ≤ v121 ∧ v121 ≤ 890 := by omega
                  refine w_t (np := 187) (l2 := [some (eR a0), some (eI (a1)), some (eI (v121)), some (eI (v60))]) (s2 := []) rfl (b_iinc rfl (by rw [← e122]; exact ev_w_in (by omega) (by omega)) rfl) rfl ?_
                  refine w_go (t1 := 23) rfl rfl ?_
                  exact ih13 (890 - (v121)).toNat (by omega) m115 (v121) (some (eI (v60))) I116 F118 (by omega)   p119 p120  rfl
              · have b56 : -1 ≤ v52 ∧ v52 ≤ -1 := by omega
                refine w_t (np := 74) (l2 := [some (eR a0), some (eI (a1)), some (eI (i14)), o16]) (s2 := [eI (0)]) rfl rfl rfl ?_
                exact b_rz rfl rfl (Or.inl rfl) (K m17 (0) I18 F19 (by decide))
            · refine w_t (np := 52) (l2 := [some (eR a0), some (eI (a1)), some (eI (i14)), o16]) (s2 := [eR a0]) rfl (s_an rfl (pos_g I18 gA0 (by decide))) rfl ?_
              refine w_t (np := 53) (l2 := [some (eR a0), some (eI (a1)), some (eI (i14)), o16]) (s2 := [eI (i14), eR a0]) rfl rfl rfl ?_
              refine w_t (np := 54) (l2 := [some (eR a0), some (eI (a1)), some (eI (i14)), o16]) (s2 := [eI (2), eI (i14), eR a0]) rfl rfl rfl ?_
              refine w_cw (np := 57) (as := [eI (i14), eI (2)]) (l2 := [some (eR a0), some (eI (i14)), some (eI (2))]) (rest := []) rfl rfl rfl (Nat.ble_eq.mp rfl) rfl rfl rfl (I18.kd gA0 (by decide) (n := 69) rfl) rfl ?_
              refine w_t (np := 1) (l2 := [some (eR a0), some (eI (i14)), some (eI (2))]) (s2 := [eR a0]) rfl (s_an rfl (pos_g I18 gA0 (by decide))) rfl ?_
              refine w_gf (np := 4) (v := eR v27) rfl rfl (I18.kd gA0 (by decide) (n := 69) rfl) (by rw [e28]; rfl) ?_
              refine w_t (np := 5) (l2 := [some (eR a0), some (eI (i14)), some (eI (2))]) (s2 := [eI (3), eR v27]) rfl rfl rfl ?_
              refine w_t (np := 6) (l2 := [some (eR a0), some (eI (i14)), some (eI (2))]) (s2 := [eI (i14), eI (3), eR v27]) rfl rfl rfl ?_
              obtain ⟨v48, e49⟩ : ∃ zz : Int, zz = (3) * (i14) := ⟨_, rfl⟩
              have b50 : 0 ≤ v48 ∧ v48 ≤ 2667 := by omega
              refine w_t (np := 7) (l2 := [some (eR a0), some (eI (i14)), some (eI (2))]) (s2 := [eI (v48), eR v27]) rfl (b_imul (by rw [← e49]; exact ev_w_in (by omega) (by omega))) rfl ?_
              refine w_t (np := 8) (l2 := [some (eR a0), some (eI (i14)), some (eI (2))]) (s2 := [eI (2), eI (v48), eR v27]) rfl rfl rfl ?_
              obtain ⟨v51, e52⟩ : ∃ zz : Int, zz = (v48) + (2) := ⟨_, rfl⟩
              have b53 : 2 ≤ v51 ∧ v51 ≤ 2669 := by omega
              refine w_t (np := 9) (l2 := [some (eR a0), some (eI (i14)), some (eI (2))]) (s2 := [eI (v51), eR v27]) rfl (b_iadd (by rw [← e52]; exact ev_w_in (by omega) (by omega))) rfl ?_
              refine j_al (np := 10) rfl rfl I18 b29 (by decide) (n := 2670) rfl rfl (lo := 0) (hi := 2669) (fun _ => rfl) (by omega) (by omega) ?_
              intro v54 e55 b56
              refine b_ri rfl rfl ?_
              show ex_q (dt_fg L ρ) rc (d + 3, (251, 57, [some (eR a0), some (eI (a1)), some (eI (i14)), o16], [eI (v54)]), f :: F, m17)
              refine w_t (np := 58) (l2 := [some (eR a0), some (eI (a1)), some (eI (i14)), o16]) (s2 := [eI (a1), eI (v54)]) rfl rfl rfl ?_
              refine b_ceq (t1 := 64) (t2 := 61) rfl rfl rfl (ev_w_in (by omega) (by omega)) (ev_w_in (by omega) (by omega)) (fun g57 => ?_) (fun g57 => ?_)
              · refine w_t (np := 65) (l2 := [some (eR a0), some (eI (a1)), some (eI (i14)), o16]) (s2 := [eR a0]) rfl (s_an rfl (pos_g I18 gA0 (by decide))) rfl ?_
                refine j_gr (np := 68) rfl rfl I18 gA0 (by decide) (n := 69) rfl rfl rfl ?_
                intro v58 e59 b60 z61
                have b60 : g v58 = 67 := Nat.eq_of_beq_eq_true b60
                refine w_t (np := 69) (l2 := [some (eR a0), some (eI (a1)), some (eI (i14)), o16]) (s2 := [eI (i14), eR v58]) rfl rfl rfl ?_
                refine j_al (np := 70) rfl rfl I18 b60 (by decide) (n := 890) rfl rfl (lo := -1) (hi := 889) (fun _ => rfl) (by omega) (by omega) ?_
                intro v62 e63 b64
                refine b_ige (t1 := 75) (t2 := 73) rfl rfl rfl (ev_w_in (by omega) (by omega)) (fun g65 => ?_) (fun g65 => ?_)
                · have b66 : 0 ≤ v62 ∧ v62 ≤ 889 := by omega
                  refine w_t (np := 76) (l2 := [some (eR a0), some (eI (a1)), some (eI (i14)), o16]) (s2 := [eR a0]) rfl (s_an rfl (pos_g I18 gA0 (by decide))) rfl ?_
                  refine j_gr (np := 79) rfl rfl I18 gA0 (by decide) (n := 69) rfl rfl rfl ?_
                  intro v66 e67 b68 z69
                  have b68 : g v66 = 56 := Nat.eq_of_beq_eq_true b68
                  refine w_t (np := 80) (l2 := [some (eR a0), some (eI (a1)), some (eI (i14)), o16]) (s2 := [eI (i14), eR v66]) rfl rfl rfl ?_
                  refine j_al (np := 81) rfl rfl I18 b68 (by decide) (n := 890) rfl rfl (lo := 0) (hi := 1) (fun _ => rfl) (by omega) (by omega) ?_
                  intro v70 e71 b72
                  refine w_t (np := 82) (l2 := [some (eR a0), some (eI (a1)), some (eI (i14)), some (eI (v70))]) (s2 := []) rfl rfl rfl ?_
                  refine w_t (np := 83) (l2 := [some (eR a0), some (eI (a1)), some (eI (i14)), some (eI (v70))]) (s2 := [eR a0]) rfl (s_an rfl (pos_g I18 gA0 (by decide))) rfl ?_
                  refine w_t (np := 84) (l2 := [some (eR a0), some (eI (a1)), some (eI (i14)), some (eI (v70))]) (s2 := [eI (i14), eR a0]) rfl rfl rfl ?_
                  refine w_t (np := 85) (l2 := [some (eR a0), some (eI (a1)), some (eI (i14)), some (eI (v70))]) (s2 := [eI (0), eI (i14), eR a0]) rfl rfl rfl ?_
                  refine w_cw (np := 88) (as := [eI (i14), eI (0)]) (l2 := [some (eR a0), some (eI (i14)), some (eI (0))]) (rest := []) rfl rfl rfl (Nat.ble_eq.mp rfl) rfl rfl rfl (I18.kd gA0 (by decide) (n := 69) rfl) rfl ?_
                  refine w_t (np := 1) (l2 := [some (eR a0), some (eI (i14)), some (eI (0))]) (s2 := [eR a0]) rfl (s_an rfl (pos_g I18 gA0 (by decide))) rfl ?_
                  refine w_gf (np := 4) (v := eR v27) rfl rfl (I18.kd gA0 (by decide) (n := 69) rfl) (by rw [e28]; rfl) ?_
                  refine w_t (np := 5) (l2 := [some (eR a0), some (eI (i14)), some (eI (0))]) (s2 := [eI (3), eR v27]) rfl rfl rfl ?_
                  refine w_t (np := 6) (l2 := [some (eR a0), some (eI (i14)), some (eI (0))]) (s2 := [eI (i14), eI (3), eR v27]) rfl rfl rfl ?_
                  obtain ⟨v73, e74⟩ : ∃ zz : Int, zz = (3) * (i14) := ⟨_, rfl⟩
                  have b75 : 0 ≤ v73 ∧ v73 ≤ 2667 := by omega
                  refine w_t (np := 7) (l2 := [some (eR a0), some (eI (i14)), some (eI (0))]) (s2 := [eI (v73), eR v27]) rfl (b_imul (by rw [← e74]; exact ev_w_in (by omega) (by omega))) rfl ?_
                  refine w_t (np := 8) (l2 := [some (eR a0), some (eI (i14)), some (eI (0))]) (s2 := [eI (0), eI (v73), eR v27]) rfl rfl rfl ?_
                  refine w_t (np := 9) (l2 := [some (eR a0), some (eI (i14)), some (eI (0))]) (s2 := [eI (v73), eR v27]) rfl (b_iadd (by rw [Int.add_zero]; exact ev_w_in (by omega) (by omega))) rfl ?_
                  refine j_al (np := 10) rfl rfl I18 b29 (by decide) (n := 2670) rfl rfl (lo := 0) (hi := 2669) (fun _ => rfl) (by omega) (by omega) ?_
                  intro v76 e77 b78
                  have e77 : v76 = v34 := e77.symm.trans (by rw [show v73 = v31 by omega]; exact e35)
                  rw [e77]
                  refine b_ri rfl rfl ?_
                  show ex_q (dt_fg L ρ) rc (d + 3, (251, 88, [some (eR a0), some (eI (a1)), some (eI (i14)), some (eI (v70))], [eI (v34)]), f :: F, m17)
                  refine w_t (np := 89) (l2 := [some (eR a0), some (eI (a1)), some (eI (i14)), some (eI (v70))]) (s2 := [eI (a1), eI (v34)]) rfl rfl rfl ?_
                  refine b_cne (t1 := 129) (t2 := 92) rfl rfl rfl (ev_w_in (by omega) (by omega)) (ev_w_in (by omega) (by omega)) (fun g79 => ?_) (fun g79 => False.elim (by omega))
                  refine w_t (np := 130) (l2 := [some (eR a0), some (eI (a1)), some (eI (i14)), some (eI (v70))]) (s2 := [eR a0]) rfl (s_an rfl (pos_g I18 gA0 (by decide))) rfl ?_
                  refine w_t (np := 131) (l2 := [some (eR a0), some (eI (a1)), some (eI (i14)), some (eI (v70))]) (s2 := [eI (3), eR a0]) rfl rfl rfl ?_
                  refine w_t (np := 132) (l2 := [some (eR a0), some (eI (a1)), some (eI (i14)), some (eI (v70))]) (s2 := [eI (v70), eI (3), eR a0]) rfl rfl rfl ?_
                  obtain ⟨v80, e81⟩ : ∃ zz : Int, zz = (3) * (v70) := ⟨_, rfl⟩
                  have b82 : 0 ≤ v80 ∧ v80 ≤ 3 := by omega
                  refine w_t (np := 133) (l2 := [some (eR a0), some (eI (a1)), some (eI (i14)), some (eI (v70))]) (s2 := [eI (v80), eR a0]) rfl (b_imul (by rw [← e81]; exact ev_w_in (by omega) (by omega))) rfl ?_
                  refine w_t (np := 134) (l2 := [some (eR a0), some (eI (a1)), some (eI (i14)), some (eI (v70))]) (s2 := [eR a0, eI (v80), eR a0]) rfl (s_an rfl (pos_g I18 gA0 (by decide))) rfl ?_
                  refine w_t (np := 135) (l2 := [some (eR a0), some (eI (a1)), some (eI (i14)), some (eI (v70))]) (s2 := [eI (i14), eR a0, eI (v80), eR a0]) rfl rfl rfl ?_
                  refine w_t (np := 136) (l2 := [some (eR a0), some (eI (a1)), some (eI (i14)), some (eI (v70))]) (s2 := [eI (1), eI (i14), eR a0, eI (v80), eR a0]) rfl rfl rfl ?_
                  refine w_cw (np := 139) (as := [eI (i14), eI (1)]) (l2 := [some (eR a0), some (eI (i14)), some (eI (1))]) (rest := [eI (v80), eR a0]) rfl rfl rfl (Nat.ble_eq.mp rfl) rfl rfl rfl (I18.kd gA0 (by decide) (n := 69) rfl) rfl ?_
                  refine w_t (np := 1) (l2 := [some (eR a0), some (eI (i14)), some (eI (1))]) (s2 := [eR a0]) rfl (s_an rfl (pos_g I18 gA0 (by decide))) rfl ?_
                  refine w_gf (np := 4) (v := eR v27) rfl rfl (I18.kd gA0 (by decide) (n := 69) rfl) (by rw [e28]; rfl) ?_
                  refine w_t (np := 5) (l2 := [some (eR a0), some (eI (i14)), some (eI (1))]) (s2 := [eI (3), eR v27]) rfl rfl rfl ?_
                  refine w_t (np := 6) (l2 := [some (eR a0), some (eI (i14)), some (eI (1))]) (s2 := [eI (i14), eI (3), eR v27]) rfl rfl rfl ?_
                  obtain ⟨v83, e84⟩ : ∃ zz : Int, zz = (3) * (i14) := ⟨_, rfl⟩
                  have b85 : 0 ≤ v83 ∧ v83 ≤ 2667 := by omega
                  refine w_t (np := 7) (l2 := [some (eR a0), some (eI (i14)), some (eI (1))]) (s2 := [eI (v83), eR v27]) rfl (b_imul (by rw [← e84]; exact ev_w_in (by omega) (by omega))) rfl ?_
                  refine w_t (np := 8) (l2 := [some (eR a0), some (eI (i14)), some (eI (1))]) (s2 := [eI (1), eI (v83), eR v27]) rfl rfl rfl ?_
                  obtain ⟨v86, e87⟩ : ∃ zz : Int, zz = (v83) + (1) := ⟨_, rfl⟩
                  have b88 : 1 ≤ v86 ∧ v86 ≤ 2668 := by omega
                  refine w_t (np := 9) (l2 := [some (eR a0), some (eI (i14)), some (eI (1))]) (s2 := [eI (v86), eR v27]) rfl (b_iadd (by rw [← e87]; exact ev_w_in (by omega) (by omega))) rfl ?_
                  refine j_al (np := 10) rfl rfl I18 b29 (by decide) (n := 2670) rfl rfl (lo := 0) (hi := 2669) (fun _ => rfl) (by omega) (by omega) ?_
                  intro v89 e90 b91
                  have e90 : v89 = v44 := e90.symm.trans (by rw [show v86 = v41 by omega]; exact e45)
                  rw [e90]
                  refine b_ri rfl rfl ?_
                  show ex_q (dt_fg L ρ) rc (d + 3, (251, 139, [some (eR a0), some (eI (a1)), some (eI (i14)), some (eI (v70))], [eI (v44), eI (v80), eR a0]), f :: F, m17)
                  refine w_t (np := 140) (l2 := [some (eR a0), some (eI (a1)), some (eI (i14)), some (eI (v70))]) (s2 := [eI (a1), eI (v44), eI (v80), eR a0]) rfl rfl rfl ?_
                  refine b_cne (t1 := 147) (t2 := 143) rfl rfl rfl (ev_w_in (by omega) (by omega)) (ev_w_in (by omega) (by omega)) (fun g92 => ?_) (fun g92 => False.elim (by omega))
                  refine w_t (np := 148) (l2 := [some (eR a0), some (eI (a1)), some (eI (i14)), some (eI (v70))]) (s2 := [eI (2), eI (v80), eR a0]) rfl rfl rfl ?_
                  obtain ⟨v93, e94⟩ : ∃ zz : Int, zz = (v80) + (2) := ⟨_, rfl⟩
                  have b95 : 2 ≤ v93 ∧ v93 ≤ 5 := by omega
                  refine w_t (np := 149) (l2 := [some (eR a0), some (eI (a1)), some (eI (i14)), some (eI (v70))]) (s2 := [eI (v93), eR a0]) rfl (b_iadd (by rw [← e94]; exact ev_w_in (by omega) (by omega))) rfl ?_
                  refine w_t (np := 150) (l2 := [some (eR a0), some (eI (a1)), some (eI (i14)), some (eI (v70))]) (s2 := [eI (v70), eI (v93), eR a0]) rfl rfl rfl ?_
                  refine w_t (np := 151) (l2 := [some (eR a0), some (eI (a1)), some (eI (i14)), some (eI (v70))]) (s2 := [eI (1), eI (v70), eI (v93), eR a0]) rfl rfl rfl ?_
                  refine w_cu (np := 154) (as := [eI (v70), eI (1)]) (l2 := [some (eI (v70)), some (eI (1))]) (rest := [eI (v93), eR a0]) rfl rfl rfl (Nat.ble_eq.mp rfl) rfl rfl rfl rfl ?_
                  refine w_t (np := 1) (l2 := [some (eI (v70)), some (eI (1))]) (s2 := [eI (v70)]) rfl rfl rfl ?_
                  refine b_ine (t1 := 16) (t2 := 4) rfl rfl rfl (ev_w_in (by omega) (by omega)) (fun g96 => ?_) (fun g96 => ?_)
                  · have b97 : 1 ≤ v70 ∧ v70 ≤ 1 := by omega
                    refine w_t (np := 17) (l2 := [some (eI (v70)), some (eI (1))]) (s2 := [eI (1)]) rfl rfl rfl ?_
                    refine b_ine (t1 := 24) (t2 := 20) rfl rfl rfl rfl (fun g97 => ?_) (fun g97 => absurd g97 (by decide))
                    refine w_t (np := 25) (l2 := [some (eI (v70)), some (eI (1))]) (s2 := [eI (2)]) rfl rfl rfl ?_
                    refine b_ri rfl rfl ?_
                    show ex_q (dt_fg L ρ) rc (d + 3, (251, 154, [some (eR a0), some (eI (a1)), some (eI (i14)), some (eI (v70))], [eI (2), eI (v93), eR a0]), f :: F, m17)
                    refine w_t (np := 155) (l2 := [some (eR a0), some (eI (a1)), some (eI (i14)), some (eI (v70))]) (s2 := [eR a0, eI (2), eI (v93), eR a0]) rfl (s_an rfl (pos_g I18 gA0 (by decide))) rfl ?_
                    refine w_t (np := 156) (l2 := [some (eR a0), some (eI (a1)), some (eI (i14)), some (eI (v70))]) (s2 := [eI (a1), eR a0, eI (2), eI (v93), eR a0]) rfl rfl rfl ?_
                    refine w_t (np := 157) (l2 := [some (eR a0), some (eI (a1)), some (eI (i14)), some (eI (v70))]) (s2 := [eR a0, eI (a1), eR a0, eI (2), eI (v93), eR a0]) rfl (s_an rfl (pos_g I18 gA0 (by decide))) rfl ?_
                    refine w_t (np := 158) (l2 := [some (eR a0), some (eI (a1)), some (eI (i14)), some (eI (v70))]) (s2 := [eI (i14), eR a0, eI (a1), eR a0, eI (2), eI (v93), eR a0]) rfl rfl rfl ?_
                    refine w_t (np := 159) (l2 := [some (eR a0), some (eI (a1)), some (eI (i14)), some (eI (v70))]) (s2 := [eI (0), eI (i14), eR a0, eI (a1), eR a0, eI (2), eI (v93), eR a0]) rfl rfl rfl ?_
                    refine w_cw (np := 162) (as := [eI (i14), eI (0)]) (l2 := [some (eR a0), some (eI (i14)), some (eI (0))]) (rest := [eI (a1), eR a0, eI (2), eI (v93), eR a0]) rfl rfl rfl (Nat.ble_eq.mp rfl) rfl rfl rfl (I18.kd gA0 (by decide) (n := 69) rfl) rfl ?_
                    refine w_t (np := 1) (l2 := [some (eR a0), some (eI (i14)), some (eI (0))]) (s2 := [eR a0]) rfl (s_an rfl (pos_g I18 gA0 (by decide))) rfl ?_
                    refine w_gf (np := 4) (v := eR v27) rfl rfl (I18.kd gA0 (by decide) (n := 69) rfl) (by rw [e28]; rfl) ?_
                    refine w_t (np := 5) (l2 := [some (eR a0), some (eI (i14)), some (eI (0))]) (s2 := [eI (3), eR v27]) rfl rfl rfl ?_
                    refine w_t (np := 6) (l2 := [some (eR a0), some (eI (i14)), some (eI (0))]) (s2 := [eI (i14), eI (3), eR v27]) rfl rfl rfl ?_
                    obtain ⟨v98, e99⟩ : ∃ zz : Int, zz = (3) * (i14) := ⟨_, rfl⟩
                    have b100 : 0 ≤ v98 ∧ v98 ≤ 2667 := by omega
                    refine w_t (np := 7) (l2 := [some (eR a0), some (eI (i14)), some (eI (0))]) (s2 := [eI (v98), eR v27]) rfl (b_imul (by rw [← e99]; exact ev_w_in (by omega) (by omega))) rfl ?_
                    refine w_t (np := 8) (l2 := [some (eR a0), some (eI (i14)), some (eI (0))]) (s2 := [eI (0), eI (v98), eR v27]) rfl rfl rfl ?_
                    refine w_t (np := 9) (l2 := [some (eR a0), some (eI (i14)), some (eI (0))]) (s2 := [eI (v98), eR v27]) rfl (b_iadd (by rw [Int.add_zero]; exact ev_w_in (by omega) (by omega))) rfl ?_
                    refine j_al (np := 10) rfl rfl I18 b29 (by decide) (n := 2670) rfl rfl (lo := 0) (hi := 2669) (fun _ => rfl) (by omega) (by omega) ?_
                    intro v101 e102 b103
                    have e102 : v101 = v34 := e102.symm.trans (by rw [show v98 = v31 by omega]; exact e35)
                    rw [e102]
                    refine b_ri rfl rfl ?_
                    show ex_q (dt_fg L ρ) rc (d + 3, (251, 162, [some (eR a0), some (eI (a1)), some (eI (i14)), some (eI (v70))], [eI (v34), eI (a1), eR a0, eI (2), eI (v93), eR a0]), f :: F, m17)
                    obtain ⟨D104, h105⟩ := LG.d (i := i14) (c := 2) (v0 := v31) (v1 := v51) I18 p20 gA0 b29 e24 (by omega) (by omega) e35 (by omega) (by decide) e55
                    obtain ⟨D106, h107⟩ := LG.b h105 (show v54 = a1 by omega)
                    refine w_cw (np := 165) (as := [eI (a1), eI (v34)]) (l2 := [some (eR a0), some (eI (a1)), some (eI (v34)), none]) (rest := [eI (2), eI (v93), eR a0]) rfl rfl rfl (Nat.ble_eq.mp rfl) rfl rfl rfl (I18.kd gA0 (by decide) (n := 69) rfl) rfl ?_
                    refine s_249 (a1 := a1) (a2 := v34) I18 gA0 (by omega) (by omega) h107 ?_
                    intro v108 b109
                    show ex_q (dt_fg L ρ) rc (d + 3, (251, 165, [some (eR a0), some (eI (a1)), some (eI (i14)), some (eI (v70))], [eI (v108), eI (2), eI (v93), eR a0]), f :: F, m17)
                    refine w_t (np := 166) (l2 := [some (eR a0), some (eI (a1)), some (eI (i14)), some (eI (v70))]) (s2 := [eR a0, eI (v108), eI (2), eI (v93), eR a0]) rfl (s_an rfl (pos_g I18 gA0 (by decide))) rfl ?_
                    refine w_t (np := 167) (l2 := [some (eR a0), some (eI (a1)), some (eI (i14)), some (eI (v70))]) (s2 := [eI (a1), eR a0, eI (v108), eI (2), eI (v93), eR a0]) rfl rfl rfl ?_
                    refine w_t (np := 168) (l2 := [some (eR a0), some (eI (a1)), some (eI (i14)), some (eI (v70))]) (s2 := [eR a0, eI (a1), eR a0, eI (v108), eI (2), eI (v93), eR a0]) rfl (s_an rfl (pos_g I18 gA0 (by decide))) rfl ?_
                    refine w_t (np := 169) (l2 := [some (eR a0), some (eI (a1)), some (eI (i14)), some (eI (v70))]) (s2 := [eR a0, eR a0, eI (a1), eR a0, eI (v108), eI (2), eI (v93), eR a0]) rfl (s_an rfl (pos_g I18 gA0 (by decide))) rfl ?_
                    refine w_gf (np := 172) (v := eR v58) rfl rfl (I18.kd gA0 (by decide) (n := 69) rfl) (by rw [e59]; rfl) ?_
                    refine w_t (np := 173) (l2 := [some (eR a0), some (eI (a1)), some (eI (i14)), some (eI (v70))]) (s2 := [eI (i14), eR v58, eR a0, eI (a1), eR a0, eI (v108), eI (2), eI (v93), eR a0]) rfl rfl rfl ?_
                    refine j_al (np := 174) rfl rfl I18 b60 (by decide) (n := 890) rfl rfl (lo := -1) (hi := 889) (fun _ => rfl) (by omega) (by omega) ?_
                    intro v110 e111 b112
                    have e111 := e111.symm.trans e63
                    rw [e111]
                    refine w_t (np := 175) (l2 := [some (eR a0), some (eI (a1)), some (eI (i14)), some (eI (v70))]) (s2 := [eI (0), eI (v62), eR a0, eI (a1), eR a0, eI (v108), eI (2), eI (v93), eR a0]) rfl rfl rfl ?_
                    refine w_cw (np := 178) (as := [eI (v62), eI (0)]) (l2 := [some (eR a0), some (eI (v62)), some (eI (0))]) (rest := [eI (a1), eR a0, eI (v108), eI (2), eI (v93), eR a0]) rfl rfl rfl (Nat.ble_eq.mp rfl) rfl rfl rfl (I18.kd gA0 (by decide) (n := 69) rfl) rfl ?_
                    refine w_t (np := 1) (l2 := [some (eR a0), some (eI (v62)), some (eI (0))]) (s2 := [eR a0]) rfl (s_an rfl (pos_g I18 gA0 (by decide))) rfl ?_
                    refine w_gf (np := 4) (v := eR v27) rfl rfl (I18.kd gA0 (by decide) (n := 69) rfl) (by rw [e28]; rfl) ?_
                    refine w_t (np := 5) (l2 := [some (eR a0), some (eI (v62)), some (eI (0))]) (s2 := [eI (3), eR v27]) rfl rfl rfl ?_
                    refine w_t (np := 6) (l2 := [some (eR a0), some (eI (v62)), some (eI (0))]) (s2 := [eI (v62), eI (3), eR v27]) rfl rfl rfl ?_
                    obtain ⟨v113, e114⟩ : ∃ zz : Int, zz = (3) * (v62) := ⟨_, rfl⟩
                    have b115 : 0 ≤ v113 ∧ v113 ≤ 2667 := by omega
                    refine w_t (np := 7) (l2 := [some (eR a0), some (eI (v62)), some (eI (0))]) (s2 := [eI (v113), eR v27]) rfl (b_imul (by rw [← e114]; exact ev_w_in (by omega) (by omega))) rfl ?_
                    refine w_t (np := 8) (l2 := [some (eR a0), some (eI (v62)), some (eI (0))]) (s2 := [eI (0), eI (v113), eR v27]) rfl rfl rfl ?_
                    refine w_t (np := 9) (l2 := [some (eR a0), some (eI (v62)), some (eI (0))]) (s2 := [eI (v113), eR v27]) rfl (b_iadd (by rw [Int.add_zero]; exact ev_w_in (by omega) (by omega))) rfl ?_
                    refine j_al (np := 10) rfl rfl I18 b29 (by decide) (n := 2670) rfl rfl (lo := 0) (hi := 2669) (fun _ => rfl) (by omega) (by omega) ?_
                    intro v116 e117 b118
                    refine b_ri rfl rfl ?_
                    show ex_q (dt_fg L ρ) rc (d + 3, (251, 178, [some (eR a0), some (eI (a1)), some (eI (i14)), some (eI (v70))], [eI (v116), eI (a1), eR a0, eI (v108), eI (2), eI (v93), eR a0]), f :: F, m17)
                    obtain ⟨D121, h122⟩ := LG.m (i := i14) (m := v62) (c := 2) (v0 := v113) (v1 := v51) I18 p20 p21 gA0 b29 b60 e24 (by omega) e63 (by omega) (by omega) e117 (by omega) (by decide) e55 (show v54 = a1 by omega)
                    refine w_cw (np := 181) (as := [eI (a1), eI (v116)]) (l2 := [some (eR a0), some (eI (a1)), some (eI (v116)), none]) (rest := [eI (v108), eI (2), eI (v93), eR a0]) rfl rfl rfl (Nat.ble_eq.mp rfl) rfl rfl rfl (I18.kd gA0 (by decide) (n := 69) rfl) rfl ?_
                    refine s_249 (a1 := a1) (a2 := v116) I18 gA0 (by omega) (by omega) h122 ?_
                    intro v123 b124
                    show ex_q (dt_fg L ρ) rc (d + 3, (251, 181, [some (eR a0), some (eI (a1)), some (eI (i14)), some (eI (v70))], [eI (v123), eI (v108), eI (2), eI (v93), eR a0]), f :: F, m17)
                    refine w_cw (np := 184) (as := [eI (v93), eI (2), eI (v108), eI (v123)]) (l2 := [some (eR a0), some (eI (v93)), some (eI (2)), some (eI (v108)), some (eI (v123)), none]) (rest := []) rfl rfl rfl (Nat.ble_eq.mp rfl) rfl rfl rfl (I18.kd gA0 (by decide) (n := 69) rfl) rfl ?_
                    refine s_250 (a1 := v93) (a2 := 2) (a3 := v108) (a4 := v123) I18 gA0 (by omega) (by decide) (by omega) (by omega) ?_
                    intro m125 I126 F127
                    have F128 : Fr l_251 0 0 g μ m125 := F19.t F127 rfl
                    have p129 : LG g m125 := LG.fr p20 F127 rfl
                    have p130 : MT g m125 := MT.fr p21 F127 rfl
                    show ex_q (dt_fg L ρ) rc (d + 3, (251, 184, [some (eR a0), some (eI (a1)), some (eI (i14)), some (eI (v70))], []), f :: F, m125)
                    obtain ⟨v131, e132⟩ : ∃ zz : Int, zz = (i14) + (1) := ⟨_, rfl⟩
                    have b133 : 1 ≤ v131 ∧ v131 ≤ 890 := by omega
                    refine w_t (np := 187) (l2 := [some (eR a0), some (eI (a1)), some (eI (v131)), some (eI (v70))]) (s2 := []) rfl (b_iinc rfl (by rw [← e132]; exact ev_w_in (by omega) (by omega)) rfl) rfl ?_
                    refine w_go (t1 := 23) rfl rfl ?_
                    exact ih13 (890 - (v131)).toNat (by omega) m125 (v131) (some (eI (v70))) I126 F128 (by omega)   p129 p130  rfl
                  · have b97 : 0 ≤ v70 ∧ v70 ≤ 0 := by omega
                    refine w_t (np := 5) (l2 := [some (eI (v70)), some (eI (1))]) (s2 := [eI (1)]) rfl rfl rfl ?_
                    refine b_ine (t1 := 12) (t2 := 8) rfl rfl rfl rfl (fun g97 => ?_) (fun g97 => absurd g97 (by decide))
                    refine w_t (np := 13) (l2 := [some (eI (v70)), some (eI (1))]) (s2 := [eI (4)]) rfl rfl rfl ?_
                    refine w_go (t1 := 25) rfl rfl ?_
                    refine b_ri rfl rfl ?_
                    show ex_q (dt_fg L ρ) rc (d + 3, (251, 154, [some (eR a0), some (eI (a1)), some (eI (i14)), some (eI (v70))], [eI (4), eI (v93), eR a0]), f :: F, m17)
                    refine w_t (np := 155) (l2 := [some (eR a0), some (eI (a1)), some (eI (i14)), some (eI (v70))]) (s2 := [eR a0, eI (4), eI (v93), eR a0]) rfl (s_an rfl (pos_g I18 gA0 (by decide))) rfl ?_
                    refine w_t (np := 156) (l2 := [some (eR a0), some (eI (a1)), some (eI (i14)), some (eI (v70))]) (s2 := [eI (a1), eR a0, eI (4), eI (v93), eR a0]) rfl rfl rfl ?_
                    refine w_t (np := 157) (l2 := [some (eR a0), some (eI (a1)), some (eI (i14)), some (eI (v70))]) (s2 := [eR a0, eI (a1), eR a0, eI (4), eI (v93), eR a0]) rfl (s_an rfl (pos_g I18 gA0 (by decide))) rfl ?_
                    refine w_t (np := 158) (l2 := [some (eR a0), some (eI (a1)), some (eI (i14)), some (eI (v70))]) (s2 := [eI (i14), eR a0, eI (a1), eR a0, eI (4), eI (v93), eR a0]) rfl rfl rfl ?_
                    refine w_t (np := 159) (l2 := [some (eR a0), some (eI (a1)), some (eI (i14)), some (eI (v70))]) (s2 := [eI (0), eI (i14), eR a0, eI (a1), eR a0, eI (4), eI (v93), eR a0]) rfl rfl rfl ?_
                    refine w_cw (np := 162) (as := [eI (i14), eI (0)]) (l2 := [some (eR a0), some (eI (i14)), some (eI (0))]) (rest := [eI (a1), eR a0, eI (4), eI (v93), eR a0]) rfl rfl rfl (Nat.ble_eq.mp rfl) rfl rfl rfl (I18.kd gA0 (by decide) (n := 69) rfl) rfl ?_
                    refine w_t (np := 1) (l2 := [some (eR a0), some (eI (i14)), some (eI (0))]) (s2 := [eR a0]) rfl (s_an rfl (pos_g I18 gA0 (by decide))) rfl ?_
                    refine w_gf (np := 4) (v := eR v27) rfl rfl (I18.kd gA0 (by decide) (n := 69) rfl) (by rw [e28]; rfl) ?_
                    refine w_t (np := 5) (l2 := [some (eR a0), some (eI (i14)), some (eI (0))]) (s2 := [eI (3), eR v27]) rfl rfl rfl ?_
                    refine w_t (np := 6) (l2 := [some (eR a0), some (eI (i14)), some (eI (0))]) (s2 := [eI (i14), eI (3), eR v27]) rfl rfl rfl ?_
                    obtain ⟨v98, e99⟩ : ∃ zz : Int, zz = (3) * (i14) := ⟨_, rfl⟩
                    have b100 : 0 ≤ v98 ∧ v98 ≤ 2667 := by omega
                    refine w_t (np := 7) (l2 := [some (eR a0), some (eI (i14)), some (eI (0))]) (s2 := [eI (v98), eR v27]) rfl (b_imul (by rw [← e99]; exact ev_w_in (by omega) (by omega))) rfl ?_
                    refine w_t (np := 8) (l2 := [some (eR a0), some (eI (i14)), some (eI (0))]) (s2 := [eI (0), eI (v98), eR v27]) rfl rfl rfl ?_
                    refine w_t (np := 9) (l2 := [some (eR a0), some (eI (i14)), some (eI (0))]) (s2 := [eI (v98), eR v27]) rfl (b_iadd (by rw [Int.add_zero]; exact ev_w_in (by omega) (by omega))) rfl ?_
                    refine j_al (np := 10) rfl rfl I18 b29 (by decide) (n := 2670) rfl rfl (lo := 0) (hi := 2669) (fun _ => rfl) (by omega) (by omega) ?_
                    intro v101 e102 b103
                    have e102 : v101 = v34 := e102.symm.trans (by rw [show v98 = v31 by omega]; exact e35)
                    rw [e102]
                    refine b_ri rfl rfl ?_
                    show ex_q (dt_fg L ρ) rc (d + 3, (251, 162, [some (eR a0), some (eI (a1)), some (eI (i14)), some (eI (v70))], [eI (v34), eI (a1), eR a0, eI (4), eI (v93), eR a0]), f :: F, m17)
                    obtain ⟨D104, h105⟩ := LG.d (i := i14) (c := 2) (v0 := v31) (v1 := v51) I18 p20 gA0 b29 e24 (by omega) (by omega) e35 (by omega) (by decide) e55
                    obtain ⟨D106, h107⟩ := LG.b h105 (show v54 = a1 by omega)
                    refine w_cw (np := 165) (as := [eI (a1), eI (v34)]) (l2 := [some (eR a0), some (eI (a1)), some (eI (v34)), none]) (rest := [eI (4), eI (v93), eR a0]) rfl rfl rfl (Nat.ble_eq.mp rfl) rfl rfl rfl (I18.kd gA0 (by decide) (n := 69) rfl) rfl ?_
                    refine s_249 (a1 := a1) (a2 := v34) I18 gA0 (by omega) (by omega) h107 ?_
                    intro v108 b109
                    show ex_q (dt_fg L ρ) rc (d + 3, (251, 165, [some (eR a0), some (eI (a1)), some (eI (i14)), some (eI (v70))], [eI (v108), eI (4), eI (v93), eR a0]), f :: F, m17)
                    refine w_t (np := 166) (l2 := [some (eR a0), some (eI (a1)), some (eI (i14)), some (eI (v70))]) (s2 := [eR a0, eI (v108), eI (4), eI (v93), eR a0]) rfl (s_an rfl (pos_g I18 gA0 (by decide))) rfl ?_
                    refine w_t (np := 167) (l2 := [some (eR a0), some (eI (a1)), some (eI (i14)), some (eI (v70))]) (s2 := [eI (a1), eR a0, eI (v108), eI (4), eI (v93), eR a0]) rfl rfl rfl ?_
                    refine w_t (np := 168) (l2 := [some (eR a0), some (eI (a1)), some (eI (i14)), some (eI (v70))]) (s2 := [eR a0, eI (a1), eR a0, eI (v108), eI (4), eI (v93), eR a0]) rfl (s_an rfl (pos_g I18 gA0 (by decide))) rfl ?_
                    refine w_t (np := 169) (l2 := [some (eR a0), some (eI (a1)), some (eI (i14)), some (eI (v70))]) (s2 := [eR a0, eR a0, eI (a1), eR a0, eI (v108), eI (4), eI (v93), eR a0]) rfl (s_an rfl (pos_g I18 gA0 (by decide))) rfl ?_
                    refine w_gf (np := 172) (v := eR v58) rfl rfl (I18.kd gA0 (by decide) (n := 69) rfl) (by rw [e59]; rfl) ?_
                    refine w_t (np := 173) (l2 := [some (eR a0), some (eI (a1)), some (eI (i14)), some (eI (v70))]) (s2 := [eI (i14), eR v58, eR a0, eI (a1), eR a0, eI (v108), eI (4), eI (v93), eR a0]) rfl rfl rfl ?_
                    refine j_al (np := 174) rfl rfl I18 b60 (by decide) (n := 890) rfl rfl (lo := -1) (hi := 889) (fun _ => rfl) (by omega) (by omega) ?_
                    intro v110 e111 b112
                    have e111 := e111.symm.trans e63
                    rw [e111]
                    refine w_t (np := 175) (l2 := [some (eR a0), some (eI (a1)), some (eI (i14)), some (eI (v70))]) (s2 := [eI (0), eI (v62), eR a0, eI (a1), eR a0, eI (v108), eI (4), eI (v93), eR a0]) rfl rfl rfl ?_
                    refine w_cw (np := 178) (as := [eI (v62), eI (0)]) (l2 := [some (eR a0), some (eI (v62)), some (eI (0))]) (rest := [eI (a1), eR a0, eI (v108), eI (4), eI (v93), eR a0]) rfl rfl rfl (Nat.ble_eq.mp rfl) rfl rfl rfl (I18.kd gA0 (by decide) (n := 69) rfl) rfl ?_
                    refine w_t (np := 1) (l2 := [some (eR a0), some (eI (v62)), some (eI (0))]) (s2 := [eR a0]) rfl (s_an rfl (pos_g I18 gA0 (by decide))) rfl ?_
                    refine w_gf (np := 4) (v := eR v27) rfl rfl (I18.kd gA0 (by decide) (n := 69) rfl) (by rw [e28]; rfl) ?_
                    refine w_t (np := 5) (l2 := [some (eR a0), some (eI (v62)), some (eI (0))]) (s2 := [eI (3), eR v27]) rfl rfl rfl ?_
                    refine w_t (np := 6) (l2 := [some (eR a0), some (eI (v62)), some (eI (0))]) (s2 := [eI (v62), eI (3), eR v27]) rfl rfl rfl ?_
                    obtain ⟨v113, e114⟩ : ∃ zz : Int, zz = (3) * (v62) := ⟨_, rfl⟩
                    have b115 : 0 ≤ v113 ∧ v113 ≤ 2667 := by omega
                    refine w_t (np := 7) (l2 := [some (eR a0), some (eI (v62)), some (eI (0))]) (s2 := [eI (v113), eR v27]) rfl (b_imul (by rw [← e114]; exact ev_w_in (by omega) (by omega))) rfl ?_
                    refine w_t (np := 8) (l2 := [some (eR a0), some (eI (v62)), some (eI (0))]) (s2 := [eI (0), eI (v113), eR v27]) rfl rfl rfl ?_
                    refine w_t (np := 9) (l2 := [some (eR a0), some (eI (v62)), some (eI (0))]) (s2 := [eI (v113), eR v27]) rfl (b_iadd (by rw [Int.add_zero]; exact ev_w_in (by omega) (by omega))) rfl ?_
                    refine j_al (np := 10) rfl rfl I18 b29 (by decide) (n := 2670) rfl rfl (lo := 0) (hi := 2669) (fun _ => rfl) (by omega) (by omega) ?_
                    intro v116 e117 b118
                    refine b_ri rfl rfl ?_
                    show ex_q (dt_fg L ρ) rc (d + 3, (251, 178, [some (eR a0), some (eI (a1)), some (eI (i14)), some (eI (v70))], [eI (v116), eI (a1), eR a0, eI (v108), eI (4), eI (v93), eR a0]), f :: F, m17)
                    obtain ⟨D121, h122⟩ := LG.m (i := i14) (m := v62) (c := 2) (v0 := v113) (v1 := v51) I18 p20 p21 gA0 b29 b60 e24 (by omega) e63 (by omega) (by omega) e117 (by omega) (by decide) e55 (show v54 = a1 by omega)
                    refine w_cw (np := 181) (as := [eI (a1), eI (v116)]) (l2 := [some (eR a0), some (eI (a1)), some (eI (v116)), none]) (rest := [eI (v108), eI (4), eI (v93), eR a0]) rfl rfl rfl (Nat.ble_eq.mp rfl) rfl rfl rfl (I18.kd gA0 (by decide) (n := 69) rfl) rfl ?_
                    refine s_249 (a1 := a1) (a2 := v116) I18 gA0 (by omega) (by omega) h122 ?_
                    intro v123 b124
                    show ex_q (dt_fg L ρ) rc (d + 3, (251, 181, [some (eR a0), some (eI (a1)), some (eI (i14)), some (eI (v70))], [eI (v123), eI (v108), eI (4), eI (v93), eR a0]), f :: F, m17)
                    refine w_cw (np := 184) (as := [eI (v93), eI (4), eI (v108), eI (v123)]) (l2 := [some (eR a0), some (eI (v93)), some (eI (4)), some (eI (v108)), some (eI (v123)), none]) (rest := []) rfl rfl rfl (Nat.ble_eq.mp rfl) rfl rfl rfl (I18.kd gA0 (by decide) (n := 69) rfl) rfl ?_
                    refine s_250 (a1 := v93) (a2 := 4) (a3 := v108) (a4 := v123) I18 gA0 (by omega) (by decide) (by omega) (by omega) ?_
                    intro m125 I126 F127
                    have F128 : Fr l_251 0 0 g μ m125 := F19.t F127 rfl
                    have p129 : LG g m125 := LG.fr p20 F127 rfl
                    have p130 : MT g m125 := MT.fr p21 F127 rfl
                    show ex_q (dt_fg L ρ) rc (d + 3, (251, 184, [some (eR a0), some (eI (a1)), some (eI (i14)), some (eI (v70))], []), f :: F, m125)
                    obtain ⟨v131, e132⟩ : ∃ zz : Int, zz = (i14) + (1) := ⟨_, rfl⟩
                    have b133 : 1 ≤ v131 ∧ v131 ≤ 890 := by omega
                    refine w_t (np := 187) (l2 := [some (eR a0), some (eI (a1)), some (eI (v131)), some (eI (v70))]) (s2 := []) rfl (b_iinc rfl (by rw [← e132]; exact ev_w_in (by omega) (by omega)) rfl) rfl ?_
                    refine w_go (t1 := 23) rfl rfl ?_
                    exact ih13 (890 - (v131)).toNat (by omega) m125 (v131) (some (eI (v70))) I126 F128 (by omega)   p129 p130  rfl
                · have b66 : -1 ≤ v62 ∧ v62 ≤ -1 := by omega
                  refine w_t (np := 74) (l2 := [some (eR a0), some (eI (a1)), some (eI (i14)), o16]) (s2 := [eI (0)]) rfl rfl rfl ?_
                  exact b_rz rfl rfl (Or.inl rfl) (K m17 (0) I18 F19 (by decide))
              · refine w_go (t1 := 184) rfl rfl ?_
                obtain ⟨v58, e59⟩ : ∃ zz : Int, zz = (i14) + (1) := ⟨_, rfl⟩
                have b60 : 1 ≤ v58 ∧ v58 ≤ 890 := by omega
                refine w_t (np := 187) (l2 := [some (eR a0), some (eI (a1)), some (eI (v58)), o16]) (s2 := []) rfl (b_iinc rfl (by rw [← e59]; exact ev_w_in (by omega) (by omega)) rfl) rfl ?_
                refine w_go (t1 := 23) rfl rfl ?_
                exact ih13 (890 - (v58)).toNat (by omega) m17 (v58) (o16) I18 F19 (by omega)   p20 p21  rfl
      exact hL23 _ m5 (0) (none) I6 F7 (by decide)   p8 p9  rfl
    · have b12 : 0 ≤ i3 ∧ i3 ≤ 9 := by omega
      refine w_t (np := 9) (l2 := [some (eR a0), some (eI (a1)), some (eI (i3)), none]) (s2 := [eR a0]) rfl (s_an rfl (pos_g I6 gA0 (by decide))) rfl ?_
      refine j_gr (np := 12) rfl rfl I6 gA0 (by decide) (n := 69) rfl rfl rfl ?_
      intro v12 e13 b14 z15
      have b14 : g v12 = 70 := Nat.eq_of_beq_eq_true b14
      refine w_t (np := 13) (l2 := [some (eR a0), some (eI (a1)), some (eI (i3)), none]) (s2 := [eI (i3), eR v12]) rfl rfl rfl ?_
      refine w_t (np := 14) (l2 := [some (eR a0), some (eI (a1)), some (eI (i3)), none]) (s2 := [eI (-1), eI (i3), eR v12]) rfl rfl rfl ?_
      refine j_as (np := 15) rfl rfl I6 b14 (by decide) (n := 10) rfl rfl (lo := -1) (hi := 5) (fun _ => rfl) (by omega) (by omega) (by decide) ?_
      intro m16 I17 W18
      have F19 : Fr l_251 0 0 g μ m16 := F7.v W18 b14 rfl rfl
      have p20 : LG g m16 := LG.fr p8 (Fr.o W18 b14 rfl) rfl
      have p21 : MT g m16 := MT.fr p9 (Fr.o W18 b14 rfl) rfl
      obtain ⟨v22, e23⟩ : ∃ zz : Int, zz = (i3) + (1) := ⟨_, rfl⟩
      have b24 : 1 ≤ v22 ∧ v22 ≤ 10 := by omega
      refine w_t (np := 18) (l2 := [some (eR a0), some (eI (a1)), some (eI (v22)), none]) (s2 := []) rfl (b_iinc rfl (by rw [← e23]; exact ev_w_in (by omega) (by omega)) rfl) rfl ?_
      refine w_go (t1 := 2) rfl rfl ?_
      exact ih2 (10 - (v22)).toNat (by omega) m16 (v22) I17 F19 (by omega)   p20 p21  rfl
  exact hL2 _ μ (0) hI F0 (by decide)   h_LG h_MT  rfl
