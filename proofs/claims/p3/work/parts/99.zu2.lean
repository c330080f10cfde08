/-! THE REFERENCE: methods over lays and figures -/
def l_254 : List Nat := [13347, 13348, 18688, 18432, 17920, 18176]
theorem s_254 {L : Nat} {ρ : Nat → Int} {rc : eQ} {d : Nat} {f : eFr} {F : List eFr} {μ : eM} {g : Nat → Nat} {a0 : Nat} {po : Int} (hI : SI g μ) (gA0 : g a0 = 52) (h_po : μ.1 a0 28 = po) (h_PK : PK g μ) (K : ∀ (μ2 : eM) (po2 : Int), SI g μ2 → Fr l_254 0 0 g μ μ2 → μ2.1 a0 28 = po2 → (po2 = po) → ex_q (dt_fg L ρ) rc (d + 6, (f.1, f.2.1, f.2.2.1, f.2.2.2), F, μ2)) : ex_q (dt_fg L ρ) rc (d + 5, (254, 0, [some (eR a0), none, none, none, none], []), f :: F, μ) := by
  have F0 : Fr l_254 0 0 g μ μ := Fr.r
  have b_po : 0 ≤ po ∧ po ≤ 2670 := by
    rw [← h_po]
    exact hI.int gA0 (by decide) (n := 69) rfl (by decide) rfl
  refine w_t (np := 1) (l2 := [some (eR a0), none, none, none, none]) (s2 := [eR a0]) rfl (s_an rfl (pos_g hI gA0 (by decide))) rfl ?_
  refine j_gi (np := 4) rfl rfl rfl hI gA0 (by decide) (n := 69) rfl rfl (lo := 0) (hi := 1) rfl ?_
  intro v1 e2 b3
  refine b_ieq (t1 := 8) (t2 := 7) rfl rfl rfl (ev_w_in (by omega) (by omega)) (fun g4 => ?_) (fun g4 => ?_)
  · have b5 : 0 ≤ v1 ∧ v1 ≤ 0 := by omega
    refine w_t (np := 9) (l2 := [some (eR a0), none, none, none, none]) (s2 := [eR a0]) rfl (s_an rfl (pos_g hI gA0 (by decide))) rfl ?_
    refine w_t (np := 10) (l2 := [some (eR a0), none, none, none, none]) (s2 := [eI (1), eR a0]) rfl rfl rfl ?_
    refine j_pf (np := 13) (w := 1) rfl rfl hI gA0 (by decide) (n := 69) rfl rfl (hO_i (lo := 0) (hi := 1) rfl (by decide)) ?_
    intro m5 I6 W7
    have F8 : Fr l_254 0 0 g μ m5 := F0.w W7 gA0 rfl
    have p9 : PK g m5 := PK.fr h_PK (Fr.f W7 gA0) rfl
    refine w_t (np := 14) (l2 := [some (eR a0), none, none, none, none]) (s2 := [eR a0]) rfl (s_an rfl (pos_g I6 gA0 (by decide))) rfl ?_
    refine w_t (np := 15) (l2 := [some (eR a0), none, none, none, none]) (s2 := [eI (0), eR a0]) rfl rfl rfl ?_
    refine j_pf (np := 18) (w := 0) rfl rfl I6 gA0 (by decide) (n := 69) rfl rfl (hO_i (lo := 0) (hi := 2670) rfl (by decide)) ?_
    intro m10 I11 W12
    have F13 : Fr l_254 0 0 g μ m10 := F8.w W12 gA0 rfl
    have p14 : PK g m10 := PK.fr p9 (Fr.f W12 gA0) rfl
    refine w_t (np := 19) (l2 := [some (eR a0), none, none, none, none]) (s2 := [eI (0)]) rfl rfl rfl ?_
    refine w_t (np := 20) (l2 := [some (eR a0), some (eI (0)), none, none, none]) (s2 := []) rfl rfl rfl ?_
    have hL20 : ∀ (n15 : Nat) (m22 : eM) (i17 : Int) (o19 : Option eV) (o20 : Option eV) (o21 : Option eV) (x25 : Int) (x28 : Int), SI g m22 → Fr l_254 0 0 g μ m22 → (0 ≤ i17 ∧ i17 ≤ 2670) → m22.1 a0 35 = 1 → m22.1 a0 34 = x25 → (0 ≤ x25 ∧ x25 ≤ 2670) → m22.1 a0 28 = x28 → (0 ≤ x28 ∧ x28 ≤ 2670) → PK g m22 → x25 ≤ i17 → x28 = po → n15 = (2670 - i17).toNat → ex_q (dt_fg L ρ) rc (d + 5, (254, 20, [some (eR a0), some (eI (i17)), o19, o20, o21], []), f :: F, m22) := by
      intro n15
      induction n15 using Nat.strongRecOn with
      | _ n15 ih16 =>
      intro m22 i17 o19 o20 o21 x25 x28 I23 F24 b18 k31 h26 b27 h29 b30 p32 r33 r34 hn35
      refine w_t (np := 21) (l2 := [some (eR a0), some (eI (i17)), o19, o20, o21]) (s2 := [eI (i17)]) rfl rfl rfl ?_
      refine w_t (np := 22) (l2 := [some (eR a0), some (eI (i17)), o19, o20, o21]) (s2 := [eR a0, eI (i17)]) rfl (s_an rfl (pos_g I23 gA0 (by decide))) rfl ?_
      refine w_gf (np := 25) (v := eI (x28)) rfl rfl (I23.kd gA0 (by decide) (n := 69) rfl) (by rw [h29]; rfl) ?_
      refine b_cge (t1 := 153) (t2 := 28) rfl rfl rfl (ev_w_in (by omega) (by omega)) (ev_w_in (by omega) (by omega)) (fun g36 => ?_) (fun g36 => ?_)
      · exact v_rv rfl rfl (K m22 (x28) I23 F24 h29 (by omega))
      · have b37 : 0 ≤ i17 ∧ i17 ≤ 2669 := by omega
        have b38 : 1 ≤ x28 ∧ x28 ≤ 2670 := by omega
        refine w_t (np := 29) (l2 := [some (eR a0), some (eI (i17)), o19, o20, o21]) (s2 := [eR a0]) rfl (s_an rfl (pos_g I23 gA0 (by decide))) rfl ?_
        refine w_t (np := 30) (l2 := [some (eR a0), some (eI (i17)), o19, o20, o21]) (s2 := [eI (i17), eR a0]) rfl rfl rfl ?_
        refine w_cw (np := 33) (as := [eI (i17)]) (l2 := [some (eR a0), some (eI (i17)), none, none, none]) (rest := []) rfl rfl rfl (Nat.ble_eq.mp rfl) rfl rfl rfl (I23.kd gA0 (by decide) (n := 69) rfl) rfl ?_
        refine s_253w (a1 := i17) I23 gA0 (by omega) h29 p32 (by omega) ?_
        intro m37 v40 v42 I38 F39 b41 e43 h44
        have F45 : Fr l_254 0 0 g μ m37 := F24.t F39 rfl
        have p46 : PK g m37 := PK.fr p32 F39 rfl
        have b47 : 0 ≤ v42 ∧ v42 ≤ 2670 := by
          rw [← e43]
          exact I38.int gA0 (by decide) (n := 69) rfl (by decide) rfl
        show ex_q (dt_fg L ρ) rc (d + 5, (254, 33, [some (eR a0), some (eI (i17)), o19, o20, o21], [eI (v40)]), f :: F, m37)
        refine w_t (np := 34) (l2 := [some (eR a0), some (eI (i17)), some (eI (v40)), o20, o21]) (s2 := []) rfl rfl rfl ?_
        refine w_t (np := 35) (l2 := [some (eR a0), some (eI (i17)), some (eI (v40)), o20, o21]) (s2 := [eR a0]) rfl (s_an rfl (pos_g I38 gA0 (by decide))) rfl ?_
        refine j_gr (np := 38) rfl rfl I38 gA0 (by decide) (n := 69) rfl rfl rfl ?_
        intro v48 e49 b50 z51
        have b50 : g v48 = 72 := Nat.eq_of_beq_eq_true b50
        refine w_t (np := 39) (l2 := [some (eR a0), some (eI (i17)), some (eI (v40)), o20, o21]) (s2 := [eI (i17), eR v48]) rfl rfl rfl ?_
        refine w_t (np := 40) (l2 := [some (eR a0), some (eI (i17)), some (eI (v40)), o20, o21]) (s2 := [eI (v40), eI (i17), eR v48]) rfl rfl rfl ?_
        refine j_as (np := 41) rfl rfl I38 b50 (by decide) (n := 2670) rfl rfl (lo := -2147483648) (hi := 2147483647) (fun _ => rfl) (by omega) (by omega) (by omega) ?_
        intro m52 I53 W54
        have F55 : Fr l_254 0 0 g μ m52 := F45.v W54 b50 rfl rfl
        have p56 : PK g m52 := PK.fr p46 (Fr.o W54 b50 rfl) rfl
        refine w_t (np := 42) (l2 := [some (eR a0), some (eI (i17)), some (eI (v40)), o20, o21]) (s2 := [eI (v40)]) rfl rfl rfl ?_
        refine b_ige (t1 := 48) (t2 := 45) rfl rfl rfl (ev_w_in (by omega) (by omega)) (fun g57 => ?_) (fun g57 => ?_)
        · have b58 : 0 ≤ v40 ∧ v40 ≤ 2147483647 := by omega
          refine w_t (np := 49) (l2 := [some (eR a0), some (eI (i17)), some (eI (v40)), o20, o21]) (s2 := [eR a0]) rfl (s_an rfl (pos_g I53 gA0 (by decide))) rfl ?_
          refine w_gf (np := 52) (v := eI (x25)) rfl rfl (I53.kd gA0 (by decide) (n := 69) rfl) (by rw [(W54.addr (F39.k h26 gA0 (by decide) rfl) b50 gA0 (by decide))]; rfl) ?_
          refine w_t (np := 53) (l2 := [some (eR a0), some (eI (i17)), some (eI (v40)), some (eI (x25)), o21]) (s2 := []) rfl rfl rfl ?_
          have hL53 : ∀ (n58 : Nat) (m62 : eM) (i60 : Int), SI g m62 → Fr l_254 0 0 g μ m62 → (0 ≤ i60 ∧ i60 ≤ 2670) → m62.1 a0 35 = 1 → m62.1 a0 34 = x25 → m62.1 a0 28 = v42 → m62.1 a0 32 = ((v48 : Nat) : Int) → PK g m62 → i60 ≤ x25 → n58 = (i60).toNat → ex_q (dt_fg L ρ) rc (d + 5, (254, 53, [some (eR a0), some (eI (i17)), some (eI (v40)), some (eI (i60)), o21], []), f :: F, m62) := by
            intro n58
            induction n58 using Nat.strongRecOn with
            | _ n58 ih59 =>
            intro m62 i60 I63 F64 b61 k65 k66 k67 k68 p69 r70 hn71
            refine w_t (np := 54) (l2 := [some (eR a0), some (eI (i17)), some (eI (v40)), some (eI (i60)), o21]) (s2 := [eI (i60)]) rfl rfl rfl ?_
            refine b_ile (t1 := 75) (t2 := 57) rfl rfl rfl (ev_w_in (by omega) (by omega)) (fun g72 => ?_) (fun g72 => ?_)
            · have b73 : 0 ≤ i60 ∧ i60 ≤ 0 := by omega
              refine w_t (np := 76) (l2 := [some (eR a0), some (eI (i17)), some (eI (v40)), some (eI (i60)), o21]) (s2 := [eI (i60)]) rfl rfl rfl ?_
              refine w_t (np := 77) (l2 := [some (eR a0), some (eI (i17)), some (eI (v40)), some (eI (i60)), o21]) (s2 := [eR a0, eI (i60)]) rfl (s_an rfl (pos_g I63 gA0 (by decide))) rfl ?_
              refine w_gf (np := 80) (v := eI (x25)) rfl rfl (I63.kd gA0 (by decide) (n := 69) rfl) (by rw [k66]; rfl) ?_
              refine b_cge (t1 := 96) (t2 := 83) rfl rfl rfl (ev_w_in (by omega) (by omega)) (ev_w_in (by omega) (by omega)) (fun g73 => ?_) (fun g73 => ?_)
              · have b74 : 0 ≤ x25 ∧ x25 ≤ 0 := by omega
                refine w_t (np := 97) (l2 := [some (eR a0), some (eI (i17)), some (eI (v40)), some (eI (i60)), o21]) (s2 := [eR a0]) rfl (s_an rfl (pos_g I63 gA0 (by decide))) rfl ?_
                refine w_gf (np := 100) (v := eI (x25)) rfl rfl (I63.kd gA0 (by decide) (n := 69) rfl) (by rw [k66]; rfl) ?_
                refine w_t (np := 102) (l2 := [some (eR a0), some (eI (i17)), some (eI (v40)), some (eI (i60)), some (eI (x25))]) (s2 := []) rfl rfl rfl ?_
                have hL102 : ∀ (n74 : Nat) (m78 : eM) (i76 : Int), SI g m78 → Fr l_254 0 0 g μ m78 → (0 ≤ i76 ∧ i76 ≤ 2670) → m78.1 a0 35 = 1 → m78.1 a0 34 = x25 → m78.1 a0 28 = v42 → m78.1 a0 32 = ((v48 : Nat) : Int) → PK g m78 → i60 ≤ i76 → i76 ≤ x25 → n74 = (i76).toNat → ex_q (dt_fg L ρ) rc (d + 5, (254, 102, [some (eR a0), some (eI (i17)), some (eI (v40)), some (eI (i60)), some (eI (i76))], []), f :: F, m78) := by
                  intro n74
                  induction n74 using Nat.strongRecOn with
                  | _ n74 ih75 =>
                  intro m78 i76 I79 F80 b77 k81 k82 k83 k84 p85 r86 r87 hn88
                  refine w_t (np := 104) (l2 := [some (eR a0), some (eI (i17)), some (eI (v40)), some (eI (i60)), some (eI (i76))]) (s2 := [eI (i76)]) rfl rfl rfl ?_
                  refine w_t (np := 105) (l2 := [some (eR a0), some (eI (i17)), some (eI (v40)), some (eI (i60)), some (eI (i76))]) (s2 := [eI (i60), eI (i76)]) rfl rfl rfl ?_
                  refine b_cle (t1 := 130) (t2 := 108) rfl rfl rfl (ev_w_in (by omega) (by omega)) (ev_w_in (by omega) (by omega)) (fun g89 => ?_) (fun g89 => ?_)
                  · have b90 : 0 ≤ i76 ∧ i76 ≤ 0 := by omega
                    refine w_t (np := 131) (l2 := [some (eR a0), some (eI (i17)), some (eI (v40)), some (eI (i60)), some (eI (i76))]) (s2 := [eR a0]) rfl (s_an rfl (pos_g I79 gA0 (by decide))) rfl ?_
                    refine j_gr (np := 134) rfl rfl I79 gA0 (by decide) (n := 69) rfl rfl rfl ?_
                    intro v90 e91 b92 z93
                    have b92 : g v90 = 73 := Nat.eq_of_beq_eq_true b92
                    refine w_t (np := 135) (l2 := [some (eR a0), some (eI (i17)), some (eI (v40)), some (eI (i60)), some (eI (i76))]) (s2 := [eI (i60), eR v90]) rfl rfl rfl ?_
                    refine w_t (np := 136) (l2 := [some (eR a0), some (eI (i17)), some (eI (v40)), some (eI (i60)), some (eI (i76))]) (s2 := [eI (v40), eI (i60), eR v90]) rfl rfl rfl ?_
                    refine j_as (np := 137) rfl rfl I79 b92 (by decide) (n := 2670) rfl rfl (lo := -2147483648) (hi := 2147483647) (fun _ => rfl) (by omega) (by omega) (by omega) ?_
                    intro m94 I95 W96
                    have F97 : Fr l_254 0 0 g μ m94 := F80.v W96 b92 rfl rfl
                    have p98 : PK g m94 := PK.fr p85 (Fr.o W96 b92 rfl) rfl
                    refine w_t (np := 138) (l2 := [some (eR a0), some (eI (i17)), some (eI (v40)), some (eI (i60)), some (eI (i76))]) (s2 := [eR a0]) rfl (s_an rfl (pos_g I95 gA0 (by decide))) rfl ?_
                    refine w_t (np := 139) (l2 := [some (eR a0), some (eI (i17)), some (eI (v40)), some (eI (i60)), some (eI (i76))]) (s2 := [eR a0, eR a0]) rfl rfl rfl ?_
                    refine w_gf (np := 142) (v := eI (x25)) rfl rfl (I95.kd gA0 (by decide) (n := 69) rfl) (by rw [(W96.addr k82 b92 gA0 (by decide))]; rfl) ?_
                    refine w_t (np := 143) (l2 := [some (eR a0), some (eI (i17)), some (eI (v40)), some (eI (i60)), some (eI (i76))]) (s2 := [eI (1), eI (x25), eR a0]) rfl rfl rfl ?_
                    obtain ⟨v99, e100⟩ : ∃ zz : Int, zz = (x25) + (1) := ⟨_, rfl⟩
                    have b101 : 1 ≤ v99 ∧ v99 ≤ 1 := by omega
                    refine w_t (np := 144) (l2 := [some (eR a0), some (eI (i17)), some (eI (v40)), some (eI (i60)), some (eI (i76))]) (s2 := [eI (v99), eR a0]) rfl (b_iadd (by rw [← e100]; exact ev_w_in (by omega) (by omega))) rfl ?_
                    refine j_pf (np := 147) (w := v99) rfl rfl I95 gA0 (by decide) (n := 69) rfl rfl (hO_i (lo := 0) (hi := 2670) rfl (by omega)) ?_
                    intro m102 I103 W104
                    have F105 : Fr l_254 0 0 g μ m102 := F97.w W104 gA0 rfl
                    have p106 : PK g m102 := PK.fr p98 (Fr.f W104 gA0) rfl
                    obtain ⟨v107, e108⟩ : ∃ zz : Int, zz = (i17) + (1) := ⟨_, rfl⟩
                    have b109 : 1 ≤ v107 ∧ v107 ≤ 2670 := by omega
                    refine w_t (np := 150) (l2 := [some (eR a0), some (eI (v107)), some (eI (v40)), some (eI (i60)), some (eI (i76))]) (s2 := []) rfl (b_iinc rfl (by rw [← e108]; exact ev_w_in (by omega) (by omega)) rfl) rfl ?_
                    refine w_go (t1 := 20) rfl rfl ?_
                    exact ih16 (2670 - (v107)).toNat (by omega) m102 (v107) (some (eI (v40))) (some (eI (i60))) (some (eI (i76))) (v99) (v42) I103 F105 (by omega) (W104.slot (W96.addr k81 b92 gA0 (by decide)) (by decide)) W104.at (by omega) (W104.slot (W96.addr k83 b92 gA0 (by decide)) (by decide)) (by omega) p106 (by omega) (by omega) rfl
                  · have b90 : 1 ≤ i76 ∧ i76 ≤ 2670 := by omega
                    refine w_t (np := 109) (l2 := [some (eR a0), some (eI (i17)), some (eI (v40)), some (eI (i60)), some (eI (i76))]) (s2 := [eR a0]) rfl (s_an rfl (pos_g I79 gA0 (by decide))) rfl ?_
                    refine j_gr (np := 112) rfl rfl I79 gA0 (by decide) (n := 69) rfl rfl rfl ?_
                    intro v90 e91 b92 z93
                    have b92 : g v90 = 73 := Nat.eq_of_beq_eq_true b92
                    refine w_t (np := 114) (l2 := [some (eR a0), some (eI (i17)), some (eI (v40)), some (eI (i60)), some (eI (i76))]) (s2 := [eI (i76), eR v90]) rfl rfl rfl ?_
                    refine w_t (np := 115) (l2 := [some (eR a0), some (eI (i17)), some (eI (v40)), some (eI (i60)), some (eI (i76))]) (s2 := [eR a0, eI (i76), eR v90]) rfl (s_an rfl (pos_g I79 gA0 (by decide))) rfl ?_
                    refine w_gf (np := 118) (v := eR v90) rfl rfl (I79.kd gA0 (by decide) (n := 69) rfl) (by rw [e91]; rfl) ?_
                    refine w_t (np := 120) (l2 := [some (eR a0), some (eI (i17)), some (eI (v40)), some (eI (i60)), some (eI (i76))]) (s2 := [eI (i76), eR v90, eI (i76), eR v90]) rfl rfl rfl ?_
                    refine w_t (np := 121) (l2 := [some (eR a0), some (eI (i17)), some (eI (v40)), some (eI (i60)), some (eI (i76))]) (s2 := [eI (1), eI (i76), eR v90, eI (i76), eR v90]) rfl rfl rfl ?_
                    obtain ⟨v94, e95⟩ : ∃ zz : Int, zz = (i76) - (1) := ⟨_, rfl⟩
                    have b96 : 0 ≤ v94 ∧ v94 ≤ 2669 := by omega
                    refine w_t (np := 122) (l2 := [some (eR a0), some (eI (i17)), some (eI (v40)), some (eI (i60)), some (eI (i76))]) (s2 := [eI (v94), eR v90, eI (i76), eR v90]) rfl (b_isub (by rw [← e95]; exact ev_w_in (by omega) (by omega))) rfl ?_
                    refine j_al (np := 123) rfl rfl I79 b92 (by decide) (n := 2670) rfl rfl (lo := -2147483648) (hi := 2147483647) (fun _ => rfl) (by omega) (by omega) ?_
                    intro v97 e98 b99
                    refine j_as (np := 124) rfl rfl I79 b92 (by decide) (n := 2670) rfl rfl (lo := -2147483648) (hi := 2147483647) (fun _ => rfl) (by omega) (by omega) (by omega) ?_
                    intro m100 I101 W102
                    have F103 : Fr l_254 0 0 g μ m100 := F80.v W102 b92 rfl rfl
                    have p104 : PK g m100 := PK.fr p85 (Fr.o W102 b92 rfl) rfl
                    obtain ⟨v105, e106⟩ : ∃ zz : Int, zz = (i76) + (-1) := ⟨_, rfl⟩
                    have b107 : 0 ≤ v105 ∧ v105 ≤ 2669 := by omega
                    refine w_t (np := 127) (l2 := [some (eR a0), some (eI (i17)), some (eI (v40)), some (eI (i60)), some (eI (v105))]) (s2 := []) rfl (b_iinc rfl (by rw [← e106]; exact ev_w_in (by omega) (by omega)) rfl) rfl ?_
                    refine w_go (t1 := 102) rfl rfl ?_
                    exact ih75 ((v105)).toNat (by omega) m100 (v105) I101 F103 (by omega) (W102.addr k81 b92 gA0 (by decide)) (W102.addr k82 b92 gA0 (by decide)) (W102.addr k83 b92 gA0 (by decide)) (W102.addr k84 b92 gA0 (by decide))  p104 (by omega) (by omega) rfl
                exact hL102 _ m62 (x25) I63 F64 (by omega) k65 k66 k67 k68  p69 (by omega) (by omega) rfl
              · have b74 : 1 ≤ x25 ∧ x25 ≤ 2670 := by omega
                refine w_t (np := 84) (l2 := [some (eR a0), some (eI (i17)), some (eI (v40)), some (eI (i60)), o21]) (s2 := [eR a0]) rfl (s_an rfl (pos_g I63 gA0 (by decide))) rfl ?_
                refine j_gr (np := 87) rfl rfl I63 gA0 (by decide) (n := 69) rfl rfl rfl ?_
                intro v74 e75 b76 z77
                have b76 : g v74 = 73 := Nat.eq_of_beq_eq_true b76
                refine w_t (np := 88) (l2 := [some (eR a0), some (eI (i17)), some (eI (v40)), some (eI (i60)), o21]) (s2 := [eI (i60), eR v74]) rfl rfl rfl ?_
                refine j_al (np := 89) rfl rfl I63 b76 (by decide) (n := 2670) rfl rfl (lo := -2147483648) (hi := 2147483647) (fun _ => rfl) (by omega) (by omega) ?_
                intro v78 e79 b80
                refine w_t (np := 90) (l2 := [some (eR a0), some (eI (i17)), some (eI (v40)), some (eI (i60)), o21]) (s2 := [eI (v40), eI (v78)]) rfl rfl rfl ?_
                refine b_cne (t1 := 96) (t2 := 93) rfl rfl rfl (ev_w_in (by omega) (by omega)) (ev_w_in (by omega) (by omega)) (fun g81 => ?_) (fun g81 => ?_)
                · refine w_t (np := 97) (l2 := [some (eR a0), some (eI (i17)), some (eI (v40)), some (eI (i60)), o21]) (s2 := [eR a0]) rfl (s_an rfl (pos_g I63 gA0 (by decide))) rfl ?_
                  refine w_gf (np := 100) (v := eI (x25)) rfl rfl (I63.kd gA0 (by decide) (n := 69) rfl) (by rw [k66]; rfl) ?_
                  refine w_t (np := 102) (l2 := [some (eR a0), some (eI (i17)), some (eI (v40)), some (eI (i60)), some (eI (x25))]) (s2 := []) rfl rfl rfl ?_
                  have hL102 : ∀ (n82 : Nat) (m86 : eM) (i84 : Int), SI g m86 → Fr l_254 0 0 g μ m86 → (0 ≤ i84 ∧ i84 ≤ 2670) → m86.1 a0 35 = 1 → m86.1 a0 34 = x25 → m86.1 a0 28 = v42 → m86.1 a0 32 = ((v48 : Nat) : Int) → m86.1 a0 33 = ((v74 : Nat) : Int) → PK g m86 → i60 ≤ i84 → i84 ≤ x25 → n82 = (i84).toNat → ex_q (dt_fg L ρ) rc (d + 5, (254, 102, [some (eR a0), some (eI (i17)), some (eI (v40)), some (eI (i60)), some (eI (i84))], []), f :: F, m86) := by
                    intro n82
                    induction n82 using Nat.strongRecOn with
                    | _ n82 ih83 =>
                    intro m86 i84 I87 F88 b85 k89 k90 k91 k92 k93 p94 r95 r96 hn97
                    refine w_t (np := 104) (l2 := [some (eR a0), some (eI (i17)), some (eI (v40)), some (eI (i60)), some (eI (i84))]) (s2 := [eI (i84)]) rfl rfl rfl ?_
                    refine w_t (np := 105) (l2 := [some (eR a0), some (eI (i17)), some (eI (v40)), some (eI (i60)), some (eI (i84))]) (s2 := [eI (i60), eI (i84)]) rfl rfl rfl ?_
                    refine b_cle (t1 := 130) (t2 := 108) rfl rfl rfl (ev_w_in (by omega) (by omega)) (ev_w_in (by omega) (by omega)) (fun g98 => ?_) (fun g98 => ?_)
                    · have b99 : 0 ≤ i84 ∧ i84 ≤ 0 := by omega
                      refine w_t (np := 131) (l2 := [some (eR a0), some (eI (i17)), some (eI (v40)), some (eI (i60)), some (eI (i84))]) (s2 := [eR a0]) rfl (s_an rfl (pos_g I87 gA0 (by decide))) rfl ?_
                      refine w_gf (np := 134) (v := eR v74) rfl rfl (I87.kd gA0 (by decide) (n := 69) rfl) (by rw [k93]; rfl) ?_
                      refine w_t (np := 135) (l2 := [some (eR a0), some (eI (i17)), some (eI (v40)), some (eI (i60)), some (eI (i84))]) (s2 := [eI (i60), eR v74]) rfl rfl rfl ?_
                      refine w_t (np := 136) (l2 := [some (eR a0), some (eI (i17)), some (eI (v40)), some (eI (i60)), some (eI (i84))]) (s2 := [eI (v40), eI (i60), eR v74]) rfl rfl rfl ?_
                      refine j_as (np := 137) rfl rfl I87 b76 (by decide) (n := 2670) rfl rfl (lo := -2147483648) (hi := 2147483647) (fun _ => rfl) (by omega) (by omega) (by omega) ?_
                      intro m99 I100 W101
                      have F102 : Fr l_254 0 0 g μ m99 := F88.v W101 b76 rfl rfl
                      have p103 : PK g m99 := PK.fr p94 (Fr.o W101 b76 rfl) rfl
                      refine w_t (np := 138) (l2 := [some (eR a0), some (eI (i17)), some (eI (v40)), some (eI (i60)), some (eI (i84))]) (s2 := [eR a0]) rfl (s_an rfl (pos_g I100 gA0 (by decide))) rfl ?_
                      refine w_t (np := 139) (l2 := [some (eR a0), some (eI (i17)), some (eI (v40)), some (eI (i60)), some (eI (i84))]) (s2 := [eR a0, eR a0]) rfl rfl rfl ?_
                      refine w_gf (np := 142) (v := eI (x25)) rfl rfl (I100.kd gA0 (by decide) (n := 69) rfl) (by rw [(W101.addr k90 b76 gA0 (by decide))]; rfl) ?_
                      refine w_t (np := 143) (l2 := [some (eR a0), some (eI (i17)), some (eI (v40)), some (eI (i60)), some (eI (i84))]) (s2 := [eI (1), eI (x25), eR a0]) rfl rfl rfl ?_
                      obtain ⟨v104, e105⟩ : ∃ zz : Int, zz = (x25) + (1) := ⟨_, rfl⟩
                      have b106 : 2 ≤ v104 ∧ v104 ≤ 2671 := by omega
                      refine w_t (np := 144) (l2 := [some (eR a0), some (eI (i17)), some (eI (v40)), some (eI (i60)), some (eI (i84))]) (s2 := [eI (v104), eR a0]) rfl (b_iadd (by rw [← e105]; exact ev_w_in (by omega) (by omega))) rfl ?_
                      refine j_pf (np := 147) (w := v104) rfl rfl I100 gA0 (by decide) (n := 69) rfl rfl (hO_i (lo := 0) (hi := 2670) rfl (by omega)) ?_
                      intro m107 I108 W109
                      have F110 : Fr l_254 0 0 g μ m107 := F102.w W109 gA0 rfl
                      have p111 : PK g m107 := PK.fr p103 (Fr.f W109 gA0) rfl
                      obtain ⟨v112, e113⟩ : ∃ zz : Int, zz = (i17) + (1) := ⟨_, rfl⟩
                      have b114 : 1 ≤ v112 ∧ v112 ≤ 2670 := by omega
                      refine w_t (np := 150) (l2 := [some (eR a0), some (eI (v112)), some (eI (v40)), some (eI (i60)), some (eI (i84))]) (s2 := []) rfl (b_iinc rfl (by rw [← e113]; exact ev_w_in (by omega) (by omega)) rfl) rfl ?_
                      refine w_go (t1 := 20) rfl rfl ?_
                      exact ih16 (2670 - (v112)).toNat (by omega) m107 (v112) (some (eI (v40))) (some (eI (i60))) (some (eI (i84))) (v104) (v42) I108 F110 (by omega) (W109.slot (W101.addr k89 b76 gA0 (by decide)) (by decide)) W109.at (by omega) (W109.slot (W101.addr k91 b76 gA0 (by decide)) (by decide)) (by omega) p111 (by omega) (by omega) rfl
                    · have b99 : 1 ≤ i84 ∧ i84 ≤ 2670 := by omega
                      refine w_t (np := 109) (l2 := [some (eR a0), some (eI (i17)), some (eI (v40)), some (eI (i60)), some (eI (i84))]) (s2 := [eR a0]) rfl (s_an rfl (pos_g I87 gA0 (by decide))) rfl ?_
                      refine w_gf (np := 112) (v := eR v74) rfl rfl (I87.kd gA0 (by decide) (n := 69) rfl) (by rw [k93]; rfl) ?_
                      refine w_t (np := 114) (l2 := [some (eR a0), some (eI (i17)), some (eI (v40)), some (eI (i60)), some (eI (i84))]) (s2 := [eI (i84), eR v74]) rfl rfl rfl ?_
                      refine w_t (np := 115) (l2 := [some (eR a0), some (eI (i17)), some (eI (v40)), some (eI (i60)), some (eI (i84))]) (s2 := [eR a0, eI (i84), eR v74]) rfl (s_an rfl (pos_g I87 gA0 (by decide))) rfl ?_
                      refine w_gf (np := 118) (v := eR v74) rfl rfl (I87.kd gA0 (by decide) (n := 69) rfl) (by rw [k93]; rfl) ?_
                      refine w_t (np := 120) (l2 := [some (eR a0), some (eI (i17)), some (eI (v40)), some (eI (i60)), some (eI (i84))]) (s2 := [eI (i84), eR v74, eI (i84), eR v74]) rfl rfl rfl ?_
                      refine w_t (np := 121) (l2 := [some (eR a0), some (eI (i17)), some (eI (v40)), some (eI (i60)), some (eI (i84))]) (s2 := [eI (1), eI (i84), eR v74, eI (i84), eR v74]) rfl rfl rfl ?_
                      obtain ⟨v99, e100⟩ : ∃ zz : Int, zz = (i84) - (1) := ⟨_, rfl⟩
                      have b101 : 0 ≤ v99 ∧ v99 ≤ 2669 := by omega
                      refine w_t (np := 122) (l2 := [some (eR a0), some (eI (i17)), some (eI (v40)), some (eI (i60)), some (eI (i84))]) (s2 := [eI (v99), eR v74, eI (i84), eR v74]) rfl (b_isub (by rw [← e100]; exact ev_w_in (by omega) (by omega))) rfl ?_
                      refine j_al (np := 123) rfl rfl I87 b76 (by decide) (n := 2670) rfl rfl (lo := -2147483648) (hi := 2147483647) (fun _ => rfl) (by omega) (by omega) ?_
                      intro v102 e103 b104
                      refine j_as (np := 124) rfl rfl I87 b76 (by decide) (n := 2670) rfl rfl (lo := -2147483648) (hi := 2147483647) (fun _ => rfl) (by omega) (by omega) (by omega) ?_
                      intro m105 I106 W107
                      have F108 : Fr l_254 0 0 g μ m105 := F88.v W107 b76 rfl rfl
                      have p109 : PK g m105 := PK.fr p94 (Fr.o W107 b76 rfl) rfl
                      obtain ⟨v110, e111⟩ : ∃ zz : Int, zz = (i84) + (-1) := ⟨_, rfl⟩
                      have b112 : 0 ≤ v110 ∧ v110 ≤ 2669 := by omega
                      refine w_t (np := 127) (l2 := [some (eR a0), some (eI (i17)), some (eI (v40)), some (eI (i60)), some (eI (v110))]) (s2 := []) rfl (b_iinc rfl (by rw [← e111]; exact ev_w_in (by omega) (by omega)) rfl) rfl ?_
                      refine w_go (t1 := 102) rfl rfl ?_
                      exact ih83 ((v110)).toNat (by omega) m105 (v110) I106 F108 (by omega) (W107.addr k89 b76 gA0 (by decide)) (W107.addr k90 b76 gA0 (by decide)) (W107.addr k91 b76 gA0 (by decide)) (W107.addr k92 b76 gA0 (by decide)) (W107.addr k93 b76 gA0 (by decide))  p109 (by omega) (by omega) rfl
                  exact hL102 _ m62 (x25) I63 F64 (by omega) k65 k66 k67 k68 e75  p69 (by omega) (by omega) rfl
                · have b82 : 0 ≤ v78 ∧ v78 ≤ 2147483647 := by omega
                  refine w_go (t1 := 147) rfl rfl ?_
                  obtain ⟨v82, e83⟩ : ∃ zz : Int, zz = (i17) + (1) := ⟨_, rfl⟩
                  have b84 : 1 ≤ v82 ∧ v82 ≤ 2670 := by omega
                  refine w_t (np := 150) (l2 := [some (eR a0), some (eI (v82)), some (eI (v40)), some (eI (i60)), o21]) (s2 := []) rfl (b_iinc rfl (by rw [← e83]; exact ev_w_in (by omega) (by omega)) rfl) rfl ?_
                  refine w_go (t1 := 20) rfl rfl ?_
                  exact ih16 (2670 - (v82)).toNat (by omega) m62 (v82) (some (eI (v40))) (some (eI (i60))) (o21) (x25) (v42) I63 F64 (by omega) k65 k66 (by omega) k67 (by omega) p69 (by omega) (by omega) rfl
            · have b73 : 1 ≤ i60 ∧ i60 ≤ 2670 := by omega
              refine w_t (np := 58) (l2 := [some (eR a0), some (eI (i17)), some (eI (v40)), some (eI (i60)), o21]) (s2 := [eR a0]) rfl (s_an rfl (pos_g I63 gA0 (by decide))) rfl ?_
              refine j_gr (np := 61) rfl rfl I63 gA0 (by decide) (n := 69) rfl rfl rfl ?_
              intro v73 e74 b75 z76
              have b75 : g v73 = 73 := Nat.eq_of_beq_eq_true b75
              refine w_t (np := 62) (l2 := [some (eR a0), some (eI (i17)), some (eI (v40)), some (eI (i60)), o21]) (s2 := [eI (i60), eR v73]) rfl rfl rfl ?_
              refine w_t (np := 63) (l2 := [some (eR a0), some (eI (i17)), some (eI (v40)), some (eI (i60)), o21]) (s2 := [eI (1), eI (i60), eR v73]) rfl rfl rfl ?_
              obtain ⟨v77, e78⟩ : ∃ zz : Int, zz = (i60) - (1) := ⟨_, rfl⟩
              have b79 : 0 ≤ v77 ∧ v77 ≤ 2669 := by omega
              refine w_t (np := 64) (l2 := [some (eR a0), some (eI (i17)), some (eI (v40)), some (eI (i60)), o21]) (s2 := [eI (v77), eR v73]) rfl (b_isub (by rw [← e78]; exact ev_w_in (by omega) (by omega))) rfl ?_
              refine j_al (np := 65) rfl rfl I63 b75 (by decide) (n := 2670) rfl rfl (lo := -2147483648) (hi := 2147483647) (fun _ => rfl) (by omega) (by omega) ?_
              intro v80 e81 b82
              refine w_t (np := 66) (l2 := [some (eR a0), some (eI (i17)), some (eI (v40)), some (eI (i60)), o21]) (s2 := [eI (v40), eI (v80)]) rfl rfl rfl ?_
              refine b_clt (t1 := 75) (t2 := 69) rfl rfl rfl (ev_w_in (by omega) (by omega)) (ev_w_in (by omega) (by omega)) (fun g83 => ?_) (fun g83 => ?_)
              · have b84 : -2147483648 ≤ v80 ∧ v80 ≤ 2147483646 := by omega
                refine w_t (np := 76) (l2 := [some (eR a0), some (eI (i17)), some (eI (v40)), some (eI (i60)), o21]) (s2 := [eI (i60)]) rfl rfl rfl ?_
                refine w_t (np := 77) (l2 := [some (eR a0), some (eI (i17)), some (eI (v40)), some (eI (i60)), o21]) (s2 := [eR a0, eI (i60)]) rfl (s_an rfl (pos_g I63 gA0 (by decide))) rfl ?_
                refine w_gf (np := 80) (v := eI (x25)) rfl rfl (I63.kd gA0 (by decide) (n := 69) rfl) (by rw [k66]; rfl) ?_
                refine b_cge (t1 := 96) (t2 := 83) rfl rfl rfl (ev_w_in (by omega) (by omega)) (ev_w_in (by omega) (by omega)) (fun g84 => ?_) (fun g84 => ?_)
                · refine w_t (np := 97) (l2 := [some (eR a0), some (eI (i17)), some (eI (v40)), some (eI (i60)), o21]) (s2 := [eR a0]) rfl (s_an rfl (pos_g I63 gA0 (by decide))) rfl ?_
                  refine w_gf (np := 100) (v := eI (x25)) rfl rfl (I63.kd gA0 (by decide) (n := 69) rfl) (by rw [k66]; rfl) ?_
                  refine w_t (np := 102) (l2 := [some (eR a0), some (eI (i17)), some (eI (v40)), some (eI (i60)), some (eI (x25))]) (s2 := []) rfl rfl rfl ?_
                  have hL102 : ∀ (n85 : Nat) (m89 : eM) (i87 : Int), SI g m89 → Fr l_254 0 0 g μ m89 → (0 ≤ i87 ∧ i87 ≤ 2670) → m89.1 a0 35 = 1 → m89.1 a0 34 = x25 → m89.1 a0 28 = v42 → m89.1 a0 32 = ((v48 : Nat) : Int) → m89.1 a0 33 = ((v73 : Nat) : Int) → PK g m89 → i60 ≤ i87 → i87 ≤ x25 → n85 = (i87).toNat → ex_q (dt_fg L ρ) rc (d + 5, (254, 102, [some (eR a0), some (eI (i17)), some (eI (v40)), some (eI (i60)), some (eI (i87))], []), f :: F, m89) := by
                    intro n85
                    induction n85 using Nat.strongRecOn with
                    | _ n85 ih86 =>
                    intro m89 i87 I90 F91 b88 k92 k93 k94 k95 k96 p97 r98 r99 hn100
                    refine w_t (np := 104) (l2 := [some (eR a0), some (eI (i17)), some (eI (v40)), some (eI (i60)), some (eI (i87))]) (s2 := [eI (i87)]) rfl rfl rfl ?_
                    refine w_t (np := 105) (l2 := [some (eR a0), some (eI (i17)), some (eI (v40)), some (eI (i60)), some (eI (i87))]) (s2 := [eI (i60), eI (i87)]) rfl rfl rfl ?_
                    refine b_cle (t1 := 130) (t2 := 108) rfl rfl rfl (ev_w_in (by omega) (by omega)) (ev_w_in (by omega) (by omega)) (fun g101 => ?_) (fun g101 => ?_)
                    · refine w_t (np := 131) (l2 := [some (eR a0), some (eI (i17)), some (eI (v40)), some (eI (i60)), some (eI (i87))]) (s2 := [eR a0]) rfl (s_an rfl (pos_g I90 gA0 (by decide))) rfl ?_
                      refine w_gf (np := 134) (v := eR v73) rfl rfl (I90.kd gA0 (by decide) (n := 69) rfl) (by rw [k96]; rfl) ?_
                      refine w_t (np := 135) (l2 := [some (eR a0), some (eI (i17)), some (eI (v40)), some (eI (i60)), some (eI (i87))]) (s2 := [eI (i60), eR v73]) rfl rfl rfl ?_
                      refine w_t (np := 136) (l2 := [some (eR a0), some (eI (i17)), some (eI (v40)), some (eI (i60)), some (eI (i87))]) (s2 := [eI (v40), eI (i60), eR v73]) rfl rfl rfl ?_
                      refine j_as (np := 137) rfl rfl I90 b75 (by decide) (n := 2670) rfl rfl (lo := -2147483648) (hi := 2147483647) (fun _ => rfl) (by omega) (by omega) (by omega) ?_
                      intro m102 I103 W104
                      have F105 : Fr l_254 0 0 g μ m102 := F91.v W104 b75 rfl rfl
                      have p106 : PK g m102 := PK.fr p97 (Fr.o W104 b75 rfl) rfl
                      refine w_t (np := 138) (l2 := [some (eR a0), some (eI (i17)), some (eI (v40)), some (eI (i60)), some (eI (i87))]) (s2 := [eR a0]) rfl (s_an rfl (pos_g I103 gA0 (by decide))) rfl ?_
                      refine w_t (np := 139) (l2 := [some (eR a0), some (eI (i17)), some (eI (v40)), some (eI (i60)), some (eI (i87))]) (s2 := [eR a0, eR a0]) rfl rfl rfl ?_
                      refine w_gf (np := 142) (v := eI (x25)) rfl rfl (I103.kd gA0 (by decide) (n := 69) rfl) (by rw [(W104.addr k93 b75 gA0 (by decide))]; rfl) ?_
                      refine w_t (np := 143) (l2 := [some (eR a0), some (eI (i17)), some (eI (v40)), some (eI (i60)), some (eI (i87))]) (s2 := [eI (1), eI (x25), eR a0]) rfl rfl rfl ?_
                      obtain ⟨v107, e108⟩ : ∃ zz : Int, zz = (x25) + (1) := ⟨_, rfl⟩
                      have b109 : 1 ≤ v107 ∧ v107 ≤ 2671 := by omega
                      refine w_t (np := 144) (l2 := [some (eR a0), some (eI (i17)), some (eI (v40)), some (eI (i60)), some (eI (i87))]) (s2 := [eI (v107), eR a0]) rfl (b_iadd (by rw [← e108]; exact ev_w_in (by omega) (by omega))) rfl ?_
                      refine j_pf (np := 147) (w := v107) rfl rfl I103 gA0 (by decide) (n := 69) rfl rfl (hO_i (lo := 0) (hi := 2670) rfl (by omega)) ?_
                      intro m110 I111 W112
                      have F113 : Fr l_254 0 0 g μ m110 := F105.w W112 gA0 rfl
                      have p114 : PK g m110 := PK.fr p106 (Fr.f W112 gA0) rfl
                      obtain ⟨v115, e116⟩ : ∃ zz : Int, zz = (i17) + (1) := ⟨_, rfl⟩
                      have b117 : 1 ≤ v115 ∧ v115 ≤ 2670 := by omega
                      refine w_t (np := 150) (l2 := [some (eR a0), some (eI (v115)), some (eI (v40)), some (eI (i60)), some (eI (i87))]) (s2 := []) rfl (b_iinc rfl (by rw [← e116]; exact ev_w_in (by omega) (by omega)) rfl) rfl ?_
                      refine w_go (t1 := 20) rfl rfl ?_
                      exact ih16 (2670 - (v115)).toNat (by omega) m110 (v115) (some (eI (v40))) (some (eI (i60))) (some (eI (i87))) (v107) (v42) I111 F113 (by omega) (W112.slot (W104.addr k92 b75 gA0 (by decide)) (by decide)) W112.at (by omega) (W112.slot (W104.addr k94 b75 gA0 (by decide)) (by decide)) (by omega) p114 (by omega) (by omega) rfl
                    · have b102 : 2 ≤ i87 ∧ i87 ≤ 2670 := by omega
                      have b103 : 1 ≤ i60 ∧ i60 ≤ 2669 := by omega
                      refine w_t (np := 109) (l2 := [some (eR a0), some (eI (i17)), some (eI (v40)), some (eI (i60)), some (eI (i87))]) (s2 := [eR a0]) rfl (s_an rfl (pos_g I90 gA0 (by decide))) rfl ?_
                      refine w_gf (np := 112) (v := eR v73) rfl rfl (I90.kd gA0 (by decide) (n := 69) rfl) (by rw [k96]; rfl) ?_
                      refine w_t (np := 114) (l2 := [some (eR a0), some (eI (i17)), some (eI (v40)), some (eI (i60)), some (eI (i87))]) (s2 := [eI (i87), eR v73]) rfl rfl rfl ?_
                      refine w_t (np := 115) (l2 := [some (eR a0), some (eI (i17)), some (eI (v40)), some (eI (i60)), some (eI (i87))]) (s2 := [eR a0, eI (i87), eR v73]) rfl (s_an rfl (pos_g I90 gA0 (by decide))) rfl ?_
                      refine w_gf (np := 118) (v := eR v73) rfl rfl (I90.kd gA0 (by decide) (n := 69) rfl) (by rw [k96]; rfl) ?_
                      refine w_t (np := 120) (l2 := [some (eR a0), some (eI (i17)), some (eI (v40)), some (eI (i60)), some (eI (i87))]) (s2 := [eI (i87), eR v73, eI (i87), eR v73]) rfl rfl rfl ?_
                      refine w_t (np := 121) (l2 := [some (eR a0), some (eI (i17)), some (eI (v40)), some (eI (i60)), some (eI (i87))]) (s2 := [eI (1), eI (i87), eR v73, eI (i87), eR v73]) rfl rfl rfl ?_
                      obtain ⟨v102, e103⟩ : ∃ zz : Int, zz = (i87) - (1) := ⟨_, rfl⟩
                      have b104 : 1 ≤ v102 ∧ v102 ≤ 2669 := by omega
                      refine w_t (np := 122) (l2 := [some (eR a0), some (eI (i17)), some (eI (v40)), some (eI (i60)), some (eI (i87))]) (s2 := [eI (v102), eR v73, eI (i87), eR v73]) rfl (b_isub (by rw [← e103]; exact ev_w_in (by omega) (by omega))) rfl ?_
                      refine j_al (np := 123) rfl rfl I90 b75 (by decide) (n := 2670) rfl rfl (lo := -2147483648) (hi := 2147483647) (fun _ => rfl) (by omega) (by omega) ?_
                      intro v105 e106 b107
                      refine j_as (np := 124) rfl rfl I90 b75 (by decide) (n := 2670) rfl rfl (lo := -2147483648) (hi := 2147483647) (fun _ => rfl) (by omega) (by omega) (by omega) ?_
                      intro m108 I109 W110
                      have F111 : Fr l_254 0 0 g μ m108 := F91.v W110 b75 rfl rfl
                      have p112 : PK g m108 := PK.fr p97 (Fr.o W110 b75 rfl) rfl
                      obtain ⟨v113, e114⟩ : ∃ zz : Int, zz = (i87) + (-1) := ⟨_, rfl⟩
                      have b115 : 1 ≤ v113 ∧ v113 ≤ 2669 := by omega
                      refine w_t (np := 127) (l2 := [some (eR a0), some (eI (i17)), some (eI (v40)), some (eI (i60)), some (eI (v113))]) (s2 := []) rfl (b_iinc rfl (by rw [← e114]; exact ev_w_in (by omega) (by omega)) rfl) rfl ?_
                      refine w_go (t1 := 102) rfl rfl ?_
                      exact ih86 ((v113)).toNat (by omega) m108 (v113) I109 F111 (by omega) (W110.addr k92 b75 gA0 (by decide)) (W110.addr k93 b75 gA0 (by decide)) (W110.addr k94 b75 gA0 (by decide)) (W110.addr k95 b75 gA0 (by decide)) (W110.addr k96 b75 gA0 (by decide))  p112 (by omega) (by omega) rfl
                  exact hL102 _ m62 (x25) I63 F64 (by omega) k65 k66 k67 k68 e74  p69 (by omega) (by omega) rfl
                · have b85 : 1 ≤ i60 ∧ i60 ≤ 2669 := by omega
                  have b86 : 2 ≤ x25 ∧ x25 ≤ 2670 := by omega
                  refine w_t (np := 84) (l2 := [some (eR a0), some (eI (i17)), some (eI (v40)), some (eI (i60)), o21]) (s2 := [eR a0]) rfl (s_an rfl (pos_g I63 gA0 (by decide))) rfl ?_
                  refine w_gf (np := 87) (v := eR v73) rfl rfl (I63.kd gA0 (by decide) (n := 69) rfl) (by rw [e74]; rfl) ?_
                  refine w_t (np := 88) (l2 := [some (eR a0), some (eI (i17)), some (eI (v40)), some (eI (i60)), o21]) (s2 := [eI (i60), eR v73]) rfl rfl rfl ?_
                  refine j_al (np := 89) rfl rfl I63 b75 (by decide) (n := 2670) rfl rfl (lo := -2147483648) (hi := 2147483647) (fun _ => rfl) (by omega) (by omega) ?_
                  intro v85 e86 b87
                  refine w_t (np := 90) (l2 := [some (eR a0), some (eI (i17)), some (eI (v40)), some (eI (i60)), o21]) (s2 := [eI (v40), eI (v85)]) rfl rfl rfl ?_
                  refine b_cne (t1 := 96) (t2 := 93) rfl rfl rfl (ev_w_in (by omega) (by omega)) (ev_w_in (by omega) (by omega)) (fun g88 => ?_) (fun g88 => ?_)
                  · refine w_t (np := 97) (l2 := [some (eR a0), some (eI (i17)), some (eI (v40)), some (eI (i60)), o21]) (s2 := [eR a0]) rfl (s_an rfl (pos_g I63 gA0 (by decide))) rfl ?_
                    refine w_gf (np := 100) (v := eI (x25)) rfl rfl (I63.kd gA0 (by decide) (n := 69) rfl) (by rw [k66]; rfl) ?_
                    refine w_t (np := 102) (l2 := [some (eR a0), some (eI (i17)), some (eI (v40)), some (eI (i60)), some (eI (x25))]) (s2 := []) rfl rfl rfl ?_
                    have hL102 : ∀ (n89 : Nat) (m93 : eM) (i91 : Int), SI g m93 → Fr l_254 0 0 g μ m93 → (0 ≤ i91 ∧ i91 ≤ 2670) → m93.1 a0 35 = 1 → m93.1 a0 34 = x25 → m93.1 a0 28 = v42 → m93.1 a0 32 = ((v48 : Nat) : Int) → m93.1 a0 33 = ((v73 : Nat) : Int) → PK g m93 → i60 ≤ i91 → i91 ≤ x25 → n89 = (i91).toNat → ex_q (dt_fg L ρ) rc (d + 5, (254, 102, [some (eR a0), some (eI (i17)), some (eI (v40)), some (eI (i60)), some (eI (i91))], []), f :: F, m93) := by
                      intro n89
                      induction n89 using Nat.strongRecOn with
                      | _ n89 ih90 =>
                      intro m93 i91 I94 F95 b92 k96 k97 k98 k99 k100 p101 r102 r103 hn104
                      refine w_t (np := 104) (l2 := [some (eR a0), some (eI (i17)), some (eI (v40)), some (eI (i60)), some (eI (i91))]) (s2 := [eI (i91)]) rfl rfl rfl ?_
                      refine w_t (np := 105) (l2 := [some (eR a0), some (eI (i17)), some (eI (v40)), some (eI (i60)), some (eI (i91))]) (s2 := [eI (i60), eI (i91)]) rfl rfl rfl ?_
                      refine b_cle (t1 := 130) (t2 := 108) rfl rfl rfl (ev_w_in (by omega) (by omega)) (ev_w_in (by omega) (by omega)) (fun g105 => ?_) (fun g105 => ?_)
                      · have b106 : 0 ≤ i91 ∧ i91 ≤ 2669 := by omega
                        refine w_t (np := 131) (l2 := [some (eR a0), some (eI (i17)), some (eI (v40)), some (eI (i60)), some (eI (i91))]) (s2 := [eR a0]) rfl (s_an rfl (pos_g I94 gA0 (by decide))) rfl ?_
                        refine w_gf (np := 134) (v := eR v73) rfl rfl (I94.kd gA0 (by decide) (n := 69) rfl) (by rw [k100]; rfl) ?_
                        refine w_t (np := 135) (l2 := [some (eR a0), some (eI (i17)), some (eI (v40)), some (eI (i60)), some (eI (i91))]) (s2 := [eI (i60), eR v73]) rfl rfl rfl ?_
                        refine w_t (np := 136) (l2 := [some (eR a0), some (eI (i17)), some (eI (v40)), some (eI (i60)), some (eI (i91))]) (s2 := [eI (v40), eI (i60), eR v73]) rfl rfl rfl ?_
                        refine j_as (np := 137) rfl rfl I94 b75 (by decide) (n := 2670) rfl rfl (lo := -2147483648) (hi := 2147483647) (fun _ => rfl) (by omega) (by omega) (by omega) ?_
                        intro m106 I107 W108
                        have F109 : Fr l_254 0 0 g μ m106 := F95.v W108 b75 rfl rfl
                        have p110 : PK g m106 := PK.fr p101 (Fr.o W108 b75 rfl) rfl
                        refine w_t (np := 138) (l2 := [some (eR a0), some (eI (i17)), some (eI (v40)), some (eI (i60)), some (eI (i91))]) (s2 := [eR a0]) rfl (s_an rfl (pos_g I107 gA0 (by decide))) rfl ?_
                        refine w_t (np := 139) (l2 := [some (eR a0), some (eI (i17)), some (eI (v40)), some (eI (i60)), some (eI (i91))]) (s2 := [eR a0, eR a0]) rfl rfl rfl ?_
                        refine w_gf (np := 142) (v := eI (x25)) rfl rfl (I107.kd gA0 (by decide) (n := 69) rfl) (by rw [(W108.addr k97 b75 gA0 (by decide))]; rfl) ?_
                        refine w_t (np := 143) (l2 := [some (eR a0), some (eI (i17)), some (eI (v40)), some (eI (i60)), some (eI (i91))]) (s2 := [eI (1), eI (x25), eR a0]) rfl rfl rfl ?_
                        obtain ⟨v111, e112⟩ : ∃ zz : Int, zz = (x25) + (1) := ⟨_, rfl⟩
                        have b113 : 3 ≤ v111 ∧ v111 ≤ 2671 := by omega
                        refine w_t (np := 144) (l2 := [some (eR a0), some (eI (i17)), some (eI (v40)), some (eI (i60)), some (eI (i91))]) (s2 := [eI (v111), eR a0]) rfl (b_iadd (by rw [← e112]; exact ev_w_in (by omega) (by omega))) rfl ?_
                        refine j_pf (np := 147) (w := v111) rfl rfl I107 gA0 (by decide) (n := 69) rfl rfl (hO_i (lo := 0) (hi := 2670) rfl (by omega)) ?_
                        intro m114 I115 W116
                        have F117 : Fr l_254 0 0 g μ m114 := F109.w W116 gA0 rfl
                        have p118 : PK g m114 := PK.fr p110 (Fr.f W116 gA0) rfl
                        obtain ⟨v119, e120⟩ : ∃ zz : Int, zz = (i17) + (1) := ⟨_, rfl⟩
                        have b121 : 1 ≤ v119 ∧ v119 ≤ 2670 := by omega
                        refine w_t (np := 150) (l2 := [some (eR a0), some (eI (v119)), some (eI (v40)), some (eI (i60)), some (eI (i91))]) (s2 := []) rfl (b_iinc rfl (by rw [← e120]; exact ev_w_in (by omega) (by omega)) rfl) rfl ?_
                        refine w_go (t1 := 20) rfl rfl ?_
                        exact ih16 (2670 - (v119)).toNat (by omega) m114 (v119) (some (eI (v40))) (some (eI (i60))) (some (eI (i91))) (v111) (v42) I115 F117 (by omega) (W116.slot (W108.addr k96 b75 gA0 (by decide)) (by decide)) W116.at (by omega) (W116.slot (W108.addr k98 b75 gA0 (by decide)) (by decide)) (by omega) p118 (by omega) (by omega) rfl
                      · have b106 : 2 ≤ i91 ∧ i91 ≤ 2670 := by omega
                        refine w_t (np := 109) (l2 := [some (eR a0), some (eI (i17)), some (eI (v40)), some (eI (i60)), some (eI (i91))]) (s2 := [eR a0]) rfl (s_an rfl (pos_g I94 gA0 (by decide))) rfl ?_
                        refine w_gf (np := 112) (v := eR v73) rfl rfl (I94.kd gA0 (by decide) (n := 69) rfl) (by rw [k100]; rfl) ?_
                        refine w_t (np := 114) (l2 := [some (eR a0), some (eI (i17)), some (eI (v40)), some (eI (i60)), some (eI (i91))]) (s2 := [eI (i91), eR v73]) rfl rfl rfl ?_
                        refine w_t (np := 115) (l2 := [some (eR a0), some (eI (i17)), some (eI (v40)), some (eI (i60)), some (eI (i91))]) (s2 := [eR a0, eI (i91), eR v73]) rfl (s_an rfl (pos_g I94 gA0 (by decide))) rfl ?_
                        refine w_gf (np := 118) (v := eR v73) rfl rfl (I94.kd gA0 (by decide) (n := 69) rfl) (by rw [k100]; rfl) ?_
                        refine w_t (np := 120) (l2 := [some (eR a0), some (eI (i17)), some (eI (v40)), some (eI (i60)), some (eI (i91))]) (s2 := [eI (i91), eR v73, eI (i91), eR v73]) rfl rfl rfl ?_
                        refine w_t (np := 121) (l2 := [some (eR a0), some (eI (i17)), some (eI (v40)), some (eI (i60)), some (eI (i91))]) (s2 := [eI (1), eI (i91), eR v73, eI (i91), eR v73]) rfl rfl rfl ?_
                        obtain ⟨v106, e107⟩ : ∃ zz : Int, zz = (i91) - (1) := ⟨_, rfl⟩
                        have b108 : 1 ≤ v106 ∧ v106 ≤ 2669 := by omega
                        refine w_t (np := 122) (l2 := [some (eR a0), some (eI (i17)), some (eI (v40)), some (eI (i60)), some (eI (i91))]) (s2 := [eI (v106), eR v73, eI (i91), eR v73]) rfl (b_isub (by rw [← e107]; exact ev_w_in (by omega) (by omega))) rfl ?_
                        refine j_al (np := 123) rfl rfl I94 b75 (by decide) (n := 2670) rfl rfl (lo := -2147483648) (hi := 2147483647) (fun _ => rfl) (by omega) (by omega) ?_
                        intro v109 e110 b111
                        refine j_as (np := 124) rfl rfl I94 b75 (by decide) (n := 2670) rfl rfl (lo := -2147483648) (hi := 2147483647) (fun _ => rfl) (by omega) (by omega) (by omega) ?_
                        intro m112 I113 W114
                        have F115 : Fr l_254 0 0 g μ m112 := F95.v W114 b75 rfl rfl
                        have p116 : PK g m112 := PK.fr p101 (Fr.o W114 b75 rfl) rfl
                        obtain ⟨v117, e118⟩ : ∃ zz : Int, zz = (i91) + (-1) := ⟨_, rfl⟩
                        have b119 : 1 ≤ v117 ∧ v117 ≤ 2669 := by omega
                        refine w_t (np := 127) (l2 := [some (eR a0), some (eI (i17)), some (eI (v40)), some (eI (i60)), some (eI (v117))]) (s2 := []) rfl (b_iinc rfl (by rw [← e118]; exact ev_w_in (by omega) (by omega)) rfl) rfl ?_
                        refine w_go (t1 := 102) rfl rfl ?_
                        exact ih90 ((v117)).toNat (by omega) m112 (v117) I113 F115 (by omega) (W114.addr k96 b75 gA0 (by decide)) (W114.addr k97 b75 gA0 (by decide)) (W114.addr k98 b75 gA0 (by decide)) (W114.addr k99 b75 gA0 (by decide)) (W114.addr k100 b75 gA0 (by decide))  p116 (by omega) (by omega) rfl
                    exact hL102 _ m62 (x25) I63 F64 (by omega) k65 k66 k67 k68 e74  p69 (by omega) (by omega) rfl
                  · have b89 : 0 ≤ v85 ∧ v85 ≤ 2147483647 := by omega
                    refine w_go (t1 := 147) rfl rfl ?_
                    obtain ⟨v89, e90⟩ : ∃ zz : Int, zz = (i17) + (1) := ⟨_, rfl⟩
                    have b91 : 1 ≤ v89 ∧ v89 ≤ 2670 := by omega
                    refine w_t (np := 150) (l2 := [some (eR a0), some (eI (v89)), some (eI (v40)), some (eI (i60)), o21]) (s2 := []) rfl (b_iinc rfl (by rw [← e90]; exact ev_w_in (by omega) (by omega)) rfl) rfl ?_
                    refine w_go (t1 := 20) rfl rfl ?_
                    exact ih16 (2670 - (v89)).toNat (by omega) m62 (v89) (some (eI (v40))) (some (eI (i60))) (o21) (x25) (v42) I63 F64 (by omega) k65 k66 (by omega) k67 (by omega) p69 (by omega) (by omega) rfl
              · have b84 : 0 ≤ v80 ∧ v80 ≤ 2147483647 := by omega
                obtain ⟨v84, e85⟩ : ∃ zz : Int, zz = (i60) + (-1) := ⟨_, rfl⟩
                have b86 : 0 ≤ v84 ∧ v84 ≤ 2669 := by omega
                refine w_t (np := 72) (l2 := [some (eR a0), some (eI (i17)), some (eI (v40)), some (eI (v84)), o21]) (s2 := []) rfl (b_iinc rfl (by rw [← e85]; exact ev_w_in (by omega) (by omega)) rfl) rfl ?_
                refine w_go (t1 := 53) rfl rfl ?_
                exact ih59 ((v84)).toNat (by omega) m62 (v84) I63 F64 (by omega) k65 k66 k67 k68  p69 (by omega) rfl
          exact hL53 _ m52 (x25) I53 F55 (by omega) (W54.addr (F39.k k31 gA0 (by decide) rfl) b50 gA0 (by decide)) (W54.addr (F39.k h26 gA0 (by decide) rfl) b50 gA0 (by decide)) (W54.addr e43 b50 gA0 (by decide)) (W54.addr e49 b50 gA0 (by decide))  p56 (by omega) rfl
        · have b58 : -2147483648 ≤ v40 ∧ v40 ≤ -1 := by omega
          refine w_go (t1 := 147) rfl rfl ?_
          obtain ⟨v58, e59⟩ : ∃ zz : Int, zz = (i17) + (1) := ⟨_, rfl⟩
          have b60 : 1 ≤ v58 ∧ v58 ≤ 2670 := by omega
          refine w_t (np := 150) (l2 := [some (eR a0), some (eI (v58)), some (eI (v40)), o20, o21]) (s2 := []) rfl (b_iinc rfl (by rw [← e59]; exact ev_w_in (by omega) (by omega)) rfl) rfl ?_
          refine w_go (t1 := 20) rfl rfl ?_
          exact ih16 (2670 - (v58)).toNat (by omega) m52 (v58) (some (eI (v40))) (o20) (o21) (x25) (v42) I53 F55 (by omega) (W54.addr (F39.k k31 gA0 (by decide) rfl) b50 gA0 (by decide)) (W54.addr (F39.k h26 gA0 (by decide) rfl) b50 gA0 (by decide)) (by omega) (W54.addr e43 b50 gA0 (by decide)) (by omega) p56 (by omega) (by omega) rfl
    exact hL20 _ m10 (0) (none) (none) (none) (0) (po) I11 F13 (by decide) (W12.slot W7.at (by decide)) W12.at (by decide) (W12.slot (W7.slot h_po (by decide)) (by decide)) (by omega) p14 (by omega) (by omega) rfl
  · have b5 : 1 ≤ v1 ∧ v1 ≤ 1 := by omega
    exact v_rv rfl rfl (K μ (po) hI F0 h_po (by omega))
def l_255 : List Nat := [13347, 13348, 18688, 18432, 17920, 18176]
theorem s_255 {L : Nat} {ρ : Nat → Int} {rc : eQ} {d : Nat} {f : eFr} {F : List eFr} {μ : eM} {g : Nat → Nat} {a0 : Nat} {po : Int} (hI : SI g μ) (gA0 : g a0 = 52) (h_po : μ.1 a0 28 = po) (h_PK : PK g μ) (K : ∀ (μ2 : eM) (v : Int) (po2 : Int), SI g μ2 → Fr l_255 0 0 g μ μ2 → (0 ≤ v ∧ v ≤ 2670) → μ2.1 a0 28 = po2 → (po2 = po) → ex_q (dt_fg L ρ) rc (d + 7, (f.1, f.2.1, f.2.2.1, eI v :: f.2.2.2), F, μ2)) : ex_q (dt_fg L ρ) rc (d + 6, (255, 0, [some (eR a0)], []), f :: F, μ) := by
  have F0 : Fr l_255 0 0 g μ μ := Fr.r
  have b_po : 0 ≤ po ∧ po ≤ 2670 := by
    rw [← h_po]
    exact hI.int gA0 (by decide) (n := 69) rfl (by decide) rfl
  refine w_t (np := 1) (l2 := [some (eR a0)]) (s2 := [eR a0]) rfl (s_an rfl (pos_g hI gA0 (by decide))) rfl ?_
  refine w_cw (np := 4) (as := []) (l2 := [some (eR a0), none, none, none, none]) (rest := []) rfl rfl rfl (Nat.ble_eq.mp rfl) rfl rfl rfl (hI.kd gA0 (by decide) (n := 69) rfl) rfl ?_
  refine s_254 hI gA0 h_po h_PK ?_
  intro m1 v4 I2 F3 e5 h6
  have F7 : Fr l_255 0 0 g μ m1 := F0.t F3 rfl
  have p8 : PK g m1 := PK.fr h_PK F3 rfl
  have b9 : 0 ≤ v4 ∧ v4 ≤ 2670 := by
    rw [← e5]
    exact I2.int gA0 (by decide) (n := 69) rfl (by decide) rfl
  show ex_q (dt_fg L ρ) rc (d + 6, (255, 4, [some (eR a0)], []), f :: F, m1)
  refine w_t (np := 5) (l2 := [some (eR a0)]) (s2 := [eR a0]) rfl (s_an rfl (pos_g I2 gA0 (by decide))) rfl ?_
  refine j_gi (np := 8) rfl rfl rfl I2 gA0 (by decide) (n := 69) rfl rfl (lo := 0) (hi := 2670) rfl ?_
  intro v10 e11 b12
  exact b_ri rfl rfl (K m1 (v10) (v4) I2 F7 (by omega) e5 (by omega))
def l_256 : List Nat := [13313, 13314, 13331, 13315, 13333, 13341, 13342, 13316, 13348, 13317, 13318, 13319, 13320, 13321, 15360, 16640, 13824, 15104, 14848, 15872, 14336, 17408, 17664, 13568, 17152, 14080, 15616, 14592, 16384, 16128, 16896]
theorem s_256 {L : Nat} {ρ : Nat → Int} {rc : eQ} {d : Nat} {f : eFr} {F : List eFr} {μ : eM} {g : Nat → Nat} {a0 : Nat} {a1 : Int} (hI : SI g μ) (gA0 : g a0 = 52) (bA1 : -2147483648 ≤ a1 ∧ a1 ≤ 2147483647) (h_PB : PB g μ) (h_PK : PK g μ) (h_LG : LG g μ) (h_MT : MT g μ) (h_LB : LB g μ) (h_FS : FS g μ) (h_PO : PO g μ) (h_SP : SP g μ) (K : ∀ (μ2 : eM) (v : Int), SI g μ2 → Fr l_256 0 0 g μ μ2 → (-2147483648 ≤ v ∧ v ≤ 2147483647) → PB g μ2 → PK g μ2 → LG g μ2 → MT g μ2 → LB g μ2 → FS g μ2 → PO g μ2 → SP g μ2 → ex_q (dt_fg L ρ) rc (d + 7, (f.1, f.2.1, f.2.2.1, eI v :: f.2.2.2), F, μ2)) : ex_q (dt_fg L ρ) rc (d + 6, (256, 0, [some (eR a0), some (eI (a1))], []), f :: F, μ) := by
  have F0 : Fr l_256 0 0 g μ μ := Fr.r
  refine w_t (np := 1) (l2 := [some (eR a0), some (eI (a1))]) (s2 := [eR a0]) rfl (s_an rfl (pos_g hI gA0 (by decide))) rfl ?_
  refine w_t (np := 2) (l2 := [some (eR a0), some (eI (a1))]) (s2 := [eI (a1), eR a0]) rfl rfl rfl ?_
  refine w_t (np := 3) (l2 := [some (eR a0), some (eI (a1))]) (s2 := [eI (0), eI (a1), eR a0]) rfl rfl rfl ?_
  refine w_t (np := 4) (l2 := [some (eR a0), some (eI (a1))]) (s2 := [eI (3), eI (0), eI (a1), eR a0]) rfl rfl rfl ?_
  refine w_cu (np := 7) (as := [eI (a1), eI (0), eI (3)]) (l2 := [some (eI (a1)), some (eI (0)), some (eI (3))]) (rest := [eR a0]) rfl rfl rfl (Nat.ble_eq.mp rfl) rfl rfl rfl rfl ?_
  refine w_t (np := 1) (l2 := [some (eI (a1)), some (eI (0)), some (eI (3))]) (s2 := [eI (a1)]) rfl rfl rfl ?_
  refine w_t (np := 2) (l2 := [some (eI (a1)), some (eI (0)), some (eI (3))]) (s2 := [eI (0), eI (a1)]) rfl rfl rfl ?_
  refine b_clt (t1 := 14) (t2 := 5) rfl rfl rfl (ev_w_in (by omega) (by omega)) rfl (fun g1 => ?_) (fun g1 => ?_)
  · have b2 : -2147483648 ≤ a1 ∧ a1 ≤ -1 := by omega
    refine w_t (np := 15) (l2 := [some (eI (a1)), some (eI (0)), some (eI (3))]) (s2 := [eI (0)]) rfl rfl rfl ?_
    refine b_rz rfl rfl (Or.inl rfl) ?_
    show ex_q (dt_fg L ρ) rc (d + 6, (256, 7, [some (eR a0), some (eI (a1))], [eI (0), eR a0]), f :: F, μ)
    refine b_ieq (t1 := 14) (t2 := 10) rfl rfl rfl rfl (fun g2 => ?_) (fun g2 => absurd g2 (by decide))
    refine w_t (np := 15) (l2 := [some (eR a0), some (eI (a1))]) (s2 := [eI (1), eR a0]) rfl rfl rfl ?_
    refine w_cw (np := 18) (as := [eI (1)]) (l2 := [some (eR a0), some (eI (1))]) (rest := []) rfl rfl rfl (Nat.ble_eq.mp rfl) rfl rfl rfl (hI.kd gA0 (by decide) (n := 69) rfl) rfl ?_
    refine w_t (np := 1) (l2 := [some (eR a0), some (eI (1))]) (s2 := [eR a0]) rfl (s_an rfl (pos_g hI gA0 (by decide))) rfl ?_
    refine w_t (np := 2) (l2 := [some (eR a0), some (eI (1))]) (s2 := [eI (0), eR a0]) rfl rfl rfl ?_
    refine j_pf (np := 5) (w := 0) rfl rfl hI gA0 (by decide) (n := 69) rfl rfl (hO_i (lo := -2147483648) (hi := 2147483647) rfl (by decide)) ?_
    intro m3 I4 W5
    have F6 : Fr l_256 0 0 g μ m3 := F0.w W5 gA0 rfl
    have p7 : PB g m3 := PB.fr h_PB (Fr.f W5 gA0) rfl
    have p8 : PK g m3 := PK.fr h_PK (Fr.f W5 gA0) rfl
    have p9 : LG g m3 := LG.fr h_LG (Fr.f W5 gA0) rfl
    have p10 : MT g m3 := MT.fr h_MT (Fr.f W5 gA0) rfl
    have p11 : LB g m3 := LB.fr h_LB (Fr.f W5 gA0) rfl
    have p12 : FS g m3 := FS.fr h_FS (Fr.f W5 gA0) rfl
    have p13 : PO g m3 := PO.fr h_PO (Fr.f W5 gA0) rfl
    have p14 : SP g m3 := SP.fr h_SP (Fr.f W5 gA0) rfl
    refine w_t (np := 6) (l2 := [some (eR a0), some (eI (1))]) (s2 := [eR a0]) rfl (s_an rfl (pos_g I4 gA0 (by decide))) rfl ?_
    refine w_t (np := 7) (l2 := [some (eR a0), some (eI (1))]) (s2 := [eI (1), eR a0]) rfl rfl rfl ?_
    refine j_pf (np := 10) (w := 1) rfl rfl I4 gA0 (by decide) (n := 69) rfl rfl (hO_i (lo := -2147483648) (hi := 2147483647) rfl (by decide)) ?_
    intro m15 I16 W17
    have F18 : Fr l_256 0 0 g μ m15 := F6.w W17 gA0 rfl
    have p19 : PB g m15 := PB.fr p7 (Fr.f W17 gA0) rfl
    have p20 : PK g m15 := PK.fr p8 (Fr.f W17 gA0) rfl
    have p21 : LG g m15 := LG.fr p9 (Fr.f W17 gA0) rfl
    have p22 : MT g m15 := MT.fr p10 (Fr.f W17 gA0) rfl
    have p23 : LB g m15 := LB.fr p11 (Fr.f W17 gA0) rfl
    have p24 : FS g m15 := FS.fr p12 (Fr.f W17 gA0) rfl
    have p25 : PO g m15 := PO.fr p13 (Fr.f W17 gA0) rfl
    have p26 : SP g m15 := SP.fr p14 (Fr.f W17 gA0) rfl
    refine w_t (np := 11) (l2 := [some (eR a0), some (eI (1))]) (s2 := [eI (1)]) rfl rfl rfl ?_
    refine b_ine (t1 := 18) (t2 := 14) rfl rfl rfl rfl (fun g27 => ?_) (fun g27 => absurd g27 (by decide))
    refine w_t (np := 19) (l2 := [some (eR a0), some (eI (1))]) (s2 := [eI (0)]) rfl rfl rfl ?_
    refine b_rz rfl rfl (Or.inl rfl) ?_
    show ex_q (dt_fg L ρ) rc (d + 6, (256, 18, [some (eR a0), some (eI (a1))], [eI (0)]), f :: F, m15)
    refine b_ine (t1 := 23) (t2 := 21) rfl rfl rfl rfl (fun g28 => absurd g28 (by decide)) (fun g28 => ?_)
    refine w_t (np := 22) (l2 := [some (eR a0), some (eI (a1))]) (s2 := [eI (-1)]) rfl rfl rfl ?_
    exact b_ri rfl rfl (K m15 (-1) I16 F18 (by decide) p19 p20 p21 p22 p23 p24 p25 p26)
  · have b2 : 0 ≤ a1 ∧ a1 ≤ 2147483647 := by omega
    refine w_t (np := 6) (l2 := [some (eI (a1)), some (eI (0)), some (eI (3))]) (s2 := [eI (a1)]) rfl rfl rfl ?_
    refine w_t (np := 7) (l2 := [some (eI (a1)), some (eI (0)), some (eI (3))]) (s2 := [eI (3), eI (a1)]) rfl rfl rfl ?_
    refine b_cgt (t1 := 14) (t2 := 10) rfl rfl rfl (ev_w_in (by omega) (by omega)) rfl (fun g2 => ?_) (fun g2 => ?_)
    · have b3 : 4 ≤ a1 ∧ a1 ≤ 2147483647 := by omega
      refine w_t (np := 15) (l2 := [some (eI (a1)), some (eI (0)), some (eI (3))]) (s2 := [eI (0)]) rfl rfl rfl ?_
      refine b_rz rfl rfl (Or.inl rfl) ?_
      show ex_q (dt_fg L ρ) rc (d + 6, (256, 7, [some (eR a0), some (eI (a1))], [eI (0), eR a0]), f :: F, μ)
      refine b_ieq (t1 := 14) (t2 := 10) rfl rfl rfl rfl (fun g3 => ?_) (fun g3 => absurd g3 (by decide))
      refine w_t (np := 15) (l2 := [some (eR a0), some (eI (a1))]) (s2 := [eI (1), eR a0]) rfl rfl rfl ?_
      refine w_cw (np := 18) (as := [eI (1)]) (l2 := [some (eR a0), some (eI (1))]) (rest := []) rfl rfl rfl (Nat.ble_eq.mp rfl) rfl rfl rfl (hI.kd gA0 (by decide) (n := 69) rfl) rfl ?_
      refine w_t (np := 1) (l2 := [some (eR a0), some (eI (1))]) (s2 := [eR a0]) rfl (s_an rfl (pos_g hI gA0 (by decide))) rfl ?_
      refine w_t (np := 2) (l2 := [some (eR a0), some (eI (1))]) (s2 := [eI (0), eR a0]) rfl rfl rfl ?_
      refine j_pf (np := 5) (w := 0) rfl rfl hI gA0 (by decide) (n := 69) rfl rfl (hO_i (lo := -2147483648) (hi := 2147483647) rfl (by decide)) ?_
      intro m4 I5 W6
      have F7 : Fr l_256 0 0 g μ m4 := F0.w W6 gA0 rfl
      have p8 : PB g m4 := PB.fr h_PB (Fr.f W6 gA0) rfl
      have p9 : PK g m4 := PK.fr h_PK (Fr.f W6 gA0) rfl
      have p10 : LG g m4 := LG.fr h_LG (Fr.f W6 gA0) rfl
      have p11 : MT g m4 := MT.fr h_MT (Fr.f W6 gA0) rfl
      have p12 : LB g m4 := LB.fr h_LB (Fr.f W6 gA0) rfl
      have p13 : FS g m4 := FS.fr h_FS (Fr.f W6 gA0) rfl
      have p14 : PO g m4 := PO.fr h_PO (Fr.f W6 gA0) rfl
      have p15 : SP g m4 := SP.fr h_SP (Fr.f W6 gA0) rfl
      refine w_t (np := 6) (l2 := [some (eR a0), some (eI (1))]) (s2 := [eR a0]) rfl (s_an rfl (pos_g I5 gA0 (by decide))) rfl ?_
      refine w_t (np := 7) (l2 := [some (eR a0), some (eI (1))]) (s2 := [eI (1), eR a0]) rfl rfl rfl ?_
      refine j_pf (np := 10) (w := 1) rfl rfl I5 gA0 (by decide) (n := 69) rfl rfl (hO_i (lo := -2147483648) (hi := 2147483647) rfl (by decide)) ?_
      intro m16 I17 W18
      have F19 : Fr l_256 0 0 g μ m16 := F7.w W18 gA0 rfl
      have p20 : PB g m16 := PB.fr p8 (Fr.f W18 gA0) rfl
      have p21 : PK g m16 := PK.fr p9 (Fr.f W18 gA0) rfl
      have p22 : LG g m16 := LG.fr p10 (Fr.f W18 gA0) rfl
      have p23 : MT g m16 := MT.fr p11 (Fr.f W18 gA0) rfl
      have p24 : LB g m16 := LB.fr p12 (Fr.f W18 gA0) rfl
      have p25 : FS g m16 := FS.fr p13 (Fr.f W18 gA0) rfl
      have p26 : PO g m16 := PO.fr p14 (Fr.f W18 gA0) rfl
      have p27 : SP g m16 := SP.fr p15 (Fr.f W18 gA0) rfl
      refine w_t (np := 11) (l2 := [some (eR a0), some (eI (1))]) (s2 := [eI (1)]) rfl rfl rfl ?_
      refine b_ine (t1 := 18) (t2 := 14) rfl rfl rfl rfl (fun g28 => ?_) (fun g28 => absurd g28 (by decide))
      refine w_t (np := 19) (l2 := [some (eR a0), some (eI (1))]) (s2 := [eI (0)]) rfl rfl rfl ?_
      refine b_rz rfl rfl (Or.inl rfl) ?_
      show ex_q (dt_fg L ρ) rc (d + 6, (256, 18, [some (eR a0), some (eI (a1))], [eI (0)]), f :: F, m16)
      refine b_ine (t1 := 23) (t2 := 21) rfl rfl rfl rfl (fun g29 => absurd g29 (by decide)) (fun g29 => ?_)
      refine w_t (np := 22) (l2 := [some (eR a0), some (eI (a1))]) (s2 := [eI (-1)]) rfl rfl rfl ?_
      exact b_ri rfl rfl (K m16 (-1) I17 F19 (by decide) p20 p21 p22 p23 p24 p25 p26 p27)
    · have b3 : 0 ≤ a1 ∧ a1 ≤ 3 := by omega
      refine w_t (np := 11) (l2 := [some (eI (a1)), some (eI (0)), some (eI (3))]) (s2 := [eI (1)]) rfl rfl rfl ?_
      refine w_go (t1 := 15) rfl rfl ?_
      refine b_rz rfl rfl (Or.inr rfl) ?_
      show ex_q (dt_fg L ρ) rc (d + 6, (256, 7, [some (eR a0), some (eI (a1))], [eI (1), eR a0]), f :: F, μ)
      refine b_ieq (t1 := 14) (t2 := 10) rfl rfl rfl rfl (fun g3 => absurd g3 (by decide)) (fun g3 => ?_)
      refine w_t (np := 11) (l2 := [some (eR a0), some (eI (a1))]) (s2 := [eI (0), eR a0]) rfl rfl rfl ?_
      refine w_go (t1 := 15) rfl rfl ?_
      refine w_cw (np := 18) (as := [eI (0)]) (l2 := [some (eR a0), some (eI (0))]) (rest := []) rfl rfl rfl (Nat.ble_eq.mp rfl) rfl rfl rfl (hI.kd gA0 (by decide) (n := 69) rfl) rfl ?_
      refine w_t (np := 1) (l2 := [some (eR a0), some (eI (0))]) (s2 := [eR a0]) rfl (s_an rfl (pos_g hI gA0 (by decide))) rfl ?_
      refine w_t (np := 2) (l2 := [some (eR a0), some (eI (0))]) (s2 := [eI (0), eR a0]) rfl rfl rfl ?_
      refine j_pf (np := 5) (w := 0) rfl rfl hI gA0 (by decide) (n := 69) rfl rfl (hO_i (lo := -2147483648) (hi := 2147483647) rfl (by decide)) ?_
      intro m4 I5 W6
      have F7 : Fr l_256 0 0 g μ m4 := F0.w W6 gA0 rfl
      have p8 : PB g m4 := PB.fr h_PB (Fr.f W6 gA0) rfl
      have p9 : PK g m4 := PK.fr h_PK (Fr.f W6 gA0) rfl
      have p10 : LG g m4 := LG.fr h_LG (Fr.f W6 gA0) rfl
      have p11 : MT g m4 := MT.fr h_MT (Fr.f W6 gA0) rfl
      have p12 : LB g m4 := LB.fr h_LB (Fr.f W6 gA0) rfl
      have p13 : FS g m4 := FS.fr h_FS (Fr.f W6 gA0) rfl
      have p14 : PO g m4 := PO.fr h_PO (Fr.f W6 gA0) rfl
      have p15 : SP g m4 := SP.fr h_SP (Fr.f W6 gA0) rfl
      refine w_t (np := 6) (l2 := [some (eR a0), some (eI (0))]) (s2 := [eR a0]) rfl (s_an rfl (pos_g I5 gA0 (by decide))) rfl ?_
      refine w_t (np := 7) (l2 := [some (eR a0), some (eI (0))]) (s2 := [eI (0), eR a0]) rfl rfl rfl ?_
      refine j_pf (np := 10) (w := 0) rfl rfl I5 gA0 (by decide) (n := 69) rfl rfl (hO_i (lo := -2147483648) (hi := 2147483647) rfl (by decide)) ?_
      intro m16 I17 W18
      have F19 : Fr l_256 0 0 g μ m16 := F7.w W18 gA0 rfl
      have p20 : PB g m16 := PB.fr p8 (Fr.f W18 gA0) rfl
      have p21 : PK g m16 := PK.fr p9 (Fr.f W18 gA0) rfl
      have p22 : LG g m16 := LG.fr p10 (Fr.f W18 gA0) rfl
      have p23 : MT g m16 := MT.fr p11 (Fr.f W18 gA0) rfl
      have p24 : LB g m16 := LB.fr p12 (Fr.f W18 gA0) rfl
      have p25 : FS g m16 := FS.fr p13 (Fr.f W18 gA0) rfl
      have p26 : PO g m16 := PO.fr p14 (Fr.f W18 gA0) rfl
      have p27 : SP g m16 := SP.fr p15 (Fr.f W18 gA0) rfl
      refine w_t (np := 11) (l2 := [some (eR a0), some (eI (0))]) (s2 := [eI (0)]) rfl rfl rfl ?_
      refine b_ine (t1 := 18) (t2 := 14) rfl rfl rfl rfl (fun g28 => absurd g28 (by decide)) (fun g28 => ?_)
      refine w_t (np := 15) (l2 := [some (eR a0), some (eI (0))]) (s2 := [eI (1)]) rfl rfl rfl ?_
      refine w_go (t1 := 19) rfl rfl ?_
      refine b_rz rfl rfl (Or.inr rfl) ?_
      show ex_q (dt_fg L ρ) rc (d + 6, (256, 18, [some (eR a0), some (eI (a1))], [eI (1)]), f :: F, m16)
      refine b_ine (t1 := 23) (t2 := 21) rfl rfl rfl rfl (fun g29 => ?_) (fun g29 => absurd g29 (by decide))
      refine w_t (np := 24) (l2 := [some (eR a0), some (eI (a1))]) (s2 := [eR a0]) rfl (s_an rfl (pos_g I17 gA0 (by decide))) rfl ?_
      refine w_t (np := 25) (l2 := [some (eR a0), some (eI (a1))]) (s2 := [eI (a1), eR a0]) rfl rfl rfl ?_
      refine w_t (np := 26) (l2 := [some (eR a0), some (eI (a1))]) (s2 := [eI (0), eI (a1), eR a0]) rfl rfl rfl ?_
      refine w_cw (np := 29) (as := [eI (a1), eI (0)]) (l2 := [some (eR a0), some (eI (a1)), some (eI (0)), none, none]) (rest := []) rfl rfl rfl (Nat.ble_eq.mp rfl) rfl rfl rfl (I17.kd gA0 (by decide) (n := 69) rfl) rfl ?_
      refine s_239w (a1 := a1) (a2 := 0) I17 gA0 (by omega) (by decide) p20 ?_
      intro m30 I31 F32 p33 p34 p35 p36 p37 p38 p39 p40
      have F41 : Fr l_256 0 0 g μ m30 := F19.t F32 rfl
      show ex_q (dt_fg L ρ) rc (d + 6, (256, 29, [some (eR a0), some (eI (a1))], []), f :: F, m30)
      refine w_t (np := 30) (l2 := [some (eR a0), some (eI (a1))]) (s2 := [eR a0]) rfl (s_an rfl (pos_g I31 gA0 (by decide))) rfl ?_
      refine j_gi (np := 33) rfl rfl rfl I31 gA0 (by decide) (n := 69) rfl rfl (lo := 0) (hi := 890) rfl ?_
      intro v42 e43 b44
      exact b_ri rfl rfl (K m30 (v42) I31 F41 (by omega) p33 p34 p35 p36 p37 p38 p39 p40)
def l_257 : List Nat := [13313, 13314, 13331, 13315, 13333, 13341, 13342, 13316, 13348, 13317, 13318, 13319, 13320, 13321, 15360, 16640, 13824, 15104, 14848, 15872, 14336, 17408, 17664, 13568, 17152, 14080, 15616, 14592, 16384, 16128, 16896]
theorem s_257 {L : Nat} {ρ : Nat → Int} {rc : eQ} {d : Nat} {f : eFr} {F : List eFr} {μ : eM} {g : Nat → Nat} {a0 : Nat} {a1 : Int} (hI : SI g μ) (gA0 : g a0 = 52) (bA1 : -2147483648 ≤ a1 ∧ a1 ≤ 2147483647) (h_PB : PB g μ) (h_PK : PK g μ) (h_LG : LG g μ) (h_MT : MT g μ) (h_LB : LB g μ) (h_FS : FS g μ) (h_PO : PO g μ) (h_SP : SP g μ) (K : ∀ (μ2 : eM) (v : Int), SI g μ2 → Fr l_257 0 0 g μ μ2 → (-2147483648 ≤ v ∧ v ≤ 2147483647) → PB g μ2 → PK g μ2 → LG g μ2 → MT g μ2 → LB g μ2 → FS g μ2 → PO g μ2 → SP g μ2 → ex_q (dt_fg L ρ) rc (d + 7, (f.1, f.2.1, f.2.2.1, eI v :: f.2.2.2), F, μ2)) : ex_q (dt_fg L ρ) rc (d + 6, (257, 0, [some (eR a0), some (eI (a1))], []), f :: F, μ) := by
  have F0 : Fr l_257 0 0 g μ μ := Fr.r
  refine w_t (np := 1) (l2 := [some (eR a0), some (eI (a1))]) (s2 := [eR a0]) rfl (s_an rfl (pos_g hI gA0 (by decide))) rfl ?_
  refine w_t (np := 2) (l2 := [some (eR a0), some (eI (a1))]) (s2 := [eI (a1), eR a0]) rfl rfl rfl ?_
  refine w_t (np := 3) (l2 := [some (eR a0), some (eI (a1))]) (s2 := [eI (0), eI (a1), eR a0]) rfl rfl rfl ?_
  refine w_t (np := 4) (l2 := [some (eR a0), some (eI (a1))]) (s2 := [eI (5), eI (0), eI (a1), eR a0]) rfl rfl rfl ?_
  refine w_cu (np := 7) (as := [eI (a1), eI (0), eI (5)]) (l2 := [some (eI (a1)), some (eI (0)), some (eI (5))]) (rest := [eR a0]) rfl rfl rfl (Nat.ble_eq.mp rfl) rfl rfl rfl rfl ?_
  refine w_t (np := 1) (l2 := [some (eI (a1)), some (eI (0)), some (eI (5))]) (s2 := [eI (a1)]) rfl rfl rfl ?_
  refine w_t (np := 2) (l2 := [some (eI (a1)), some (eI (0)), some (eI (5))]) (s2 := [eI (0), eI (a1)]) rfl rfl rfl ?_
  refine b_clt (t1 := 14) (t2 := 5) rfl rfl rfl (ev_w_in (by omega) (by omega)) rfl (fun g1 => ?_) (fun g1 => ?_)
  · have b2 : -2147483648 ≤ a1 ∧ a1 ≤ -1 := by omega
    refine w_t (np := 15) (l2 := [some (eI (a1)), some (eI (0)), some (eI (5))]) (s2 := [eI (0)]) rfl rfl rfl ?_
    refine b_rz rfl rfl (Or.inl rfl) ?_
    show ex_q (dt_fg L ρ) rc (d + 6, (257, 7, [some (eR a0), some (eI (a1))], [eI (0), eR a0]), f :: F, μ)
    refine b_ieq (t1 := 14) (t2 := 10) rfl rfl rfl rfl (fun g2 => ?_) (fun g2 => absurd g2 (by decide))
    refine w_t (np := 15) (l2 := [some (eR a0), some (eI (a1))]) (s2 := [eI (1), eR a0]) rfl rfl rfl ?_
    refine w_cw (np := 18) (as := [eI (1)]) (l2 := [some (eR a0), some (eI (1))]) (rest := []) rfl rfl rfl (Nat.ble_eq.mp rfl) rfl rfl rfl (hI.kd gA0 (by decide) (n := 69) rfl) rfl ?_
    refine w_t (np := 1) (l2 := [some (eR a0), some (eI (1))]) (s2 := [eR a0]) rfl (s_an rfl (pos_g hI gA0 (by decide))) rfl ?_
    refine w_t (np := 2) (l2 := [some (eR a0), some (eI (1))]) (s2 := [eI (0), eR a0]) rfl rfl rfl ?_
    refine j_pf (np := 5) (w := 0) rfl rfl hI gA0 (by decide) (n := 69) rfl rfl (hO_i (lo := -2147483648) (hi := 2147483647) rfl (by decide)) ?_
    intro m3 I4 W5
    have F6 : Fr l_257 0 0 g μ m3 := F0.w W5 gA0 rfl
    have p7 : PB g m3 := PB.fr h_PB (Fr.f W5 gA0) rfl
    have p8 : PK g m3 := PK.fr h_PK (Fr.f W5 gA0) rfl
    have p9 : LG g m3 := LG.fr h_LG (Fr.f W5 gA0) rfl
    have p10 : MT g m3 := MT.fr h_MT (Fr.f W5 gA0) rfl
    have p11 : LB g m3 := LB.fr h_LB (Fr.f W5 gA0) rfl
    have p12 : FS g m3 := FS.fr h_FS (Fr.f W5 gA0) rfl
    have p13 : PO g m3 := PO.fr h_PO (Fr.f W5 gA0) rfl
    have p14 : SP g m3 := SP.fr h_SP (Fr.f W5 gA0) rfl
    refine w_t (np := 6) (l2 := [some (eR a0), some (eI (1))]) (s2 := [eR a0]) rfl (s_an rfl (pos_g I4 gA0 (by decide))) rfl ?_
    refine w_t (np := 7) (l2 := [some (eR a0), some (eI (1))]) (s2 := [eI (1), eR a0]) rfl rfl rfl ?_
    refine j_pf (np := 10) (w := 1) rfl rfl I4 gA0 (by decide) (n := 69) rfl rfl (hO_i (lo := -2147483648) (hi := 2147483647) rfl (by decide)) ?_
    intro m15 I16 W17
    have F18 : Fr l_257 0 0 g μ m15 := F6.w W17 gA0 rfl
    have p19 : PB g m15 := PB.fr p7 (Fr.f W17 gA0) rfl
    have p20 : PK g m15 := PK.fr p8 (Fr.f W17 gA0) rfl
    have p21 : LG g m15 := LG.fr p9 (Fr.f W17 gA0) rfl
    have p22 : MT g m15 := MT.fr p10 (Fr.f W17 gA0) rfl
    have p23 : LB g m15 := LB.fr p11 (Fr.f W17 gA0) rfl
    have p24 : FS g m15 := FS.fr p12 (Fr.f W17 gA0) rfl
    have p25 : PO g m15 := PO.fr p13 (Fr.f W17 gA0) rfl
    have p26 : SP g m15 := SP.fr p14 (Fr.f W17 gA0) rfl
    refine w_t (np := 11) (l2 := [some (eR a0), some (eI (1))]) (s2 := [eI (1)]) rfl rfl rfl ?_
    refine b_ine (t1 := 18) (t2 := 14) rfl rfl rfl rfl (fun g27 => ?_) (fun g27 => absurd g27 (by decide))
    refine w_t (np := 19) (l2 := [some (eR a0), some (eI (1))]) (s2 := [eI (0)]) rfl rfl rfl ?_
    refine b_rz rfl rfl (Or.inl rfl) ?_
    show ex_q (dt_fg L ρ) rc (d + 6, (257, 18, [some (eR a0), some (eI (a1))], [eI (0)]), f :: F, m15)
    refine b_ine (t1 := 23) (t2 := 21) rfl rfl rfl rfl (fun g28 => absurd g28 (by decide)) (fun g28 => ?_)
    refine w_t (np := 22) (l2 := [some (eR a0), some (eI (a1))]) (s2 := [eI (-1)]) rfl rfl rfl ?_
    exact b_ri rfl rfl (K m15 (-1) I16 F18 (by decide) p19 p20 p21 p22 p23 p24 p25 p26)
  · have b2 : 0 ≤ a1 ∧ a1 ≤ 2147483647 := by omega
    refine w_t (np := 6) (l2 := [some (eI (a1)), some (eI (0)), some (eI (5))]) (s2 := [eI (a1)]) rfl rfl rfl ?_
    refine w_t (np := 7) (l2 := [some (eI (a1)), some (eI (0)), some (eI (5))]) (s2 := [eI (5), eI (a1)]) rfl rfl rfl ?_
    refine b_cgt (t1 := 14) (t2 := 10) rfl rfl rfl (ev_w_in (by omega) (by omega)) rfl (fun g2 => ?_) (fun g2 => ?_)
    · have b3 : 6 ≤ a1 ∧ a1 ≤ 2147483647 := by omega
      refine w_t (np := 15) (l2 := [some (eI (a1)), some (eI (0)), some (eI (5))]) (s2 := [eI (0)]) rfl rfl rfl ?_
      refine b_rz rfl rfl (Or.inl rfl) ?_
      show ex_q (dt_fg L ρ) rc (d + 6, (257, 7, [some (eR a0), some (eI (a1))], [eI (0), eR a0]), f :: F, μ)
      refine b_ieq (t1 := 14) (t2 := 10) rfl rfl rfl rfl (fun g3 => ?_) (fun g3 => absurd g3 (by decide))
      refine w_t (np := 15) (l2 := [some (eR a0), some (eI (a1))]) (s2 := [eI (1), eR a0]) rfl rfl rfl ?_
      refine w_cw (np := 18) (as := [eI (1)]) (l2 := [some (eR a0), some (eI (1))]) (rest := []) rfl rfl rfl (Nat.ble_eq.mp rfl) rfl rfl rfl (hI.kd gA0 (by decide) (n := 69) rfl) rfl ?_
      refine w_t (np := 1) (l2 := [some (eR a0), some (eI (1))]) (s2 := [eR a0]) rfl (s_an rfl (pos_g hI gA0 (by decide))) rfl ?_
      refine w_t (np := 2) (l2 := [some (eR a0), some (eI (1))]) (s2 := [eI (0), eR a0]) rfl rfl rfl ?_
      refine j_pf (np := 5) (w := 0) rfl rfl hI gA0 (by decide) (n := 69) rfl rfl (hO_i (lo := -2147483648) (hi := 2147483647) rfl (by decide)) ?_
      intro m4 I5 W6
      have F7 : Fr l_257 0 0 g μ m4 := F0.w W6 gA0 rfl
      have p8 : PB g m4 := PB.fr h_PB (Fr.f W6 gA0) rfl
      have p9 : PK g m4 := PK.fr h_PK (Fr.f W6 gA0) rfl
      have p10 : LG g m4 := LG.fr h_LG (Fr.f W6 gA0) rfl
      have p11 : MT g m4 := MT.fr h_MT (Fr.f W6 gA0) rfl
      have p12 : LB g m4 := LB.fr h_LB (Fr.f W6 gA0) rfl
      have p13 : FS g m4 := FS.fr h_FS (Fr.f W6 gA0) rfl
      have p14 : PO g m4 := PO.fr h_PO (Fr.f W6 gA0) rfl
      have p15 : SP g m4 := SP.fr h_SP (Fr.f W6 gA0) rfl
      refine w_t (np := 6) (l2 := [some (eR a0), some (eI (1))]) (s2 := [eR a0]) rfl (s_an rfl (pos_g I5 gA0 (by decide))) rfl ?_
      refine w_t (np := 7) (l2 := [some (eR a0), some (eI (1))]) (s2 := [eI (1), eR a0]) rfl rfl rfl ?_
      refine j_pf (np := 10) (w := 1) rfl rfl I5 gA0 (by decide) (n := 69) rfl rfl (hO_i (lo := -2147483648) (hi := 2147483647) rfl (by decide)) ?_
      intro m16 I17 W18
      have F19 : Fr l_257 0 0 g μ m16 := F7.w W18 gA0 rfl
      have p20 : PB g m16 := PB.fr p8 (Fr.f W18 gA0) rfl
      have p21 : PK g m16 := PK.fr p9 (Fr.f W18 gA0) rfl
      have p22 : LG g m16 := LG.fr p10 (Fr.f W18 gA0) rfl
      have p23 : MT g m16 := MT.fr p11 (Fr.f W18 gA0) rfl
      have p24 : LB g m16 := LB.fr p12 (Fr.f W18 gA0) rfl
      have p25 : FS g m16 := FS.fr p13 (Fr.f W18 gA0) rfl
      have p26 : PO g m16 := PO.fr p14 (Fr.f W18 gA0) rfl
      have p27 : SP g m16 := SP.fr p15 (Fr.f W18 gA0) rfl
      refine w_t (np := 11) (l2 := [some (eR a0), some (eI (1))]) (s2 := [eI (1)]) rfl rfl rfl ?_
      refine b_ine (t1 := 18) (t2 := 14) rfl rfl rfl rfl (fun g28 => ?_) (fun g28 => absurd g28 (by decide))
      refine w_t (np := 19) (l2 := [some (eR a0), some (eI (1))]) (s2 := [eI (0)]) rfl rfl rfl ?_
      refine b_rz rfl rfl (Or.inl rfl) ?_
      show ex_q (dt_fg L ρ) rc (d + 6, (257, 18, [some (eR a0), some (eI (a1))], [eI (0)]), f :: F, m16)
      refine b_ine (t1 := 23) (t2 := 21) rfl rfl rfl rfl (fun g29 => absurd g29 (by decide)) (fun g29 => ?_)
      refine w_t (np := 22) (l2 := [some (eR a0), some (eI (a1))]) (s2 := [eI (-1)]) rfl rfl rfl ?_
      exact b_ri rfl rfl (K m16 (-1) I17 F19 (by decide) p20 p21 p22 p23 p24 p25 p26 p27)
    · have b3 : 0 ≤ a1 ∧ a1 ≤ 5 := by omega
      refine w_t (np := 11) (l2 := [some (eI (a1)), some (eI (0)), some (eI (5))]) (s2 := [eI (1)]) rfl rfl rfl ?_
      refine w_go (t1 := 15) rfl rfl ?_
      refine b_rz rfl rfl (Or.inr rfl) ?_
      show ex_q (dt_fg L ρ) rc (d + 6, (257, 7, [some (eR a0), some (eI (a1))], [eI (1), eR a0]), f :: F, μ)
      refine b_ieq (t1 := 14) (t2 := 10) rfl rfl rfl rfl (fun g3 => absurd g3 (by decide)) (fun g3 => ?_)
      refine w_t (np := 11) (l2 := [some (eR a0), some (eI (a1))]) (s2 := [eI (0), eR a0]) rfl rfl rfl ?_
      refine w_go (t1 := 15) rfl rfl ?_
      refine w_cw (np := 18) (as := [eI (0)]) (l2 := [some (eR a0), some (eI (0))]) (rest := []) rfl rfl rfl (Nat.ble_eq.mp rfl) rfl rfl rfl (hI.kd gA0 (by decide) (n := 69) rfl) rfl ?_
      refine w_t (np := 1) (l2 := [some (eR a0), some (eI (0))]) (s2 := [eR a0]) rfl (s_an rfl (pos_g hI gA0 (by decide))) rfl ?_
      refine w_t (np := 2) (l2 := [some (eR a0), some (eI (0))]) (s2 := [eI (0), eR a0]) rfl rfl rfl ?_
      refine j_pf (np := 5) (w := 0) rfl rfl hI gA0 (by decide) (n := 69) rfl rfl (hO_i (lo := -2147483648) (hi := 2147483647) rfl (by decide)) ?_
      intro m4 I5 W6
      have F7 : Fr l_257 0 0 g μ m4 := F0.w W6 gA0 rfl
      have p8 : PB g m4 := PB.fr h_PB (Fr.f W6 gA0) rfl
      have p9 : PK g m4 := PK.fr h_PK (Fr.f W6 gA0) rfl
      have p10 : LG g m4 := LG.fr h_LG (Fr.f W6 gA0) rfl
      have p11 : MT g m4 := MT.fr h_MT (Fr.f W6 gA0) rfl
      have p12 : LB g m4 := LB.fr h_LB (Fr.f W6 gA0) rfl
      have p13 : FS g m4 := FS.fr h_FS (Fr.f W6 gA0) rfl
      have p14 : PO g m4 := PO.fr h_PO (Fr.f W6 gA0) rfl
      have p15 : SP g m4 := SP.fr h_SP (Fr.f W6 gA0) rfl
      refine w_t (np := 6) (l2 := [some (eR a0), some (eI (0))]) (s2 := [eR a0]) rfl (s_an rfl (pos_g I5 gA0 (by decide))) rfl ?_
      refine w_t (np := 7) (l2 := [some (eR a0), some (eI (0))]) (s2 := [eI (0), eR a0]) rfl rfl rfl ?_
      refine j_pf (np := 10) (w := 0) rfl rfl I5 gA0 (by decide) (n := 69) rfl rfl (hO_i (lo := -2147483648) (hi := 2147483647) rfl (by decide)) ?_
      intro m16 I17 W18
      have F19 : Fr l_257 0 0 g μ m16 := F7.w W18 gA0 rfl
      have p20 : PB g m16 := PB.fr p8 (Fr.f W18 gA0) rfl
      have p21 : PK g m16 := PK.fr p9 (Fr.f W18 gA0) rfl
      have p22 : LG g m16 := LG.fr p10 (Fr.f W18 gA0) rfl
      have p23 : MT g m16 := MT.fr p11 (Fr.f W18 gA0) rfl
      have p24 : LB g m16 := LB.fr p12 (Fr.f W18 gA0) rfl
      have p25 : FS g m16 := FS.fr p13 (Fr.f W18 gA0) rfl
      have p26 : PO g m16 := PO.fr p14 (Fr.f W18 gA0) rfl
      have p27 : SP g m16 := SP.fr p15 (Fr.f W18 gA0) rfl
      refine w_t (np := 11) (l2 := [some (eR a0), some (eI (0))]) (s2 := [eI (0)]) rfl rfl rfl ?_
      refine b_ine (t1 := 18) (t2 := 14) rfl rfl rfl rfl (fun g28 => absurd g28 (by decide)) (fun g28 => ?_)
      refine w_t (np := 15) (l2 := [some (eR a0), some (eI (0))]) (s2 := [eI (1)]) rfl rfl rfl ?_
      refine w_go (t1 := 19) rfl rfl ?_
      refine b_rz rfl rfl (Or.inr rfl) ?_
      show ex_q (dt_fg L ρ) rc (d + 6, (257, 18, [some (eR a0), some (eI (a1))], [eI (1)]), f :: F, m16)
      refine b_ine (t1 := 23) (t2 := 21) rfl rfl rfl rfl (fun g29 => ?_) (fun g29 => absurd g29 (by decide))
      refine w_t (np := 24) (l2 := [some (eR a0), some (eI (a1))]) (s2 := [eR a0]) rfl (s_an rfl (pos_g I17 gA0 (by decide))) rfl ?_
      refine w_t (np := 25) (l2 := [some (eR a0), some (eI (a1))]) (s2 := [eR a0, eR a0]) rfl (s_an rfl (pos_g I17 gA0 (by decide))) rfl ?_
      refine j_gi (np := 28) rfl rfl rfl I17 gA0 (by decide) (n := 69) rfl rfl (lo := 0) (hi := 3) rfl ?_
      intro v30 e31 b32
      refine w_t (np := 29) (l2 := [some (eR a0), some (eI (a1))]) (s2 := [eI (a1), eI (v30), eR a0]) rfl rfl rfl ?_
      refine w_cw (np := 32) (as := [eI (v30), eI (a1)]) (l2 := [some (eR a0), some (eI (v30)), some (eI (a1)), none, none]) (rest := []) rfl rfl rfl (Nat.ble_eq.mp rfl) rfl rfl rfl (I17.kd gA0 (by decide) (n := 69) rfl) rfl ?_
      refine s_239w (a1 := v30) (a2 := a1) I17 gA0 (by omega) (by omega) p20 ?_
      intro m33 I34 F35 p36 p37 p38 p39 p40 p41 p42 p43
      have F44 : Fr l_257 0 0 g μ m33 := F19.t F35 rfl
      show ex_q (dt_fg L ρ) rc (d + 6, (257, 32, [some (eR a0), some (eI (a1))], []), f :: F, m33)
      refine w_t (np := 33) (l2 := [some (eR a0), some (eI (a1))]) (s2 := [eR a0]) rfl (s_an rfl (pos_g I34 gA0 (by decide))) rfl ?_
      refine j_gi (np := 36) rfl rfl rfl I34 gA0 (by decide) (n := 69) rfl rfl (lo := 0) (hi := 890) rfl ?_
      intro v45 e46 b47
      exact b_ri rfl rfl (K m33 (v45) I34 F44 (by omega) p36 p37 p38 p39 p40 p41 p42 p43)
def l_261 : List Nat := [13313, 13314, 13347, 13348, 13363, 18688, 18432, 21248, 17920, 20992, 20736, 18176]
theorem s_261 {L : Nat} {ρ : Nat → Int} {rc : eQ} {d : Nat} {f : eFr} {F : List eFr} {μ : eM} {g : Nat → Nat} {a0 : Nat} {a1 : Int} (hI : SI g μ) (gA0 : g a0 = 52) (bA1 : -2147483648 ≤ a1 ∧ a1 ≤ 2147483647) (h_PK : PK g μ) (K : ∀ (μ2 : eM) (v : Int), SI g μ2 → Fr l_261 0 0 g μ μ2 → (-2147483648 ≤ v ∧ v ≤ 2147483647) → ex_q (dt_fg L ρ) rc (d + 8, (f.1, f.2.1, f.2.2.1, eI v :: f.2.2.2), F, μ2)) : ex_q (dt_fg L ρ) rc (d + 7, (261, 0, [some (eR a0), some (eI (a1))], []), f :: F, μ) := by
  have F0 : Fr l_261 0 0 g μ μ := Fr.r
  refine w_t (np := 1) (l2 := [some (eR a0), some (eI (a1))]) (s2 := [eR a0]) rfl (s_an rfl (pos_g hI gA0 (by decide))) rfl ?_
  refine w_t (np := 2) (l2 := [some (eR a0), some (eI (a1))]) (s2 := [eI (a1), eR a0]) rfl rfl rfl ?_
  refine w_t (np := 3) (l2 := [some (eR a0), some (eI (a1))]) (s2 := [eI (0), eI (a1), eR a0]) rfl rfl rfl ?_
  refine w_t (np := 5) (l2 := [some (eR a0), some (eI (a1))]) (s2 := [eI (14), eI (0), eI (a1), eR a0]) rfl rfl rfl ?_
  refine w_cu (np := 8) (as := [eI (a1), eI (0), eI (14)]) (l2 := [some (eI (a1)), some (eI (0)), some (eI (14))]) (rest := [eR a0]) rfl rfl rfl (Nat.ble_eq.mp rfl) rfl rfl rfl rfl ?_
  refine w_t (np := 1) (l2 := [some (eI (a1)), some (eI (0)), some (eI (14))]) (s2 := [eI (a1)]) rfl rfl rfl ?_
  refine w_t (np := 2) (l2 := [some (eI (a1)), some (eI (0)), some (eI (14))]) (s2 := [eI (0), eI (a1)]) rfl rfl rfl ?_
  refine b_clt (t1 := 14) (t2 := 5) rfl rfl rfl (ev_w_in (by omega) (by omega)) rfl (fun g1 => ?_) (fun g1 => ?_)
  · have b2 : -2147483648 ≤ a1 ∧ a1 ≤ -1 := by omega
    refine w_t (np := 15) (l2 := [some (eI (a1)), some (eI (0)), some (eI (14))]) (s2 := [eI (0)]) rfl rfl rfl ?_
    refine b_rz rfl rfl (Or.inl rfl) ?_
    show ex_q (dt_fg L ρ) rc (d + 7, (261, 8, [some (eR a0), some (eI (a1))], [eI (0), eR a0]), f :: F, μ)
    refine b_ieq (t1 := 15) (t2 := 11) rfl rfl rfl rfl (fun g2 => ?_) (fun g2 => absurd g2 (by decide))
    refine w_t (np := 16) (l2 := [some (eR a0), some (eI (a1))]) (s2 := [eI (1), eR a0]) rfl rfl rfl ?_
    refine w_cw (np := 19) (as := [eI (1)]) (l2 := [some (eR a0), some (eI (1))]) (rest := []) rfl rfl rfl (Nat.ble_eq.mp rfl) rfl rfl rfl (hI.kd gA0 (by decide) (n := 69) rfl) rfl ?_
    refine w_t (np := 1) (l2 := [some (eR a0), some (eI (1))]) (s2 := [eR a0]) rfl (s_an rfl (pos_g hI gA0 (by decide))) rfl ?_
    refine w_t (np := 2) (l2 := [some (eR a0), some (eI (1))]) (s2 := [eI (0), eR a0]) rfl rfl rfl ?_
    refine j_pf (np := 5) (w := 0) rfl rfl hI gA0 (by decide) (n := 69) rfl rfl (hO_i (lo := -2147483648) (hi := 2147483647) rfl (by decide)) ?_
    intro m3 I4 W5
    have F6 : Fr l_261 0 0 g μ m3 := F0.w W5 gA0 rfl
    have p7 : PK g m3 := PK.fr h_PK (Fr.f W5 gA0) rfl
    refine w_t (np := 6) (l2 := [some (eR a0), some (eI (1))]) (s2 := [eR a0]) rfl (s_an rfl (pos_g I4 gA0 (by decide))) rfl ?_
    refine w_t (np := 7) (l2 := [some (eR a0), some (eI (1))]) (s2 := [eI (1), eR a0]) rfl rfl rfl ?_
    refine j_pf (np := 10) (w := 1) rfl rfl I4 gA0 (by decide) (n := 69) rfl rfl (hO_i (lo := -2147483648) (hi := 2147483647) rfl (by decide)) ?_
    intro m8 I9 W10
    have F11 : Fr l_261 0 0 g μ m8 := F6.w W10 gA0 rfl
    have p12 : PK g m8 := PK.fr p7 (Fr.f W10 gA0) rfl
    refine w_t (np := 11) (l2 := [some (eR a0), some (eI (1))]) (s2 := [eI (1)]) rfl rfl rfl ?_
    refine b_ine (t1 := 18) (t2 := 14) rfl rfl rfl rfl (fun g13 => ?_) (fun g13 => absurd g13 (by decide))
    refine w_t (np := 19) (l2 := [some (eR a0), some (eI (1))]) (s2 := [eI (0)]) rfl rfl rfl ?_
    refine b_rz rfl rfl (Or.inl rfl) ?_
    show ex_q (dt_fg L ρ) rc (d + 7, (261, 19, [some (eR a0), some (eI (a1))], [eI (0)]), f :: F, m8)
    refine b_ine (t1 := 24) (t2 := 22) rfl rfl rfl rfl (fun g14 => absurd g14 (by decide)) (fun g14 => ?_)
    refine w_t (np := 23) (l2 := [some (eR a0), some (eI (a1))]) (s2 := [eI (-1)]) rfl rfl rfl ?_
    exact b_ri rfl rfl (K m8 (-1) I9 F11 (by decide))
  · have b2 : 0 ≤ a1 ∧ a1 ≤ 2147483647 := by omega
    refine w_t (np := 6) (l2 := [some (eI (a1)), some (eI (0)), some (eI (14))]) (s2 := [eI (a1)]) rfl rfl rfl ?_
    refine w_t (np := 7) (l2 := [some (eI (a1)), some (eI (0)), some (eI (14))]) (s2 := [eI (14), eI (a1)]) rfl rfl rfl ?_
    refine b_cgt (t1 := 14) (t2 := 10) rfl rfl rfl (ev_w_in (by omega) (by omega)) rfl (fun g2 => ?_) (fun g2 => ?_)
    · have b3 : 15 ≤ a1 ∧ a1 ≤ 2147483647 := by omega
      refine w_t (np := 15) (l2 := [some (eI (a1)), some (eI (0)), some (eI (14))]) (s2 := [eI (0)]) rfl rfl rfl ?_
      refine b_rz rfl rfl (Or.inl rfl) ?_
      show ex_q (dt_fg L ρ) rc (d + 7, (261, 8, [some (eR a0), some (eI (a1))], [eI (0), eR a0]), f :: F, μ)
      refine b_ieq (t1 := 15) (t2 := 11) rfl rfl rfl rfl (fun g3 => ?_) (fun g3 => absurd g3 (by decide))
      refine w_t (np := 16) (l2 := [some (eR a0), some (eI (a1))]) (s2 := [eI (1), eR a0]) rfl rfl rfl ?_
      refine w_cw (np := 19) (as := [eI (1)]) (l2 := [some (eR a0), some (eI (1))]) (rest := []) rfl rfl rfl (Nat.ble_eq.mp rfl) rfl rfl rfl (hI.kd gA0 (by decide) (n := 69) rfl) rfl ?_
      refine w_t (np := 1) (l2 := [some (eR a0), some (eI (1))]) (s2 := [eR a0]) rfl (s_an rfl (pos_g hI gA0 (by decide))) rfl ?_
      refine w_t (np := 2) (l2 := [some (eR a0), some (eI (1))]) (s2 := [eI (0), eR a0]) rfl rfl rfl ?_
      refine j_pf (np := 5) (w := 0) rfl rfl hI gA0 (by decide) (n := 69) rfl rfl (hO_i (lo := -2147483648) (hi := 2147483647) rfl (by decide)) ?_
      intro m4 I5 W6
      have F7 : Fr l_261 0 0 g μ m4 := F0.w W6 gA0 rfl
      have p8 : PK g m4 := PK.fr h_PK (Fr.f W6 gA0) rfl
      refine w_t (np := 6) (l2 := [some (eR a0), some (eI (1))]) (s2 := [eR a0]) rfl (s_an rfl (pos_g I5 gA0 (by decide))) rfl ?_
      refine w_t (np := 7) (l2 := [some (eR a0), some (eI (1))]) (s2 := [eI (1), eR a0]) rfl rfl rfl ?_
      refine j_pf (np := 10) (w := 1) rfl rfl I5 gA0 (by decide) (n := 69) rfl rfl (hO_i (lo := -2147483648) (hi := 2147483647) rfl (by decide)) ?_
      intro m9 I10 W11
      have F12 : Fr l_261 0 0 g μ m9 := F7.w W11 gA0 rfl
      have p13 : PK g m9 := PK.fr p8 (Fr.f W11 gA0) rfl
      refine w_t (np := 11) (l2 := [some (eR a0), some (eI (1))]) (s2 := [eI (1)]) rfl rfl rfl ?_
      refine b_ine (t1 := 18) (t2 := 14) rfl rfl rfl rfl (fun g14 => ?_) (fun g14 => absurd g14 (by decide))
      refine w_t (np := 19) (l2 := [some (eR a0), some (eI (1))]) (s2 := [eI (0)]) rfl rfl rfl ?_
      refine b_rz rfl rfl (Or.inl rfl) ?_
      show ex_q (dt_fg L ρ) rc (d + 7, (261, 19, [some (eR a0), some (eI (a1))], [eI (0)]), f :: F, m9)
      refine b_ine (t1 := 24) (t2 := 22) rfl rfl rfl rfl (fun g15 => absurd g15 (by decide)) (fun g15 => ?_)
      refine w_t (np := 23) (l2 := [some (eR a0), some (eI (a1))]) (s2 := [eI (-1)]) rfl rfl rfl ?_
      exact b_ri rfl rfl (K m9 (-1) I10 F12 (by decide))
    · have b3 : 0 ≤ a1 ∧ a1 ≤ 14 := by omega
      refine w_t (np := 11) (l2 := [some (eI (a1)), some (eI (0)), some (eI (14))]) (s2 := [eI (1)]) rfl rfl rfl ?_
      refine w_go (t1 := 15) rfl rfl ?_
      refine b_rz rfl rfl (Or.inr rfl) ?_
      show ex_q (dt_fg L ρ) rc (d + 7, (261, 8, [some (eR a0), some (eI (a1))], [eI (1), eR a0]), f :: F, μ)
      refine b_ieq (t1 := 15) (t2 := 11) rfl rfl rfl rfl (fun g3 => absurd g3 (by decide)) (fun g3 => ?_)
      refine w_t (np := 12) (l2 := [some (eR a0), some (eI (a1))]) (s2 := [eI (0), eR a0]) rfl rfl rfl ?_
      refine w_go (t1 := 16) rfl rfl ?_
      refine w_cw (np := 19) (as := [eI (0)]) (l2 := [some (eR a0), some (eI (0))]) (rest := []) rfl rfl rfl (Nat.ble_eq.mp rfl) rfl rfl rfl (hI.kd gA0 (by decide) (n := 69) rfl) rfl ?_
      refine w_t (np := 1) (l2 := [some (eR a0), some (eI (0))]) (s2 := [eR a0]) rfl (s_an rfl (pos_g hI gA0 (by decide))) rfl ?_
      refine w_t (np := 2) (l2 := [some (eR a0), some (eI (0))]) (s2 := [eI (0), eR a0]) rfl rfl rfl ?_
      refine j_pf (np := 5) (w := 0) rfl rfl hI gA0 (by decide) (n := 69) rfl rfl (hO_i (lo := -2147483648) (hi := 2147483647) rfl (by decide)) ?_
      intro m4 I5 W6
      have F7 : Fr l_261 0 0 g μ m4 := F0.w W6 gA0 rfl
      have p8 : PK g m4 := PK.fr h_PK (Fr.f W6 gA0) rfl
      refine w_t (np := 6) (l2 := [some (eR a0), some (eI (0))]) (s2 := [eR a0]) rfl (s_an rfl (pos_g I5 gA0 (by decide))) rfl ?_
      refine w_t (np := 7) (l2 := [some (eR a0), some (eI (0))]) (s2 := [eI (0), eR a0]) rfl rfl rfl ?_
      refine j_pf (np := 10) (w := 0) rfl rfl I5 gA0 (by decide) (n := 69) rfl rfl (hO_i (lo := -2147483648) (hi := 2147483647) rfl (by decide)) ?_
      intro m9 I10 W11
      have F12 : Fr l_261 0 0 g μ m9 := F7.w W11 gA0 rfl
      have p13 : PK g m9 := PK.fr p8 (Fr.f W11 gA0) rfl
      refine w_t (np := 11) (l2 := [some (eR a0), some (eI (0))]) (s2 := [eI (0)]) rfl rfl rfl ?_
      refine b_ine (t1 := 18) (t2 := 14) rfl rfl rfl rfl (fun g14 => absurd g14 (by decide)) (fun g14 => ?_)
      refine w_t (np := 15) (l2 := [some (eR a0), some (eI (0))]) (s2 := [eI (1)]) rfl rfl rfl ?_
      refine w_go (t1 := 19) rfl rfl ?_
      refine b_rz rfl rfl (Or.inr rfl) ?_
      show ex_q (dt_fg L ρ) rc (d + 7, (261, 19, [some (eR a0), some (eI (a1))], [eI (1)]), f :: F, m9)
      refine b_ine (t1 := 24) (t2 := 22) rfl rfl rfl rfl (fun g15 => ?_) (fun g15 => absurd g15 (by decide))
      refine w_t (np := 25) (l2 := [some (eR a0), some (eI (a1))]) (s2 := [eI (a1)]) rfl rfl rfl ?_
      rcases (show a1 = 0 ∨ a1 = 1 ∨ a1 = 2 ∨ a1 = 3 ∨ a1 = 4 ∨ a1 = 5 ∨ a1 = 6 ∨ a1 = 7 ∨ a1 = 8 ∨ a1 = 9 ∨ a1 = 10 ∨ a1 = 11 ∨ a1 = 12 ∨ a1 = 13 ∨ a1 = 14 by omega) with g16 | g16 | g16 | g16 | g16 | g16 | g16 | g16 | g16 | g16 | g16 | g16 | g16 | g16 | g16
      · subst g16
        refine w_j (np := 96) (st' := []) rfl rfl rfl ?_
        refine w_t (np := 97) (l2 := [some (eR a0), some (eI (0))]) (s2 := [eR a0]) rfl (s_an rfl (pos_g I10 gA0 (by decide))) rfl ?_
        refine j_gi (np := 100) rfl rfl rfl I10 gA0 (by decide) (n := 69) rfl rfl (lo := 0) (hi := 3) rfl ?_
        intro v17 e18 b19
        exact b_ri rfl rfl (K m9 (v17) I10 F12 (by omega))
      · subst g16
        refine w_j (np := 101) (st' := []) rfl rfl rfl ?_
        refine w_t (np := 102) (l2 := [some (eR a0), some (eI (1))]) (s2 := [eR a0]) rfl (s_an rfl (pos_g I10 gA0 (by decide))) rfl ?_
        refine j_gi (np := 105) rfl rfl rfl I10 gA0 (by decide) (n := 69) rfl rfl (lo := 0) (hi := 5) rfl ?_
        intro v17 e18 b19
        exact b_ri rfl rfl (K m9 (v17) I10 F12 (by omega))
      · subst g16
        refine w_j (np := 106) (st' := []) rfl rfl rfl ?_
        refine w_t (np := 107) (l2 := [some (eR a0), some (eI (2))]) (s2 := [eR a0]) rfl (s_an rfl (pos_g I10 gA0 (by decide))) rfl ?_
        refine j_gi (np := 110) rfl rfl rfl I10 gA0 (by decide) (n := 69) rfl rfl (lo := 0) (hi := 890) rfl ?_
        intro v17 e18 b19
        exact b_ri rfl rfl (K m9 (v17) I10 F12 (by omega))
      · subst g16
        refine w_j (np := 111) (st' := []) rfl rfl rfl ?_
        refine w_t (np := 112) (l2 := [some (eR a0), some (eI (3))]) (s2 := [eR a0]) rfl (s_an rfl (pos_g I10 gA0 (by decide))) rfl ?_
        refine w_t (np := 113) (l2 := [some (eR a0), some (eI (3))]) (s2 := [eI (3), eR a0]) rfl rfl rfl ?_
        refine w_t (np := 114) (l2 := [some (eR a0), some (eI (3))]) (s2 := [eI (3), eI (3), eR a0]) rfl rfl rfl ?_
        refine w_t (np := 115) (l2 := [some (eR a0), some (eI (3))]) (s2 := [eI (0), eR a0]) rfl (b_isub rfl) rfl ?_
        refine w_cw (np := 118) (as := [eI (0)]) (l2 := [some (eR a0), some (eI (0)), none, none]) (rest := []) rfl rfl rfl (Nat.ble_eq.mp rfl) rfl rfl rfl (I10.kd gA0 (by decide) (n := 69) rfl) rfl ?_
        refine s_258 (a1 := 0) I10 gA0 (by decide) ?_
        intro v17 b18
        show ex_q (dt_fg L ρ) rc (d + 7, (261, 118, [some (eR a0), some (eI (3))], [eI (v17)]), f :: F, m9)
        exact b_ri rfl rfl (K m9 (v17) I10 F12 (by omega))
      · subst g16
        refine w_j (np := 111) (st' := []) rfl rfl rfl ?_
        refine w_t (np := 112) (l2 := [some (eR a0), some (eI (4))]) (s2 := [eR a0]) rfl (s_an rfl (pos_g I10 gA0 (by decide))) rfl ?_
        refine w_t (np := 113) (l2 := [some (eR a0), some (eI (4))]) (s2 := [eI (4), eR a0]) rfl rfl rfl ?_
        refine w_t (np := 114) (l2 := [some (eR a0), some (eI (4))]) (s2 := [eI (3), eI (4), eR a0]) rfl rfl rfl ?_
        refine w_t (np := 115) (l2 := [some (eR a0), some (eI (4))]) (s2 := [eI (1), eR a0]) rfl (b_isub rfl) rfl ?_
        refine w_cw (np := 118) (as := [eI (1)]) (l2 := [some (eR a0), some (eI (1)), none, none]) (rest := []) rfl rfl rfl (Nat.ble_eq.mp rfl) rfl rfl rfl (I10.kd gA0 (by decide) (n := 69) rfl) rfl ?_
        refine s_258 (a1 := 1) I10 gA0 (by decide) ?_
        intro v17 b18
        show ex_q (dt_fg L ρ) rc (d + 7, (261, 118, [some (eR a0), some (eI (4))], [eI (v17)]), f :: F, m9)
        exact b_ri rfl rfl (K m9 (v17) I10 F12 (by omega))
      · subst g16
        refine w_j (np := 119) (st' := []) rfl rfl rfl ?_
        refine w_t (np := 120) (l2 := [some (eR a0), some (eI (5))]) (s2 := [eR a0]) rfl (s_an rfl (pos_g I10 gA0 (by decide))) rfl ?_
        refine w_cw (np := 123) (as := []) (l2 := [some (eR a0), none, none]) (rest := []) rfl rfl rfl (Nat.ble_eq.mp rfl) rfl rfl rfl (I10.kd gA0 (by decide) (n := 69) rfl) rfl ?_
        refine s_259 I10 gA0 ?_
        intro v17 b18
        show ex_q (dt_fg L ρ) rc (d + 7, (261, 123, [some (eR a0), some (eI (5))], [eI (v17)]), f :: F, m9)
        refine w_t (np := 124) (l2 := [some (eR a0), some (eI (5))]) (s2 := [eI (2), eI (v17)]) rfl rfl rfl ?_
        obtain ⟨v19, e20, b21⟩ := h_idiv (a := v17) (k := 2) (by decide) (by decide) b18
        have b22 : -1073741824 ≤ v19 ∧ v19 ≤ 1073741823 := by omega
        refine w_t (np := 125) (l2 := [some (eR a0), some (eI (5))]) (s2 := [eI (v19)]) rfl (e20 _ _) rfl ?_
        exact b_ri rfl rfl (K m9 (v19) I10 F12 (by omega))
      · subst g16
        refine w_j (np := 126) (st' := []) rfl rfl rfl ?_
        refine w_t (np := 127) (l2 := [some (eR a0), some (eI (6))]) (s2 := [eR a0]) rfl (s_an rfl (pos_g I10 gA0 (by decide))) rfl ?_
        refine j_gi (np := 130) rfl rfl rfl I10 gA0 (by decide) (n := 69) rfl rfl (lo := 0) (hi := 2670) rfl ?_
        intro v17 e18 b19
        exact b_ri rfl rfl (K m9 (v17) I10 F12 (by omega))
      · subst g16
        refine w_j (np := 131) (st' := []) rfl rfl rfl ?_
        refine w_t (np := 132) (l2 := [some (eR a0), some (eI (7))]) (s2 := [eR a0]) rfl (s_an rfl (pos_g I10 gA0 (by decide))) rfl ?_
        refine w_cw (np := 135) (as := []) (l2 := [some (eR a0), none, none]) (rest := []) rfl rfl rfl (Nat.ble_eq.mp rfl) rfl rfl rfl (I10.kd gA0 (by decide) (n := 69) rfl) rfl ?_
        refine s_260 I10 gA0 ?_
        intro v17 b18
        show ex_q (dt_fg L ρ) rc (d + 7, (261, 135, [some (eR a0), some (eI (7))], [eI (v17)]), f :: F, m9)
        exact b_ri rfl rfl (K m9 (v17) I10 F12 (by omega))
      · subst g16
        refine w_j (np := 136) (st' := []) rfl rfl rfl ?_
        refine w_t (np := 137) (l2 := [some (eR a0), some (eI (8))]) (s2 := [eR a0]) rfl (s_an rfl (pos_g I10 gA0 (by decide))) rfl ?_
        refine w_t (np := 138) (l2 := [some (eR a0), some (eI (8))]) (s2 := [eI (8), eR a0]) rfl rfl rfl ?_
        refine w_t (np := 140) (l2 := [some (eR a0), some (eI (8))]) (s2 := [eI (8), eI (8), eR a0]) rfl rfl rfl ?_
        refine w_t (np := 141) (l2 := [some (eR a0), some (eI (8))]) (s2 := [eI (0), eR a0]) rfl (b_isub rfl) rfl ?_
        refine w_cw (np := 144) (as := [eI (0)]) (l2 := [some (eR a0), some (eI (0)), none, none, none, none]) (rest := []) rfl rfl rfl (Nat.ble_eq.mp rfl) rfl rfl rfl (I10.kd gA0 (by decide) (n := 69) rfl) rfl ?_
        refine s_247 (a1 := 0) I10 gA0 (by decide) ?_
        intro v17 b18
        show ex_q (dt_fg L ρ) rc (d + 7, (261, 144, [some (eR a0), some (eI (8))], [eI (v17)]), f :: F, m9)
        exact b_ri rfl rfl (K m9 (v17) I10 F12 (by omega))
      · subst g16
        refine w_j (np := 136) (st' := []) rfl rfl rfl ?_
        refine w_t (np := 137) (l2 := [some (eR a0), some (eI (9))]) (s2 := [eR a0]) rfl (s_an rfl (pos_g I10 gA0 (by decide))) rfl ?_
        refine w_t (np := 138) (l2 := [some (eR a0), some (eI (9))]) (s2 := [eI (9), eR a0]) rfl rfl rfl ?_
        refine w_t (np := 140) (l2 := [some (eR a0), some (eI (9))]) (s2 := [eI (8), eI (9), eR a0]) rfl rfl rfl ?_
        refine w_t (np := 141) (l2 := [some (eR a0), some (eI (9))]) (s2 := [eI (1), eR a0]) rfl (b_isub rfl) rfl ?_
        refine w_cw (np := 144) (as := [eI (1)]) (l2 := [some (eR a0), some (eI (1)), none, none, none, none]) (rest := []) rfl rfl rfl (Nat.ble_eq.mp rfl) rfl rfl rfl (I10.kd gA0 (by decide) (n := 69) rfl) rfl ?_
        refine s_247 (a1 := 1) I10 gA0 (by decide) ?_
        intro v17 b18
        show ex_q (dt_fg L ρ) rc (d + 7, (261, 144, [some (eR a0), some (eI (9))], [eI (v17)]), f :: F, m9)
        exact b_ri rfl rfl (K m9 (v17) I10 F12 (by omega))
      · subst g16
        refine w_j (np := 136) (st' := []) rfl rfl rfl ?_
        refine w_t (np := 137) (l2 := [some (eR a0), some (eI (10))]) (s2 := [eR a0]) rfl (s_an rfl (pos_g I10 gA0 (by decide))) rfl ?_
        refine w_t (np := 138) (l2 := [some (eR a0), some (eI (10))]) (s2 := [eI (10), eR a0]) rfl rfl rfl ?_
        refine w_t (np := 140) (l2 := [some (eR a0), some (eI (10))]) (s2 := [eI (8), eI (10), eR a0]) rfl rfl rfl ?_
        refine w_t (np := 141) (l2 := [some (eR a0), some (eI (10))]) (s2 := [eI (2), eR a0]) rfl (b_isub rfl) rfl ?_
        refine w_cw (np := 144) (as := [eI (2)]) (l2 := [some (eR a0), some (eI (2)), none, none, none, none]) (rest := []) rfl rfl rfl (Nat.ble_eq.mp rfl) rfl rfl rfl (I10.kd gA0 (by decide) (n := 69) rfl) rfl ?_
        refine s_247 (a1 := 2) I10 gA0 (by decide) ?_
        intro v17 b18
        show ex_q (dt_fg L ρ) rc (d + 7, (261, 144, [some (eR a0), some (eI (10))], [eI (v17)]), f :: F, m9)
        exact b_ri rfl rfl (K m9 (v17) I10 F12 (by omega))
      · subst g16
        refine w_j (np := 145) (st' := []) rfl rfl rfl ?_
        refine w_t (np := 146) (l2 := [some (eR a0), some (eI (11))]) (s2 := [eR a0]) rfl (s_an rfl (pos_g I10 gA0 (by decide))) rfl ?_
        refine j_gi (np := 149) rfl rfl rfl I10 gA0 (by decide) (n := 69) rfl rfl (lo := 0) (hi := 890) rfl ?_
        intro v17 e18 b19
        refine w_t (np := 150) (l2 := [some (eR a0), some (eI (11))]) (s2 := [eR a0, eI (v17)]) rfl (s_an rfl (pos_g I10 gA0 (by decide))) rfl ?_
        refine w_cw (np := 153) (as := []) (l2 := [some (eR a0), none, none]) (rest := [eI (v17)]) rfl rfl rfl (Nat.ble_eq.mp rfl) rfl rfl rfl (I10.kd gA0 (by decide) (n := 69) rfl) rfl ?_
        refine s_259 I10 gA0 ?_
        intro v20 b21
        show ex_q (dt_fg L ρ) rc (d + 7, (261, 153, [some (eR a0), some (eI (11))], [eI (v20), eI (v17)]), f :: F, m9)
        obtain ⟨v22, e23, b24⟩ : ∃ zz : Int, ev_w ((v17) - (v20)) = zz ∧ (-2147483648 ≤ zz ∧ zz ≤ 2147483647) := ⟨_, rfl, hw_bd _⟩
        refine w_t (np := 154) (l2 := [some (eR a0), some (eI (11))]) (s2 := [eI (v22)]) rfl (b_isub e23) rfl ?_
        exact b_ri rfl rfl (K m9 (v22) I10 F12 (by omega))
      · subst g16
        refine w_j (np := 155) (st' := []) rfl rfl rfl ?_
        refine w_t (np := 156) (l2 := [some (eR a0), some (eI (12))]) (s2 := [eR a0]) rfl (s_an rfl (pos_g I10 gA0 (by decide))) rfl ?_
        refine w_cw (np := 159) (as := []) (l2 := [some (eR a0)]) (rest := []) rfl rfl rfl (Nat.ble_eq.mp rfl) rfl rfl rfl (I10.kd gA0 (by decide) (n := 69) rfl) rfl ?_
        obtain ⟨v17, e18, b19⟩ := I10.pk (k := 28) gA0 (by decide) (n := 69) rfl rfl (lo := 0) (hi := 2670) rfl
        refine s_255 I10 gA0 e18 p13 ?_
        intro m20 v23 v25 I21 F22 b24 e26 h27
        have F28 : Fr l_261 0 0 g μ m20 := F12.t F22 rfl
        have p29 : PK g m20 := PK.fr p13 F22 rfl
        have b30 : 0 ≤ v25 ∧ v25 ≤ 2670 := by
          rw [← e26]
          exact I21.int gA0 (by decide) (n := 69) rfl (by decide) rfl
        show ex_q (dt_fg L ρ) rc (d + 7, (261, 159, [some (eR a0), some (eI (12))], [eI (v23)]), f :: F, m20)
        exact b_ri rfl rfl (K m20 (v23) I21 F28 (by omega))
      · subst g16
        refine w_j (np := 160) (st' := []) rfl rfl rfl ?_
        refine w_t (np := 161) (l2 := [some (eR a0), some (eI (13))]) (s2 := [eR a0]) rfl (s_an rfl (pos_g I10 gA0 (by decide))) rfl ?_
        refine j_gi (np := 164) rfl rfl rfl I10 gA0 (by decide) (n := 69) rfl rfl (lo := 0) (hi := 24) rfl ?_
        intro v17 e18 b19
        exact b_ri rfl rfl (K m9 (v17) I10 F12 (by omega))
      · subst g16
        refine w_j (np := 165) (st' := []) rfl rfl rfl ?_
        refine w_t (np := 166) (l2 := [some (eR a0), some (eI (14))]) (s2 := [eR a0]) rfl (s_an rfl (pos_g I10 gA0 (by decide))) rfl ?_
        refine w_cw (np := 169) (as := []) (l2 := [some (eR a0), none, none, none, none]) (rest := []) rfl rfl rfl (Nat.ble_eq.mp rfl) rfl rfl rfl (I10.kd gA0 (by decide) (n := 69) rfl) rfl ?_
        refine s_304 I10 gA0 ?_
        intro m17 I18 F19
        have F20 : Fr l_261 0 0 g μ m17 := F12.t F19 rfl
        have p21 : PK g m17 := PK.fr p13 F19 rfl
        show ex_q (dt_fg L ρ) rc (d + 7, (261, 169, [some (eR a0), some (eI (14))], []), f :: F, m17)
        refine w_t (np := 170) (l2 := [some (eR a0), some (eI (14))]) (s2 := [eR a0]) rfl (s_an rfl (pos_g I18 gA0 (by decide))) rfl ?_
        refine j_gi (np := 173) rfl rfl rfl I18 gA0 (by decide) (n := 69) rfl rfl (lo := 0) (hi := 96) rfl ?_
        intro v22 e23 b24
        exact b_ri rfl rfl (K m17 (v22) I18 F20 (by omega))
def l_296 : List Nat := [13313, 13314, 17920, 18176]
theorem s_296 {L : Nat} {ρ : Nat → Int} {rc : eQ} {d : Nat} {f : eFr} {F : List eFr} {μ : eM} {g : Nat → Nat} {a0 : Nat} {a1 : Int} {a2 : Int} (hI : SI g μ) (gA0 : g a0 = 52) (bA1 : -2147483648 ≤ a1 ∧ a1 ≤ 2147483647) (bA2 : -2147483648 ≤ a2 ∧ a2 ≤ 2147483647) (h_PK : PK g μ) (h_PO : PO g μ) (K : ∀ (μ2 : eM) (v : Int), SI g μ2 → Fr l_296 0 0 g μ μ2 → (-2147483648 ≤ v ∧ v ≤ 2147483647) → ex_q (dt_fg L ρ) rc (d + 6, (f.1, f.2.1, f.2.2.1, eI v :: f.2.2.2), F, μ2)) : ex_q (dt_fg L ρ) rc (d + 5, (296, 0, [some (eR a0), some (eI (a1)), some (eI (a2)), none], []), f :: F, μ) := by
  have F0 : Fr l_296 0 0 g μ μ := Fr.r
  refine w_t (np := 1) (l2 := [some (eR a0), some (eI (a1)), some (eI (a2)), none]) (s2 := [eR a0]) rfl (s_an rfl (pos_g hI gA0 (by decide))) rfl ?_
  refine w_t (np := 2) (l2 := [some (eR a0), some (eI (a1)), some (eI (a2)), none]) (s2 := [eI (a2), eR a0]) rfl rfl rfl ?_
  refine w_t (np := 3) (l2 := [some (eR a0), some (eI (a1)), some (eI (a2)), none]) (s2 := [eI (0), eI (a2), eR a0]) rfl rfl rfl ?_
  refine w_t (np := 4) (l2 := [some (eR a0), some (eI (a1)), some (eI (a2)), none]) (s2 := [eI (2), eI (0), eI (a2), eR a0]) rfl rfl rfl ?_
  refine w_cu (np := 7) (as := [eI (a2), eI (0), eI (2)]) (l2 := [some (eI (a2)), some (eI (0)), some (eI (2))]) (rest := [eR a0]) rfl rfl rfl (Nat.ble_eq.mp rfl) rfl rfl rfl rfl ?_
  refine w_t (np := 1) (l2 := [some (eI (a2)), some (eI (0)), some (eI (2))]) (s2 := [eI (a2)]) rfl rfl rfl ?_
  refine w_t (np := 2) (l2 := [some (eI (a2)), some (eI (0)), some (eI (2))]) (s2 := [eI (0), eI (a2)]) rfl rfl rfl ?_
  refine b_clt (t1 := 14) (t2 := 5) rfl rfl rfl (ev_w_in (by omega) (by omega)) rfl (fun g1 => ?_) (fun g1 => ?_)
  · have b2 : -2147483648 ≤ a2 ∧ a2 ≤ -1 := by omega
    refine w_t (np := 15) (l2 := [some (eI (a2)), some (eI (0)), some (eI (2))]) (s2 := [eI (0)]) rfl rfl rfl ?_
    refine b_rz rfl rfl (Or.inl rfl) ?_
    show ex_q (dt_fg L ρ) rc (d + 5, (296, 7, [some (eR a0), some (eI (a1)), some (eI (a2)), none], [eI (0), eR a0]), f :: F, μ)
    refine b_ine (t1 := 14) (t2 := 10) rfl rfl rfl rfl (fun g2 => absurd g2 (by decide)) (fun g2 => ?_)
    refine w_t (np := 11) (l2 := [some (eR a0), some (eI (a1)), some (eI (a2)), none]) (s2 := [eI (1), eR a0]) rfl rfl rfl ?_
    refine w_go (t1 := 27) rfl rfl ?_
    refine w_cw (np := 30) (as := [eI (1)]) (l2 := [some (eR a0), some (eI (1))]) (rest := []) rfl rfl rfl (Nat.ble_eq.mp rfl) rfl rfl rfl (hI.kd gA0 (by decide) (n := 69) rfl) rfl ?_
    refine w_t (np := 1) (l2 := [some (eR a0), some (eI (1))]) (s2 := [eR a0]) rfl (s_an rfl (pos_g hI gA0 (by decide))) rfl ?_
    refine w_t (np := 2) (l2 := [some (eR a0), some (eI (1))]) (s2 := [eI (0), eR a0]) rfl rfl rfl ?_
    refine j_pf (np := 5) (w := 0) rfl rfl hI gA0 (by decide) (n := 69) rfl rfl (hO_i (lo := -2147483648) (hi := 2147483647) rfl (by decide)) ?_
    intro m3 I4 W5
    have F6 : Fr l_296 0 0 g μ m3 := F0.w W5 gA0 rfl
    have p7 : PK g m3 := PK.fr h_PK (Fr.f W5 gA0) rfl
    have p8 : PO g m3 := PO.fr h_PO (Fr.f W5 gA0) rfl
    refine w_t (np := 6) (l2 := [some (eR a0), some (eI (1))]) (s2 := [eR a0]) rfl (s_an rfl (pos_g I4 gA0 (by decide))) rfl ?_
    refine w_t (np := 7) (l2 := [some (eR a0), some (eI (1))]) (s2 := [eI (1), eR a0]) rfl rfl rfl ?_
    refine j_pf (np := 10) (w := 1) rfl rfl I4 gA0 (by decide) (n := 69) rfl rfl (hO_i (lo := -2147483648) (hi := 2147483647) rfl (by decide)) ?_
    intro m9 I10 W11
    have F12 : Fr l_296 0 0 g μ m9 := F6.w W11 gA0 rfl
    have p13 : PK g m9 := PK.fr p7 (Fr.f W11 gA0) rfl
    have p14 : PO g m9 := PO.fr p8 (Fr.f W11 gA0) rfl
    refine w_t (np := 11) (l2 := [some (eR a0), some (eI (1))]) (s2 := [eI (1)]) rfl rfl rfl ?_
    refine b_ine (t1 := 18) (t2 := 14) rfl rfl rfl rfl (fun g15 => ?_) (fun g15 => absurd g15 (by decide))
    refine w_t (np := 19) (l2 := [some (eR a0), some (eI (1))]) (s2 := [eI (0)]) rfl rfl rfl ?_
    refine b_rz rfl rfl (Or.inl rfl) ?_
    show ex_q (dt_fg L ρ) rc (d + 5, (296, 30, [some (eR a0), some (eI (a1)), some (eI (a2)), none], [eI (0)]), f :: F, m9)
    refine b_ine (t1 := 35) (t2 := 33) rfl rfl rfl rfl (fun g16 => absurd g16 (by decide)) (fun g16 => ?_)
    refine w_t (np := 34) (l2 := [some (eR a0), some (eI (a1)), some (eI (a2)), none]) (s2 := [eI (-1)]) rfl rfl rfl ?_
    exact b_ri rfl rfl (K m9 (-1) I10 F12 (by decide))
  · have b2 : 0 ≤ a2 ∧ a2 ≤ 2147483647 := by omega
    refine w_t (np := 6) (l2 := [some (eI (a2)), some (eI (0)), some (eI (2))]) (s2 := [eI (a2)]) rfl rfl rfl ?_
    refine w_t (np := 7) (l2 := [some (eI (a2)), some (eI (0)), some (eI (2))]) (s2 := [eI (2), eI (a2)]) rfl rfl rfl ?_
    refine b_cgt (t1 := 14) (t2 := 10) rfl rfl rfl (ev_w_in (by omega) (by omega)) rfl (fun g2 => ?_) (fun g2 => ?_)
    · have b3 : 3 ≤ a2 ∧ a2 ≤ 2147483647 := by omega
      refine w_t (np := 15) (l2 := [some (eI (a2)), some (eI (0)), some (eI (2))]) (s2 := [eI (0)]) rfl rfl rfl ?_
      refine b_rz rfl rfl (Or.inl rfl) ?_
      show ex_q (dt_fg L ρ) rc (d + 5, (296, 7, [some (eR a0), some (eI (a1)), some (eI (a2)), none], [eI (0), eR a0]), f :: F, μ)
      refine b_ine (t1 := 14) (t2 := 10) rfl rfl rfl rfl (fun g3 => absurd g3 (by decide)) (fun g3 => ?_)
      refine w_t (np := 11) (l2 := [some (eR a0), some (eI (a1)), some (eI (a2)), none]) (s2 := [eI (1), eR a0]) rfl rfl rfl ?_
      refine w_go (t1 := 27) rfl rfl ?_
      refine w_cw (np := 30) (as := [eI (1)]) (l2 := [some (eR a0), some (eI (1))]) (rest := []) rfl rfl rfl (Nat.ble_eq.mp rfl) rfl rfl rfl (hI.kd gA0 (by decide) (n := 69) rfl) rfl ?_
      refine w_t (np := 1) (l2 := [some (eR a0), some (eI (1))]) (s2 := [eR a0]) rfl (s_an rfl (pos_g hI gA0 (by decide))) rfl ?_
      refine w_t (np := 2) (l2 := [some (eR a0), some (eI (1))]) (s2 := [eI (0), eR a0]) rfl rfl rfl ?_
      refine j_pf (np := 5) (w := 0) rfl rfl hI gA0 (by decide) (n := 69) rfl rfl (hO_i (lo := -2147483648) (hi := 2147483647) rfl (by decide)) ?_
      intro m4 I5 W6
      have F7 : Fr l_296 0 0 g μ m4 := F0.w W6 gA0 rfl
      have p8 : PK g m4 := PK.fr h_PK (Fr.f W6 gA0) rfl
      have p9 : PO g m4 := PO.fr h_PO (Fr.f W6 gA0) rfl
      refine w_t (np := 6) (l2 := [some (eR a0), some (eI (1))]) (s2 := [eR a0]) rfl (s_an rfl (pos_g I5 gA0 (by decide))) rfl ?_
      refine w_t (np := 7) (l2 := [some (eR a0), some (eI (1))]) (s2 := [eI (1), eR a0]) rfl rfl rfl ?_
      refine j_pf (np := 10) (w := 1) rfl rfl I5 gA0 (by decide) (n := 69) rfl rfl (hO_i (lo := -2147483648) (hi := 2147483647) rfl (by decide)) ?_
      intro m10 I11 W12
      have F13 : Fr l_296 0 0 g μ m10 := F7.w W12 gA0 rfl
      have p14 : PK g m10 := PK.fr p8 (Fr.f W12 gA0) rfl
      have p15 : PO g m10 := PO.fr p9 (Fr.f W12 gA0) rfl
      refine w_t (np := 11) (l2 := [some (eR a0), some (eI (1))]) (s2 := [eI (1)]) rfl rfl rfl ?_
      refine b_ine (t1 := 18) (t2 := 14) rfl rfl rfl rfl (fun g16 => ?_) (fun g16 => absurd g16 (by decide))
      refine w_t (np := 19) (l2 := [some (eR a0), some (eI (1))]) (s2 := [eI (0)]) rfl rfl rfl ?_
      refine b_rz rfl rfl (Or.inl rfl) ?_
      show ex_q (dt_fg L ρ) rc (d + 5, (296, 30, [some (eR a0), some (eI (a1)), some (eI (a2)), none], [eI (0)]), f :: F, m10)
      refine b_ine (t1 := 35) (t2 := 33) rfl rfl rfl rfl (fun g17 => absurd g17 (by decide)) (fun g17 => ?_)
      refine w_t (np := 34) (l2 := [some (eR a0), some (eI (a1)), some (eI (a2)), none]) (s2 := [eI (-1)]) rfl rfl rfl ?_
      exact b_ri rfl rfl (K m10 (-1) I11 F13 (by decide))
    · have b3 : 0 ≤ a2 ∧ a2 ≤ 2 := by omega
      refine w_t (np := 11) (l2 := [some (eI (a2)), some (eI (0)), some (eI (2))]) (s2 := [eI (1)]) rfl rfl rfl ?_
      refine w_go (t1 := 15) rfl rfl ?_
      refine b_rz rfl rfl (Or.inr rfl) ?_
      show ex_q (dt_fg L ρ) rc (d + 5, (296, 7, [some (eR a0), some (eI (a1)), some (eI (a2)), none], [eI (1), eR a0]), f :: F, μ)
      refine b_ine (t1 := 14) (t2 := 10) rfl rfl rfl rfl (fun g3 => ?_) (fun g3 => absurd g3 (by decide))
      refine w_t (np := 15) (l2 := [some (eR a0), some (eI (a1)), some (eI (a2)), none]) (s2 := [eR a0, eR a0]) rfl (s_an rfl (pos_g hI gA0 (by decide))) rfl ?_
      refine w_t (np := 16) (l2 := [some (eR a0), some (eI (a1)), some (eI (a2)), none]) (s2 := [eI (a1), eR a0, eR a0]) rfl rfl rfl ?_
      refine w_cw (np := 19) (as := [eI (a1)]) (l2 := [some (eR a0), some (eI (a1))]) (rest := [eR a0]) rfl rfl rfl (Nat.ble_eq.mp rfl) rfl rfl rfl (hI.kd gA0 (by decide) (n := 69) rfl) rfl ?_
      refine w_t (np := 1) (l2 := [some (eR a0), some (eI (a1))]) (s2 := [eI (a1)]) rfl rfl rfl ?_
      refine w_t (np := 2) (l2 := [some (eR a0), some (eI (a1))]) (s2 := [eI (0), eI (a1)]) rfl rfl rfl ?_
      refine w_t (np := 3) (l2 := [some (eR a0), some (eI (a1))]) (s2 := [eR a0, eI (0), eI (a1)]) rfl (s_an rfl (pos_g hI gA0 (by decide))) rfl ?_
      refine j_gi (np := 6) rfl rfl rfl hI gA0 (by decide) (n := 69) rfl rfl (lo := 0) (hi := 890) rfl ?_
      intro v4 e5 b6
      refine w_t (np := 7) (l2 := [some (eR a0), some (eI (a1))]) (s2 := [eI (1), eI (v4), eI (0), eI (a1)]) rfl rfl rfl ?_
      obtain ⟨v7, e8⟩ : ∃ zz : Int, zz = (v4) - (1) := ⟨_, rfl⟩
      have b9 : -1 ≤ v7 ∧ v7 ≤ 889 := by omega
      refine w_t (np := 8) (l2 := [some (eR a0), some (eI (a1))]) (s2 := [eI (v7), eI (0), eI (a1)]) rfl (b_isub (by rw [← e8]; exact ev_w_in (by omega) (by omega))) rfl ?_
      refine w_cu (np := 11) (as := [eI (a1), eI (0), eI (v7)]) (l2 := [some (eI (a1)), some (eI (0)), some (eI (v7))]) (rest := []) rfl rfl rfl (Nat.ble_eq.mp rfl) rfl rfl rfl rfl ?_
      refine w_t (np := 1) (l2 := [some (eI (a1)), some (eI (0)), some (eI (v7))]) (s2 := [eI (a1)]) rfl rfl rfl ?_
      refine w_t (np := 2) (l2 := [some (eI (a1)), some (eI (0)), some (eI (v7))]) (s2 := [eI (0), eI (a1)]) rfl rfl rfl ?_
      refine b_clt (t1 := 14) (t2 := 5) rfl rfl rfl (ev_w_in (by omega) (by omega)) rfl (fun g10 => ?_) (fun g10 => ?_)
      · have b11 : -2147483648 ≤ a1 ∧ a1 ≤ -1 := by omega
        refine w_t (np := 15) (l2 := [some (eI (a1)), some (eI (0)), some (eI (v7))]) (s2 := [eI (0)]) rfl rfl rfl ?_
        refine b_rz rfl rfl (Or.inl rfl) ?_
        show ex_q (dt_fg L ρ) rc (d + 4, (243, 11, [some (eR a0), some (eI (a1))], [eI (0)]), (296, 19, [some (eR a0), some (eI (a1)), some (eI (a2)), none], [eR a0]) :: f :: F, μ)
        refine b_rz rfl rfl (Or.inl rfl) ?_
        show ex_q (dt_fg L ρ) rc (d + 5, (296, 19, [some (eR a0), some (eI (a1)), some (eI (a2)), none], [eI (0), eR a0]), f :: F, μ)
        refine b_ieq (t1 := 26) (t2 := 22) rfl rfl rfl rfl (fun g11 => ?_) (fun g11 => absurd g11 (by decide))
        refine w_t (np := 27) (l2 := [some (eR a0), some (eI (a1)), some (eI (a2)), none]) (s2 := [eI (2), eR a0]) rfl rfl rfl ?_
        refine w_cw (np := 30) (as := [eI (2)]) (l2 := [some (eR a0), some (eI (2))]) (rest := []) rfl rfl rfl (Nat.ble_eq.mp rfl) rfl rfl rfl (hI.kd gA0 (by decide) (n := 69) rfl) rfl ?_
        refine w_t (np := 1) (l2 := [some (eR a0), some (eI (2))]) (s2 := [eR a0]) rfl (s_an rfl (pos_g hI gA0 (by decide))) rfl ?_
        refine w_t (np := 2) (l2 := [some (eR a0), some (eI (2))]) (s2 := [eI (0), eR a0]) rfl rfl rfl ?_
        refine j_pf (np := 5) (w := 0) rfl rfl hI gA0 (by decide) (n := 69) rfl rfl (hO_i (lo := -2147483648) (hi := 2147483647) rfl (by decide)) ?_
        intro m12 I13 W14
        have F15 : Fr l_296 0 0 g μ m12 := F0.w W14 gA0 rfl
        have p16 : PK g m12 := PK.fr h_PK (Fr.f W14 gA0) rfl
        have p17 : PO g m12 := PO.fr h_PO (Fr.f W14 gA0) rfl
        refine w_t (np := 6) (l2 := [some (eR a0), some (eI (2))]) (s2 := [eR a0]) rfl (s_an rfl (pos_g I13 gA0 (by decide))) rfl ?_
        refine w_t (np := 7) (l2 := [some (eR a0), some (eI (2))]) (s2 := [eI (2), eR a0]) rfl rfl rfl ?_
        refine j_pf (np := 10) (w := 2) rfl rfl I13 gA0 (by decide) (n := 69) rfl rfl (hO_i (lo := -2147483648) (hi := 2147483647) rfl (by decide)) ?_
        intro m18 I19 W20
        have F21 : Fr l_296 0 0 g μ m18 := F15.w W20 gA0 rfl
        have p22 : PK g m18 := PK.fr p16 (Fr.f W20 gA0) rfl
        have p23 : PO g m18 := PO.fr p17 (Fr.f W20 gA0) rfl
        refine w_t (np := 11) (l2 := [some (eR a0), some (eI (2))]) (s2 := [eI (2)]) rfl rfl rfl ?_
        refine b_ine (t1 := 18) (t2 := 14) rfl rfl rfl rfl (fun g24 => ?_) (fun g24 => absurd g24 (by decide))
        refine w_t (np := 19) (l2 := [some (eR a0), some (eI (2))]) (s2 := [eI (0)]) rfl rfl rfl ?_
        refine b_rz rfl rfl (Or.inl rfl) ?_
        show ex_q (dt_fg L ρ) rc (d + 5, (296, 30, [some (eR a0), some (eI (a1)), some (eI (a2)), none], [eI (0)]), f :: F, m18)
        refine b_ine (t1 := 35) (t2 := 33) rfl rfl rfl rfl (fun g25 => absurd g25 (by decide)) (fun g25 => ?_)
        refine w_t (np := 34) (l2 := [some (eR a0), some (eI (a1)), some (eI (a2)), none]) (s2 := [eI (-1)]) rfl rfl rfl ?_
        exact b_ri rfl rfl (K m18 (-1) I19 F21 (by decide))
      · have b11 : 0 ≤ a1 ∧ a1 ≤ 2147483647 := by omega
        refine w_t (np := 6) (l2 := [some (eI (a1)), some (eI (0)), some (eI (v7))]) (s2 := [eI (a1)]) rfl rfl rfl ?_
        refine w_t (np := 7) (l2 := [some (eI (a1)), some (eI (0)), some (eI (v7))]) (s2 := [eI (v7), eI (a1)]) rfl rfl rfl ?_
        refine b_cgt (t1 := 14) (t2 := 10) rfl rfl rfl (ev_w_in (by omega) (by omega)) (ev_w_in (by omega) (by omega)) (fun g11 => ?_) (fun g11 => ?_)
        · refine w_t (np := 15) (l2 := [some (eI (a1)), some (eI (0)), some (eI (v7))]) (s2 := [eI (0)]) rfl rfl rfl ?_
          refine b_rz rfl rfl (Or.inl rfl) ?_
          show ex_q (dt_fg L ρ) rc (d + 4, (243, 11, [some (eR a0), some (eI (a1))], [eI (0)]), (296, 19, [some (eR a0), some (eI (a1)), some (eI (a2)), none], [eR a0]) :: f :: F, μ)
          refine b_rz rfl rfl (Or.inl rfl) ?_
          show ex_q (dt_fg L ρ) rc (d + 5, (296, 19, [some (eR a0), some (eI (a1)), some (eI (a2)), none], [eI (0), eR a0]), f :: F, μ)
          refine b_ieq (t1 := 26) (t2 := 22) rfl rfl rfl rfl (fun g12 => ?_) (fun g12 => absurd g12 (by decide))
          refine w_t (np := 27) (l2 := [some (eR a0), some (eI (a1)), some (eI (a2)), none]) (s2 := [eI (2), eR a0]) rfl rfl rfl ?_
          refine w_cw (np := 30) (as := [eI (2)]) (l2 := [some (eR a0), some (eI (2))]) (rest := []) rfl rfl rfl (Nat.ble_eq.mp rfl) rfl rfl rfl (hI.kd gA0 (by decide) (n := 69) rfl) rfl ?_
          refine w_t (np := 1) (l2 := [some (eR a0), some (eI (2))]) (s2 := [eR a0]) rfl (s_an rfl (pos_g hI gA0 (by decide))) rfl ?_
          refine w_t (np := 2) (l2 := [some (eR a0), some (eI (2))]) (s2 := [eI (0), eR a0]) rfl rfl rfl ?_
          refine j_pf (np := 5) (w := 0) rfl rfl hI gA0 (by decide) (n := 69) rfl rfl (hO_i (lo := -2147483648) (hi := 2147483647) rfl (by decide)) ?_
          intro m13 I14 W15
          have F16 : Fr l_296 0 0 g μ m13 := F0.w W15 gA0 rfl
          have p17 : PK g m13 := PK.fr h_PK (Fr.f W15 gA0) rfl
          have p18 : PO g m13 := PO.fr h_PO (Fr.f W15 gA0) rfl
          refine w_t (np := 6) (l2 := [some (eR a0), some (eI (2))]) (s2 := [eR a0]) rfl (s_an rfl (pos_g I14 gA0 (by decide))) rfl ?_
          refine w_t (np := 7) (l2 := [some (eR a0), some (eI (2))]) (s2 := [eI (2), eR a0]) rfl rfl rfl ?_
          refine j_pf (np := 10) (w := 2) rfl rfl I14 gA0 (by decide) (n := 69) rfl rfl (hO_i (lo := -2147483648) (hi := 2147483647) rfl (by decide)) ?_
          intro m19 I20 W21
          have F22 : Fr l_296 0 0 g μ m19 := F16.w W21 gA0 rfl
          have p23 : PK g m19 := PK.fr p17 (Fr.f W21 gA0) rfl
          have p24 : PO g m19 := PO.fr p18 (Fr.f W21 gA0) rfl
          refine w_t (np := 11) (l2 := [some (eR a0), some (eI (2))]) (s2 := [eI (2)]) rfl rfl rfl ?_
          refine b_ine (t1 := 18) (t2 := 14) rfl rfl rfl rfl (fun g25 => ?_) (fun g25 => absurd g25 (by decide))
          refine w_t (np := 19) (l2 := [some (eR a0), some (eI (2))]) (s2 := [eI (0)]) rfl rfl rfl ?_
          refine b_rz rfl rfl (Or.inl rfl) ?_
          show ex_q (dt_fg L ρ) rc (d + 5, (296, 30, [some (eR a0), some (eI (a1)), some (eI (a2)), none], [eI (0)]), f :: F, m19)
          refine b_ine (t1 := 35) (t2 := 33) rfl rfl rfl rfl (fun g26 => absurd g26 (by decide)) (fun g26 => ?_)
          refine w_t (np := 34) (l2 := [some (eR a0), some (eI (a1)), some (eI (a2)), none]) (s2 := [eI (-1)]) rfl rfl rfl ?_
          exact b_ri rfl rfl (K m19 (-1) I20 F22 (by decide))
        · have b12 : 0 ≤ a1 ∧ a1 ≤ 889 := by omega
          have b13 : 0 ≤ v7 ∧ v7 ≤ 889 := by omega
          refine w_t (np := 11) (l2 := [some (eI (a1)), some (eI (0)), some (eI (v7))]) (s2 := [eI (1)]) rfl rfl rfl ?_
          refine w_go (t1 := 15) rfl rfl ?_
          refine b_rz rfl rfl (Or.inr rfl) ?_
          show ex_q (dt_fg L ρ) rc (d + 4, (243, 11, [some (eR a0), some (eI (a1))], [eI (1)]), (296, 19, [some (eR a0), some (eI (a1)), some (eI (a2)), none], [eR a0]) :: f :: F, μ)
          refine b_rz rfl rfl (Or.inr rfl) ?_
          show ex_q (dt_fg L ρ) rc (d + 5, (296, 19, [some (eR a0), some (eI (a1)), some (eI (a2)), none], [eI (1), eR a0]), f :: F, μ)
          refine b_ieq (t1 := 26) (t2 := 22) rfl rfl rfl rfl (fun g12 => absurd g12 (by decide)) (fun g12 => ?_)
          refine w_t (np := 23) (l2 := [some (eR a0), some (eI (a1)), some (eI (a2)), none]) (s2 := [eI (0), eR a0]) rfl rfl rfl ?_
          refine w_go (t1 := 27) rfl rfl ?_
          refine w_cw (np := 30) (as := [eI (0)]) (l2 := [some (eR a0), some (eI (0))]) (rest := []) rfl rfl rfl (Nat.ble_eq.mp rfl) rfl rfl rfl (hI.kd gA0 (by decide) (n := 69) rfl) rfl ?_
          refine w_t (np := 1) (l2 := [some (eR a0), some (eI (0))]) (s2 := [eR a0]) rfl (s_an rfl (pos_g hI gA0 (by decide))) rfl ?_
          refine w_t (np := 2) (l2 := [some (eR a0), some (eI (0))]) (s2 := [eI (0), eR a0]) rfl rfl rfl ?_
          refine j_pf (np := 5) (w := 0) rfl rfl hI gA0 (by decide) (n := 69) rfl rfl (hO_i (lo := -2147483648) (hi := 2147483647) rfl (by decide)) ?_
          intro m13 I14 W15
          have F16 : Fr l_296 0 0 g μ m13 := F0.w W15 gA0 rfl
          have p17 : PK g m13 := PK.fr h_PK (Fr.f W15 gA0) rfl
          have p18 : PO g m13 := PO.fr h_PO (Fr.f W15 gA0) rfl
          refine w_t (np := 6) (l2 := [some (eR a0), some (eI (0))]) (s2 := [eR a0]) rfl (s_an rfl (pos_g I14 gA0 (by decide))) rfl ?_
          refine w_t (np := 7) (l2 := [some (eR a0), some (eI (0))]) (s2 := [eI (0), eR a0]) rfl rfl rfl ?_
          refine j_pf (np := 10) (w := 0) rfl rfl I14 gA0 (by decide) (n := 69) rfl rfl (hO_i (lo := -2147483648) (hi := 2147483647) rfl (by decide)) ?_
          intro m19 I20 W21
          have F22 : Fr l_296 0 0 g μ m19 := F16.w W21 gA0 rfl
          have p23 : PK g m19 := PK.fr p17 (Fr.f W21 gA0) rfl
          have p24 : PO g m19 := PO.fr p18 (Fr.f W21 gA0) rfl
          refine w_t (np := 11) (l2 := [some (eR a0), some (eI (0))]) (s2 := [eI (0)]) rfl rfl rfl ?_
          refine b_ine (t1 := 18) (t2 := 14) rfl rfl rfl rfl (fun g25 => absurd g25 (by decide)) (fun g25 => ?_)
          refine w_t (np := 15) (l2 := [some (eR a0), some (eI (0))]) (s2 := [eI (1)]) rfl rfl rfl ?_
          refine w_go (t1 := 19) rfl rfl ?_
          refine b_rz rfl rfl (Or.inr rfl) ?_
          show ex_q (dt_fg L ρ) rc (d + 5, (296, 30, [some (eR a0), some (eI (a1)), some (eI (a2)), none], [eI (1)]), f :: F, m19)
          refine b_ine (t1 := 35) (t2 := 33) rfl rfl rfl rfl (fun g26 => ?_) (fun g26 => absurd g26 (by decide))
          refine w_t (np := 36) (l2 := [some (eR a0), some (eI (a1)), some (eI (a2)), none]) (s2 := [eR a0]) rfl (s_an rfl (pos_g I20 gA0 (by decide))) rfl ?_
          refine w_t (np := 37) (l2 := [some (eR a0), some (eI (a1)), some (eI (a2)), none]) (s2 := [eR a0, eR a0]) rfl (s_an rfl (pos_g I20 gA0 (by decide))) rfl ?_
          refine w_t (np := 38) (l2 := [some (eR a0), some (eI (a1)), some (eI (a2)), none]) (s2 := [eI (a1), eR a0, eR a0]) rfl rfl rfl ?_
          refine w_t (np := 39) (l2 := [some (eR a0), some (eI (a1)), some (eI (a2)), none]) (s2 := [eI (a2), eI (a1), eR a0, eR a0]) rfl rfl rfl ?_
          refine w_cw (np := 42) (as := [eI (a1), eI (a2)]) (l2 := [some (eR a0), some (eI (a1)), some (eI (a2))]) (rest := [eR a0]) rfl rfl rfl (Nat.ble_eq.mp rfl) rfl rfl rfl (I20.kd gA0 (by decide) (n := 69) rfl) rfl ?_
          refine w_t (np := 1) (l2 := [some (eR a0), some (eI (a1)), some (eI (a2))]) (s2 := [eR a0]) rfl (s_an rfl (pos_g I20 gA0 (by decide))) rfl ?_
          refine j_gr (np := 4) rfl rfl I20 gA0 (by decide) (n := 69) rfl rfl rfl ?_
          intro v27 e28 b29 z30
          have b29 : g v27 = 64 := Nat.eq_of_beq_eq_true b29
          refine w_t (np := 5) (l2 := [some (eR a0), some (eI (a1)), some (eI (a2))]) (s2 := [eI (3), eR v27]) rfl rfl rfl ?_
          refine w_t (np := 6) (l2 := [some (eR a0), some (eI (a1)), some (eI (a2))]) (s2 := [eI (a1), eI (3), eR v27]) rfl rfl rfl ?_
          obtain ⟨v31, e32⟩ : ∃ zz : Int, zz = (3) * (a1) := ⟨_, rfl⟩
          have b33 : 0 ≤ v31 ∧ v31 ≤ 2667 := by omega
          refine w_t (np := 7) (l2 := [some (eR a0), some (eI (a1)), some (eI (a2))]) (s2 := [eI (v31), eR v27]) rfl (b_imul (by rw [← e32]; exact ev_w_in (by omega) (by omega))) rfl ?_
          refine w_t (np := 8) (l2 := [some (eR a0), some (eI (a1)), some (eI (a2))]) (s2 := [eI (a2), eI (v31), eR v27]) rfl rfl rfl ?_
          obtain ⟨v34, e35⟩ : ∃ zz : Int, zz = (v31) + (a2) := ⟨_, rfl⟩
          have b36 : 0 ≤ v34 ∧ v34 ≤ 2669 := by omega
          refine w_t (np := 9) (l2 := [some (eR a0), some (eI (a1)), some (eI (a2))]) (s2 := [eI (v34), eR v27]) rfl (b_iadd (by rw [← e35]; exact ev_w_in (by omega) (by omega))) rfl ?_
          refine j_al (np := 10) rfl rfl I20 b29 (by decide) (n := 2670) rfl rfl (lo := 0) (hi := 2669) (fun _ => rfl) (by omega) (by omega) ?_
          intro v37 e38 b39
          refine b_ri rfl rfl ?_
          show ex_q (dt_fg L ρ) rc (d + 5, (296, 42, [some (eR a0), some (eI (a1)), some (eI (a2)), none], [eI (v37), eR a0]), f :: F, m19)
          obtain ⟨v40, e41, b42⟩ := I20.pk (k := 28) gA0 (by decide) (n := 69) rfl rfl (lo := 0) (hi := 2670) rfl
          have h43 := PO.b (i := v34) p24 gA0 b29 (W21.slot (W15.slot e5 (by decide)) (by decide)) e41 (by omega) e38
          refine w_cw (np := 45) (as := [eI (v37)]) (l2 := [some (eR a0), some (eI (v37)), none, none, none]) (rest := []) rfl rfl rfl (Nat.ble_eq.mp rfl) rfl rfl rfl (I20.kd gA0 (by decide) (n := 69) rfl) rfl ?_
          refine s_253w (a1 := v37) I20 gA0 (by omega) e41 p23 (by omega) ?_
          intro m44 v47 v49 I45 F46 b48 e50 h51
          have F52 : Fr l_296 0 0 g μ m44 := F22.t F46 rfl
          have p53 : PK g m44 := PK.fr p23 F46 rfl
          have p54 : PO g m44 := PO.fr p24 F46 rfl
          have b55 : 0 ≤ v49 ∧ v49 ≤ 2670 := by
            rw [← e50]
            exact I45.int gA0 (by decide) (n := 69) rfl (by decide) rfl
          show ex_q (dt_fg L ρ) rc (d + 5, (296, 45, [some (eR a0), some (eI (a1)), some (eI (a2)), none], [eI (v47)]), f :: F, m44)
          refine w_t (np := 46) (l2 := [some (eR a0), some (eI (a1)), some (eI (a2)), some (eI (v47))]) (s2 := []) rfl rfl rfl ?_
          refine w_t (np := 47) (l2 := [some (eR a0), some (eI (a1)), some (eI (a2)), some (eI (v47))]) (s2 := [eI (v47)]) rfl rfl rfl ?_
          refine b_ige (t1 := 58) (t2 := 50) rfl rfl rfl (ev_w_in (by omega) (by omega)) (fun g56 => ?_) (fun g56 => ?_)
          · have b57 : 0 ≤ v47 ∧ v47 ≤ 2147483647 := by omega
            refine w_t (np := 59) (l2 := [some (eR a0), some (eI (a1)), some (eI (a2)), some (eI (v47))]) (s2 := [eI (v47)]) rfl rfl rfl ?_
            exact b_ri rfl rfl (K m44 (v47) I45 F52 (by omega))
          · have b57 : -2147483648 ≤ v47 ∧ v47 ≤ -1 := by omega
            refine w_t (np := 51) (l2 := [some (eR a0), some (eI (a1)), some (eI (a2)), some (eI (v47))]) (s2 := [eR a0]) rfl (s_an rfl (pos_g I45 gA0 (by decide))) rfl ?_
            refine w_t (np := 52) (l2 := [some (eR a0), some (eI (a1)), some (eI (a2)), some (eI (v47))]) (s2 := [eI (5), eR a0]) rfl rfl rfl ?_
            refine w_cw (np := 55) (as := [eI (5)]) (l2 := [some (eR a0), some (eI (5))]) (rest := []) rfl rfl rfl (Nat.ble_eq.mp rfl) rfl rfl rfl (I45.kd gA0 (by decide) (n := 69) rfl) rfl ?_
            refine w_t (np := 1) (l2 := [some (eR a0), some (eI (5))]) (s2 := [eR a0]) rfl (s_an rfl (pos_g I45 gA0 (by decide))) rfl ?_
            refine w_t (np := 2) (l2 := [some (eR a0), some (eI (5))]) (s2 := [eI (5), eR a0]) rfl rfl rfl ?_
            refine j_pf (np := 5) (w := 5) rfl rfl I45 gA0 (by decide) (n := 69) rfl rfl (hO_i (lo := -2147483648) (hi := 2147483647) rfl (by decide)) ?_
            intro m57 I58 W59
            have F60 : Fr l_296 0 0 g μ m57 := F52.w W59 gA0 rfl
            have p61 : PK g m57 := PK.fr p53 (Fr.f W59 gA0) rfl
            have p62 : PO g m57 := PO.fr p54 (Fr.f W59 gA0) rfl
            refine w_t (np := 6) (l2 := [some (eR a0), some (eI (5))]) (s2 := [eI (-1)]) rfl rfl rfl ?_
            refine b_ri rfl rfl ?_
            show ex_q (dt_fg L ρ) rc (d + 5, (296, 55, [some (eR a0), some (eI (a1)), some (eI (a2)), some (eI (v47))], [eI (-1)]), f :: F, m57)
            refine w_go (t1 := 59) rfl rfl ?_
            exact b_ri rfl rfl (K m57 (-1) I58 F60 (by decide))
def l_297 : List Nat := [13313, 13314, 13347, 13348, 18688, 18432, 17920, 18176]
theorem s_297 {L : Nat} {ρ : Nat → Int} {rc : eQ} {d : Nat} {f : eFr} {F : List eFr} {μ : eM} {g : Nat → Nat} {a0 : Nat} {a1 : Int} (hI : SI g μ) (gA0 : g a0 = 52) (bA1 : -2147483648 ≤ a1 ∧ a1 ≤ 2147483647) (h_PK : PK g μ) (K : ∀ (μ2 : eM) (v : Int), SI g μ2 → Fr l_297 0 0 g μ μ2 → (-2147483648 ≤ v ∧ v ≤ 2147483647) → ex_q (dt_fg L ρ) rc (d + 8, (f.1, f.2.1, f.2.2.1, eI v :: f.2.2.2), F, μ2)) : ex_q (dt_fg L ρ) rc (d + 7, (297, 0, [some (eR a0), some (eI (a1))], []), f :: F, μ) := by
  have F0 : Fr l_297 0 0 g μ μ := Fr.r
  refine w_t (np := 1) (l2 := [some (eR a0), some (eI (a1))]) (s2 := [eR a0]) rfl (s_an rfl (pos_g hI gA0 (by decide))) rfl ?_
  refine w_t (np := 2) (l2 := [some (eR a0), some (eI (a1))]) (s2 := [eI (a1), eR a0]) rfl rfl rfl ?_
  refine b_ige (t1 := 9) (t2 := 5) rfl rfl rfl (ev_w_in (by omega) (by omega)) (fun g1 => ?_) (fun g1 => ?_)
  · have b2 : 0 ≤ a1 ∧ a1 ≤ 2147483647 := by omega
    refine w_t (np := 10) (l2 := [some (eR a0), some (eI (a1))]) (s2 := [eI (a1), eR a0]) rfl rfl rfl ?_
    refine w_t (np := 11) (l2 := [some (eR a0), some (eI (a1))]) (s2 := [eR a0, eI (a1), eR a0]) rfl (s_an rfl (pos_g hI gA0 (by decide))) rfl ?_
    refine w_cw (np := 14) (as := []) (l2 := [some (eR a0)]) (rest := [eI (a1), eR a0]) rfl rfl rfl (Nat.ble_eq.mp rfl) rfl rfl rfl (hI.kd gA0 (by decide) (n := 69) rfl) rfl ?_
    obtain ⟨v2, e3, b4⟩ := hI.pk (k := 28) gA0 (by decide) (n := 69) rfl rfl (lo := 0) (hi := 2670) rfl
    refine s_255 hI gA0 e3 h_PK ?_
    intro m5 v8 v10 I6 F7 b9 e11 h12
    have F13 : Fr l_297 0 0 g μ m5 := F0.t F7 rfl
    have p14 : PK g m5 := PK.fr h_PK F7 rfl
    have b15 : 0 ≤ v10 ∧ v10 ≤ 2670 := by
      rw [← e11]
      exact I6.int gA0 (by decide) (n := 69) rfl (by decide) rfl
    show ex_q (dt_fg L ρ) rc (d + 7, (297, 14, [some (eR a0), some (eI (a1))], [eI (v8), eI (a1), eR a0]), f :: F, m5)
    refine b_clt (t1 := 21) (t2 := 17) rfl rfl rfl (ev_w_in (by omega) (by omega)) (ev_w_in (by omega) (by omega)) (fun g16 => ?_) (fun g16 => ?_)
    · have b17 : 0 ≤ a1 ∧ a1 ≤ 2669 := by omega
      have b18 : 1 ≤ v8 ∧ v8 ≤ 2670 := by omega
      refine w_t (np := 22) (l2 := [some (eR a0), some (eI (a1))]) (s2 := [eI (0), eR a0]) rfl rfl rfl ?_
      refine w_cw (np := 25) (as := [eI (0)]) (l2 := [some (eR a0), some (eI (0))]) (rest := []) rfl rfl rfl (Nat.ble_eq.mp rfl) rfl rfl rfl (I6.kd gA0 (by decide) (n := 69) rfl) rfl ?_
      refine w_t (np := 1) (l2 := [some (eR a0), some (eI (0))]) (s2 := [eR a0]) rfl (s_an rfl (pos_g I6 gA0 (by decide))) rfl ?_
      refine w_t (np := 2) (l2 := [some (eR a0), some (eI (0))]) (s2 := [eI (0), eR a0]) rfl rfl rfl ?_
      refine j_pf (np := 5) (w := 0) rfl rfl I6 gA0 (by decide) (n := 69) rfl rfl (hO_i (lo := -2147483648) (hi := 2147483647) rfl (by decide)) ?_
      intro m17 I18 W19
      have F20 : Fr l_297 0 0 g μ m17 := F13.w W19 gA0 rfl
      have p21 : PK g m17 := PK.fr p14 (Fr.f W19 gA0) rfl
      refine w_t (np := 6) (l2 := [some (eR a0), some (eI (0))]) (s2 := [eR a0]) rfl (s_an rfl (pos_g I18 gA0 (by decide))) rfl ?_
      refine w_t (np := 7) (l2 := [some (eR a0), some (eI (0))]) (s2 := [eI (0), eR a0]) rfl rfl rfl ?_
      refine j_pf (np := 10) (w := 0) rfl rfl I18 gA0 (by decide) (n := 69) rfl rfl (hO_i (lo := -2147483648) (hi := 2147483647) rfl (by decide)) ?_
      intro m22 I23 W24
      have F25 : Fr l_297 0 0 g μ m22 := F20.w W24 gA0 rfl
      have p26 : PK g m22 := PK.fr p21 (Fr.f W24 gA0) rfl
      refine w_t (np := 11) (l2 := [some (eR a0), some (eI (0))]) (s2 := [eI (0)]) rfl rfl rfl ?_
      refine b_ine (t1 := 18) (t2 := 14) rfl rfl rfl rfl (fun g27 => absurd g27 (by decide)) (fun g27 => ?_)
      refine w_t (np := 15) (l2 := [some (eR a0), some (eI (0))]) (s2 := [eI (1)]) rfl rfl rfl ?_
      refine w_go (t1 := 19) rfl rfl ?_
      refine b_rz rfl rfl (Or.inr rfl) ?_
      show ex_q (dt_fg L ρ) rc (d + 7, (297, 25, [some (eR a0), some (eI (a1))], [eI (1)]), f :: F, m22)
      refine b_ieq (t1 := 37) (t2 := 28) rfl rfl rfl rfl (fun g28 => absurd g28 (by decide)) (fun g28 => ?_)
      refine w_t (np := 29) (l2 := [some (eR a0), some (eI (a1))]) (s2 := [eR a0]) rfl (s_an rfl (pos_g I23 gA0 (by decide))) rfl ?_
      refine j_gr (np := 32) rfl rfl I23 gA0 (by decide) (n := 69) rfl rfl rfl ?_
      intro v29 e30 b31 z32
      have b31 : g v29 = 73 := Nat.eq_of_beq_eq_true b31
      refine w_t (np := 33) (l2 := [some (eR a0), some (eI (a1))]) (s2 := [eI (a1), eR v29]) rfl rfl rfl ?_
      refine j_al (np := 34) rfl rfl I23 b31 (by decide) (n := 2670) rfl rfl (lo := -2147483648) (hi := 2147483647) (fun _ => rfl) (by omega) (by omega) ?_
      intro v33 e34 b35
      refine w_go (t1 := 38) rfl rfl ?_
      exact b_ri rfl rfl (K m22 (v33) I23 F25 (by omega))
    · refine w_t (np := 18) (l2 := [some (eR a0), some (eI (a1))]) (s2 := [eI (5), eR a0]) rfl rfl rfl ?_
      refine w_go (t1 := 22) rfl rfl ?_
      refine w_cw (np := 25) (as := [eI (5)]) (l2 := [some (eR a0), some (eI (5))]) (rest := []) rfl rfl rfl (Nat.ble_eq.mp rfl) rfl rfl rfl (I6.kd gA0 (by decide) (n := 69) rfl) rfl ?_
      refine w_t (np := 1) (l2 := [some (eR a0), some (eI (5))]) (s2 := [eR a0]) rfl (s_an rfl (pos_g I6 gA0 (by decide))) rfl ?_
      refine w_t (np := 2) (l2 := [some (eR a0), some (eI (5))]) (s2 := [eI (0), eR a0]) rfl rfl rfl ?_
      refine j_pf (np := 5) (w := 0) rfl rfl I6 gA0 (by decide) (n := 69) rfl rfl (hO_i (lo := -2147483648) (hi := 2147483647) rfl (by decide)) ?_
      intro m17 I18 W19
      have F20 : Fr l_297 0 0 g μ m17 := F13.w W19 gA0 rfl
      have p21 : PK g m17 := PK.fr p14 (Fr.f W19 gA0) rfl
      refine w_t (np := 6) (l2 := [some (eR a0), some (eI (5))]) (s2 := [eR a0]) rfl (s_an rfl (pos_g I18 gA0 (by decide))) rfl ?_
      refine w_t (np := 7) (l2 := [some (eR a0), some (eI (5))]) (s2 := [eI (5), eR a0]) rfl rfl rfl ?_
      refine j_pf (np := 10) (w := 5) rfl rfl I18 gA0 (by decide) (n := 69) rfl rfl (hO_i (lo := -2147483648) (hi := 2147483647) rfl (by decide)) ?_
      intro m22 I23 W24
      have F25 : Fr l_297 0 0 g μ m22 := F20.w W24 gA0 rfl
      have p26 : PK g m22 := PK.fr p21 (Fr.f W24 gA0) rfl
      refine w_t (np := 11) (l2 := [some (eR a0), some (eI (5))]) (s2 := [eI (5)]) rfl rfl rfl ?_
      refine b_ine (t1 := 18) (t2 := 14) rfl rfl rfl rfl (fun g27 => ?_) (fun g27 => absurd g27 (by decide))
      refine w_t (np := 19) (l2 := [some (eR a0), some (eI (5))]) (s2 := [eI (0)]) rfl rfl rfl ?_
      refine b_rz rfl rfl (Or.inl rfl) ?_
      show ex_q (dt_fg L ρ) rc (d + 7, (297, 25, [some (eR a0), some (eI (a1))], [eI (0)]), f :: F, m22)
      refine b_ieq (t1 := 37) (t2 := 28) rfl rfl rfl rfl (fun g28 => ?_) (fun g28 => absurd g28 (by decide))
      refine w_t (np := 38) (l2 := [some (eR a0), some (eI (a1))]) (s2 := [eI (-1)]) rfl rfl rfl ?_
      exact b_ri rfl rfl (K m22 (-1) I23 F25 (by decide))
  · have b2 : -2147483648 ≤ a1 ∧ a1 ≤ -1 := by omega
    refine w_t (np := 6) (l2 := [some (eR a0), some (eI (a1))]) (s2 := [eI (1), eR a0]) rfl rfl rfl ?_
    refine w_go (t1 := 22) rfl rfl ?_
    refine w_cw (np := 25) (as := [eI (1)]) (l2 := [some (eR a0), some (eI (1))]) (rest := []) rfl rfl rfl (Nat.ble_eq.mp rfl) rfl rfl rfl (hI.kd gA0 (by decide) (n := 69) rfl) rfl ?_
    refine w_t (np := 1) (l2 := [some (eR a0), some (eI (1))]) (s2 := [eR a0]) rfl (s_an rfl (pos_g hI gA0 (by decide))) rfl ?_
    refine w_t (np := 2) (l2 := [some (eR a0), some (eI (1))]) (s2 := [eI (0), eR a0]) rfl rfl rfl ?_
    refine j_pf (np := 5) (w := 0) rfl rfl hI gA0 (by decide) (n := 69) rfl rfl (hO_i (lo := -2147483648) (hi := 2147483647) rfl (by decide)) ?_
    intro m2 I3 W4
    have F5 : Fr l_297 0 0 g μ m2 := F0.w W4 gA0 rfl
    have p6 : PK g m2 := PK.fr h_PK (Fr.f W4 gA0) rfl
    refine w_t (np := 6) (l2 := [some (eR a0), some (eI (1))]) (s2 := [eR a0]) rfl (s_an rfl (pos_g I3 gA0 (by decide))) rfl ?_
    refine w_t (np := 7) (l2 := [some (eR a0), some (eI (1))]) (s2 := [eI (1), eR a0]) rfl rfl rfl ?_
    refine j_pf (np := 10) (w := 1) rfl rfl I3 gA0 (by decide) (n := 69) rfl rfl (hO_i (lo := -2147483648) (hi := 2147483647) rfl (by decide)) ?_
    intro m7 I8 W9
    have F10 : Fr l_297 0 0 g μ m7 := F5.w W9 gA0 rfl
    have p11 : PK g m7 := PK.fr p6 (Fr.f W9 gA0) rfl
    refine w_t (np := 11) (l2 := [some (eR a0), some (eI (1))]) (s2 := [eI (1)]) rfl rfl rfl ?_
    refine b_ine (t1 := 18) (t2 := 14) rfl rfl rfl rfl (fun g12 => ?_) (fun g12 => absurd g12 (by decide))
    refine w_t (np := 19) (l2 := [some (eR a0), some (eI (1))]) (s2 := [eI (0)]) rfl rfl rfl ?_
    refine b_rz rfl rfl (Or.inl rfl) ?_
    show ex_q (dt_fg L ρ) rc (d + 7, (297, 25, [some (eR a0), some (eI (a1))], [eI (0)]), f :: F, m7)
    refine b_ieq (t1 := 37) (t2 := 28) rfl rfl rfl rfl (fun g13 => ?_) (fun g13 => absurd g13 (by decide))
    refine w_t (np := 38) (l2 := [some (eR a0), some (eI (a1))]) (s2 := [eI (-1)]) rfl rfl rfl ?_
    exact b_ri rfl rfl (K m7 (-1) I8 F10 (by decide))
def l_298 : List Nat := [13313, 13314, 13347, 13348, 18688, 18432, 17920, 18176]
theorem s_298 {L : Nat} {ρ : Nat → Int} {rc : eQ} {d : Nat} {f : eFr} {F : List eFr} {μ : eM} {g : Nat → Nat} {a0 : Nat} {a1 : Int} (hI : SI g μ) (gA0 : g a0 = 52) (bA1 : -2147483648 ≤ a1 ∧ a1 ≤ 2147483647) (h_PK : PK g μ) (K : ∀ (μ2 : eM) (v : Int), SI g μ2 → Fr l_298 0 0 g μ μ2 → (-2147483648 ≤ v ∧ v ≤ 2147483647) → ex_q (dt_fg L ρ) rc (d + 7, (f.1, f.2.1, f.2.2.1, eI v :: f.2.2.2), F, μ2)) : ex_q (dt_fg L ρ) rc (d + 6, (298, 0, [some (eR a0), some (eI (a1)), none, none], []), f :: F, μ) := by
  have F0 : Fr l_298 0 0 g μ μ := Fr.r
  refine w_t (np := 1) (l2 := [some (eR a0), some (eI (a1)), none, none]) (s2 := [eR a0]) rfl (s_an rfl (pos_g hI gA0 (by decide))) rfl ?_
  refine w_t (np := 2) (l2 := [some (eR a0), some (eI (a1)), none, none]) (s2 := [eI (a1), eR a0]) rfl rfl rfl ?_
  refine b_ige (t1 := 9) (t2 := 5) rfl rfl rfl (ev_w_in (by omega) (by omega)) (fun g1 => ?_) (fun g1 => ?_)
  · have b2 : 0 ≤ a1 ∧ a1 ≤ 2147483647 := by omega
    refine w_t (np := 10) (l2 := [some (eR a0), some (eI (a1)), none, none]) (s2 := [eI (0), eR a0]) rfl rfl rfl ?_
    refine w_cw (np := 13) (as := [eI (0)]) (l2 := [some (eR a0), some (eI (0))]) (rest := []) rfl rfl rfl (Nat.ble_eq.mp rfl) rfl rfl rfl (hI.kd gA0 (by decide) (n := 69) rfl) rfl ?_
    refine w_t (np := 1) (l2 := [some (eR a0), some (eI (0))]) (s2 := [eR a0]) rfl (s_an rfl (pos_g hI gA0 (by decide))) rfl ?_
    refine w_t (np := 2) (l2 := [some (eR a0), some (eI (0))]) (s2 := [eI (0), eR a0]) rfl rfl rfl ?_
    refine j_pf (np := 5) (w := 0) rfl rfl hI gA0 (by decide) (n := 69) rfl rfl (hO_i (lo := -2147483648) (hi := 2147483647) rfl (by decide)) ?_
    intro m2 I3 W4
    have F5 : Fr l_298 0 0 g μ m2 := F0.w W4 gA0 rfl
    have p6 : PK g m2 := PK.fr h_PK (Fr.f W4 gA0) rfl
    refine w_t (np := 6) (l2 := [some (eR a0), some (eI (0))]) (s2 := [eR a0]) rfl (s_an rfl (pos_g I3 gA0 (by decide))) rfl ?_
    refine w_t (np := 7) (l2 := [some (eR a0), some (eI (0))]) (s2 := [eI (0), eR a0]) rfl rfl rfl ?_
    refine j_pf (np := 10) (w := 0) rfl rfl I3 gA0 (by decide) (n := 69) rfl rfl (hO_i (lo := -2147483648) (hi := 2147483647) rfl (by decide)) ?_
    intro m7 I8 W9
    have F10 : Fr l_298 0 0 g μ m7 := F5.w W9 gA0 rfl
    have p11 : PK g m7 := PK.fr p6 (Fr.f W9 gA0) rfl
    refine w_t (np := 11) (l2 := [some (eR a0), some (eI (0))]) (s2 := [eI (0)]) rfl rfl rfl ?_
    refine b_ine (t1 := 18) (t2 := 14) rfl rfl rfl rfl (fun g12 => absurd g12 (by decide)) (fun g12 => ?_)
    refine w_t (np := 15) (l2 := [some (eR a0), some (eI (0))]) (s2 := [eI (1)]) rfl rfl rfl ?_
    refine w_go (t1 := 19) rfl rfl ?_
    refine b_rz rfl rfl (Or.inr rfl) ?_
    show ex_q (dt_fg L ρ) rc (d + 6, (298, 13, [some (eR a0), some (eI (a1)), none, none], [eI (1)]), f :: F, m7)
    refine b_ine (t1 := 18) (t2 := 16) rfl rfl rfl rfl (fun g13 => ?_) (fun g13 => absurd g13 (by decide))
    refine w_t (np := 19) (l2 := [some (eR a0), some (eI (a1)), none, none]) (s2 := [eR a0]) rfl (s_an rfl (pos_g I8 gA0 (by decide))) rfl ?_
    refine w_cw (np := 22) (as := []) (l2 := [some (eR a0), none, none, none, none]) (rest := []) rfl rfl rfl (Nat.ble_eq.mp rfl) rfl rfl rfl (I8.kd gA0 (by decide) (n := 69) rfl) rfl ?_
    obtain ⟨v14, e15, b16⟩ := I8.pk (k := 28) gA0 (by decide) (n := 69) rfl rfl (lo := 0) (hi := 2670) rfl
    refine s_254 I8 gA0 e15 p11 ?_
    intro m17 v20 I18 F19 e21 h22
    have F23 : Fr l_298 0 0 g μ m17 := F10.t F19 rfl
    have p24 : PK g m17 := PK.fr p11 F19 rfl
    have b25 : 0 ≤ v20 ∧ v20 ≤ 2670 := by
      rw [← e21]
      exact I18.int gA0 (by decide) (n := 69) rfl (by decide) rfl
    show ex_q (dt_fg L ρ) rc (d + 6, (298, 22, [some (eR a0), some (eI (a1)), none, none], []), f :: F, m17)
    refine w_t (np := 23) (l2 := [some (eR a0), some (eI (a1)), none, none]) (s2 := [eI (0)]) rfl rfl rfl ?_
    refine w_t (np := 24) (l2 := [some (eR a0), some (eI (a1)), some (eI (0)), none]) (s2 := []) rfl rfl rfl ?_
    refine w_t (np := 25) (l2 := [some (eR a0), some (eI (a1)), some (eI (0)), none]) (s2 := [eI (0)]) rfl rfl rfl ?_
    refine w_t (np := 26) (l2 := [some (eR a0), some (eI (a1)), some (eI (0)), some (eI (0))]) (s2 := []) rfl rfl rfl ?_
    have hL26 : ∀ (n26 : Nat) (m32 : eM) (i28 : Int) (i30 : Int), SI g m32 → Fr l_298 0 0 g μ m32 → (0 ≤ i28 ∧ i28 ≤ 2670) → (0 ≤ i30 ∧ i30 ≤ 2670) → m32.1 a0 1 = 0 → m32.1 a0 0 = 0 → m32.1 a0 28 = v20 → PK g m32 → i28 ≤ i30 → n26 = (2670 - i30).toNat → ex_q (dt_fg L ρ) rc (d + 6, (298, 26, [some (eR a0), some (eI (a1)), some (eI (i28)), some (eI (i30))], []), f :: F, m32) := by
      intro n26
      induction n26 using Nat.strongRecOn with
      | _ n26 ih27 =>
      intro m32 i28 i30 I33 F34 b29 b31 k35 k36 k37 p38 r39 hn40
      refine w_t (np := 27) (l2 := [some (eR a0), some (eI (a1)), some (eI (i28)), some (eI (i30))]) (s2 := [eI (i30)]) rfl rfl rfl ?_
      refine w_t (np := 28) (l2 := [some (eR a0), some (eI (a1)), some (eI (i28)), some (eI (i30))]) (s2 := [eR a0, eI (i30)]) rfl (s_an rfl (pos_g I33 gA0 (by decide))) rfl ?_
      refine w_gf (np := 31) (v := eI (v20)) rfl rfl (I33.kd gA0 (by decide) (n := 69) rfl) (by rw [k37]; rfl) ?_
      refine b_cge (t1 := 58) (t2 := 34) rfl rfl rfl (ev_w_in (by omega) (by omega)) (ev_w_in (by omega) (by omega)) (fun g41 => ?_) (fun g41 => ?_)
      · refine w_t (np := 59) (l2 := [some (eR a0), some (eI (a1)), some (eI (i28)), some (eI (i30))]) (s2 := [eI (i28)]) rfl rfl rfl ?_
        exact b_ri rfl rfl (K m32 (i28) I33 F34 (by omega))
      · have b42 : 0 ≤ i30 ∧ i30 ≤ 2669 := by omega
        have b43 : 1 ≤ v20 ∧ v20 ≤ 2670 := by omega
        refine w_t (np := 35) (l2 := [some (eR a0), some (eI (a1)), some (eI (i28)), some (eI (i30))]) (s2 := [eI (i28)]) rfl rfl rfl ?_
        refine w_t (np := 36) (l2 := [some (eR a0), some (eI (a1)), some (eI (i28)), some (eI (i30))]) (s2 := [eR a0, eI (i28)]) rfl (s_an rfl (pos_g I33 gA0 (by decide))) rfl ?_
        refine j_gr (np := 39) rfl rfl I33 gA0 (by decide) (n := 69) rfl rfl rfl ?_
        intro v42 e43 b44 z45
        have b44 : g v42 = 72 := Nat.eq_of_beq_eq_true b44
        refine w_t (np := 40) (l2 := [some (eR a0), some (eI (a1)), some (eI (i28)), some (eI (i30))]) (s2 := [eI (i30), eR v42, eI (i28)]) rfl rfl rfl ?_
        refine j_al (np := 41) rfl rfl I33 b44 (by decide) (n := 2670) rfl rfl (lo := -2147483648) (hi := 2147483647) (fun _ => rfl) (by omega) (by omega) ?_
        intro v46 e47 b48
        refine w_t (np := 42) (l2 := [some (eR a0), some (eI (a1)), some (eI (i28)), some (eI (i30))]) (s2 := [eI (a1), eI (v46), eI (i28)]) rfl rfl rfl ?_
        refine b_cne (t1 := 49) (t2 := 45) rfl rfl rfl (ev_w_in (by omega) (by omega)) (ev_w_in (by omega) (by omega)) (fun g49 => ?_) (fun g49 => ?_)
        · refine w_t (np := 50) (l2 := [some (eR a0), some (eI (a1)), some (eI (i28)), some (eI (i30))]) (s2 := [eI (0), eI (i28)]) rfl rfl rfl ?_
          refine w_t (np := 51) (l2 := [some (eR a0), some (eI (a1)), some (eI (i28)), some (eI (i30))]) (s2 := [eI (i28)]) rfl (b_iadd (by rw [Int.add_zero]; exact ev_w_in (by omega) (by omega))) rfl ?_
          refine w_t (np := 52) (l2 := [some (eR a0), some (eI (a1)), some (eI (i28)), some (eI (i30))]) (s2 := []) rfl rfl rfl ?_
          obtain ⟨v50, e51⟩ : ∃ zz : Int, zz = (i30) + (1) := ⟨_, rfl⟩
          have b52 : 1 ≤ v50 ∧ v50 ≤ 2670 := by omega
          refine w_t (np := 55) (l2 := [some (eR a0), some (eI (a1)), some (eI (i28)), some (eI (v50))]) (s2 := []) rfl (b_iinc rfl (by rw [← e51]; exact ev_w_in (by omega) (by omega)) rfl) rfl ?_
          refine w_go (t1 := 26) rfl rfl ?_
          exact ih27 (2670 - (v50)).toNat (by omega) m32 (i28) (v50) I33 F34 (by omega) (by omega) k35 k36 k37  p38 (by omega) rfl
        · have b50 : 0 ≤ v46 ∧ v46 ≤ 2147483647 := by omega
          refine w_t (np := 46) (l2 := [some (eR a0), some (eI (a1)), some (eI (i28)), some (eI (i30))]) (s2 := [eI (1), eI (i28)]) rfl rfl rfl ?_
          refine w_go (t1 := 50) rfl rfl ?_
          obtain ⟨v50, e51⟩ : ∃ zz : Int, zz = (i28) + (1) := ⟨_, rfl⟩
          have b52 : 1 ≤ v50 ∧ v50 ≤ 2671 := by omega
          refine w_t (np := 51) (l2 := [some (eR a0), some (eI (a1)), some (eI (i28)), some (eI (i30))]) (s2 := [eI (v50)]) rfl (b_iadd (by rw [← e51]; exact ev_w_in (by omega) (by omega))) rfl ?_
          refine w_t (np := 52) (l2 := [some (eR a0), some (eI (a1)), some (eI (v50)), some (eI (i30))]) (s2 := []) rfl rfl rfl ?_
          obtain ⟨v53, e54⟩ : ∃ zz : Int, zz = (i30) + (1) := ⟨_, rfl⟩
          have b55 : 1 ≤ v53 ∧ v53 ≤ 2670 := by omega
          refine w_t (np := 55) (l2 := [some (eR a0), some (eI (a1)), some (eI (v50)), some (eI (v53))]) (s2 := []) rfl (b_iinc rfl (by rw [← e54]; exact ev_w_in (by omega) (by omega)) rfl) rfl ?_
          refine w_go (t1 := 26) rfl rfl ?_
          exact ih27 (2670 - (v53)).toNat (by omega) m32 (v50) (v53) I33 F34 (by omega) (by omega) k35 k36 k37  p38 (by omega) rfl
    exact hL26 _ m17 (0) (0) I18 F23 (by decide) (by decide) (F19.k (W9.slot W4.at (by decide)) gA0 (by decide) rfl) (F19.k W9.at gA0 (by decide) rfl) e21  p24 (by omega) rfl
  · have b2 : -2147483648 ≤ a1 ∧ a1 ≤ -1 := by omega
    refine w_t (np := 6) (l2 := [some (eR a0), some (eI (a1)), none, none]) (s2 := [eI (1), eR a0]) rfl rfl rfl ?_
    refine w_go (t1 := 10) rfl rfl ?_
    refine w_cw (np := 13) (as := [eI (1)]) (l2 := [some (eR a0), some (eI (1))]) (rest := []) rfl rfl rfl (Nat.ble_eq.mp rfl) rfl rfl rfl (hI.kd gA0 (by decide) (n := 69) rfl) rfl ?_
    refine w_t (np := 1) (l2 := [some (eR a0), some (eI (1))]) (s2 := [eR a0]) rfl (s_an rfl (pos_g hI gA0 (by decide))) rfl ?_
    refine w_t (np := 2) (l2 := [some (eR a0), some (eI (1))]) (s2 := [eI (0), eR a0]) rfl rfl rfl ?_
    refine j_pf (np := 5) (w := 0) rfl rfl hI gA0 (by decide) (n := 69) rfl rfl (hO_i (lo := -2147483648) (hi := 2147483647) rfl (by decide)) ?_
    intro m2 I3 W4
    have F5 : Fr l_298 0 0 g μ m2 := F0.w W4 gA0 rfl
    have p6 : PK g m2 := PK.fr h_PK (Fr.f W4 gA0) rfl
    refine w_t (np := 6) (l2 := [some (eR a0), some (eI (1))]) (s2 := [eR a0]) rfl (s_an rfl (pos_g I3 gA0 (by decide))) rfl ?_
    refine w_t (np := 7) (l2 := [some (eR a0), some (eI (1))]) (s2 := [eI (1), eR a0]) rfl rfl rfl ?_
    refine j_pf (np := 10) (w := 1) rfl rfl I3 gA0 (by decide) (n := 69) rfl rfl (hO_i (lo := -2147483648) (hi := 2147483647) rfl (by decide)) ?_
    intro m7 I8 W9
    have F10 : Fr l_298 0 0 g μ m7 := F5.w W9 gA0 rfl
    have p11 : PK g m7 := PK.fr p6 (Fr.f W9 gA0) rfl
    refine w_t (np := 11) (l2 := [some (eR a0), some (eI (1))]) (s2 := [eI (1)]) rfl rfl rfl ?_
    refine b_ine (t1 := 18) (t2 := 14) rfl rfl rfl rfl (fun g12 => ?_) (fun g12 => absurd g12 (by decide))
    refine w_t (np := 19) (l2 := [some (eR a0), some (eI (1))]) (s2 := [eI (0)]) rfl rfl rfl ?_
    refine b_rz rfl rfl (Or.inl rfl) ?_
    show ex_q (dt_fg L ρ) rc (d + 6, (298, 13, [some (eR a0), some (eI (a1)), none, none], [eI (0)]), f :: F, m7)
    refine b_ine (t1 := 18) (t2 := 16) rfl rfl rfl rfl (fun g13 => absurd g13 (by decide)) (fun g13 => ?_)
    refine w_t (np := 17) (l2 := [some (eR a0), some (eI (a1)), none, none]) (s2 := [eI (-1)]) rfl rfl rfl ?_
    exact b_ri rfl rfl (K m7 (-1) I8 F10 (by decide))
def l_299 : List Nat := [17920, 18176]
theorem s_299 {L : Nat} {ρ : Nat → Int} {rc : eQ} {d : Nat} {f : eFr} {F : List eFr} {μ : eM} {g : Nat → Nat} {a0 : Nat} {a1 : Int} {po : Int} (hI : SI g μ) (gA0 : g a0 = 52) (bA1 : -2147483648 ≤ a1 ∧ a1 ≤ 2147483647) (h_po : μ.1 a0 28 = po) (h_PK : PK g μ) (K : ∀ (μ2 : eM) (v : Int) (po2 : Int), SI g μ2 → Fr l_299 0 0 g μ μ2 → (0 ≤ v ∧ v ≤ 1) → μ2.1 a0 28 = po2 → ex_q (dt_fg L ρ) rc (d + 6, (f.1, f.2.1, f.2.2.1, eI v :: f.2.2.2), F, μ2)) : ex_q (dt_fg L ρ) rc (d + 5, (299, 0, [some (eR a0), some (eI (a1)), none], []), f :: F, μ) := by
  have F0 : Fr l_299 0 0 g μ μ := Fr.r
  have b_po : 0 ≤ po ∧ po ≤ 2670 := by
    rw [← h_po]
    exact hI.int gA0 (by decide) (n := 69) rfl (by decide) rfl
  refine w_t (np := 1) (l2 := [some (eR a0), some (eI (a1)), none]) (s2 := [eI (0)]) rfl rfl rfl ?_
  refine w_t (np := 2) (l2 := [some (eR a0), some (eI (a1)), some (eI (0))]) (s2 := []) rfl rfl rfl ?_
  have hL2 : ∀ (n1 : Nat) (m5 : eM) (i3 : Int) (x8 : Int), SI g m5 → Fr l_299 0 0 g μ m5 → (0 ≤ i3 ∧ i3 ≤ 2670) → m5.1 a0 28 = x8 → (0 ≤ x8 ∧ x8 ≤ 2670) → PK g m5 → x8 = po → n1 = (2670 - i3).toNat → ex_q (dt_fg L ρ) rc (d + 5, (299, 2, [some (eR a0), some (eI (a1)), some (eI (i3))], []), f :: F, m5) := by
    intro n1
    induction n1 using Nat.strongRecOn with
    | _ n1 ih2 =>
    intro m5 i3 x8 I6 F7 b4 h9 b10 p11 r12 hn13
    refine w_t (np := 3) (l2 := [some (eR a0), some (eI (a1)), some (eI (i3))]) (s2 := [eI (i3)]) rfl rfl rfl ?_
    refine w_t (np := 4) (l2 := [some (eR a0), some (eI (a1)), some (eI (i3))]) (s2 := [eR a0, eI (i3)]) rfl (s_an rfl (pos_g I6 gA0 (by decide))) rfl ?_
    refine w_gf (np := 7) (v := eI (x8)) rfl rfl (I6.kd gA0 (by decide) (n := 69) rfl) (by rw [h9]; rfl) ?_
    refine b_cge (t1 := 27) (t2 := 10) rfl rfl rfl (ev_w_in (by omega) (by omega)) (ev_w_in (by omega) (by omega)) (fun g14 => ?_) (fun g14 => ?_)
    · refine w_t (np := 28) (l2 := [some (eR a0), some (eI (a1)), some (eI (i3))]) (s2 := [eI (0)]) rfl rfl rfl ?_
      exact b_rz rfl rfl (Or.inl rfl) (K m5 (0) (x8) I6 F7 (by decide) h9)
    · have b15 : 0 ≤ i3 ∧ i3 ≤ 2669 := by omega
      have b16 : 1 ≤ x8 ∧ x8 ≤ 2670 := by omega
      refine w_t (np := 11) (l2 := [some (eR a0), some (eI (a1)), some (eI (i3))]) (s2 := [eR a0]) rfl (s_an rfl (pos_g I6 gA0 (by decide))) rfl ?_
      refine w_t (np := 12) (l2 := [some (eR a0), some (eI (a1)), some (eI (i3))]) (s2 := [eI (i3), eR a0]) rfl rfl rfl ?_
      refine w_cw (np := 15) (as := [eI (i3)]) (l2 := [some (eR a0), some (eI (i3)), none, none, none]) (rest := []) rfl rfl rfl (Nat.ble_eq.mp rfl) rfl rfl rfl (I6.kd gA0 (by decide) (n := 69) rfl) rfl ?_
      refine s_253w (a1 := i3) I6 gA0 (by omega) h9 p11 (by omega) ?_
      intro m15 v18 v20 I16 F17 b19 e21 h22
      have F23 : Fr l_299 0 0 g μ m15 := F7.t F17 rfl
      have p24 : PK g m15 := PK.fr p11 F17 rfl
      have b25 : 0 ≤ v20 ∧ v20 ≤ 2670 := by
        rw [← e21]
        exact I16.int gA0 (by decide) (n := 69) rfl (by decide) rfl
      show ex_q (dt_fg L ρ) rc (d + 5, (299, 15, [some (eR a0), some (eI (a1)), some (eI (i3))], [eI (v18)]), f :: F, m15)
      refine w_t (np := 16) (l2 := [some (eR a0), some (eI (a1)), some (eI (i3))]) (s2 := [eI (a1), eI (v18)]) rfl rfl rfl ?_
      refine b_cne (t1 := 21) (t2 := 19) rfl rfl rfl (ev_w_in (by omega) (by omega)) (ev_w_in (by omega) (by omega)) (fun g26 => ?_) (fun g26 => ?_)
      · obtain ⟨v27, e28⟩ : ∃ zz : Int, zz = (i3) + (1) := ⟨_, rfl⟩
        have b29 : 1 ≤ v27 ∧ v27 ≤ 2670 := by omega
        refine w_t (np := 24) (l2 := [some (eR a0), some (eI (a1)), some (eI (v27))]) (s2 := []) rfl (b_iinc rfl (by rw [← e28]; exact ev_w_in (by omega) (by omega)) rfl) rfl ?_
        refine w_go (t1 := 2) rfl rfl ?_
        exact ih2 (2670 - (v27)).toNat (by omega) m15 (v27) (v20) I16 F23 (by omega)  e21 (by omega) p24 (by omega) rfl
      · refine w_t (np := 20) (l2 := [some (eR a0), some (eI (a1)), some (eI (i3))]) (s2 := [eI (1)]) rfl rfl rfl ?_
        exact b_rz rfl rfl (Or.inr rfl) (K m15 (1) (v20) I16 F23 (by decide) e21)
  exact hL2 _ μ (0) (po) hI F0 (by decide)  h_po (by omega) h_PK (by omega) rfl
def l_300 : List Nat := [13313, 13314, 13331, 13315, 13333, 13341, 13342, 13316, 13348, 13317, 13318, 13319, 13320, 13321, 15360, 16640, 13824, 15104, 14848, 15872, 14336, 17408, 17664, 13568, 17152, 14080, 15616, 14592, 16384, 17920, 16128, 16896, 18176]
theorem s_300 {L : Nat} {ρ : Nat → Int} {rc : eQ} {d : Nat} {f : eFr} {F : List eFr} {μ : eM} {g : Nat → Nat} {a0 : Nat} {a1 : Int} {a2 : Int} (hI : SI g μ) (gA0 : g a0 = 52) (bA1 : -2147483648 ≤ a1 ∧ a1 ≤ 2147483647) (bA2 : -2147483648 ≤ a2 ∧ a2 ≤ 2147483647) (h_PB : PB g μ) (h_PK : PK g μ) (h_LG : LG g μ) (h_MT : MT g μ) (h_LB : LB g μ) (h_FS : FS g μ) (h_PO : PO g μ) (h_SP : SP g μ) (K : ∀ (μ2 : eM) (v : Int), SI g μ2 → Fr l_300 0 0 g μ μ2 → (-2147483648 ≤ v ∧ v ≤ 2147483647) → PB g μ2 → PK g μ2 → LG g μ2 → MT g μ2 → LB g μ2 → FS g μ2 → PO g μ2 → SP g μ2 → ex_q (dt_fg L ρ) rc (d + 7, (f.1, f.2.1, f.2.2.1, eI v :: f.2.2.2), F, μ2)) : ex_q (dt_fg L ρ) rc (d + 6, (300, 0, [some (eR a0), some (eI (a1)), some (eI (a2)), none, none, none, none], []), f :: F, μ) := by
  have F0 : Fr l_300 0 0 g μ μ := Fr.r
  refine w_t (np := 1) (l2 := [some (eR a0), some (eI (a1)), some (eI (a2)), none, none, none, none]) (s2 := [eR a0]) rfl (s_an rfl (pos_g hI gA0 (by decide))) rfl ?_
  refine w_t (np := 2) (l2 := [some (eR a0), some (eI (a1)), some (eI (a2)), none, none, none, none]) (s2 := [eI (a1), eR a0]) rfl rfl rfl ?_
  refine w_t (np := 3) (l2 := [some (eR a0), some (eI (a1)), some (eI (a2)), none, none, none, none]) (s2 := [eI (0), eI (a1), eR a0]) rfl rfl rfl ?_
  refine w_t (np := 4) (l2 := [some (eR a0), some (eI (a1)), some (eI (a2)), none, none, none, none]) (s2 := [eI (3), eI (0), eI (a1), eR a0]) rfl rfl rfl ?_
  refine w_cu (np := 7) (as := [eI (a1), eI (0), eI (3)]) (l2 := [some (eI (a1)), some (eI (0)), some (eI (3))]) (rest := [eR a0]) rfl rfl rfl (Nat.ble_eq.mp rfl) rfl rfl rfl rfl ?_
  refine w_t (np := 1) (l2 := [some (eI (a1)), some (eI (0)), some (eI (3))]) (s2 := [eI (a1)]) rfl rfl rfl ?_
  refine w_t (np := 2) (l2 := [some (eI (a1)), some (eI (0)), some (eI (3))]) (s2 := [eI (0), eI (a1)]) rfl rfl rfl ?_
  refine b_clt (t1 := 14) (t2 := 5) rfl rfl rfl (ev_w_in (by omega) (by omega)) rfl (fun g1 => ?_) (fun g1 => ?_)
  · have b2 : -2147483648 ≤ a1 ∧ a1 ≤ -1 := by omega
    refine w_t (np := 15) (l2 := [some (eI (a1)), some (eI (0)), some (eI (3))]) (s2 := [eI (0)]) rfl rfl rfl ?_
    refine b_rz rfl rfl (Or.inl rfl) ?_
    show ex_q (dt_fg L ρ) rc (d + 6, (300, 7, [some (eR a0), some (eI (a1)), some (eI (a2)), none, none, none, none], [eI (0), eR a0]), f :: F, μ)
    refine b_ieq (t1 := 14) (t2 := 10) rfl rfl rfl rfl (fun g2 => ?_) (fun g2 => absurd g2 (by decide))
    refine w_t (np := 15) (l2 := [some (eR a0), some (eI (a1)), some (eI (a2)), none, none, none, none]) (s2 := [eI (1), eR a0]) rfl rfl rfl ?_
    refine w_go (t1 := 19) rfl rfl ?_
    refine w_cw (np := 22) (as := [eI (1)]) (l2 := [some (eR a0), some (eI (1))]) (rest := []) rfl rfl rfl (Nat.ble_eq.mp rfl) rfl rfl rfl (hI.kd gA0 (by decide) (n := 69) rfl) rfl ?_
    refine w_t (np := 1) (l2 := [some (eR a0), some (eI (1))]) (s2 := [eR a0]) rfl (s_an rfl (pos_g hI gA0 (by decide))) rfl ?_
    refine w_t (np := 2) (l2 := [some (eR a0), some (eI (1))]) (s2 := [eI (0), eR a0]) rfl rfl rfl ?_
    refine j_pf (np := 5) (w := 0) rfl rfl hI gA0 (by decide) (n := 69) rfl rfl (hO_i (lo := -2147483648) (hi := 2147483647) rfl (by decide)) ?_
    intro m3 I4 W5
    have F6 : Fr l_300 0 0 g μ m3 := F0.w W5 gA0 rfl
    have p7 : PB g m3 := PB.fr h_PB (Fr.f W5 gA0) rfl
    have p8 : PK g m3 := PK.fr h_PK (Fr.f W5 gA0) rfl
    have p9 : LG g m3 := LG.fr h_LG (Fr.f W5 gA0) rfl
    have p10 : MT g m3 := MT.fr h_MT (Fr.f W5 gA0) rfl
    have p11 : LB g m3 := LB.fr h_LB (Fr.f W5 gA0) rfl
    have p12 : FS g m3 := FS.fr h_FS (Fr.f W5 gA0) rfl
    have p13 : PO g m3 := PO.fr h_PO (Fr.f W5 gA0) rfl
    have p14 : SP g m3 := SP.fr h_SP (Fr.f W5 gA0) rfl
    refine w_t (np := 6) (l2 := [some (eR a0), some (eI (1))]) (s2 := [eR a0]) rfl (s_an rfl (pos_g I4 gA0 (by decide))) rfl ?_
    refine w_t (np := 7) (l2 := [some (eR a0), some (eI (1))]) (s2 := [eI (1), eR a0]) rfl rfl rfl ?_
    refine j_pf (np := 10) (w := 1) rfl rfl I4 gA0 (by decide) (n := 69) rfl rfl (hO_i (lo := -2147483648) (hi := 2147483647) rfl (by decide)) ?_
    intro m15 I16 W17
    have F18 : Fr l_300 0 0 g μ m15 := F6.w W17 gA0 rfl
    have p19 : PB g m15 := PB.fr p7 (Fr.f W17 gA0) rfl
    have p20 : PK g m15 := PK.fr p8 (Fr.f W17 gA0) rfl
    have p21 : LG g m15 := LG.fr p9 (Fr.f W17 gA0) rfl
    have p22 : MT g m15 := MT.fr p10 (Fr.f W17 gA0) rfl
    have p23 : LB g m15 := LB.fr p11 (Fr.f W17 gA0) rfl
    have p24 : FS g m15 := FS.fr p12 (Fr.f W17 gA0) rfl
    have p25 : PO g m15 := PO.fr p13 (Fr.f W17 gA0) rfl
    have p26 : SP g m15 := SP.fr p14 (Fr.f W17 gA0) rfl
    refine w_t (np := 11) (l2 := [some (eR a0), some (eI (1))]) (s2 := [eI (1)]) rfl rfl rfl ?_
    refine b_ine (t1 := 18) (t2 := 14) rfl rfl rfl rfl (fun g27 => ?_) (fun g27 => absurd g27 (by decide))
    refine w_t (np := 19) (l2 := [some (eR a0), some (eI (1))]) (s2 := [eI (0)]) rfl rfl rfl ?_
    refine b_rz rfl rfl (Or.inl rfl) ?_
    show ex_q (dt_fg L ρ) rc (d + 6, (300, 22, [some (eR a0), some (eI (a1)), some (eI (a2)), none, none, none, none], [eI (0)]), f :: F, m15)
    refine b_ine (t1 := 27) (t2 := 25) rfl rfl rfl rfl (fun g28 => absurd g28 (by decide)) (fun g28 => ?_)
    refine w_t (np := 26) (l2 := [some (eR a0), some (eI (a1)), some (eI (a2)), none, none, none, none]) (s2 := [eI (-1)]) rfl rfl rfl ?_
    exact b_ri rfl rfl (K m15 (-1) I16 F18 (by decide) p19 p20 p21 p22 p23 p24 p25 p26)
  · have b2 : 0 ≤ a1 ∧ a1 ≤ 2147483647 := by omega
    refine w_t (np := 6) (l2 := [some (eI (a1)), some (eI (0)), some (eI (3))]) (s2 := [eI (a1)]) rfl rfl rfl ?_
    refine w_t (np := 7) (l2 := [some (eI (a1)), some (eI (0)), some (eI (3))]) (s2 := [eI (3), eI (a1)]) rfl rfl rfl ?_
    refine b_cgt (t1 := 14) (t2 := 10) rfl rfl rfl (ev_w_in (by omega) (by omega)) rfl (fun g2 => ?_) (fun g2 => ?_)
    · have b3 : 4 ≤ a1 ∧ a1 ≤ 2147483647 := by omega
      refine w_t (np := 15) (l2 := [some (eI (a1)), some (eI (0)), some (eI (3))]) (s2 := [eI (0)]) rfl rfl rfl ?_
      refine b_rz rfl rfl (Or.inl rfl) ?_
      show ex_q (dt_fg L ρ) rc (d + 6, (300, 7, [some (eR a0), some (eI (a1)), some (eI (a2)), none, none, none, none], [eI (0), eR a0]), f :: F, μ)
      refine b_ieq (t1 := 14) (t2 := 10) rfl rfl rfl rfl (fun g3 => ?_) (fun g3 => absurd g3 (by decide))
      refine w_t (np := 15) (l2 := [some (eR a0), some (eI (a1)), some (eI (a2)), none, none, none, none]) (s2 := [eI (1), eR a0]) rfl rfl rfl ?_
      refine w_go (t1 := 19) rfl rfl ?_
      refine w_cw (np := 22) (as := [eI (1)]) (l2 := [some (eR a0), some (eI (1))]) (rest := []) rfl rfl rfl (Nat.ble_eq.mp rfl) rfl rfl rfl (hI.kd gA0 (by decide) (n := 69) rfl) rfl ?_
      refine w_t (np := 1) (l2 := [some (eR a0), some (eI (1))]) (s2 := [eR a0]) rfl (s_an rfl (pos_g hI gA0 (by decide))) rfl ?_
      refine w_t (np := 2) (l2 := [some (eR a0), some (eI (1))]) (s2 := [eI (0), eR a0]) rfl rfl rfl ?_
      refine j_pf (np := 5) (w := 0) rfl rfl hI gA0 (by decide) (n := 69) rfl rfl (hO_i (lo := -2147483648) (hi := 2147483647) rfl (by decide)) ?_
      intro m4 I5 W6
      have F7 : Fr l_300 0 0 g μ m4 := F0.w W6 gA0 rfl
      have p8 : PB g m4 := PB.fr h_PB (Fr.f W6 gA0) rfl
      have p9 : PK g m4 := PK.fr h_PK (Fr.f W6 gA0) rfl
      have p10 : LG g m4 := LG.fr h_LG (Fr.f W6 gA0) rfl
      have p11 : MT g m4 := MT.fr h_MT (Fr.f W6 gA0) rfl
      have p12 : LB g m4 := LB.fr h_LB (Fr.f W6 gA0) rfl
      have p13 : FS g m4 := FS.fr h_FS (Fr.f W6 gA0) rfl
      have p14 : PO g m4 := PO.fr h_PO (Fr.f W6 gA0) rfl
      have p15 : SP g m4 := SP.fr h_SP (Fr.f W6 gA0) rfl
      refine w_t (np := 6) (l2 := [some (eR a0), some (eI (1))]) (s2 := [eR a0]) rfl (s_an rfl (pos_g I5 gA0 (by decide))) rfl ?_
      refine w_t (np := 7) (l2 := [some (eR a0), some (eI (1))]) (s2 := [eI (1), eR a0]) rfl rfl rfl ?_
      refine j_pf (np := 10) (w := 1) rfl rfl I5 gA0 (by decide) (n := 69) rfl rfl (hO_i (lo := -2147483648) (hi := 2147483647) rfl (by decide)) ?_
      intro m16 I17 W18
      have F19 : Fr l_300 0 0 g μ m16 := F7.w W18 gA0 rfl
      have p20 : PB g m16 := PB.fr p8 (Fr.f W18 gA0) rfl
      have p21 : PK g m16 := PK.fr p9 (Fr.f W18 gA0) rfl
      have p22 : LG g m16 := LG.fr p10 (Fr.f W18 gA0) rfl
      have p23 : MT g m16 := MT.fr p11 (Fr.f W18 gA0) rfl
      have p24 : LB g m16 := LB.fr p12 (Fr.f W18 gA0) rfl
      have p25 : FS g m16 := FS.fr p13 (Fr.f W18 gA0) rfl
      have p26 : PO g m16 := PO.fr p14 (Fr.f W18 gA0) rfl
      have p27 : SP g m16 := SP.fr p15 (Fr.f W18 gA0) rfl
      refine w_t (np := 11) (l2 := [some (eR a0), some (eI (1))]) (s2 := [eI (1)]) rfl rfl rfl ?_
      refine b_ine (t1 := 18) (t2 := 14) rfl rfl rfl rfl (fun g28 => ?_) (fun g28 => absurd g28 (by decide))
      refine w_t (np := 19) (l2 := [some (eR a0), some (eI (1))]) (s2 := [eI (0)]) rfl rfl rfl ?_
      refine b_rz rfl rfl (Or.inl rfl) ?_
      show ex_q (dt_fg L ρ) rc (d + 6, (300, 22, [some (eR a0), some (eI (a1)), some (eI (a2)), none, none, none, none], [eI (0)]), f :: F, m16)
      refine b_ine (t1 := 27) (t2 := 25) rfl rfl rfl rfl (fun g29 => absurd g29 (by decide)) (fun g29 => ?_)
      refine w_t (np := 26) (l2 := [some (eR a0), some (eI (a1)), some (eI (a2)), none, none, none, none]) (s2 := [eI (-1)]) rfl rfl rfl ?_
      exact b_ri rfl rfl (K m16 (-1) I17 F19 (by decide) p20 p21 p22 p23 p24 p25 p26 p27)
    · have b3 : 0 ≤ a1 ∧ a1 ≤ 3 := by omega
      refine w_t (np := 11) (l2 := [some (eI (a1)), some (eI (0)), some (eI (3))]) (s2 := [eI (1)]) rfl rfl rfl ?_
      refine w_go (t1 := 15) rfl rfl ?_
      refine b_rz rfl rfl (Or.inr rfl) ?_
      show ex_q (dt_fg L ρ) rc (d + 6, (300, 7, [some (eR a0), some (eI (a1)), some (eI (a2)), none, none, none, none], [eI (1), eR a0]), f :: F, μ)
      refine b_ieq (t1 := 14) (t2 := 10) rfl rfl rfl rfl (fun g3 => absurd g3 (by decide)) (fun g3 => ?_)
      refine w_t (np := 11) (l2 := [some (eR a0), some (eI (a1)), some (eI (a2)), none, none, none, none]) (s2 := [eI (a2), eR a0]) rfl rfl rfl ?_
      refine b_ige (t1 := 18) (t2 := 14) rfl rfl rfl (ev_w_in (by omega) (by omega)) (fun g4 => ?_) (fun g4 => ?_)
      · have b5 : 0 ≤ a2 ∧ a2 ≤ 2147483647 := by omega
        refine w_t (np := 19) (l2 := [some (eR a0), some (eI (a1)), some (eI (a2)), none, none, none, none]) (s2 := [eI (0), eR a0]) rfl rfl rfl ?_
        refine w_cw (np := 22) (as := [eI (0)]) (l2 := [some (eR a0), some (eI (0))]) (rest := []) rfl rfl rfl (Nat.ble_eq.mp rfl) rfl rfl rfl (hI.kd gA0 (by decide) (n := 69) rfl) rfl ?_
        refine w_t (np := 1) (l2 := [some (eR a0), some (eI (0))]) (s2 := [eR a0]) rfl (s_an rfl (pos_g hI gA0 (by decide))) rfl ?_
        refine w_t (np := 2) (l2 := [some (eR a0), some (eI (0))]) (s2 := [eI (0), eR a0]) rfl rfl rfl ?_
        refine j_pf (np := 5) (w := 0) rfl rfl hI gA0 (by decide) (n := 69) rfl rfl (hO_i (lo := -2147483648) (hi := 2147483647) rfl (by decide)) ?_
        intro m5 I6 W7
        have F8 : Fr l_300 0 0 g μ m5 := F0.w W7 gA0 rfl
        have p9 : PB g m5 := PB.fr h_PB (Fr.f W7 gA0) rfl
        have p10 : PK g m5 := PK.fr h_PK (Fr.f W7 gA0) rfl
        have p11 : LG g m5 := LG.fr h_LG (Fr.f W7 gA0) rfl
        have p12 : MT g m5 := MT.fr h_MT (Fr.f W7 gA0) rfl
        have p13 : LB g m5 := LB.fr h_LB (Fr.f W7 gA0) rfl
        have p14 : FS g m5 := FS.fr h_FS (Fr.f W7 gA0) rfl
        have p15 : PO g m5 := PO.fr h_PO (Fr.f W7 gA0) rfl
        have p16 : SP g m5 := SP.fr h_SP (Fr.f W7 gA0) rfl
        refine w_t (np := 6) (l2 := [some (eR a0), some (eI (0))]) (s2 := [eR a0]) rfl (s_an rfl (pos_g I6 gA0 (by decide))) rfl ?_
        refine w_t (np := 7) (l2 := [some (eR a0), some (eI (0))]) (s2 := [eI (0), eR a0]) rfl rfl rfl ?_
        refine j_pf (np := 10) (w := 0) rfl rfl I6 gA0 (by decide) (n := 69) rfl rfl (hO_i (lo := -2147483648) (hi := 2147483647) rfl (by decide)) ?_
        intro m17 I18 W19
        have F20 : Fr l_300 0 0 g μ m17 := F8.w W19 gA0 rfl
        have p21 : PB g m17 := PB.fr p9 (Fr.f W19 gA0) rfl
        have p22 : PK g m17 := PK.fr p10 (Fr.f W19 gA0) rfl
        have p23 : LG g m17 := LG.fr p11 (Fr.f W19 gA0) rfl
        have p24 : MT g m17 := MT.fr p12 (Fr.f W19 gA0) rfl
        have p25 : LB g m17 := LB.fr p13 (Fr.f W19 gA0) rfl
        have p26 : FS g m17 := FS.fr p14 (Fr.f W19 gA0) rfl
        have p27 : PO g m17 := PO.fr p15 (Fr.f W19 gA0) rfl
        have p28 : SP g m17 := SP.fr p16 (Fr.f W19 gA0) rfl
        refine w_t (np := 11) (l2 := [some (eR a0), some (eI (0))]) (s2 := [eI (0)]) rfl rfl rfl ?_
        refine b_ine (t1 := 18) (t2 := 14) rfl rfl rfl rfl (fun g29 => absurd g29 (by decide)) (fun g29 => ?_)
        refine w_t (np := 15) (l2 := [some (eR a0), some (eI (0))]) (s2 := [eI (1)]) rfl rfl rfl ?_
        refine w_go (t1 := 19) rfl rfl ?_
        refine b_rz rfl rfl (Or.inr rfl) ?_
        show ex_q (dt_fg L ρ) rc (d + 6, (300, 22, [some (eR a0), some (eI (a1)), some (eI (a2)), none, none, none, none], [eI (1)]), f :: F, m17)
        refine b_ine (t1 := 27) (t2 := 25) rfl rfl rfl rfl (fun g30 => ?_) (fun g30 => absurd g30 (by decide))
        refine w_t (np := 28) (l2 := [some (eR a0), some (eI (a1)), some (eI (a2)), none, none, none, none]) (s2 := [eR a0]) rfl (s_an rfl (pos_g I18 gA0 (by decide))) rfl ?_
        refine j_gi (np := 31) rfl rfl rfl I18 gA0 (by decide) (n := 69) rfl rfl (lo := 0) (hi := 3) rfl ?_
        intro v31 e32 b33
        refine w_t (np := 32) (l2 := [some (eR a0), some (eI (a1)), some (eI (a2)), some (eI (v31)), none, none, none]) (s2 := []) rfl rfl rfl ?_
        refine w_t (np := 33) (l2 := [some (eR a0), some (eI (a1)), some (eI (a2)), some (eI (v31)), none, none, none]) (s2 := [eR a0]) rfl (s_an rfl (pos_g I18 gA0 (by decide))) rfl ?_
        refine j_gi (np := 36) rfl rfl rfl I18 gA0 (by decide) (n := 69) rfl rfl (lo := 0) (hi := 5) rfl ?_
        intro v34 e35 b36
        refine w_t (np := 38) (l2 := [some (eR a0), some (eI (a1)), some (eI (a2)), some (eI (v31)), some (eI (v34)), none, none]) (s2 := []) rfl rfl rfl ?_
        refine w_t (np := 39) (l2 := [some (eR a0), some (eI (a1)), some (eI (a2)), some (eI (v31)), some (eI (v34)), none, none]) (s2 := [eI (-1)]) rfl rfl rfl ?_
        refine w_t (np := 41) (l2 := [some (eR a0), some (eI (a1)), some (eI (a2)), some (eI (v31)), some (eI (v34)), some (eI (-1)), none]) (s2 := []) rfl rfl rfl ?_
        refine w_t (np := 42) (l2 := [some (eR a0), some (eI (a1)), some (eI (a2)), some (eI (v31)), some (eI (v34)), some (eI (-1)), none]) (s2 := [eI (0)]) rfl rfl rfl ?_
        refine w_t (np := 44) (l2 := [some (eR a0), some (eI (a1)), some (eI (a2)), some (eI (v31)), some (eI (v34)), some (eI (-1)), some (eI (0))]) (s2 := []) rfl rfl rfl ?_
        have hL44 : ∀ (n37 : Nat) (m43 : eM) (i39 : Int) (i41 : Int), SI g m43 → Fr l_300 0 0 g μ m43 → (-1 ≤ i39 ∧ i39 ≤ 5) → (0 ≤ i41 ∧ i41 ≤ 6) → m43.1 a0 1 = 0 → m43.1 a0 0 = 0 → PB g m43 → PK g m43 → LG g m43 → MT g m43 → LB g m43 → FS g m43 → PO g m43 → SP g m43 → n37 = (6 - i41).toNat → ex_q (dt_fg L ρ) rc (d + 6, (300, 44, [some (eR a0), some (eI (a1)), some (eI (a2)), some (eI (v31)), some (eI (v34)), some (eI (i39)), some (eI (i41))], []), f :: F, m43) := by
          intro n37
          induction n37 using Nat.strongRecOn with
          | _ n37 ih38 =>
          intro m43 i39 i41 I44 F45 b40 b42 k46 k47 p48 p49 p50 p51 p52 p53 p54 p55 hn56
          refine w_t (np := 46) (l2 := [some (eR a0), some (eI (a1)), some (eI (a2)), some (eI (v31)), some (eI (v34)), some (eI (i39)), some (eI (i41))]) (s2 := [eI (i41)]) rfl rfl rfl ?_
          refine w_t (np := 47) (l2 := [some (eR a0), some (eI (a1)), some (eI (a2)), some (eI (v31)), some (eI (v34)), some (eI (i39)), some (eI (i41))]) (s2 := [eI (5), eI (i41)]) rfl rfl rfl ?_
          refine b_cgt (t1 := 80) (t2 := 50) rfl rfl rfl (ev_w_in (by omega) (by omega)) rfl (fun g57 => ?_) (fun g57 => ?_)
          · have b58 : 6 ≤ i41 ∧ i41 ≤ 6 := by omega
            refine w_t (np := 81) (l2 := [some (eR a0), some (eI (a1)), some (eI (a2)), some (eI (v31)), some (eI (v34)), some (eI (i39)), some (eI (i41))]) (s2 := [eR a0]) rfl (s_an rfl (pos_g I44 gA0 (by decide))) rfl ?_
            refine w_t (np := 82) (l2 := [some (eR a0), some (eI (a1)), some (eI (a2)), some (eI (v31)), some (eI (v34)), some (eI (i39)), some (eI (i41))]) (s2 := [eI (v31), eR a0]) rfl rfl rfl ?_
            refine w_t (np := 84) (l2 := [some (eR a0), some (eI (a1)), some (eI (a2)), some (eI (v31)), some (eI (v34)), some (eI (i39)), some (eI (i41))]) (s2 := [eI (v34), eI (v31), eR a0]) rfl rfl rfl ?_
            refine w_cw (np := 87) (as := [eI (v31), eI (v34)]) (l2 := [some (eR a0), some (eI (v31)), some (eI (v34)), none, none]) (rest := []) rfl rfl rfl (Nat.ble_eq.mp rfl) rfl rfl rfl (I44.kd gA0 (by decide) (n := 69) rfl) rfl ?_
            refine s_239w (a1 := v31) (a2 := v34) I44 gA0 (by omega) (by omega) p48 ?_
            intro m58 I59 F60 p61 p62 p63 p64 p65 p66 p67 p68
            have F69 : Fr l_300 0 0 g μ m58 := F45.t F60 rfl
            show ex_q (dt_fg L ρ) rc (d + 6, (300, 87, [some (eR a0), some (eI (a1)), some (eI (a2)), some (eI (v31)), some (eI (v34)), some (eI (i39)), some (eI (i41))], []), f :: F, m58)
            refine w_t (np := 89) (l2 := [some (eR a0), some (eI (a1)), some (eI (a2)), some (eI (v31)), some (eI (v34)), some (eI (i39)), some (eI (i41))]) (s2 := [eI (i39)]) rfl rfl rfl ?_
            refine b_ige (t1 := 100) (t2 := 92) rfl rfl rfl (ev_w_in (by omega) (by omega)) (fun g70 => ?_) (fun g70 => ?_)
            · have b71 : 0 ≤ i39 ∧ i39 ≤ 5 := by omega
              refine w_t (np := 102) (l2 := [some (eR a0), some (eI (a1)), some (eI (a2)), some (eI (v31)), some (eI (v34)), some (eI (i39)), some (eI (i41))]) (s2 := [eI (i39)]) rfl rfl rfl ?_
              exact b_ri rfl rfl (K m58 (i39) I59 F69 (by omega) p61 p62 p63 p64 p65 p66 p67 p68)
            · have b71 : -1 ≤ i39 ∧ i39 ≤ -1 := by omega
              refine w_t (np := 93) (l2 := [some (eR a0), some (eI (a1)), some (eI (a2)), some (eI (v31)), some (eI (v34)), some (eI (i39)), some (eI (i41))]) (s2 := [eR a0]) rfl (s_an rfl (pos_g I59 gA0 (by decide))) rfl ?_
              refine w_t (np := 94) (l2 := [some (eR a0), some (eI (a1)), some (eI (a2)), some (eI (v31)), some (eI (v34)), some (eI (i39)), some (eI (i41))]) (s2 := [eI (5), eR a0]) rfl rfl rfl ?_
              refine w_cw (np := 97) (as := [eI (5)]) (l2 := [some (eR a0), some (eI (5))]) (rest := []) rfl rfl rfl (Nat.ble_eq.mp rfl) rfl rfl rfl (I59.kd gA0 (by decide) (n := 69) rfl) rfl ?_
              refine w_t (np := 1) (l2 := [some (eR a0), some (eI (5))]) (s2 := [eR a0]) rfl (s_an rfl (pos_g I59 gA0 (by decide))) rfl ?_
              refine w_t (np := 2) (l2 := [some (eR a0), some (eI (5))]) (s2 := [eI (5), eR a0]) rfl rfl rfl ?_
              refine j_pf (np := 5) (w := 5) rfl rfl I59 gA0 (by decide) (n := 69) rfl rfl (hO_i (lo := -2147483648) (hi := 2147483647) rfl (by decide)) ?_
              intro m71 I72 W73
              have F74 : Fr l_300 0 0 g μ m71 := F69.w W73 gA0 rfl
              have p75 : PB g m71 := PB.fr p61 (Fr.f W73 gA0) rfl
              have p76 : PK g m71 := PK.fr p62 (Fr.f W73 gA0) rfl
              have p77 : LG g m71 := LG.fr p63 (Fr.f W73 gA0) rfl
              have p78 : MT g m71 := MT.fr p64 (Fr.f W73 gA0) rfl
              have p79 : LB g m71 := LB.fr p65 (Fr.f W73 gA0) rfl
              have p80 : FS g m71 := FS.fr p66 (Fr.f W73 gA0) rfl
              have p81 : PO g m71 := PO.fr p67 (Fr.f W73 gA0) rfl
              have p82 : SP g m71 := SP.fr p68 (Fr.f W73 gA0) rfl
              refine w_t (np := 6) (l2 := [some (eR a0), some (eI (5))]) (s2 := [eI (-1)]) rfl rfl rfl ?_
              refine b_ri rfl rfl ?_
              show ex_q (dt_fg L ρ) rc (d + 6, (300, 97, [some (eR a0), some (eI (a1)), some (eI (a2)), some (eI (v31)), some (eI (v34)), some (eI (i39)), some (eI (i41))], [eI (-1)]), f :: F, m71)
              refine w_go (t1 := 102) rfl rfl ?_
              exact b_ri rfl rfl (K m71 (-1) I72 F74 (by decide) p75 p76 p77 p78 p79 p80 p81 p82)
          · have b58 : 0 ≤ i41 ∧ i41 ≤ 5 := by omega
            refine w_t (np := 52) (l2 := [some (eR a0), some (eI (a1)), some (eI (a2)), some (eI (v31)), some (eI (v34)), some (eI (i39)), some (eI (i41))]) (s2 := [eI (i39)]) rfl rfl rfl ?_
            refine b_ige (t1 := 80) (t2 := 55) rfl rfl rfl (ev_w_in (by omega) (by omega)) (fun g58 => ?_) (fun g58 => ?_)
            · have b59 : 0 ≤ i39 ∧ i39 ≤ 5 := by omega
              refine w_t (np := 81) (l2 := [some (eR a0), some (eI (a1)), some (eI (a2)), some (eI (v31)), some (eI (v34)), some (eI (i39)), some (eI (i41))]) (s2 := [eR a0]) rfl (s_an rfl (pos_g I44 gA0 (by decide))) rfl ?_
              refine w_t (np := 82) (l2 := [some (eR a0), some (eI (a1)), some (eI (a2)), some (eI (v31)), some (eI (v34)), some (eI (i39)), some (eI (i41))]) (s2 := [eI (v31), eR a0]) rfl rfl rfl ?_
              refine w_t (np := 84) (l2 := [some (eR a0), some (eI (a1)), some (eI (a2)), some (eI (v31)), some (eI (v34)), some (eI (i39)), some (eI (i41))]) (s2 := [eI (v34), eI (v31), eR a0]) rfl rfl rfl ?_
              refine w_cw (np := 87) (as := [eI (v31), eI (v34)]) (l2 := [some (eR a0), some (eI (v31)), some (eI (v34)), none, none]) (rest := []) rfl rfl rfl (Nat.ble_eq.mp rfl) rfl rfl rfl (I44.kd gA0 (by decide) (n := 69) rfl) rfl ?_
              refine s_239w (a1 := v31) (a2 := v34) I44 gA0 (by omega) (by omega) p48 ?_
              intro m59 I60 F61 p62 p63 p64 p65 p66 p67 p68 p69
              have F70 : Fr l_300 0 0 g μ m59 := F45.t F61 rfl
              show ex_q (dt_fg L ρ) rc (d + 6, (300, 87, [some (eR a0), some (eI (a1)), some (eI (a2)), some (eI (v31)), some (eI (v34)), some (eI (i39)), some (eI (i41))], []), f :: F, m59)
              refine w_t (np := 89) (l2 := [some (eR a0), some (eI (a1)), some (eI (a2)), some (eI (v31)), some (eI (v34)), some (eI (i39)), some (eI (i41))]) (s2 := [eI (i39)]) rfl rfl rfl ?_
              refine b_ige (t1 := 100) (t2 := 92) rfl rfl rfl (ev_w_in (by omega) (by omega)) (fun g71 => ?_) (fun g71 => False.elim (by omega))
              refine w_t (np := 102) (l2 := [some (eR a0), some (eI (a1)), some (eI (a2)), some (eI (v31)), some (eI (v34)), some (eI (i39)), some (eI (i41))]) (s2 := [eI (i39)]) rfl rfl rfl ?_
              exact b_ri rfl rfl (K m59 (i39) I60 F70 (by omega) p62 p63 p64 p65 p66 p67 p68 p69)
            · have b59 : -1 ≤ i39 ∧ i39 ≤ -1 := by omega
              refine w_t (np := 56) (l2 := [some (eR a0), some (eI (a1)), some (eI (a2)), some (eI (v31)), some (eI (v34)), some (eI (i39)), some (eI (i41))]) (s2 := [eR a0]) rfl (s_an rfl (pos_g I44 gA0 (by decide))) rfl ?_
              refine w_t (np := 57) (l2 := [some (eR a0), some (eI (a1)), some (eI (a2)), some (eI (v31)), some (eI (v34)), some (eI (i39)), some (eI (i41))]) (s2 := [eI (a1), eR a0]) rfl rfl rfl ?_
              refine w_t (np := 59) (l2 := [some (eR a0), some (eI (a1)), some (eI (a2)), some (eI (v31)), some (eI (v34)), some (eI (i39)), some (eI (i41))]) (s2 := [eI (i41), eI (a1), eR a0]) rfl rfl rfl ?_
              refine w_cw (np := 62) (as := [eI (a1), eI (i41)]) (l2 := [some (eR a0), some (eI (a1)), some (eI (i41)), none, none]) (rest := []) rfl rfl rfl (Nat.ble_eq.mp rfl) rfl rfl rfl (I44.kd gA0 (by decide) (n := 69) rfl) rfl ?_
              refine s_239w (a1 := a1) (a2 := i41) I44 gA0 (by omega) (by omega) p48 ?_
              intro m59 I60 F61 p62 p63 p64 p65 p66 p67 p68 p69
              have F70 : Fr l_300 0 0 g μ m59 := F45.t F61 rfl
              show ex_q (dt_fg L ρ) rc (d + 6, (300, 62, [some (eR a0), some (eI (a1)), some (eI (a2)), some (eI (v31)), some (eI (v34)), some (eI (i39)), some (eI (i41))], []), f :: F, m59)
              refine w_t (np := 63) (l2 := [some (eR a0), some (eI (a1)), some (eI (a2)), some (eI (v31)), some (eI (v34)), some (eI (i39)), some (eI (i41))]) (s2 := [eR a0]) rfl (s_an rfl (pos_g I60 gA0 (by decide))) rfl ?_
              refine w_t (np := 64) (l2 := [some (eR a0), some (eI (a1)), some (eI (a2)), some (eI (v31)), some (eI (v34)), some (eI (i39)), some (eI (i41))]) (s2 := [eI (a2), eR a0]) rfl rfl rfl ?_
              refine w_cw (np := 67) (as := [eI (a2)]) (l2 := [some (eR a0), some (eI (a2)), none]) (rest := []) rfl rfl rfl (Nat.ble_eq.mp rfl) rfl rfl rfl (I60.kd gA0 (by decide) (n := 69) rfl) rfl ?_
              obtain ⟨v71, e72, b73⟩ := I60.pk (k := 28) gA0 (by decide) (n := 69) rfl rfl (lo := 0) (hi := 2670) rfl
              refine s_299 (a1 := a2) I60 gA0 (by omega) e72 p63 ?_
              intro m74 v77 v79 I75 F76 b78 e80
              have F81 : Fr l_300 0 0 g μ m74 := F70.t F76 rfl
              have p82 : PB g m74 := PB.fr p62 F76 rfl
              have p83 : PK g m74 := PK.fr p63 F76 rfl
              have p84 : LG g m74 := LG.fr p64 F76 rfl
              have p85 : MT g m74 := MT.fr p65 F76 rfl
              have p86 : LB g m74 := LB.fr p66 F76 rfl
              have p87 : FS g m74 := FS.fr p67 F76 rfl
              have p88 : PO g m74 := PO.fr p68 F76 rfl
              have p89 : SP g m74 := SP.fr p69 F76 rfl
              have b90 : 0 ≤ v79 ∧ v79 ≤ 2670 := by
                rw [← e80]
                exact I75.int gA0 (by decide) (n := 69) rfl (by decide) rfl
              show ex_q (dt_fg L ρ) rc (d + 6, (300, 67, [some (eR a0), some (eI (a1)), some (eI (a2)), some (eI (v31)), some (eI (v34)), some (eI (i39)), some (eI (i41))], [eI (v77)]), f :: F, m74)
              refine b_ieq (t1 := 74) (t2 := 70) rfl rfl rfl (ev_w_in (by omega) (by omega)) (fun g91 => ?_) (fun g91 => ?_)
              · have b92 : 0 ≤ v77 ∧ v77 ≤ 0 := by omega
                obtain ⟨v92, e93⟩ : ∃ zz : Int, zz = (i41) + (1) := ⟨_, rfl⟩
                have b94 : 1 ≤ v92 ∧ v92 ≤ 6 := by omega
                refine w_t (np := 77) (l2 := [some (eR a0), some (eI (a1)), some (eI (a2)), some (eI (v31)), some (eI (v34)), some (eI (i39)), some (eI (v92))]) (s2 := []) rfl (b_iinc rfl (by rw [← e93]; exact ev_w_in (by omega) (by omega)) rfl) rfl ?_
                refine w_go (t1 := 44) rfl rfl ?_
                exact ih38 (6 - (v92)).toNat (by omega) m74 (i39) (v92) I75 F81 (by omega) (by omega) (F76.k (F61.k k46 gA0 (by decide) rfl) gA0 (by decide) rfl) (F76.k (F61.k k47 gA0 (by decide) rfl) gA0 (by decide) rfl)  p82 p83 p84 p85 p86 p87 p88 p89  rfl
              · have b92 : 1 ≤ v77 ∧ v77 ≤ 1 := by omega
                refine w_t (np := 72) (l2 := [some (eR a0), some (eI (a1)), some (eI (a2)), some (eI (v31)), some (eI (v34)), some (eI (i39)), some (eI (i41))]) (s2 := [eI (i41)]) rfl rfl rfl ?_
                refine w_t (np := 74) (l2 := [some (eR a0), some (eI (a1)), some (eI (a2)), some (eI (v31)), some (eI (v34)), some (eI (i41)), some (eI (i41))]) (s2 := []) rfl rfl rfl ?_
                obtain ⟨v92, e93⟩ : ∃ zz : Int, zz = (i41) + (1) := ⟨_, rfl⟩
                have b94 : 1 ≤ v92 ∧ v92 ≤ 6 := by omega
                refine w_t (np := 77) (l2 := [some (eR a0), some (eI (a1)), some (eI (a2)), some (eI (v31)), some (eI (v34)), some (eI (i41)), some (eI (v92))]) (s2 := []) rfl (b_iinc rfl (by rw [← e93]; exact ev_w_in (by omega) (by omega)) rfl) rfl ?_
                refine w_go (t1 := 44) rfl rfl ?_
                exact ih38 (6 - (v92)).toNat (by omega) m74 (i41) (v92) I75 F81 (by omega) (by omega) (F76.k (F61.k k46 gA0 (by decide) rfl) gA0 (by decide) rfl) (F76.k (F61.k k47 gA0 (by decide) rfl) gA0 (by decide) rfl)  p82 p83 p84 p85 p86 p87 p88 p89  rfl
        exact hL44 _ m17 (-1) (0) I18 F20 (by decide) (by decide) (W19.slot W7.at (by decide)) W19.at  p21 p22 p23 p24 p25 p26 p27 p28  rfl
      · have b5 : -2147483648 ≤ a2 ∧ a2 ≤ -1 := by omega
        refine w_t (np := 15) (l2 := [some (eR a0), some (eI (a1)), some (eI (a2)), none, none, none, none]) (s2 := [eI (1), eR a0]) rfl rfl rfl ?_
        refine w_go (t1 := 19) rfl rfl ?_
        refine w_cw (np := 22) (as := [eI (1)]) (l2 := [some (eR a0), some (eI (1))]) (rest := []) rfl rfl rfl (Nat.ble_eq.mp rfl) rfl rfl rfl (hI.kd gA0 (by decide) (n := 69) rfl) rfl ?_
        refine w_t (np := 1) (l2 := [some (eR a0), some (eI (1))]) (s2 := [eR a0]) rfl (s_an rfl (pos_g hI gA0 (by decide))) rfl ?_
        refine w_t (np := 2) (l2 := [some (eR a0), some (eI (1))]) (s2 := [eI (0), eR a0]) rfl rfl rfl ?_
        refine j_pf (np := 5) (w := 0) rfl rfl hI gA0 (by decide) (n := 69) rfl rfl (hO_i (lo := -2147483648) (hi := 2147483647) rfl (by decide)) ?_
        intro m5 I6 W7
        have F8 : Fr l_300 0 0 g μ m5 := F0.w W7 gA0 rfl
        have p9 : PB g m5 := PB.fr h_PB (Fr.f W7 gA0) rfl
        have p10 : PK g m5 := PK.fr h_PK (Fr.f W7 gA0) rfl
        have p11 : LG g m5 := LG.fr h_LG (Fr.f W7 gA0) rfl
        have p12 : MT g m5 := MT.fr h_MT (Fr.f W7 gA0) rfl
        have p13 : LB g m5 := LB.fr h_LB (Fr.f W7 gA0) rfl
        have p14 : FS g m5 := FS.fr h_FS (Fr.f W7 gA0) rfl
        have p15 : PO g m5 := PO.fr h_PO (Fr.f W7 gA0) rfl
        have p16 : SP g m5 := SP.fr h_SP (Fr.f W7 gA0) rfl
        refine w_t (np := 6) (l2 := [some (eR a0), some (eI (1))]) (s2 := [eR a0]) rfl (s_an rfl (pos_g I6 gA0 (by decide))) rfl ?_
        refine w_t (np := 7) (l2 := [some (eR a0), some (eI (1))]) (s2 := [eI (1), eR a0]) rfl rfl rfl ?_
        refine j_pf (np := 10) (w := 1) rfl rfl I6 gA0 (by decide) (n := 69) rfl rfl (hO_i (lo := -2147483648) (hi := 2147483647) rfl (by decide)) ?_
        intro m17 I18 W19
        have F20 : Fr l_300 0 0 g μ m17 := F8.w W19 gA0 rfl
        have p21 : PB g m17 := PB.fr p9 (Fr.f W19 gA0) rfl
        have p22 : PK g m17 := PK.fr p10 (Fr.f W19 gA0) rfl
        have p23 : LG g m17 := LG.fr p11 (Fr.f W19 gA0) rfl
        have p24 : MT g m17 := MT.fr p12 (Fr.f W19 gA0) rfl
        have p25 : LB g m17 := LB.fr p13 (Fr.f W19 gA0) rfl
        have p26 : FS g m17 := FS.fr p14 (Fr.f W19 gA0) rfl
        have p27 : PO g m17 := PO.fr p15 (Fr.f W19 gA0) rfl
        have p28 : SP g m17 := SP.fr p16 (Fr.f W19 gA0) rfl
        refine w_t (np := 11) (l2 := [some (eR a0), some (eI (1))]) (s2 := [eI (1)]) rfl rfl rfl ?_
        refine b_ine (t1 := 18) (t2 := 14) rfl rfl rfl rfl (fun g29 => ?_) (fun g29 => absurd g29 (by decide))
        refine w_t (np := 19) (l2 := [some (eR a0), some (eI (1))]) (s2 := [eI (0)]) rfl rfl rfl ?_
        refine b_rz rfl rfl (Or.inl rfl) ?_
        show ex_q (dt_fg L ρ) rc (d + 6, (300, 22, [some (eR a0), some (eI (a1)), some (eI (a2)), none, none, none, none], [eI (0)]), f :: F, m17)
        refine b_ine (t1 := 27) (t2 := 25) rfl rfl rfl rfl (fun g30 => absurd g30 (by decide)) (fun g30 => ?_)
        refine w_t (np := 26) (l2 := [some (eR a0), some (eI (a1)), some (eI (a2)), none, none, none, none]) (s2 := [eI (-1)]) rfl rfl rfl ?_
        exact b_ri rfl rfl (K m17 (-1) I18 F20 (by decide) p21 p22 p23 p24 p25 p26 p27 p28)
def l_321 : List Nat := [13313, 13314, 13363, 21248, 20992, 20736]
theorem s_321 {L : Nat} {ρ : Nat → Int} {rc : eQ} {d : Nat} {f : eFr} {F : List eFr} {μ : eM} {g : Nat → Nat} {a0 : Nat} {a1 : Int} {a2 : Int} (hI : SI g μ) (gA0 : g a0 = 52) (bA1 : -2147483648 ≤ a1 ∧ a1 ≤ 2147483647) (bA2 : -2147483648 ≤ a2 ∧ a2 ≤ 2147483647) (K : ∀ (μ2 : eM) (v : Int), SI g μ2 → Fr l_321 0 0 g μ μ2 → (-2147483648 ≤ v ∧ v ≤ 2147483647) → ex_q (dt_fg L ρ) rc (d + 5, (f.1, f.2.1, f.2.2.1, eI v :: f.2.2.2), F, μ2)) : ex_q (dt_fg L ρ) rc (d + 4, (321, 0, [some (eR a0), some (eI (a1)), some (eI (a2))], []), f :: F, μ) := by
  have F0 : Fr l_321 0 0 g μ μ := Fr.r
  refine w_t (np := 1) (l2 := [some (eR a0), some (eI (a1)), some (eI (a2))]) (s2 := [eR a0]) rfl (s_an rfl (pos_g hI gA0 (by decide))) rfl ?_
  refine w_t (np := 2) (l2 := [some (eR a0), some (eI (a1)), some (eI (a2))]) (s2 := [eI (a2), eR a0]) rfl rfl rfl ?_
  refine w_t (np := 3) (l2 := [some (eR a0), some (eI (a1)), some (eI (a2))]) (s2 := [eI (0), eI (a2), eR a0]) rfl rfl rfl ?_
  refine w_t (np := 4) (l2 := [some (eR a0), some (eI (a1)), some (eI (a2))]) (s2 := [eI (3), eI (0), eI (a2), eR a0]) rfl rfl rfl ?_
  refine w_cu (np := 7) (as := [eI (a2), eI (0), eI (3)]) (l2 := [some (eI (a2)), some (eI (0)), some (eI (3))]) (rest := [eR a0]) rfl rfl rfl (Nat.ble_eq.mp rfl) rfl rfl rfl rfl ?_
  refine w_t (np := 1) (l2 := [some (eI (a2)), some (eI (0)), some (eI (3))]) (s2 := [eI (a2)]) rfl rfl rfl ?_
  refine w_t (np := 2) (l2 := [some (eI (a2)), some (eI (0)), some (eI (3))]) (s2 := [eI (0), eI (a2)]) rfl rfl rfl ?_
  refine b_clt (t1 := 14) (t2 := 5) rfl rfl rfl (ev_w_in (by omega) (by omega)) rfl (fun g1 => ?_) (fun g1 => ?_)
  · have b2 : -2147483648 ≤ a2 ∧ a2 ≤ -1 := by omega
    refine w_t (np := 15) (l2 := [some (eI (a2)), some (eI (0)), some (eI (3))]) (s2 := [eI (0)]) rfl rfl rfl ?_
    refine b_rz rfl rfl (Or.inl rfl) ?_
    show ex_q (dt_fg L ρ) rc (d + 4, (321, 7, [some (eR a0), some (eI (a1)), some (eI (a2))], [eI (0), eR a0]), f :: F, μ)
    refine b_ine (t1 := 14) (t2 := 10) rfl rfl rfl rfl (fun g2 => absurd g2 (by decide)) (fun g2 => ?_)
    refine w_t (np := 11) (l2 := [some (eR a0), some (eI (a1)), some (eI (a2))]) (s2 := [eI (1), eR a0]) rfl rfl rfl ?_
    refine w_go (t1 := 27) rfl rfl ?_
    refine w_cw (np := 30) (as := [eI (1)]) (l2 := [some (eR a0), some (eI (1))]) (rest := []) rfl rfl rfl (Nat.ble_eq.mp rfl) rfl rfl rfl (hI.kd gA0 (by decide) (n := 69) rfl) rfl ?_
    refine w_t (np := 1) (l2 := [some (eR a0), some (eI (1))]) (s2 := [eR a0]) rfl (s_an rfl (pos_g hI gA0 (by decide))) rfl ?_
    refine w_t (np := 2) (l2 := [some (eR a0), some (eI (1))]) (s2 := [eI (0), eR a0]) rfl rfl rfl ?_
    refine j_pf (np := 5) (w := 0) rfl rfl hI gA0 (by decide) (n := 69) rfl rfl (hO_i (lo := -2147483648) (hi := 2147483647) rfl (by decide)) ?_
    intro m3 I4 W5
    have F6 : Fr l_321 0 0 g μ m3 := F0.w W5 gA0 rfl
    refine w_t (np := 6) (l2 := [some (eR a0), some (eI (1))]) (s2 := [eR a0]) rfl (s_an rfl (pos_g I4 gA0 (by decide))) rfl ?_
    refine w_t (np := 7) (l2 := [some (eR a0), some (eI (1))]) (s2 := [eI (1), eR a0]) rfl rfl rfl ?_
    refine j_pf (np := 10) (w := 1) rfl rfl I4 gA0 (by decide) (n := 69) rfl rfl (hO_i (lo := -2147483648) (hi := 2147483647) rfl (by decide)) ?_
    intro m7 I8 W9
    have F10 : Fr l_321 0 0 g μ m7 := F6.w W9 gA0 rfl
    refine w_t (np := 11) (l2 := [some (eR a0), some (eI (1))]) (s2 := [eI (1)]) rfl rfl rfl ?_
    refine b_ine (t1 := 18) (t2 := 14) rfl rfl rfl rfl (fun g11 => ?_) (fun g11 => absurd g11 (by decide))
    refine w_t (np := 19) (l2 := [some (eR a0), some (eI (1))]) (s2 := [eI (0)]) rfl rfl rfl ?_
    refine b_rz rfl rfl (Or.inl rfl) ?_
    show ex_q (dt_fg L ρ) rc (d + 4, (321, 30, [some (eR a0), some (eI (a1)), some (eI (a2))], [eI (0)]), f :: F, m7)
    refine b_ine (t1 := 35) (t2 := 33) rfl rfl rfl rfl (fun g12 => absurd g12 (by decide)) (fun g12 => ?_)
    refine w_t (np := 34) (l2 := [some (eR a0), some (eI (a1)), some (eI (a2))]) (s2 := [eI (-1)]) rfl rfl rfl ?_
    exact b_ri rfl rfl (K m7 (-1) I8 F10 (by decide))
  · have b2 : 0 ≤ a2 ∧ a2 ≤ 2147483647 := by omega
    refine w_t (np := 6) (l2 := [some (eI (a2)), some (eI (0)), some (eI (3))]) (s2 := [eI (a2)]) rfl rfl rfl ?_
    refine w_t (np := 7) (l2 := [some (eI (a2)), some (eI (0)), some (eI (3))]) (s2 := [eI (3), eI (a2)]) rfl rfl rfl ?_
    refine b_cgt (t1 := 14) (t2 := 10) rfl rfl rfl (ev_w_in (by omega) (by omega)) rfl (fun g2 => ?_) (fun g2 => ?_)
    · have b3 : 4 ≤ a2 ∧ a2 ≤ 2147483647 := by omega
      refine w_t (np := 15) (l2 := [some (eI (a2)), some (eI (0)), some (eI (3))]) (s2 := [eI (0)]) rfl rfl rfl ?_
      refine b_rz rfl rfl (Or.inl rfl) ?_
      show ex_q (dt_fg L ρ) rc (d + 4, (321, 7, [some (eR a0), some (eI (a1)), some (eI (a2))], [eI (0), eR a0]), f :: F, μ)
      refine b_ine (t1 := 14) (t2 := 10) rfl rfl rfl rfl (fun g3 => absurd g3 (by decide)) (fun g3 => ?_)
      refine w_t (np := 11) (l2 := [some (eR a0), some (eI (a1)), some (eI (a2))]) (s2 := [eI (1), eR a0]) rfl rfl rfl ?_
      refine w_go (t1 := 27) rfl rfl ?_
      refine w_cw (np := 30) (as := [eI (1)]) (l2 := [some (eR a0), some (eI (1))]) (rest := []) rfl rfl rfl (Nat.ble_eq.mp rfl) rfl rfl rfl (hI.kd gA0 (by decide) (n := 69) rfl) rfl ?_
      refine w_t (np := 1) (l2 := [some (eR a0), some (eI (1))]) (s2 := [eR a0]) rfl (s_an rfl (pos_g hI gA0 (by decide))) rfl ?_
      refine w_t (np := 2) (l2 := [some (eR a0), some (eI (1))]) (s2 := [eI (0), eR a0]) rfl rfl rfl ?_
      refine j_pf (np := 5) (w := 0) rfl rfl hI gA0 (by decide) (n := 69) rfl rfl (hO_i (lo := -2147483648) (hi := 2147483647) rfl (by decide)) ?_
      intro m4 I5 W6
      have F7 : Fr l_321 0 0 g μ m4 := F0.w W6 gA0 rfl
      refine w_t (np := 6) (l2 := [some (eR a0), some (eI (1))]) (s2 := [eR a0]) rfl (s_an rfl (pos_g I5 gA0 (by decide))) rfl ?_
      refine w_t (np := 7) (l2 := [some (eR a0), some (eI (1))]) (s2 := [eI (1), eR a0]) rfl rfl rfl ?_
      refine j_pf (np := 10) (w := 1) rfl rfl I5 gA0 (by decide) (n := 69) rfl rfl (hO_i (lo := -2147483648) (hi := 2147483647) rfl (by decide)) ?_
      intro m8 I9 W10
      have F11 : Fr l_321 0 0 g μ m8 := F7.w W10 gA0 rfl
      refine w_t (np := 11) (l2 := [some (eR a0), some (eI (1))]) (s2 := [eI (1)]) rfl rfl rfl ?_
      refine b_ine (t1 := 18) (t2 := 14) rfl rfl rfl rfl (fun g12 => ?_) (fun g12 => absurd g12 (by decide))
      refine w_t (np := 19) (l2 := [some (eR a0), some (eI (1))]) (s2 := [eI (0)]) rfl rfl rfl ?_
      refine b_rz rfl rfl (Or.inl rfl) ?_
      show ex_q (dt_fg L ρ) rc (d + 4, (321, 30, [some (eR a0), some (eI (a1)), some (eI (a2))], [eI (0)]), f :: F, m8)
      refine b_ine (t1 := 35) (t2 := 33) rfl rfl rfl rfl (fun g13 => absurd g13 (by decide)) (fun g13 => ?_)
      refine w_t (np := 34) (l2 := [some (eR a0), some (eI (a1)), some (eI (a2))]) (s2 := [eI (-1)]) rfl rfl rfl ?_
      exact b_ri rfl rfl (K m8 (-1) I9 F11 (by decide))
    · have b3 : 0 ≤ a2 ∧ a2 ≤ 3 := by omega
      refine w_t (np := 11) (l2 := [some (eI (a2)), some (eI (0)), some (eI (3))]) (s2 := [eI (1)]) rfl rfl rfl ?_
      refine w_go (t1 := 15) rfl rfl ?_
      refine b_rz rfl rfl (Or.inr rfl) ?_
      show ex_q (dt_fg L ρ) rc (d + 4, (321, 7, [some (eR a0), some (eI (a1)), some (eI (a2))], [eI (1), eR a0]), f :: F, μ)
      refine b_ine (t1 := 14) (t2 := 10) rfl rfl rfl rfl (fun g3 => ?_) (fun g3 => absurd g3 (by decide))
      refine w_t (np := 15) (l2 := [some (eR a0), some (eI (a1)), some (eI (a2))]) (s2 := [eR a0, eR a0]) rfl (s_an rfl (pos_g hI gA0 (by decide))) rfl ?_
      refine w_t (np := 16) (l2 := [some (eR a0), some (eI (a1)), some (eI (a2))]) (s2 := [eI (a1), eR a0, eR a0]) rfl rfl rfl ?_
      refine w_cw (np := 19) (as := [eI (a1)]) (l2 := [some (eR a0), some (eI (a1))]) (rest := [eR a0]) rfl rfl rfl (Nat.ble_eq.mp rfl) rfl rfl rfl (hI.kd gA0 (by decide) (n := 69) rfl) rfl ?_
      refine w_t (np := 1) (l2 := [some (eR a0), some (eI (a1))]) (s2 := [eI (a1)]) rfl rfl rfl ?_
      refine w_t (np := 2) (l2 := [some (eR a0), some (eI (a1))]) (s2 := [eI (0), eI (a1)]) rfl rfl rfl ?_
      refine w_t (np := 3) (l2 := [some (eR a0), some (eI (a1))]) (s2 := [eR a0, eI (0), eI (a1)]) rfl (s_an rfl (pos_g hI gA0 (by decide))) rfl ?_
      refine j_gi (np := 6) rfl rfl rfl hI gA0 (by decide) (n := 69) rfl rfl (lo := 0) (hi := 24) rfl ?_
      intro v4 e5 b6
      refine w_t (np := 7) (l2 := [some (eR a0), some (eI (a1))]) (s2 := [eI (1), eI (v4), eI (0), eI (a1)]) rfl rfl rfl ?_
      obtain ⟨v7, e8⟩ : ∃ zz : Int, zz = (v4) - (1) := ⟨_, rfl⟩
      have b9 : -1 ≤ v7 ∧ v7 ≤ 23 := by omega
      refine w_t (np := 8) (l2 := [some (eR a0), some (eI (a1))]) (s2 := [eI (v7), eI (0), eI (a1)]) rfl (b_isub (by rw [← e8]; exact ev_w_in (by omega) (by omega))) rfl ?_
      refine w_cu (np := 11) (as := [eI (a1), eI (0), eI (v7)]) (l2 := [some (eI (a1)), some (eI (0)), some (eI (v7))]) (rest := []) rfl rfl rfl (Nat.ble_eq.mp rfl) rfl rfl rfl rfl ?_
      refine w_t (np := 1) (l2 := [some (eI (a1)), some (eI (0)), some (eI (v7))]) (s2 := [eI (a1)]) rfl rfl rfl ?_
      refine w_t (np := 2) (l2 := [some (eI (a1)), some (eI (0)), some (eI (v7))]) (s2 := [eI (0), eI (a1)]) rfl rfl rfl ?_
      refine b_clt (t1 := 14) (t2 := 5) rfl rfl rfl (ev_w_in (by omega) (by omega)) rfl (fun g10 => ?_) (fun g10 => ?_)
      · have b11 : -2147483648 ≤ a1 ∧ a1 ≤ -1 := by omega
        refine w_t (np := 15) (l2 := [some (eI (a1)), some (eI (0)), some (eI (v7))]) (s2 := [eI (0)]) rfl rfl rfl ?_
        refine b_rz rfl rfl (Or.inl rfl) ?_
        show ex_q (dt_fg L ρ) rc (d + 3, (316, 11, [some (eR a0), some (eI (a1))], [eI (0)]), (321, 19, [some (eR a0), some (eI (a1)), some (eI (a2))], [eR a0]) :: f :: F, μ)
        refine b_rz rfl rfl (Or.inl rfl) ?_
        show ex_q (dt_fg L ρ) rc (d + 4, (321, 19, [some (eR a0), some (eI (a1)), some (eI (a2))], [eI (0), eR a0]), f :: F, μ)
        refine b_ieq (t1 := 26) (t2 := 22) rfl rfl rfl rfl (fun g11 => ?_) (fun g11 => absurd g11 (by decide))
        refine w_t (np := 27) (l2 := [some (eR a0), some (eI (a1)), some (eI (a2))]) (s2 := [eI (2), eR a0]) rfl rfl rfl ?_
        refine w_cw (np := 30) (as := [eI (2)]) (l2 := [some (eR a0), some (eI (2))]) (rest := []) rfl rfl rfl (Nat.ble_eq.mp rfl) rfl rfl rfl (hI.kd gA0 (by decide) (n := 69) rfl) rfl ?_
        refine w_t (np := 1) (l2 := [some (eR a0), some (eI (2))]) (s2 := [eR a0]) rfl (s_an rfl (pos_g hI gA0 (by decide))) rfl ?_
        refine w_t (np := 2) (l2 := [some (eR a0), some (eI (2))]) (s2 := [eI (0), eR a0]) rfl rfl rfl ?_
        refine j_pf (np := 5) (w := 0) rfl rfl hI gA0 (by decide) (n := 69) rfl rfl (hO_i (lo := -2147483648) (hi := 2147483647) rfl (by decide)) ?_
        intro m12 I13 W14
        have F15 : Fr l_321 0 0 g μ m12 := F0.w W14 gA0 rfl
        refine w_t (np := 6) (l2 := [some (eR a0), some (eI (2))]) (s2 := [eR a0]) rfl (s_an rfl (pos_g I13 gA0 (by decide))) rfl ?_
        refine w_t (np := 7) (l2 := [some (eR a0), some (eI (2))]) (s2 := [eI (2), eR a0]) rfl rfl rfl ?_
        refine j_pf (np := 10) (w := 2) rfl rfl I13 gA0 (by decide) (n := 69) rfl rfl (hO_i (lo := -2147483648) (hi := 2147483647) rfl (by decide)) ?_
        intro m16 I17 W18
        have F19 : Fr l_321 0 0 g μ m16 := F15.w W18 gA0 rfl
        refine w_t (np := 11) (l2 := [some (eR a0), some (eI (2))]) (s2 := [eI (2)]) rfl rfl rfl ?_
        refine b_ine (t1 := 18) (t2 := 14) rfl rfl rfl rfl (fun g20 => ?_) (fun g20 => absurd g20 (by decide))
        refine w_t (np := 19) (l2 := [some (eR a0), some (eI (2))]) (s2 := [eI (0)]) rfl rfl rfl ?_
        refine b_rz rfl rfl (Or.inl rfl) ?_
        show ex_q (dt_fg L ρ) rc (d + 4, (321, 30, [some (eR a0), some (eI (a1)), some (eI (a2))], [eI (0)]), f :: F, m16)
        refine b_ine (t1 := 35) (t2 := 33) rfl rfl rfl rfl (fun g21 => absurd g21 (by decide)) (fun g21 => ?_)
        refine w_t (np := 34) (l2 := [some (eR a0), some (eI (a1)), some (eI (a2))]) (s2 := [eI (-1)]) rfl rfl rfl ?_
        exact b_ri rfl rfl (K m16 (-1) I17 F19 (by decide))
      · have b11 : 0 ≤ a1 ∧ a1 ≤ 2147483647 := by omega
        refine w_t (np := 6) (l2 := [some (eI (a1)), some (eI (0)), some (eI (v7))]) (s2 := [eI (a1)]) rfl rfl rfl ?_
        refine w_t (np := 7) (l2 := [some (eI (a1)), some (eI (0)), some (eI (v7))]) (s2 := [eI (v7), eI (a1)]) rfl rfl rfl ?_
        refine b_cgt (t1 := 14) (t2 := 10) rfl rfl rfl (ev_w_in (by omega) (by omega)) (ev_w_in (by omega) (by omega)) (fun g11 => ?_) (fun g11 => ?_)
        · refine w_t (np := 15) (l2 := [some (eI (a1)), some (eI (0)), some (eI (v7))]) (s2 := [eI (0)]) rfl rfl rfl ?_
          refine b_rz rfl rfl (Or.inl rfl) ?_
          show ex_q (dt_fg L ρ) rc (d + 3, (316, 11, [some (eR a0), some (eI (a1))], [eI (0)]), (321, 19, [some (eR a0), some (eI (a1)), some (eI (a2))], [eR a0]) :: f :: F, μ)
          refine b_rz rfl rfl (Or.inl rfl) ?_
          show ex_q (dt_fg L ρ) rc (d + 4, (321, 19, [some (eR a0), some (eI (a1)), some (eI (a2))], [eI (0), eR a0]), f :: F, μ)
          refine b_ieq (t1 := 26) (t2 := 22) rfl rfl rfl rfl (fun g12 => ?_) (fun g12 => absurd g12 (by decide))
          refine w_t (np := 27) (l2 := [some (eR a0), some (eI (a1)), some (eI (a2))]) (s2 := [eI (2), eR a0]) rfl rfl rfl ?_
          refine w_cw (np := 30) (as := [eI (2)]) (l2 := [some (eR a0), some (eI (2))]) (rest := []) rfl rfl rfl (Nat.ble_eq.mp rfl) rfl rfl rfl (hI.kd gA0 (by decide) (n := 69) rfl) rfl ?_
          refine w_t (np := 1) (l2 := [some (eR a0), some (eI (2))]) (s2 := [eR a0]) rfl (s_an rfl (pos_g hI gA0 (by decide))) rfl ?_
          refine w_t (np := 2) (l2 := [some (eR a0), some (eI (2))]) (s2 := [eI (0), eR a0]) rfl rfl rfl ?_
          refine j_pf (np := 5) (w := 0) rfl rfl hI gA0 (by decide) (n := 69) rfl rfl (hO_i (lo := -2147483648) (hi := 2147483647) rfl (by decide)) ?_
          intro m13 I14 W15
          have F16 : Fr l_321 0 0 g μ m13 := F0.w W15 gA0 rfl
          refine w_t (np := 6) (l2 := [some (eR a0), some (eI (2))]) (s2 := [eR a0]) rfl (s_an rfl (pos_g I14 gA0 (by decide))) rfl ?_
          refine w_t (np := 7) (l2 := [some (eR a0), some (eI (2))]) (s2 := [eI (2), eR a0]) rfl rfl rfl ?_
          refine j_pf (np := 10) (w := 2) rfl rfl I14 gA0 (by decide) (n := 69) rfl rfl (hO_i (lo := -2147483648) (hi := 2147483647) rfl (by decide)) ?_
          intro m17 I18 W19
          have F20 : Fr l_321 0 0 g μ m17 := F16.w W19 gA0 rfl
          refine w_t (np := 11) (l2 := [some (eR a0), some (eI (2))]) (s2 := [eI (2)]) rfl rfl rfl ?_
          refine b_ine (t1 := 18) (t2 := 14) rfl rfl rfl rfl (fun g21 => ?_) (fun g21 => absurd g21 (by decide))
          refine w_t (np := 19) (l2 := [some (eR a0), some (eI (2))]) (s2 := [eI (0)]) rfl rfl rfl ?_
          refine b_rz rfl rfl (Or.inl rfl) ?_
          show ex_q (dt_fg L ρ) rc (d + 4, (321, 30, [some (eR a0), some (eI (a1)), some (eI (a2))], [eI (0)]), f :: F, m17)
          refine b_ine (t1 := 35) (t2 := 33) rfl rfl rfl rfl (fun g22 => absurd g22 (by decide)) (fun g22 => ?_)
          refine w_t (np := 34) (l2 := [some (eR a0), some (eI (a1)), some (eI (a2))]) (s2 := [eI (-1)]) rfl rfl rfl ?_
          exact b_ri rfl rfl (K m17 (-1) I18 F20 (by decide))
        · have b12 : 0 ≤ a1 ∧ a1 ≤ 23 := by omega
          have b13 : 0 ≤ v7 ∧ v7 ≤ 23 := by omega
          refine w_t (np := 11) (l2 := [some (eI (a1)), some (eI (0)), some (eI (v7))]) (s2 := [eI (1)]) rfl rfl rfl ?_
          refine w_go (t1 := 15) rfl rfl ?_
          refine b_rz rfl rfl (Or.inr rfl) ?_
          show ex_q (dt_fg L ρ) rc (d + 3, (316, 11, [some (eR a0), some (eI (a1))], [eI (1)]), (321, 19, [some (eR a0), some (eI (a1)), some (eI (a2))], [eR a0]) :: f :: F, μ)
          refine b_rz rfl rfl (Or.inr rfl) ?_
          show ex_q (dt_fg L ρ) rc (d + 4, (321, 19, [some (eR a0), some (eI (a1)), some (eI (a2))], [eI (1), eR a0]), f :: F, μ)
          refine b_ieq (t1 := 26) (t2 := 22) rfl rfl rfl rfl (fun g12 => absurd g12 (by decide)) (fun g12 => ?_)
          refine w_t (np := 23) (l2 := [some (eR a0), some (eI (a1)), some (eI (a2))]) (s2 := [eI (0), eR a0]) rfl rfl rfl ?_
          refine w_go (t1 := 27) rfl rfl ?_
          refine w_cw (np := 30) (as := [eI (0)]) (l2 := [some (eR a0), some (eI (0))]) (rest := []) rfl rfl rfl (Nat.ble_eq.mp rfl) rfl rfl rfl (hI.kd gA0 (by decide) (n := 69) rfl) rfl ?_
          refine w_t (np := 1) (l2 := [some (eR a0), some (eI (0))]) (s2 := [eR a0]) rfl (s_an rfl (pos_g hI gA0 (by decide))) rfl ?_
          refine w_t (np := 2) (l2 := [some (eR a0), some (eI (0))]) (s2 := [eI (0), eR a0]) rfl rfl rfl ?_
          refine j_pf (np := 5) (w := 0) rfl rfl hI gA0 (by decide) (n := 69) rfl rfl (hO_i (lo := -2147483648) (hi := 2147483647) rfl (by decide)) ?_
          intro m13 I14 W15
          have F16 : Fr l_321 0 0 g μ m13 := F0.w W15 gA0 rfl
          refine w_t (np := 6) (l2 := [some (eR a0), some (eI (0))]) (s2 := [eR a0]) rfl (s_an rfl (pos_g I14 gA0 (by decide))) rfl ?_
          refine w_t (np := 7) (l2 := [some (eR a0), some (eI (0))]) (s2 := [eI (0), eR a0]) rfl rfl rfl ?_
          refine j_pf (np := 10) (w := 0) rfl rfl I14 gA0 (by decide) (n := 69) rfl rfl (hO_i (lo := -2147483648) (hi := 2147483647) rfl (by decide)) ?_
          intro m17 I18 W19
          have F20 : Fr l_321 0 0 g μ m17 := F16.w W19 gA0 rfl
          refine w_t (np := 11) (l2 := [some (eR a0), some (eI (0))]) (s2 := [eI (0)]) rfl rfl rfl ?_
          refine b_ine (t1 := 18) (t2 := 14) rfl rfl rfl rfl (fun g21 => absurd g21 (by decide)) (fun g21 => ?_)
          refine w_t (np := 15) (l2 := [some (eR a0), some (eI (0))]) (s2 := [eI (1)]) rfl rfl rfl ?_
          refine w_go (t1 := 19) rfl rfl ?_
          refine b_rz rfl rfl (Or.inr rfl) ?_
          show ex_q (dt_fg L ρ) rc (d + 4, (321, 30, [some (eR a0), some (eI (a1)), some (eI (a2))], [eI (1)]), f :: F, m17)
          refine b_ine (t1 := 35) (t2 := 33) rfl rfl rfl rfl (fun g22 => ?_) (fun g22 => absurd g22 (by decide))
          refine w_t (np := 36) (l2 := [some (eR a0), some (eI (a1)), some (eI (a2))]) (s2 := [eR a0]) rfl (s_an rfl (pos_g I18 gA0 (by decide))) rfl ?_
          refine w_cw (np := 39) (as := []) (l2 := [some (eR a0), none, none, none, none]) (rest := []) rfl rfl rfl (Nat.ble_eq.mp rfl) rfl rfl rfl (I18.kd gA0 (by decide) (n := 69) rfl) rfl ?_
          refine s_304 I18 gA0 ?_
          intro m23 I24 F25
          have F26 : Fr l_321 0 0 g μ m23 := F20.t F25 rfl
          show ex_q (dt_fg L ρ) rc (d + 4, (321, 39, [some (eR a0), some (eI (a1)), some (eI (a2))], []), f :: F, m23)
          refine w_t (np := 40) (l2 := [some (eR a0), some (eI (a1)), some (eI (a2))]) (s2 := [eR a0]) rfl (s_an rfl (pos_g I24 gA0 (by decide))) rfl ?_
          refine j_gr (np := 43) rfl rfl I24 gA0 (by decide) (n := 69) rfl rfl rfl ?_
          intro v27 e28 b29 z30
          have b29 : g v27 = 81 := Nat.eq_of_beq_eq_true b29
          refine w_t (np := 44) (l2 := [some (eR a0), some (eI (a1)), some (eI (a2))]) (s2 := [eI (4), eR v27]) rfl rfl rfl ?_
          refine w_t (np := 45) (l2 := [some (eR a0), some (eI (a1)), some (eI (a2))]) (s2 := [eI (a1), eI (4), eR v27]) rfl rfl rfl ?_
          obtain ⟨v31, e32⟩ : ∃ zz : Int, zz = (4) * (a1) := ⟨_, rfl⟩
          have b33 : 0 ≤ v31 ∧ v31 ≤ 92 := by omega
          refine w_t (np := 46) (l2 := [some (eR a0), some (eI (a1)), some (eI (a2))]) (s2 := [eI (v31), eR v27]) rfl (b_imul (by rw [← e32]; exact ev_w_in (by omega) (by omega))) rfl ?_
          refine w_t (np := 47) (l2 := [some (eR a0), some (eI (a1)), some (eI (a2))]) (s2 := [eI (a2), eI (v31), eR v27]) rfl rfl rfl ?_
          obtain ⟨v34, e35⟩ : ∃ zz : Int, zz = (v31) + (a2) := ⟨_, rfl⟩
          have b36 : 0 ≤ v34 ∧ v34 ≤ 95 := by omega
          refine w_t (np := 48) (l2 := [some (eR a0), some (eI (a1)), some (eI (a2))]) (s2 := [eI (v34), eR v27]) rfl (b_iadd (by rw [← e35]; exact ev_w_in (by omega) (by omega))) rfl ?_
          refine j_al (np := 49) rfl rfl I24 b29 (by decide) (n := 96) rfl rfl (lo := 0) (hi := 95) (fun _ => rfl) (by omega) (by omega) ?_
          intro v37 e38 b39
          exact b_ri rfl rfl (K m23 (v37) I24 F26 (by omega))
