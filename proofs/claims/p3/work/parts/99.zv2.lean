/-! THE LAWS TURNS -/
theorem o_18 {L : Nat} {ρ : Nat → Int} {rc : eQ} {d : Nat} {F : List eFr} {μ : eM} {g : Nat → Nat} {i : Int} (hL : L ≤ 4096) (hρ : ∀ j, -2147483648 ≤ ρ j ∧ ρ j ≤ 2147483647) (hi : 0 ≤ i ∧ i + 8 ≤ (L : Int)) (hI : SI g μ) (g64 : g 64 = 1) (g98 : g 98 = 52) (hP : RP g μ) (hB : HB g μ 64) (K : ∀ (g2 : Nat → Nat) (m : eM), GP g g2 → SI g2 m → RP g2 m → HB g2 m 64 → m.2.1.length ≤ μ.2.1.length + 250 → m.2.2 ≤ μ.2.2 + 10281 → ex_q (dt_fg L ρ) rc (d + 14, (0, 1788, [some (eR 1), some (eR 64), some (eR 98), some (eI (i))], []), F, m)) : ex_q (dt_fg L ρ) rc (d + 14, (0, 822, [some (eR 1), some (eR 64), some (eR 98), some (eI (i))], []), F, μ) := by
  refine w_s (np := 823) (lv' := [some (eR 1), some (eR 64), some (eR 98), some (eI (i))]) (st' := [eR 64]) rfl rfl rfl ?_
  refine w_s (np := 824) (lv' := [some (eR 1), some (eR 64), some (eR 98), some (eI (i))]) (st' := [eR 1, eR 64]) rfl rfl rfl ?_
  refine w_s (np := 825) (lv' := [some (eR 1), some (eR 64), some (eR 98), some (eI (i))]) (st' := [eI (i), eR 1, eR 64]) rfl rfl rfl ?_
  refine w_s (np := 826) (lv' := [some (eR 1), some (eR 64), some (eR 98), some (eI (i))]) (st' := [eI (1), eI (i), eR 1, eR 64]) rfl rfl rfl ?_
  have w1 : ev_w (i + 1) = (i + 1) := ev_w_in (by omega) (by omega)
  refine w_s (np := 827) (lv' := [some (eR 1), some (eR 64), some (eR 98), some (eI (i))]) (st' := [eI (i + 1), eR 1, eR 64]) rfl (congrArg (fun q : Int => (some ([some (eR 1), some (eR 64), some (eR 98), some (eI (i))], eI q :: [eR 1, eR 64]) : Option (List (Option eV) × List eV))) w1) rfl ?_
  refine w_al (np := 828) (v := ρ (i + 1).toNat) rfl rfl (lw_sc hL (by omega) (by omega)) ?_
  refine w_s (np := 829) (lv' := [some (eR 1), some (eR 64), some (eR 98), some (eI (i))]) (st' := [eR 1, eI (ρ (i + 1).toNat), eR 64]) rfl rfl rfl ?_
  refine w_s (np := 830) (lv' := [some (eR 1), some (eR 64), some (eR 98), some (eI (i))]) (st' := [eI (i), eR 1, eI (ρ (i + 1).toNat), eR 64]) rfl rfl rfl ?_
  refine w_s (np := 831) (lv' := [some (eR 1), some (eR 64), some (eR 98), some (eI (i))]) (st' := [eI (2), eI (i), eR 1, eI (ρ (i + 1).toNat), eR 64]) rfl rfl rfl ?_
  have w2 : ev_w (i + 2) = (i + 2) := ev_w_in (by omega) (by omega)
  refine w_s (np := 832) (lv' := [some (eR 1), some (eR 64), some (eR 98), some (eI (i))]) (st' := [eI (i + 2), eR 1, eI (ρ (i + 1).toNat), eR 64]) rfl (congrArg (fun q : Int => (some ([some (eR 1), some (eR 64), some (eR 98), some (eI (i))], eI q :: [eR 1, eI (ρ (i + 1).toNat), eR 64]) : Option (List (Option eV) × List eV))) w2) rfl ?_
  refine w_al (np := 833) (v := ρ (i + 2).toNat) rfl rfl (lw_sc hL (by omega) (by omega)) ?_
  refine w_cw (np := 836) (as := [eI (ρ (i + 1).toNat), eI (ρ (i + 2).toNat)]) (l2 := [some (eR 64), some (eI (ρ (i + 1).toNat)), some (eI (ρ (i + 2).toNat))]) (rest := []) rfl rfl rfl (Nat.ble_eq.mp rfl) rfl rfl rfl (hI.kd g64 (by decide) (n := 14) rfl) rfl ?_
  refine s_173 (a1 := ρ (i + 1).toNat) (a2 := ρ (i + 2).toNat) hI g64 (hρ _) (hρ _)  ?_
  intro m5 v3 I6 F7 b4
  have p8 : RP g m5 := RP.fr hP F7 rfl
  have b9 := HB.fr hB g64 F7 rfl
  show ex_q (dt_fg L ρ) rc (d + 14, (0, 836, [some (eR 1), some (eR 64), some (eR 98), some (eI (i))], [eI v3]), F, m5)
  refine w_s (np := 837) (lv' := [some (eR 1), some (eR 64), some (eR 98), some (eI (i))]) (st' := []) rfl rfl rfl ?_
  refine w_s (np := 838) (lv' := [some (eR 1), some (eR 64), some (eR 98), some (eI (i))]) (st' := [eR 98]) rfl rfl rfl ?_
  refine w_s (np := 839) (lv' := [some (eR 1), some (eR 64), some (eR 98), some (eI (i))]) (st' := [eR 1, eR 98]) rfl rfl rfl ?_
  refine w_s (np := 840) (lv' := [some (eR 1), some (eR 64), some (eR 98), some (eI (i))]) (st' := [eI (i), eR 1, eR 98]) rfl rfl rfl ?_
  refine w_s (np := 841) (lv' := [some (eR 1), some (eR 64), some (eR 98), some (eI (i))]) (st' := [eI (1), eI (i), eR 1, eR 98]) rfl rfl rfl ?_
  have w10 : ev_w (i + 1) = (i + 1) := ev_w_in (by omega) (by omega)
  refine w_s (np := 842) (lv' := [some (eR 1), some (eR 64), some (eR 98), some (eI (i))]) (st' := [eI (i + 1), eR 1, eR 98]) rfl (congrArg (fun q : Int => (some ([some (eR 1), some (eR 64), some (eR 98), some (eI (i))], eI q :: [eR 1, eR 98]) : Option (List (Option eV) × List eV))) w10) rfl ?_
  refine w_al (np := 843) (v := ρ (i + 1).toNat) rfl rfl (lw_sc hL (by omega) (by omega)) ?_
  refine w_s (np := 844) (lv' := [some (eR 1), some (eR 64), some (eR 98), some (eI (i))]) (st' := [eR 1, eI (ρ (i + 1).toNat), eR 98]) rfl rfl rfl ?_
  refine w_s (np := 845) (lv' := [some (eR 1), some (eR 64), some (eR 98), some (eI (i))]) (st' := [eI (i), eR 1, eI (ρ (i + 1).toNat), eR 98]) rfl rfl rfl ?_
  refine w_s (np := 846) (lv' := [some (eR 1), some (eR 64), some (eR 98), some (eI (i))]) (st' := [eI (2), eI (i), eR 1, eI (ρ (i + 1).toNat), eR 98]) rfl rfl rfl ?_
  have w11 : ev_w (i + 2) = (i + 2) := ev_w_in (by omega) (by omega)
  refine w_s (np := 847) (lv' := [some (eR 1), some (eR 64), some (eR 98), some (eI (i))]) (st' := [eI (i + 2), eR 1, eI (ρ (i + 1).toNat), eR 98]) rfl (congrArg (fun q : Int => (some ([some (eR 1), some (eR 64), some (eR 98), some (eI (i))], eI q :: [eR 1, eI (ρ (i + 1).toNat), eR 98]) : Option (List (Option eV) × List eV))) w11) rfl ?_
  refine w_al (np := 848) (v := ρ (i + 2).toNat) rfl rfl (lw_sc hL (by omega) (by omega)) ?_
  refine w_cw (np := 851) (as := [eI (ρ (i + 1).toNat), eI (ρ (i + 2).toNat)]) (l2 := [some (eR 98), some (eI (ρ (i + 1).toNat)), some (eI (ρ (i + 2).toNat)), none]) (rest := []) rfl rfl rfl (Nat.ble_eq.mp rfl) rfl rfl rfl (I6.kd g98 (by decide) (n := 69) rfl) rfl ?_
  refine s_281 (a1 := ρ (i + 1).toNat) (a2 := ρ (i + 2).toNat) I6 g98 (hρ _) (hρ _)  ?_
  intro m14 v12 I15 F16 b13
  have p17 : RP g m14 := RP.fr p8 F16 rfl
  have b18 := HB.fr b9 g64 F16 rfl
  show ex_q (dt_fg L ρ) rc (d + 14, (0, 851, [some (eR 1), some (eR 64), some (eR 98), some (eI (i))], [eI v12]), F, m14)
  refine w_s (np := 852) (lv' := [some (eR 1), some (eR 64), some (eR 98), some (eI (i))]) (st' := []) rfl rfl rfl ?_
  refine w_go (t1 := 1788) rfl rfl ?_
  exact K g m14 (GP.r hI.1) I15 p17 b18 (by have := F7.1; have h0 := F7.2.1; have := F16.1; have h1 := F16.2.1; omega) (by have := F7.2.1; have := F16.2.1; omega)
theorem o_19 {L : Nat} {ρ : Nat → Int} {rc : eQ} {d : Nat} {F : List eFr} {μ : eM} {g : Nat → Nat} {i : Int} (hL : L ≤ 4096) (hρ : ∀ j, -2147483648 ≤ ρ j ∧ ρ j ≤ 2147483647) (hi : 0 ≤ i ∧ i + 8 ≤ (L : Int)) (hI : SI g μ) (g64 : g 64 = 1) (g98 : g 98 = 52) (hP : RP g μ) (hB : HB g μ 64) (K : ∀ (g2 : Nat → Nat) (m : eM), GP g g2 → SI g2 m → RP g2 m → HB g2 m 64 → m.2.1.length ≤ μ.2.1.length + 250 → m.2.2 ≤ μ.2.2 + 10281 → ex_q (dt_fg L ρ) rc (d + 14, (0, 1788, [some (eR 1), some (eR 64), some (eR 98), some (eI (i))], []), F, m)) : ex_q (dt_fg L ρ) rc (d + 14, (0, 855, [some (eR 1), some (eR 64), some (eR 98), some (eI (i))], []), F, μ) := by
  refine w_s (np := 856) (lv' := [some (eR 1), some (eR 64), some (eR 98), some (eI (i))]) (st' := [eR 64]) rfl rfl rfl ?_
  refine w_s (np := 857) (lv' := [some (eR 1), some (eR 64), some (eR 98), some (eI (i))]) (st' := [eR 1, eR 64]) rfl rfl rfl ?_
  refine w_s (np := 858) (lv' := [some (eR 1), some (eR 64), some (eR 98), some (eI (i))]) (st' := [eI (i), eR 1, eR 64]) rfl rfl rfl ?_
  refine w_s (np := 859) (lv' := [some (eR 1), some (eR 64), some (eR 98), some (eI (i))]) (st' := [eI (1), eI (i), eR 1, eR 64]) rfl rfl rfl ?_
  have w1 : ev_w (i + 1) = (i + 1) := ev_w_in (by omega) (by omega)
  refine w_s (np := 860) (lv' := [some (eR 1), some (eR 64), some (eR 98), some (eI (i))]) (st' := [eI (i + 1), eR 1, eR 64]) rfl (congrArg (fun q : Int => (some ([some (eR 1), some (eR 64), some (eR 98), some (eI (i))], eI q :: [eR 1, eR 64]) : Option (List (Option eV) × List eV))) w1) rfl ?_
  refine w_al (np := 861) (v := ρ (i + 1).toNat) rfl rfl (lw_sc hL (by omega) (by omega)) ?_
  refine w_s (np := 862) (lv' := [some (eR 1), some (eR 64), some (eR 98), some (eI (i))]) (st' := [eR 1, eI (ρ (i + 1).toNat), eR 64]) rfl rfl rfl ?_
  refine w_s (np := 863) (lv' := [some (eR 1), some (eR 64), some (eR 98), some (eI (i))]) (st' := [eI (i), eR 1, eI (ρ (i + 1).toNat), eR 64]) rfl rfl rfl ?_
  refine w_s (np := 864) (lv' := [some (eR 1), some (eR 64), some (eR 98), some (eI (i))]) (st' := [eI (2), eI (i), eR 1, eI (ρ (i + 1).toNat), eR 64]) rfl rfl rfl ?_
  have w2 : ev_w (i + 2) = (i + 2) := ev_w_in (by omega) (by omega)
  refine w_s (np := 865) (lv' := [some (eR 1), some (eR 64), some (eR 98), some (eI (i))]) (st' := [eI (i + 2), eR 1, eI (ρ (i + 1).toNat), eR 64]) rfl (congrArg (fun q : Int => (some ([some (eR 1), some (eR 64), some (eR 98), some (eI (i))], eI q :: [eR 1, eI (ρ (i + 1).toNat), eR 64]) : Option (List (Option eV) × List eV))) w2) rfl ?_
  refine w_al (np := 866) (v := ρ (i + 2).toNat) rfl rfl (lw_sc hL (by omega) (by omega)) ?_
  refine w_cw (np := 869) (as := [eI (ρ (i + 1).toNat), eI (ρ (i + 2).toNat)]) (l2 := [some (eR 64), some (eI (ρ (i + 1).toNat)), some (eI (ρ (i + 2).toNat)), none]) (rest := []) rfl rfl rfl (Nat.ble_eq.mp rfl) rfl rfl rfl (hI.kd g64 (by decide) (n := 14) rfl) rfl ?_
  refine s_174 (a1 := ρ (i + 1).toNat) (a2 := ρ (i + 2).toNat) hI g64 (hρ _) (hρ _)  ?_
  intro g5 m6 v3 E7 I8 F9 b4
  have p10 := RP.fr hP F9 rfl
  have b11 := HB.fr hB g64 F9 rfl
  have G16 := E7.p
  have p14 := p10.go I8 G16
  have b15 := b11.go G16
  have g12 : g5 64 = 1 := E7.g g64 (by decide)
  have g13 : g5 98 = 52 := E7.g g98 (by decide)
  show ex_q (dt_fg L ρ) rc (d + 14, (0, 869, [some (eR 1), some (eR 64), some (eR 98), some (eI (i))], [eI v3]), F, m6)
  refine w_s (np := 870) (lv' := [some (eR 1), some (eR 64), some (eR 98), some (eI (i))]) (st' := []) rfl rfl rfl ?_
  refine w_s (np := 871) (lv' := [some (eR 1), some (eR 64), some (eR 98), some (eI (i))]) (st' := [eR 98]) rfl rfl rfl ?_
  refine w_s (np := 872) (lv' := [some (eR 1), some (eR 64), some (eR 98), some (eI (i))]) (st' := [eR 1, eR 98]) rfl rfl rfl ?_
  refine w_s (np := 873) (lv' := [some (eR 1), some (eR 64), some (eR 98), some (eI (i))]) (st' := [eI (i), eR 1, eR 98]) rfl rfl rfl ?_
  refine w_s (np := 874) (lv' := [some (eR 1), some (eR 64), some (eR 98), some (eI (i))]) (st' := [eI (1), eI (i), eR 1, eR 98]) rfl rfl rfl ?_
  have w17 : ev_w (i + 1) = (i + 1) := ev_w_in (by omega) (by omega)
  refine w_s (np := 875) (lv' := [some (eR 1), some (eR 64), some (eR 98), some (eI (i))]) (st' := [eI (i + 1), eR 1, eR 98]) rfl (congrArg (fun q : Int => (some ([some (eR 1), some (eR 64), some (eR 98), some (eI (i))], eI q :: [eR 1, eR 98]) : Option (List (Option eV) × List eV))) w17) rfl ?_
  refine w_al (np := 876) (v := ρ (i + 1).toNat) rfl rfl (lw_sc hL (by omega) (by omega)) ?_
  refine w_s (np := 877) (lv' := [some (eR 1), some (eR 64), some (eR 98), some (eI (i))]) (st' := [eR 1, eI (ρ (i + 1).toNat), eR 98]) rfl rfl rfl ?_
  refine w_s (np := 878) (lv' := [some (eR 1), some (eR 64), some (eR 98), some (eI (i))]) (st' := [eI (i), eR 1, eI (ρ (i + 1).toNat), eR 98]) rfl rfl rfl ?_
  refine w_s (np := 879) (lv' := [some (eR 1), some (eR 64), some (eR 98), some (eI (i))]) (st' := [eI (2), eI (i), eR 1, eI (ρ (i + 1).toNat), eR 98]) rfl rfl rfl ?_
  have w18 : ev_w (i + 2) = (i + 2) := ev_w_in (by omega) (by omega)
  refine w_s (np := 880) (lv' := [some (eR 1), some (eR 64), some (eR 98), some (eI (i))]) (st' := [eI (i + 2), eR 1, eI (ρ (i + 1).toNat), eR 98]) rfl (congrArg (fun q : Int => (some ([some (eR 1), some (eR 64), some (eR 98), some (eI (i))], eI q :: [eR 1, eI (ρ (i + 1).toNat), eR 98]) : Option (List (Option eV) × List eV))) w18) rfl ?_
  refine w_al (np := 881) (v := ρ (i + 2).toNat) rfl rfl (lw_sc hL (by omega) (by omega)) ?_
  refine w_cw (np := 884) (as := [eI (ρ (i + 1).toNat), eI (ρ (i + 2).toNat)]) (l2 := [some (eR 98), some (eI (ρ (i + 1).toNat)), some (eI (ρ (i + 2).toNat))]) (rest := []) rfl rfl rfl (Nat.ble_eq.mp rfl) rfl rfl rfl (I8.kd g13 (by decide) (n := 69) rfl) rfl ?_
  refine s_286 (a1 := ρ (i + 1).toNat) (a2 := ρ (i + 2).toNat) I8 g13 (hρ _) (hρ _)  ?_
  intro m21 v19 I22 F23 b20
  have p24 : RP g5 m21 := RP.fr p14 F23 rfl
  have b25 := HB.fr b15 g12 F23 rfl
  show ex_q (dt_fg L ρ) rc (d + 14, (0, 884, [some (eR 1), some (eR 64), some (eR 98), some (eI (i))], [eI v19]), F, m21)
  refine w_s (np := 885) (lv' := [some (eR 1), some (eR 64), some (eR 98), some (eI (i))]) (st' := []) rfl rfl rfl ?_
  refine w_go (t1 := 1788) rfl rfl ?_
  exact K g5 m21 G16 I22 p24 b25 (by have := F9.1; have h0 := F9.2.1; have := F23.1; have h1 := F23.2.1; omega) (by have := F9.2.1; have := F23.2.1; omega)
theorem o_20 {L : Nat} {ρ : Nat → Int} {rc : eQ} {d : Nat} {F : List eFr} {μ : eM} {g : Nat → Nat} {i : Int} (hL : L ≤ 4096) (hρ : ∀ j, -2147483648 ≤ ρ j ∧ ρ j ≤ 2147483647) (hi : 0 ≤ i ∧ i + 8 ≤ (L : Int)) (hI : SI g μ) (g64 : g 64 = 1) (g98 : g 98 = 52) (hP : RP g μ) (hB : HB g μ 64) (K : ∀ (g2 : Nat → Nat) (m : eM), GP g g2 → SI g2 m → RP g2 m → HB g2 m 64 → m.2.1.length ≤ μ.2.1.length + 250 → m.2.2 ≤ μ.2.2 + 10281 → ex_q (dt_fg L ρ) rc (d + 14, (0, 1788, [some (eR 1), some (eR 64), some (eR 98), some (eI (i))], []), F, m)) : ex_q (dt_fg L ρ) rc (d + 14, (0, 888, [some (eR 1), some (eR 64), some (eR 98), some (eI (i))], []), F, μ) := by
  refine w_s (np := 889) (lv' := [some (eR 1), some (eR 64), some (eR 98), some (eI (i))]) (st' := [eR 64]) rfl rfl rfl ?_
  refine w_s (np := 890) (lv' := [some (eR 1), some (eR 64), some (eR 98), some (eI (i))]) (st' := [eR 1, eR 64]) rfl rfl rfl ?_
  refine w_s (np := 891) (lv' := [some (eR 1), some (eR 64), some (eR 98), some (eI (i))]) (st' := [eI (i), eR 1, eR 64]) rfl rfl rfl ?_
  refine w_s (np := 892) (lv' := [some (eR 1), some (eR 64), some (eR 98), some (eI (i))]) (st' := [eI (1), eI (i), eR 1, eR 64]) rfl rfl rfl ?_
  have w1 : ev_w (i + 1) = (i + 1) := ev_w_in (by omega) (by omega)
  refine w_s (np := 893) (lv' := [some (eR 1), some (eR 64), some (eR 98), some (eI (i))]) (st' := [eI (i + 1), eR 1, eR 64]) rfl (congrArg (fun q : Int => (some ([some (eR 1), some (eR 64), some (eR 98), some (eI (i))], eI q :: [eR 1, eR 64]) : Option (List (Option eV) × List eV))) w1) rfl ?_
  refine w_al (np := 894) (v := ρ (i + 1).toNat) rfl rfl (lw_sc hL (by omega) (by omega)) ?_
  refine w_s (np := 895) (lv' := [some (eR 1), some (eR 64), some (eR 98), some (eI (i))]) (st' := [eR 1, eI (ρ (i + 1).toNat), eR 64]) rfl rfl rfl ?_
  refine w_s (np := 896) (lv' := [some (eR 1), some (eR 64), some (eR 98), some (eI (i))]) (st' := [eI (i), eR 1, eI (ρ (i + 1).toNat), eR 64]) rfl rfl rfl ?_
  refine w_s (np := 897) (lv' := [some (eR 1), some (eR 64), some (eR 98), some (eI (i))]) (st' := [eI (2), eI (i), eR 1, eI (ρ (i + 1).toNat), eR 64]) rfl rfl rfl ?_
  have w2 : ev_w (i + 2) = (i + 2) := ev_w_in (by omega) (by omega)
  refine w_s (np := 898) (lv' := [some (eR 1), some (eR 64), some (eR 98), some (eI (i))]) (st' := [eI (i + 2), eR 1, eI (ρ (i + 1).toNat), eR 64]) rfl (congrArg (fun q : Int => (some ([some (eR 1), some (eR 64), some (eR 98), some (eI (i))], eI q :: [eR 1, eI (ρ (i + 1).toNat), eR 64]) : Option (List (Option eV) × List eV))) w2) rfl ?_
  refine w_al (np := 899) (v := ρ (i + 2).toNat) rfl rfl (lw_sc hL (by omega) (by omega)) ?_
  refine w_cw (np := 902) (as := [eI (ρ (i + 1).toNat), eI (ρ (i + 2).toNat)]) (l2 := [some (eR 64), some (eI (ρ (i + 1).toNat)), some (eI (ρ (i + 2).toNat))]) (rest := []) rfl rfl rfl (Nat.ble_eq.mp rfl) rfl rfl rfl (hI.kd g64 (by decide) (n := 14) rfl) rfl ?_
  refine s_175 (a1 := ρ (i + 1).toNat) (a2 := ρ (i + 2).toNat) hI g64 (hρ _) (hρ _)  ?_
  intro g5 m6 v3 E7 I8 F9 b4
  have p10 := RP.fr hP F9 rfl
  have b11 := HB.fr hB g64 F9 rfl
  have G16 := E7.p
  have p14 := p10.go I8 G16
  have b15 := b11.go G16
  have g12 : g5 64 = 1 := E7.g g64 (by decide)
  have g13 : g5 98 = 52 := E7.g g98 (by decide)
  show ex_q (dt_fg L ρ) rc (d + 14, (0, 902, [some (eR 1), some (eR 64), some (eR 98), some (eI (i))], [eI v3]), F, m6)
  refine w_s (np := 903) (lv' := [some (eR 1), some (eR 64), some (eR 98), some (eI (i))]) (st' := []) rfl rfl rfl ?_
  refine w_s (np := 904) (lv' := [some (eR 1), some (eR 64), some (eR 98), some (eI (i))]) (st' := [eR 98]) rfl rfl rfl ?_
  refine w_s (np := 905) (lv' := [some (eR 1), some (eR 64), some (eR 98), some (eI (i))]) (st' := [eR 1, eR 98]) rfl rfl rfl ?_
  refine w_s (np := 906) (lv' := [some (eR 1), some (eR 64), some (eR 98), some (eI (i))]) (st' := [eI (i), eR 1, eR 98]) rfl rfl rfl ?_
  refine w_s (np := 907) (lv' := [some (eR 1), some (eR 64), some (eR 98), some (eI (i))]) (st' := [eI (1), eI (i), eR 1, eR 98]) rfl rfl rfl ?_
  have w17 : ev_w (i + 1) = (i + 1) := ev_w_in (by omega) (by omega)
  refine w_s (np := 908) (lv' := [some (eR 1), some (eR 64), some (eR 98), some (eI (i))]) (st' := [eI (i + 1), eR 1, eR 98]) rfl (congrArg (fun q : Int => (some ([some (eR 1), some (eR 64), some (eR 98), some (eI (i))], eI q :: [eR 1, eR 98]) : Option (List (Option eV) × List eV))) w17) rfl ?_
  refine w_al (np := 909) (v := ρ (i + 1).toNat) rfl rfl (lw_sc hL (by omega) (by omega)) ?_
  refine w_s (np := 910) (lv' := [some (eR 1), some (eR 64), some (eR 98), some (eI (i))]) (st' := [eR 1, eI (ρ (i + 1).toNat), eR 98]) rfl rfl rfl ?_
  refine w_s (np := 911) (lv' := [some (eR 1), some (eR 64), some (eR 98), some (eI (i))]) (st' := [eI (i), eR 1, eI (ρ (i + 1).toNat), eR 98]) rfl rfl rfl ?_
  refine w_s (np := 912) (lv' := [some (eR 1), some (eR 64), some (eR 98), some (eI (i))]) (st' := [eI (2), eI (i), eR 1, eI (ρ (i + 1).toNat), eR 98]) rfl rfl rfl ?_
  have w18 : ev_w (i + 2) = (i + 2) := ev_w_in (by omega) (by omega)
  refine w_s (np := 913) (lv' := [some (eR 1), some (eR 64), some (eR 98), some (eI (i))]) (st' := [eI (i + 2), eR 1, eI (ρ (i + 1).toNat), eR 98]) rfl (congrArg (fun q : Int => (some ([some (eR 1), some (eR 64), some (eR 98), some (eI (i))], eI q :: [eR 1, eI (ρ (i + 1).toNat), eR 98]) : Option (List (Option eV) × List eV))) w18) rfl ?_
  refine w_al (np := 914) (v := ρ (i + 2).toNat) rfl rfl (lw_sc hL (by omega) (by omega)) ?_
  refine w_cw (np := 917) (as := [eI (ρ (i + 1).toNat), eI (ρ (i + 2).toNat)]) (l2 := [some (eR 98), some (eI (ρ (i + 1).toNat)), some (eI (ρ (i + 2).toNat)), none, none]) (rest := []) rfl rfl rfl (Nat.ble_eq.mp rfl) rfl rfl rfl (I8.kd g13 (by decide) (n := 69) rfl) rfl ?_
  refine s_287 (a1 := ρ (i + 1).toNat) (a2 := ρ (i + 2).toNat) I8 g13 (hρ _) (hρ _)  ?_
  intro m21 v19 I22 F23 b20
  have p24 : RP g5 m21 := RP.fr p14 F23 rfl
  have b25 := HB.fr b15 g12 F23 rfl
  show ex_q (dt_fg L ρ) rc (d + 14, (0, 917, [some (eR 1), some (eR 64), some (eR 98), some (eI (i))], [eI v19]), F, m21)
  refine w_s (np := 918) (lv' := [some (eR 1), some (eR 64), some (eR 98), some (eI (i))]) (st' := []) rfl rfl rfl ?_
  refine w_go (t1 := 1788) rfl rfl ?_
  exact K g5 m21 G16 I22 p24 b25 (by have := F9.1; have h0 := F9.2.1; have := F23.1; have h1 := F23.2.1; omega) (by have := F9.2.1; have := F23.2.1; omega)
theorem o_21 {L : Nat} {ρ : Nat → Int} {rc : eQ} {d : Nat} {F : List eFr} {μ : eM} {g : Nat → Nat} {i : Int} (hL : L ≤ 4096) (hρ : ∀ j, -2147483648 ≤ ρ j ∧ ρ j ≤ 2147483647) (hi : 0 ≤ i ∧ i + 8 ≤ (L : Int)) (hI : SI g μ) (g64 : g 64 = 1) (g98 : g 98 = 52) (hP : RP g μ) (hB : HB g μ 64) (K : ∀ (g2 : Nat → Nat) (m : eM), GP g g2 → SI g2 m → RP g2 m → HB g2 m 64 → m.2.1.length ≤ μ.2.1.length + 250 → m.2.2 ≤ μ.2.2 + 10281 → ex_q (dt_fg L ρ) rc (d + 14, (0, 1788, [some (eR 1), some (eR 64), some (eR 98), some (eI (i))], []), F, m)) : ex_q (dt_fg L ρ) rc (d + 14, (0, 921, [some (eR 1), some (eR 64), some (eR 98), some (eI (i))], []), F, μ) := by
  refine w_s (np := 922) (lv' := [some (eR 1), some (eR 64), some (eR 98), some (eI (i))]) (st' := [eR 64]) rfl rfl rfl ?_
  refine w_s (np := 923) (lv' := [some (eR 1), some (eR 64), some (eR 98), some (eI (i))]) (st' := [eR 1, eR 64]) rfl rfl rfl ?_
  refine w_s (np := 924) (lv' := [some (eR 1), some (eR 64), some (eR 98), some (eI (i))]) (st' := [eI (i), eR 1, eR 64]) rfl rfl rfl ?_
  refine w_s (np := 925) (lv' := [some (eR 1), some (eR 64), some (eR 98), some (eI (i))]) (st' := [eI (1), eI (i), eR 1, eR 64]) rfl rfl rfl ?_
  have w1 : ev_w (i + 1) = (i + 1) := ev_w_in (by omega) (by omega)
  refine w_s (np := 926) (lv' := [some (eR 1), some (eR 64), some (eR 98), some (eI (i))]) (st' := [eI (i + 1), eR 1, eR 64]) rfl (congrArg (fun q : Int => (some ([some (eR 1), some (eR 64), some (eR 98), some (eI (i))], eI q :: [eR 1, eR 64]) : Option (List (Option eV) × List eV))) w1) rfl ?_
  refine w_al (np := 927) (v := ρ (i + 1).toNat) rfl rfl (lw_sc hL (by omega) (by omega)) ?_
  refine w_s (np := 928) (lv' := [some (eR 1), some (eR 64), some (eR 98), some (eI (i))]) (st' := [eR 1, eI (ρ (i + 1).toNat), eR 64]) rfl rfl rfl ?_
  refine w_s (np := 929) (lv' := [some (eR 1), some (eR 64), some (eR 98), some (eI (i))]) (st' := [eI (i), eR 1, eI (ρ (i + 1).toNat), eR 64]) rfl rfl rfl ?_
  refine w_s (np := 930) (lv' := [some (eR 1), some (eR 64), some (eR 98), some (eI (i))]) (st' := [eI (2), eI (i), eR 1, eI (ρ (i + 1).toNat), eR 64]) rfl rfl rfl ?_
  have w2 : ev_w (i + 2) = (i + 2) := ev_w_in (by omega) (by omega)
  refine w_s (np := 931) (lv' := [some (eR 1), some (eR 64), some (eR 98), some (eI (i))]) (st' := [eI (i + 2), eR 1, eI (ρ (i + 1).toNat), eR 64]) rfl (congrArg (fun q : Int => (some ([some (eR 1), some (eR 64), some (eR 98), some (eI (i))], eI q :: [eR 1, eI (ρ (i + 1).toNat), eR 64]) : Option (List (Option eV) × List eV))) w2) rfl ?_
  refine w_al (np := 932) (v := ρ (i + 2).toNat) rfl rfl (lw_sc hL (by omega) (by omega)) ?_
  refine w_s (np := 933) (lv' := [some (eR 1), some (eR 64), some (eR 98), some (eI (i))]) (st' := [eR 1, eI (ρ (i + 2).toNat), eI (ρ (i + 1).toNat), eR 64]) rfl rfl rfl ?_
  refine w_s (np := 934) (lv' := [some (eR 1), some (eR 64), some (eR 98), some (eI (i))]) (st' := [eI (i), eR 1, eI (ρ (i + 2).toNat), eI (ρ (i + 1).toNat), eR 64]) rfl rfl rfl ?_
  refine w_s (np := 935) (lv' := [some (eR 1), some (eR 64), some (eR 98), some (eI (i))]) (st' := [eI (3), eI (i), eR 1, eI (ρ (i + 2).toNat), eI (ρ (i + 1).toNat), eR 64]) rfl rfl rfl ?_
  have w3 : ev_w (i + 3) = (i + 3) := ev_w_in (by omega) (by omega)
  refine w_s (np := 936) (lv' := [some (eR 1), some (eR 64), some (eR 98), some (eI (i))]) (st' := [eI (i + 3), eR 1, eI (ρ (i + 2).toNat), eI (ρ (i + 1).toNat), eR 64]) rfl (congrArg (fun q : Int => (some ([some (eR 1), some (eR 64), some (eR 98), some (eI (i))], eI q :: [eR 1, eI (ρ (i + 2).toNat), eI (ρ (i + 1).toNat), eR 64]) : Option (List (Option eV) × List eV))) w3) rfl ?_
  refine w_al (np := 937) (v := ρ (i + 3).toNat) rfl rfl (lw_sc hL (by omega) (by omega)) ?_
  refine w_cw (np := 940) (as := [eI (ρ (i + 1).toNat), eI (ρ (i + 2).toNat), eI (ρ (i + 3).toNat)]) (l2 := [some (eR 64), some (eI (ρ (i + 1).toNat)), some (eI (ρ (i + 2).toNat)), some (eI (ρ (i + 3).toNat)), none]) (rest := []) rfl rfl rfl (Nat.ble_eq.mp rfl) rfl rfl rfl (hI.kd g64 (by decide) (n := 14) rfl) rfl ?_
  refine s_176 (a1 := ρ (i + 1).toNat) (a2 := ρ (i + 2).toNat) (a3 := ρ (i + 3).toNat) hI g64 (hρ _) (hρ _) (hρ _)  ?_
  intro g6 m7 v4 E8 I9 F10 b5
  have p11 := RP.fr hP F10 rfl
  have b12 := HB.fr hB g64 F10 rfl
  have G17 := E8.p
  have p15 := p11.go I9 G17
  have b16 := b12.go G17
  have g13 : g6 64 = 1 := E8.g g64 (by decide)
  have g14 : g6 98 = 52 := E8.g g98 (by decide)
  show ex_q (dt_fg L ρ) rc (d + 14, (0, 940, [some (eR 1), some (eR 64), some (eR 98), some (eI (i))], [eI v4]), F, m7)
  refine w_s (np := 941) (lv' := [some (eR 1), some (eR 64), some (eR 98), some (eI (i))]) (st' := []) rfl rfl rfl ?_
  refine w_s (np := 942) (lv' := [some (eR 1), some (eR 64), some (eR 98), some (eI (i))]) (st' := [eR 98]) rfl rfl rfl ?_
  refine w_s (np := 943) (lv' := [some (eR 1), some (eR 64), some (eR 98), some (eI (i))]) (st' := [eR 1, eR 98]) rfl rfl rfl ?_
  refine w_s (np := 944) (lv' := [some (eR 1), some (eR 64), some (eR 98), some (eI (i))]) (st' := [eI (i), eR 1, eR 98]) rfl rfl rfl ?_
  refine w_s (np := 945) (lv' := [some (eR 1), some (eR 64), some (eR 98), some (eI (i))]) (st' := [eI (1), eI (i), eR 1, eR 98]) rfl rfl rfl ?_
  have w18 : ev_w (i + 1) = (i + 1) := ev_w_in (by omega) (by omega)
  refine w_s (np := 946) (lv' := [some (eR 1), some (eR 64), some (eR 98), some (eI (i))]) (st' := [eI (i + 1), eR 1, eR 98]) rfl (congrArg (fun q : Int => (some ([some (eR 1), some (eR 64), some (eR 98), some (eI (i))], eI q :: [eR 1, eR 98]) : Option (List (Option eV) × List eV))) w18) rfl ?_
  refine w_al (np := 947) (v := ρ (i + 1).toNat) rfl rfl (lw_sc hL (by omega) (by omega)) ?_
  refine w_s (np := 948) (lv' := [some (eR 1), some (eR 64), some (eR 98), some (eI (i))]) (st' := [eR 1, eI (ρ (i + 1).toNat), eR 98]) rfl rfl rfl ?_
  refine w_s (np := 949) (lv' := [some (eR 1), some (eR 64), some (eR 98), some (eI (i))]) (st' := [eI (i), eR 1, eI (ρ (i + 1).toNat), eR 98]) rfl rfl rfl ?_
  refine w_s (np := 950) (lv' := [some (eR 1), some (eR 64), some (eR 98), some (eI (i))]) (st' := [eI (2), eI (i), eR 1, eI (ρ (i + 1).toNat), eR 98]) rfl rfl rfl ?_
  have w19 : ev_w (i + 2) = (i + 2) := ev_w_in (by omega) (by omega)
  refine w_s (np := 951) (lv' := [some (eR 1), some (eR 64), some (eR 98), some (eI (i))]) (st' := [eI (i + 2), eR 1, eI (ρ (i + 1).toNat), eR 98]) rfl (congrArg (fun q : Int => (some ([some (eR 1), some (eR 64), some (eR 98), some (eI (i))], eI q :: [eR 1, eI (ρ (i + 1).toNat), eR 98]) : Option (List (Option eV) × List eV))) w19) rfl ?_
  refine w_al (np := 952) (v := ρ (i + 2).toNat) rfl rfl (lw_sc hL (by omega) (by omega)) ?_
  refine w_s (np := 953) (lv' := [some (eR 1), some (eR 64), some (eR 98), some (eI (i))]) (st' := [eR 1, eI (ρ (i + 2).toNat), eI (ρ (i + 1).toNat), eR 98]) rfl rfl rfl ?_
  refine w_s (np := 954) (lv' := [some (eR 1), some (eR 64), some (eR 98), some (eI (i))]) (st' := [eI (i), eR 1, eI (ρ (i + 2).toNat), eI (ρ (i + 1).toNat), eR 98]) rfl rfl rfl ?_
  refine w_s (np := 955) (lv' := [some (eR 1), some (eR 64), some (eR 98), some (eI (i))]) (st' := [eI (3), eI (i), eR 1, eI (ρ (i + 2).toNat), eI (ρ (i + 1).toNat), eR 98]) rfl rfl rfl ?_
  have w20 : ev_w (i + 3) = (i + 3) := ev_w_in (by omega) (by omega)
  refine w_s (np := 956) (lv' := [some (eR 1), some (eR 64), some (eR 98), some (eI (i))]) (st' := [eI (i + 3), eR 1, eI (ρ (i + 2).toNat), eI (ρ (i + 1).toNat), eR 98]) rfl (congrArg (fun q : Int => (some ([some (eR 1), some (eR 64), some (eR 98), some (eI (i))], eI q :: [eR 1, eI (ρ (i + 2).toNat), eI (ρ (i + 1).toNat), eR 98]) : Option (List (Option eV) × List eV))) w20) rfl ?_
  refine w_al (np := 957) (v := ρ (i + 3).toNat) rfl rfl (lw_sc hL (by omega) (by omega)) ?_
  refine w_cw (np := 960) (as := [eI (ρ (i + 1).toNat), eI (ρ (i + 2).toNat), eI (ρ (i + 3).toNat)]) (l2 := [some (eR 98), some (eI (ρ (i + 1).toNat)), some (eI (ρ (i + 2).toNat)), some (eI (ρ (i + 3).toNat)), none, none, none, none, none]) (rest := []) rfl rfl rfl (Nat.ble_eq.mp rfl) rfl rfl rfl (I9.kd g14 (by decide) (n := 69) rfl) rfl ?_
  refine s_289 (a1 := ρ (i + 1).toNat) (a2 := ρ (i + 2).toNat) (a3 := ρ (i + 3).toNat) I9 g14 (hρ _) (hρ _) (hρ _) p15.2.2.1 p15.2.2.2.1 p15.2.2.2.2.1 ?_
  intro m23 v21 I24 F25 b22
  have p26 : RP g6 m23 := RP.fr p15 F25 rfl
  have b27 := HB.fr b16 g13 F25 rfl
  show ex_q (dt_fg L ρ) rc (d + 14, (0, 960, [some (eR 1), some (eR 64), some (eR 98), some (eI (i))], [eI v21]), F, m23)
  refine w_s (np := 961) (lv' := [some (eR 1), some (eR 64), some (eR 98), some (eI (i))]) (st' := []) rfl rfl rfl ?_
  refine w_go (t1 := 1788) rfl rfl ?_
  exact K g6 m23 G17 I24 p26 b27 (by have := F10.1; have h0 := F10.2.1; have := F25.1; have h1 := F25.2.1; omega) (by have := F10.2.1; have := F25.2.1; omega)
theorem o_23 {L : Nat} {ρ : Nat → Int} {rc : eQ} {d : Nat} {F : List eFr} {μ : eM} {g : Nat → Nat} {i : Int} (hL : L ≤ 4096) (hρ : ∀ j, -2147483648 ≤ ρ j ∧ ρ j ≤ 2147483647) (hi : 0 ≤ i ∧ i + 8 ≤ (L : Int)) (hI : SI g μ) (g64 : g 64 = 1) (g98 : g 98 = 52) (hP : RP g μ) (hB : HB g μ 64) (K : ∀ (g2 : Nat → Nat) (m : eM), GP g g2 → SI g2 m → RP g2 m → HB g2 m 64 → m.2.1.length ≤ μ.2.1.length + 250 → m.2.2 ≤ μ.2.2 + 10281 → ex_q (dt_fg L ρ) rc (d + 14, (0, 1788, [some (eR 1), some (eR 64), some (eR 98), some (eI (i))], []), F, m)) : ex_q (dt_fg L ρ) rc (d + 14, (0, 1013, [some (eR 1), some (eR 64), some (eR 98), some (eI (i))], []), F, μ) := by
  refine w_s (np := 1014) (lv' := [some (eR 1), some (eR 64), some (eR 98), some (eI (i))]) (st' := [eR 64]) rfl rfl rfl ?_
  refine w_s (np := 1015) (lv' := [some (eR 1), some (eR 64), some (eR 98), some (eI (i))]) (st' := [eR 1, eR 64]) rfl rfl rfl ?_
  refine w_s (np := 1016) (lv' := [some (eR 1), some (eR 64), some (eR 98), some (eI (i))]) (st' := [eI (i), eR 1, eR 64]) rfl rfl rfl ?_
  refine w_s (np := 1017) (lv' := [some (eR 1), some (eR 64), some (eR 98), some (eI (i))]) (st' := [eI (1), eI (i), eR 1, eR 64]) rfl rfl rfl ?_
  have w1 : ev_w (i + 1) = (i + 1) := ev_w_in (by omega) (by omega)
  refine w_s (np := 1018) (lv' := [some (eR 1), some (eR 64), some (eR 98), some (eI (i))]) (st' := [eI (i + 1), eR 1, eR 64]) rfl (congrArg (fun q : Int => (some ([some (eR 1), some (eR 64), some (eR 98), some (eI (i))], eI q :: [eR 1, eR 64]) : Option (List (Option eV) × List eV))) w1) rfl ?_
  refine w_al (np := 1019) (v := ρ (i + 1).toNat) rfl rfl (lw_sc hL (by omega) (by omega)) ?_
  refine w_cw (np := 1022) (as := [eI (ρ (i + 1).toNat)]) (l2 := [some (eR 64), some (eI (ρ (i + 1).toNat))]) (rest := []) rfl rfl rfl (Nat.ble_eq.mp rfl) rfl rfl rfl (hI.kd g64 (by decide) (n := 14) rfl) rfl ?_
  refine s_178 (a1 := ρ (i + 1).toNat) hI g64 (hρ _)  ?_
  intro g4 m5 v2 E6 I7 F8 b3
  have p9 := RP.fr hP F8 rfl
  have b10 := HB.fr hB g64 F8 rfl
  have G15 := E6.p
  have p13 := p9.go I7 G15
  have b14 := b10.go G15
  have g11 : g4 64 = 1 := E6.g g64 (by decide)
  have g12 : g4 98 = 52 := E6.g g98 (by decide)
  show ex_q (dt_fg L ρ) rc (d + 14, (0, 1022, [some (eR 1), some (eR 64), some (eR 98), some (eI (i))], [eI v2]), F, m5)
  refine w_s (np := 1023) (lv' := [some (eR 1), some (eR 64), some (eR 98), some (eI (i))]) (st' := []) rfl rfl rfl ?_
  refine w_s (np := 1024) (lv' := [some (eR 1), some (eR 64), some (eR 98), some (eI (i))]) (st' := [eR 98]) rfl rfl rfl ?_
  refine w_s (np := 1025) (lv' := [some (eR 1), some (eR 64), some (eR 98), some (eI (i))]) (st' := [eR 1, eR 98]) rfl rfl rfl ?_
  refine w_s (np := 1026) (lv' := [some (eR 1), some (eR 64), some (eR 98), some (eI (i))]) (st' := [eI (i), eR 1, eR 98]) rfl rfl rfl ?_
  refine w_s (np := 1027) (lv' := [some (eR 1), some (eR 64), some (eR 98), some (eI (i))]) (st' := [eI (1), eI (i), eR 1, eR 98]) rfl rfl rfl ?_
  have w16 : ev_w (i + 1) = (i + 1) := ev_w_in (by omega) (by omega)
  refine w_s (np := 1028) (lv' := [some (eR 1), some (eR 64), some (eR 98), some (eI (i))]) (st' := [eI (i + 1), eR 1, eR 98]) rfl (congrArg (fun q : Int => (some ([some (eR 1), some (eR 64), some (eR 98), some (eI (i))], eI q :: [eR 1, eR 98]) : Option (List (Option eV) × List eV))) w16) rfl ?_
  refine w_al (np := 1029) (v := ρ (i + 1).toNat) rfl rfl (lw_sc hL (by omega) (by omega)) ?_
  refine w_cw (np := 1032) (as := [eI (ρ (i + 1).toNat)]) (l2 := [some (eR 98), some (eI (ρ (i + 1).toNat)), none, none]) (rest := []) rfl rfl rfl (Nat.ble_eq.mp rfl) rfl rfl rfl (I7.kd g12 (by decide) (n := 69) rfl) rfl ?_
  refine s_293 (a1 := ρ (i + 1).toNat) I7 g12 (hρ _) p13.2.2.1 ?_
  intro m19 v17 I20 F21 b18
  have p22 : RP g4 m19 := RP.fr p13 F21 rfl
  have b23 := HB.fr b14 g11 F21 rfl
  show ex_q (dt_fg L ρ) rc (d + 14, (0, 1032, [some (eR 1), some (eR 64), some (eR 98), some (eI (i))], [eI v17]), F, m19)
  refine w_s (np := 1033) (lv' := [some (eR 1), some (eR 64), some (eR 98), some (eI (i))]) (st' := []) rfl rfl rfl ?_
  refine w_go (t1 := 1788) rfl rfl ?_
  exact K g4 m19 G15 I20 p22 b23 (by have := F8.1; have h0 := F8.2.1; have := F21.1; have h1 := F21.2.1; omega) (by have := F8.2.1; have := F21.2.1; omega)
theorem o_24 {L : Nat} {ρ : Nat → Int} {rc : eQ} {d : Nat} {F : List eFr} {μ : eM} {g : Nat → Nat} {i : Int} (hL : L ≤ 4096) (hρ : ∀ j, -2147483648 ≤ ρ j ∧ ρ j ≤ 2147483647) (hi : 0 ≤ i ∧ i + 8 ≤ (L : Int)) (hI : SI g μ) (g64 : g 64 = 1) (g98 : g 98 = 52) (hP : RP g μ) (hB : HB g μ 64) (K : ∀ (g2 : Nat → Nat) (m : eM), GP g g2 → SI g2 m → RP g2 m → HB g2 m 64 → m.2.1.length ≤ μ.2.1.length + 250 → m.2.2 ≤ μ.2.2 + 10281 → ex_q (dt_fg L ρ) rc (d + 14, (0, 1788, [some (eR 1), some (eR 64), some (eR 98), some (eI (i))], []), F, m)) : ex_q (dt_fg L ρ) rc (d + 14, (0, 1036, [some (eR 1), some (eR 64), some (eR 98), some (eI (i))], []), F, μ) := by
  refine w_s (np := 1037) (lv' := [some (eR 1), some (eR 64), some (eR 98), some (eI (i))]) (st' := [eR 64]) rfl rfl rfl ?_
  refine w_s (np := 1038) (lv' := [some (eR 1), some (eR 64), some (eR 98), some (eI (i))]) (st' := [eR 1, eR 64]) rfl rfl rfl ?_
  refine w_s (np := 1039) (lv' := [some (eR 1), some (eR 64), some (eR 98), some (eI (i))]) (st' := [eI (i), eR 1, eR 64]) rfl rfl rfl ?_
  refine w_s (np := 1040) (lv' := [some (eR 1), some (eR 64), some (eR 98), some (eI (i))]) (st' := [eI (1), eI (i), eR 1, eR 64]) rfl rfl rfl ?_
  have w1 : ev_w (i + 1) = (i + 1) := ev_w_in (by omega) (by omega)
  refine w_s (np := 1041) (lv' := [some (eR 1), some (eR 64), some (eR 98), some (eI (i))]) (st' := [eI (i + 1), eR 1, eR 64]) rfl (congrArg (fun q : Int => (some ([some (eR 1), some (eR 64), some (eR 98), some (eI (i))], eI q :: [eR 1, eR 64]) : Option (List (Option eV) × List eV))) w1) rfl ?_
  refine w_al (np := 1042) (v := ρ (i + 1).toNat) rfl rfl (lw_sc hL (by omega) (by omega)) ?_
  refine w_cw (np := 1045) (as := [eI (ρ (i + 1).toNat)]) (l2 := [some (eR 64), some (eI (ρ (i + 1).toNat))]) (rest := []) rfl rfl rfl (Nat.ble_eq.mp rfl) rfl rfl rfl (hI.kd g64 (by decide) (n := 14) rfl) rfl ?_
  refine s_179 (a1 := ρ (i + 1).toNat) hI g64 (hρ _)  ?_
  intro g4 m5 v2 E6 I7 F8 b3
  have p9 := RP.fr hP F8 rfl
  have b10 := HB.fr hB g64 F8 rfl
  have G15 := E6.p
  have p13 := p9.go I7 G15
  have b14 := b10.go G15
  have g11 : g4 64 = 1 := E6.g g64 (by decide)
  have g12 : g4 98 = 52 := E6.g g98 (by decide)
  show ex_q (dt_fg L ρ) rc (d + 14, (0, 1045, [some (eR 1), some (eR 64), some (eR 98), some (eI (i))], [eI v2]), F, m5)
  refine w_s (np := 1046) (lv' := [some (eR 1), some (eR 64), some (eR 98), some (eI (i))]) (st' := []) rfl rfl rfl ?_
  refine w_s (np := 1047) (lv' := [some (eR 1), some (eR 64), some (eR 98), some (eI (i))]) (st' := [eR 98]) rfl rfl rfl ?_
  refine w_s (np := 1048) (lv' := [some (eR 1), some (eR 64), some (eR 98), some (eI (i))]) (st' := [eR 1, eR 98]) rfl rfl rfl ?_
  refine w_s (np := 1049) (lv' := [some (eR 1), some (eR 64), some (eR 98), some (eI (i))]) (st' := [eI (i), eR 1, eR 98]) rfl rfl rfl ?_
  refine w_s (np := 1050) (lv' := [some (eR 1), some (eR 64), some (eR 98), some (eI (i))]) (st' := [eI (1), eI (i), eR 1, eR 98]) rfl rfl rfl ?_
  have w16 : ev_w (i + 1) = (i + 1) := ev_w_in (by omega) (by omega)
  refine w_s (np := 1051) (lv' := [some (eR 1), some (eR 64), some (eR 98), some (eI (i))]) (st' := [eI (i + 1), eR 1, eR 98]) rfl (congrArg (fun q : Int => (some ([some (eR 1), some (eR 64), some (eR 98), some (eI (i))], eI q :: [eR 1, eR 98]) : Option (List (Option eV) × List eV))) w16) rfl ?_
  refine w_al (np := 1052) (v := ρ (i + 1).toNat) rfl rfl (lw_sc hL (by omega) (by omega)) ?_
  refine w_cw (np := 1055) (as := [eI (ρ (i + 1).toNat)]) (l2 := [some (eR 98), some (eI (ρ (i + 1).toNat)), none, none]) (rest := []) rfl rfl rfl (Nat.ble_eq.mp rfl) rfl rfl rfl (I7.kd g12 (by decide) (n := 69) rfl) rfl ?_
  refine s_294 (a1 := ρ (i + 1).toNat) I7 g12 (hρ _)  ?_
  intro m19 v17 I20 F21 b18
  have p22 : RP g4 m19 := RP.fr p13 F21 rfl
  have b23 := HB.fr b14 g11 F21 rfl
  show ex_q (dt_fg L ρ) rc (d + 14, (0, 1055, [some (eR 1), some (eR 64), some (eR 98), some (eI (i))], [eI v17]), F, m19)
  refine w_s (np := 1056) (lv' := [some (eR 1), some (eR 64), some (eR 98), some (eI (i))]) (st' := []) rfl rfl rfl ?_
  refine w_go (t1 := 1788) rfl rfl ?_
  exact K g4 m19 G15 I20 p22 b23 (by have := F8.1; have h0 := F8.2.1; have := F21.1; have h1 := F21.2.1; omega) (by have := F8.2.1; have := F21.2.1; omega)
theorem o_25 {L : Nat} {ρ : Nat → Int} {rc : eQ} {d : Nat} {F : List eFr} {μ : eM} {g : Nat → Nat} {i : Int} (hL : L ≤ 4096) (hρ : ∀ j, -2147483648 ≤ ρ j ∧ ρ j ≤ 2147483647) (hi : 0 ≤ i ∧ i + 8 ≤ (L : Int)) (hI : SI g μ) (g64 : g 64 = 1) (g98 : g 98 = 52) (hP : RP g μ) (hB : HB g μ 64) (K : ∀ (g2 : Nat → Nat) (m : eM), GP g g2 → SI g2 m → RP g2 m → HB g2 m 64 → m.2.1.length ≤ μ.2.1.length + 250 → m.2.2 ≤ μ.2.2 + 10281 → ex_q (dt_fg L ρ) rc (d + 14, (0, 1788, [some (eR 1), some (eR 64), some (eR 98), some (eI (i))], []), F, m)) : ex_q (dt_fg L ρ) rc (d + 14, (0, 1059, [some (eR 1), some (eR 64), some (eR 98), some (eI (i))], []), F, μ) := by
  refine w_s (np := 1060) (lv' := [some (eR 1), some (eR 64), some (eR 98), some (eI (i))]) (st' := [eR 64]) rfl rfl rfl ?_
  refine w_s (np := 1061) (lv' := [some (eR 1), some (eR 64), some (eR 98), some (eI (i))]) (st' := [eR 1, eR 64]) rfl rfl rfl ?_
  refine w_s (np := 1062) (lv' := [some (eR 1), some (eR 64), some (eR 98), some (eI (i))]) (st' := [eI (i), eR 1, eR 64]) rfl rfl rfl ?_
  refine w_s (np := 1063) (lv' := [some (eR 1), some (eR 64), some (eR 98), some (eI (i))]) (st' := [eI (1), eI (i), eR 1, eR 64]) rfl rfl rfl ?_
  have w1 : ev_w (i + 1) = (i + 1) := ev_w_in (by omega) (by omega)
  refine w_s (np := 1064) (lv' := [some (eR 1), some (eR 64), some (eR 98), some (eI (i))]) (st' := [eI (i + 1), eR 1, eR 64]) rfl (congrArg (fun q : Int => (some ([some (eR 1), some (eR 64), some (eR 98), some (eI (i))], eI q :: [eR 1, eR 64]) : Option (List (Option eV) × List eV))) w1) rfl ?_
  refine w_al (np := 1065) (v := ρ (i + 1).toNat) rfl rfl (lw_sc hL (by omega) (by omega)) ?_
  refine w_s (np := 1066) (lv' := [some (eR 1), some (eR 64), some (eR 98), some (eI (i))]) (st' := [eR 1, eI (ρ (i + 1).toNat), eR 64]) rfl rfl rfl ?_
  refine w_s (np := 1067) (lv' := [some (eR 1), some (eR 64), some (eR 98), some (eI (i))]) (st' := [eI (i), eR 1, eI (ρ (i + 1).toNat), eR 64]) rfl rfl rfl ?_
  refine w_s (np := 1068) (lv' := [some (eR 1), some (eR 64), some (eR 98), some (eI (i))]) (st' := [eI (2), eI (i), eR 1, eI (ρ (i + 1).toNat), eR 64]) rfl rfl rfl ?_
  have w2 : ev_w (i + 2) = (i + 2) := ev_w_in (by omega) (by omega)
  refine w_s (np := 1069) (lv' := [some (eR 1), some (eR 64), some (eR 98), some (eI (i))]) (st' := [eI (i + 2), eR 1, eI (ρ (i + 1).toNat), eR 64]) rfl (congrArg (fun q : Int => (some ([some (eR 1), some (eR 64), some (eR 98), some (eI (i))], eI q :: [eR 1, eI (ρ (i + 1).toNat), eR 64]) : Option (List (Option eV) × List eV))) w2) rfl ?_
  refine w_al (np := 1070) (v := ρ (i + 2).toNat) rfl rfl (lw_sc hL (by omega) (by omega)) ?_
  refine w_cw (np := 1073) (as := [eI (ρ (i + 1).toNat), eI (ρ (i + 2).toNat)]) (l2 := [some (eR 64), some (eI (ρ (i + 1).toNat)), some (eI (ρ (i + 2).toNat))]) (rest := []) rfl rfl rfl (Nat.ble_eq.mp rfl) rfl rfl rfl (hI.kd g64 (by decide) (n := 14) rfl) rfl ?_
  refine s_180 (a1 := ρ (i + 1).toNat) (a2 := ρ (i + 2).toNat) hI g64 (hρ _) (hρ _)  ?_
  intro g5 m6 v3 E7 I8 F9 b4
  have p10 := RP.fr hP F9 rfl
  have b11 := HB.fr hB g64 F9 rfl
  have G16 := E7.p
  have p14 := p10.go I8 G16
  have b15 := b11.go G16
  have g12 : g5 64 = 1 := E7.g g64 (by decide)
  have g13 : g5 98 = 52 := E7.g g98 (by decide)
  show ex_q (dt_fg L ρ) rc (d + 14, (0, 1073, [some (eR 1), some (eR 64), some (eR 98), some (eI (i))], [eI v3]), F, m6)
  refine w_s (np := 1074) (lv' := [some (eR 1), some (eR 64), some (eR 98), some (eI (i))]) (st' := []) rfl rfl rfl ?_
  refine w_s (np := 1075) (lv' := [some (eR 1), some (eR 64), some (eR 98), some (eI (i))]) (st' := [eR 98]) rfl rfl rfl ?_
  refine w_s (np := 1076) (lv' := [some (eR 1), some (eR 64), some (eR 98), some (eI (i))]) (st' := [eR 1, eR 98]) rfl rfl rfl ?_
  refine w_s (np := 1077) (lv' := [some (eR 1), some (eR 64), some (eR 98), some (eI (i))]) (st' := [eI (i), eR 1, eR 98]) rfl rfl rfl ?_
  refine w_s (np := 1078) (lv' := [some (eR 1), some (eR 64), some (eR 98), some (eI (i))]) (st' := [eI (1), eI (i), eR 1, eR 98]) rfl rfl rfl ?_
  have w17 : ev_w (i + 1) = (i + 1) := ev_w_in (by omega) (by omega)
  refine w_s (np := 1079) (lv' := [some (eR 1), some (eR 64), some (eR 98), some (eI (i))]) (st' := [eI (i + 1), eR 1, eR 98]) rfl (congrArg (fun q : Int => (some ([some (eR 1), some (eR 64), some (eR 98), some (eI (i))], eI q :: [eR 1, eR 98]) : Option (List (Option eV) × List eV))) w17) rfl ?_
  refine w_al (np := 1080) (v := ρ (i + 1).toNat) rfl rfl (lw_sc hL (by omega) (by omega)) ?_
  refine w_s (np := 1081) (lv' := [some (eR 1), some (eR 64), some (eR 98), some (eI (i))]) (st' := [eR 1, eI (ρ (i + 1).toNat), eR 98]) rfl rfl rfl ?_
  refine w_s (np := 1082) (lv' := [some (eR 1), some (eR 64), some (eR 98), some (eI (i))]) (st' := [eI (i), eR 1, eI (ρ (i + 1).toNat), eR 98]) rfl rfl rfl ?_
  refine w_s (np := 1083) (lv' := [some (eR 1), some (eR 64), some (eR 98), some (eI (i))]) (st' := [eI (2), eI (i), eR 1, eI (ρ (i + 1).toNat), eR 98]) rfl rfl rfl ?_
  have w18 : ev_w (i + 2) = (i + 2) := ev_w_in (by omega) (by omega)
  refine w_s (np := 1084) (lv' := [some (eR 1), some (eR 64), some (eR 98), some (eI (i))]) (st' := [eI (i + 2), eR 1, eI (ρ (i + 1).toNat), eR 98]) rfl (congrArg (fun q : Int => (some ([some (eR 1), some (eR 64), some (eR 98), some (eI (i))], eI q :: [eR 1, eI (ρ (i + 1).toNat), eR 98]) : Option (List (Option eV) × List eV))) w18) rfl ?_
  refine w_al (np := 1085) (v := ρ (i + 2).toNat) rfl rfl (lw_sc hL (by omega) (by omega)) ?_
  refine w_cw (np := 1088) (as := [eI (ρ (i + 1).toNat), eI (ρ (i + 2).toNat)]) (l2 := [some (eR 98), some (eI (ρ (i + 1).toNat)), some (eI (ρ (i + 2).toNat))]) (rest := []) rfl rfl rfl (Nat.ble_eq.mp rfl) rfl rfl rfl (I8.kd g13 (by decide) (n := 69) rfl) rfl ?_
  refine s_295 (a1 := ρ (i + 1).toNat) (a2 := ρ (i + 2).toNat) I8 g13 (hρ _) (hρ _)  ?_
  intro m21 v19 I22 F23 b20
  have p24 : RP g5 m21 := RP.fr p14 F23 rfl
  have b25 := HB.fr b15 g12 F23 rfl
  show ex_q (dt_fg L ρ) rc (d + 14, (0, 1088, [some (eR 1), some (eR 64), some (eR 98), some (eI (i))], [eI v19]), F, m21)
  refine w_s (np := 1089) (lv' := [some (eR 1), some (eR 64), some (eR 98), some (eI (i))]) (st' := []) rfl rfl rfl ?_
  refine w_go (t1 := 1788) rfl rfl ?_
  exact K g5 m21 G16 I22 p24 b25 (by have := F9.1; have h0 := F9.2.1; have := F23.1; have h1 := F23.2.1; omega) (by have := F9.2.1; have := F23.2.1; omega)
theorem o_26 {L : Nat} {ρ : Nat → Int} {rc : eQ} {d : Nat} {F : List eFr} {μ : eM} {g : Nat → Nat} {i : Int} (hL : L ≤ 4096) (hρ : ∀ j, -2147483648 ≤ ρ j ∧ ρ j ≤ 2147483647) (hi : 0 ≤ i ∧ i + 8 ≤ (L : Int)) (hI : SI g μ) (g64 : g 64 = 1) (g98 : g 98 = 52) (hP : RP g μ) (hB : HB g μ 64) (K : ∀ (g2 : Nat → Nat) (m : eM), GP g g2 → SI g2 m → RP g2 m → HB g2 m 64 → m.2.1.length ≤ μ.2.1.length + 250 → m.2.2 ≤ μ.2.2 + 10281 → ex_q (dt_fg L ρ) rc (d + 14, (0, 1788, [some (eR 1), some (eR 64), some (eR 98), some (eI (i))], []), F, m)) : ex_q (dt_fg L ρ) rc (d + 14, (0, 1092, [some (eR 1), some (eR 64), some (eR 98), some (eI (i))], []), F, μ) := by
  refine w_s (np := 1093) (lv' := [some (eR 1), some (eR 64), some (eR 98), some (eI (i))]) (st' := [eR 64]) rfl rfl rfl ?_
  refine w_s (np := 1094) (lv' := [some (eR 1), some (eR 64), some (eR 98), some (eI (i))]) (st' := [eR 1, eR 64]) rfl rfl rfl ?_
  refine w_s (np := 1095) (lv' := [some (eR 1), some (eR 64), some (eR 98), some (eI (i))]) (st' := [eI (i), eR 1, eR 64]) rfl rfl rfl ?_
  refine w_s (np := 1096) (lv' := [some (eR 1), some (eR 64), some (eR 98), some (eI (i))]) (st' := [eI (1), eI (i), eR 1, eR 64]) rfl rfl rfl ?_
  have w1 : ev_w (i + 1) = (i + 1) := ev_w_in (by omega) (by omega)
  refine w_s (np := 1097) (lv' := [some (eR 1), some (eR 64), some (eR 98), some (eI (i))]) (st' := [eI (i + 1), eR 1, eR 64]) rfl (congrArg (fun q : Int => (some ([some (eR 1), some (eR 64), some (eR 98), some (eI (i))], eI q :: [eR 1, eR 64]) : Option (List (Option eV) × List eV))) w1) rfl ?_
  refine w_al (np := 1098) (v := ρ (i + 1).toNat) rfl rfl (lw_sc hL (by omega) (by omega)) ?_
  refine w_s (np := 1099) (lv' := [some (eR 1), some (eR 64), some (eR 98), some (eI (i))]) (st' := [eR 1, eI (ρ (i + 1).toNat), eR 64]) rfl rfl rfl ?_
  refine w_s (np := 1100) (lv' := [some (eR 1), some (eR 64), some (eR 98), some (eI (i))]) (st' := [eI (i), eR 1, eI (ρ (i + 1).toNat), eR 64]) rfl rfl rfl ?_
  refine w_s (np := 1101) (lv' := [some (eR 1), some (eR 64), some (eR 98), some (eI (i))]) (st' := [eI (2), eI (i), eR 1, eI (ρ (i + 1).toNat), eR 64]) rfl rfl rfl ?_
  have w2 : ev_w (i + 2) = (i + 2) := ev_w_in (by omega) (by omega)
  refine w_s (np := 1102) (lv' := [some (eR 1), some (eR 64), some (eR 98), some (eI (i))]) (st' := [eI (i + 2), eR 1, eI (ρ (i + 1).toNat), eR 64]) rfl (congrArg (fun q : Int => (some ([some (eR 1), some (eR 64), some (eR 98), some (eI (i))], eI q :: [eR 1, eI (ρ (i + 1).toNat), eR 64]) : Option (List (Option eV) × List eV))) w2) rfl ?_
  refine w_al (np := 1103) (v := ρ (i + 2).toNat) rfl rfl (lw_sc hL (by omega) (by omega)) ?_
  refine w_cw (np := 1106) (as := [eI (ρ (i + 1).toNat), eI (ρ (i + 2).toNat)]) (l2 := [some (eR 64), some (eI (ρ (i + 1).toNat)), some (eI (ρ (i + 2).toNat))]) (rest := []) rfl rfl rfl (Nat.ble_eq.mp rfl) rfl rfl rfl (hI.kd g64 (by decide) (n := 14) rfl) rfl ?_
  refine s_181 (a1 := ρ (i + 1).toNat) (a2 := ρ (i + 2).toNat) hI g64 (hρ _) (hρ _)  ?_
  intro g5 m6 v3 E7 I8 F9 b4
  have p10 := RP.fr hP F9 rfl
  have b11 := HB.fr hB g64 F9 rfl
  have G16 := E7.p
  have p14 := p10.go I8 G16
  have b15 := b11.go G16
  have g12 : g5 64 = 1 := E7.g g64 (by decide)
  have g13 : g5 98 = 52 := E7.g g98 (by decide)
  show ex_q (dt_fg L ρ) rc (d + 14, (0, 1106, [some (eR 1), some (eR 64), some (eR 98), some (eI (i))], [eI v3]), F, m6)
  refine w_s (np := 1107) (lv' := [some (eR 1), some (eR 64), some (eR 98), some (eI (i))]) (st' := []) rfl rfl rfl ?_
  refine w_s (np := 1108) (lv' := [some (eR 1), some (eR 64), some (eR 98), some (eI (i))]) (st' := [eR 98]) rfl rfl rfl ?_
  refine w_s (np := 1109) (lv' := [some (eR 1), some (eR 64), some (eR 98), some (eI (i))]) (st' := [eR 1, eR 98]) rfl rfl rfl ?_
  refine w_s (np := 1110) (lv' := [some (eR 1), some (eR 64), some (eR 98), some (eI (i))]) (st' := [eI (i), eR 1, eR 98]) rfl rfl rfl ?_
  refine w_s (np := 1111) (lv' := [some (eR 1), some (eR 64), some (eR 98), some (eI (i))]) (st' := [eI (1), eI (i), eR 1, eR 98]) rfl rfl rfl ?_
  have w17 : ev_w (i + 1) = (i + 1) := ev_w_in (by omega) (by omega)
  refine w_s (np := 1112) (lv' := [some (eR 1), some (eR 64), some (eR 98), some (eI (i))]) (st' := [eI (i + 1), eR 1, eR 98]) rfl (congrArg (fun q : Int => (some ([some (eR 1), some (eR 64), some (eR 98), some (eI (i))], eI q :: [eR 1, eR 98]) : Option (List (Option eV) × List eV))) w17) rfl ?_
  refine w_al (np := 1113) (v := ρ (i + 1).toNat) rfl rfl (lw_sc hL (by omega) (by omega)) ?_
  refine w_s (np := 1114) (lv' := [some (eR 1), some (eR 64), some (eR 98), some (eI (i))]) (st' := [eR 1, eI (ρ (i + 1).toNat), eR 98]) rfl rfl rfl ?_
  refine w_s (np := 1115) (lv' := [some (eR 1), some (eR 64), some (eR 98), some (eI (i))]) (st' := [eI (i), eR 1, eI (ρ (i + 1).toNat), eR 98]) rfl rfl rfl ?_
  refine w_s (np := 1116) (lv' := [some (eR 1), some (eR 64), some (eR 98), some (eI (i))]) (st' := [eI (2), eI (i), eR 1, eI (ρ (i + 1).toNat), eR 98]) rfl rfl rfl ?_
  have w18 : ev_w (i + 2) = (i + 2) := ev_w_in (by omega) (by omega)
  refine w_s (np := 1117) (lv' := [some (eR 1), some (eR 64), some (eR 98), some (eI (i))]) (st' := [eI (i + 2), eR 1, eI (ρ (i + 1).toNat), eR 98]) rfl (congrArg (fun q : Int => (some ([some (eR 1), some (eR 64), some (eR 98), some (eI (i))], eI q :: [eR 1, eI (ρ (i + 1).toNat), eR 98]) : Option (List (Option eV) × List eV))) w18) rfl ?_
  refine w_al (np := 1118) (v := ρ (i + 2).toNat) rfl rfl (lw_sc hL (by omega) (by omega)) ?_
  refine w_cw (np := 1121) (as := [eI (ρ (i + 1).toNat), eI (ρ (i + 2).toNat)]) (l2 := [some (eR 98), some (eI (ρ (i + 1).toNat)), some (eI (ρ (i + 2).toNat)), none]) (rest := []) rfl rfl rfl (Nat.ble_eq.mp rfl) rfl rfl rfl (I8.kd g13 (by decide) (n := 69) rfl) rfl ?_
  refine s_296 (a1 := ρ (i + 1).toNat) (a2 := ρ (i + 2).toNat) I8 g13 (hρ _) (hρ _) p14.2.1 p14.2.2.2.2.2.2.1 ?_
  intro m21 v19 I22 F23 b20
  have p24 : RP g5 m21 := RP.fr p14 F23 rfl
  have b25 := HB.fr b15 g12 F23 rfl
  show ex_q (dt_fg L ρ) rc (d + 14, (0, 1121, [some (eR 1), some (eR 64), some (eR 98), some (eI (i))], [eI v19]), F, m21)
  refine w_s (np := 1122) (lv' := [some (eR 1), some (eR 64), some (eR 98), some (eI (i))]) (st' := []) rfl rfl rfl ?_
  refine w_go (t1 := 1788) rfl rfl ?_
  exact K g5 m21 G16 I22 p24 b25 (by have := F9.1; have h0 := F9.2.1; have := F23.1; have h1 := F23.2.1; omega) (by have := F9.2.1; have := F23.2.1; omega)
theorem o_27 {L : Nat} {ρ : Nat → Int} {rc : eQ} {d : Nat} {F : List eFr} {μ : eM} {g : Nat → Nat} {i : Int} (hL : L ≤ 4096) (hρ : ∀ j, -2147483648 ≤ ρ j ∧ ρ j ≤ 2147483647) (hi : 0 ≤ i ∧ i + 8 ≤ (L : Int)) (hI : SI g μ) (g64 : g 64 = 1) (g98 : g 98 = 52) (hP : RP g μ) (hB : HB g μ 64) (K : ∀ (g2 : Nat → Nat) (m : eM), GP g g2 → SI g2 m → RP g2 m → HB g2 m 64 → m.2.1.length ≤ μ.2.1.length + 250 → m.2.2 ≤ μ.2.2 + 10281 → ex_q (dt_fg L ρ) rc (d + 14, (0, 1788, [some (eR 1), some (eR 64), some (eR 98), some (eI (i))], []), F, m)) : ex_q (dt_fg L ρ) rc (d + 14, (0, 1125, [some (eR 1), some (eR 64), some (eR 98), some (eI (i))], []), F, μ) := by
  refine w_s (np := 1126) (lv' := [some (eR 1), some (eR 64), some (eR 98), some (eI (i))]) (st' := [eR 64]) rfl rfl rfl ?_
  refine w_s (np := 1127) (lv' := [some (eR 1), some (eR 64), some (eR 98), some (eI (i))]) (st' := [eR 1, eR 64]) rfl rfl rfl ?_
  refine w_s (np := 1128) (lv' := [some (eR 1), some (eR 64), some (eR 98), some (eI (i))]) (st' := [eI (i), eR 1, eR 64]) rfl rfl rfl ?_
  refine w_s (np := 1129) (lv' := [some (eR 1), some (eR 64), some (eR 98), some (eI (i))]) (st' := [eI (1), eI (i), eR 1, eR 64]) rfl rfl rfl ?_
  have w1 : ev_w (i + 1) = (i + 1) := ev_w_in (by omega) (by omega)
  refine w_s (np := 1130) (lv' := [some (eR 1), some (eR 64), some (eR 98), some (eI (i))]) (st' := [eI (i + 1), eR 1, eR 64]) rfl (congrArg (fun q : Int => (some ([some (eR 1), some (eR 64), some (eR 98), some (eI (i))], eI q :: [eR 1, eR 64]) : Option (List (Option eV) × List eV))) w1) rfl ?_
  refine w_al (np := 1131) (v := ρ (i + 1).toNat) rfl rfl (lw_sc hL (by omega) (by omega)) ?_
  refine w_cw (np := 1134) (as := [eI (ρ (i + 1).toNat)]) (l2 := [some (eR 64), some (eI (ρ (i + 1).toNat))]) (rest := []) rfl rfl rfl (Nat.ble_eq.mp rfl) rfl rfl rfl (hI.kd g64 (by decide) (n := 14) rfl) rfl ?_
  refine s_182 (a1 := ρ (i + 1).toNat) hI g64 (hρ _)  ?_
  intro g4 m5 v2 E6 I7 F8 b3
  have p9 := RP.fr hP F8 rfl
  have b10 := HB.fr hB g64 F8 rfl
  have G15 := E6.p
  have p13 := p9.go I7 G15
  have b14 := b10.go G15
  have g11 : g4 64 = 1 := E6.g g64 (by decide)
  have g12 : g4 98 = 52 := E6.g g98 (by decide)
  show ex_q (dt_fg L ρ) rc (d + 14, (0, 1134, [some (eR 1), some (eR 64), some (eR 98), some (eI (i))], [eI v2]), F, m5)
  refine w_s (np := 1135) (lv' := [some (eR 1), some (eR 64), some (eR 98), some (eI (i))]) (st' := []) rfl rfl rfl ?_
  refine w_s (np := 1136) (lv' := [some (eR 1), some (eR 64), some (eR 98), some (eI (i))]) (st' := [eR 98]) rfl rfl rfl ?_
  refine w_s (np := 1137) (lv' := [some (eR 1), some (eR 64), some (eR 98), some (eI (i))]) (st' := [eR 1, eR 98]) rfl rfl rfl ?_
  refine w_s (np := 1138) (lv' := [some (eR 1), some (eR 64), some (eR 98), some (eI (i))]) (st' := [eI (i), eR 1, eR 98]) rfl rfl rfl ?_
  refine w_s (np := 1139) (lv' := [some (eR 1), some (eR 64), some (eR 98), some (eI (i))]) (st' := [eI (1), eI (i), eR 1, eR 98]) rfl rfl rfl ?_
  have w16 : ev_w (i + 1) = (i + 1) := ev_w_in (by omega) (by omega)
  refine w_s (np := 1140) (lv' := [some (eR 1), some (eR 64), some (eR 98), some (eI (i))]) (st' := [eI (i + 1), eR 1, eR 98]) rfl (congrArg (fun q : Int => (some ([some (eR 1), some (eR 64), some (eR 98), some (eI (i))], eI q :: [eR 1, eR 98]) : Option (List (Option eV) × List eV))) w16) rfl ?_
  refine w_al (np := 1141) (v := ρ (i + 1).toNat) rfl rfl (lw_sc hL (by omega) (by omega)) ?_
  refine w_cw (np := 1144) (as := [eI (ρ (i + 1).toNat)]) (l2 := [some (eR 98), some (eI (ρ (i + 1).toNat))]) (rest := []) rfl rfl rfl (Nat.ble_eq.mp rfl) rfl rfl rfl (I7.kd g12 (by decide) (n := 69) rfl) rfl ?_
  refine s_297 (a1 := ρ (i + 1).toNat) I7 g12 (hρ _) p13.2.1 ?_
  intro m19 v17 I20 F21 b18
  have p22 : RP g4 m19 := RP.fr p13 F21 rfl
  have b23 := HB.fr b14 g11 F21 rfl
  show ex_q (dt_fg L ρ) rc (d + 14, (0, 1144, [some (eR 1), some (eR 64), some (eR 98), some (eI (i))], [eI v17]), F, m19)
  refine w_s (np := 1145) (lv' := [some (eR 1), some (eR 64), some (eR 98), some (eI (i))]) (st' := []) rfl rfl rfl ?_
  refine w_go (t1 := 1788) rfl rfl ?_
  exact K g4 m19 G15 I20 p22 b23 (by have := F8.1; have h0 := F8.2.1; have := F21.1; have h1 := F21.2.1; omega) (by have := F8.2.1; have := F21.2.1; omega)
theorem o_28 {L : Nat} {ρ : Nat → Int} {rc : eQ} {d : Nat} {F : List eFr} {μ : eM} {g : Nat → Nat} {i : Int} (hL : L ≤ 4096) (hρ : ∀ j, -2147483648 ≤ ρ j ∧ ρ j ≤ 2147483647) (hi : 0 ≤ i ∧ i + 8 ≤ (L : Int)) (hI : SI g μ) (g64 : g 64 = 1) (g98 : g 98 = 52) (hP : RP g μ) (hB : HB g μ 64) (K : ∀ (g2 : Nat → Nat) (m : eM), GP g g2 → SI g2 m → RP g2 m → HB g2 m 64 → m.2.1.length ≤ μ.2.1.length + 250 → m.2.2 ≤ μ.2.2 + 10281 → ex_q (dt_fg L ρ) rc (d + 14, (0, 1788, [some (eR 1), some (eR 64), some (eR 98), some (eI (i))], []), F, m)) : ex_q (dt_fg L ρ) rc (d + 14, (0, 1148, [some (eR 1), some (eR 64), some (eR 98), some (eI (i))], []), F, μ) := by
  refine w_s (np := 1149) (lv' := [some (eR 1), some (eR 64), some (eR 98), some (eI (i))]) (st' := [eR 64]) rfl rfl rfl ?_
  refine w_s (np := 1150) (lv' := [some (eR 1), some (eR 64), some (eR 98), some (eI (i))]) (st' := [eR 1, eR 64]) rfl rfl rfl ?_
  refine w_s (np := 1151) (lv' := [some (eR 1), some (eR 64), some (eR 98), some (eI (i))]) (st' := [eI (i), eR 1, eR 64]) rfl rfl rfl ?_
  refine w_s (np := 1152) (lv' := [some (eR 1), some (eR 64), some (eR 98), some (eI (i))]) (st' := [eI (1), eI (i), eR 1, eR 64]) rfl rfl rfl ?_
  have w1 : ev_w (i + 1) = (i + 1) := ev_w_in (by omega) (by omega)
  refine w_s (np := 1153) (lv' := [some (eR 1), some (eR 64), some (eR 98), some (eI (i))]) (st' := [eI (i + 1), eR 1, eR 64]) rfl (congrArg (fun q : Int => (some ([some (eR 1), some (eR 64), some (eR 98), some (eI (i))], eI q :: [eR 1, eR 64]) : Option (List (Option eV) × List eV))) w1) rfl ?_
  refine w_al (np := 1154) (v := ρ (i + 1).toNat) rfl rfl (lw_sc hL (by omega) (by omega)) ?_
  refine w_cw (np := 1157) (as := [eI (ρ (i + 1).toNat)]) (l2 := [some (eR 64), some (eI (ρ (i + 1).toNat))]) (rest := []) rfl rfl rfl (Nat.ble_eq.mp rfl) rfl rfl rfl (hI.kd g64 (by decide) (n := 14) rfl) rfl ?_
  refine s_183 (a1 := ρ (i + 1).toNat) hI g64 (hρ _)  ?_
  intro g4 m5 v2 E6 I7 F8 b3
  have p9 := RP.fr hP F8 rfl
  have b10 := HB.fr hB g64 F8 rfl
  have G15 := E6.p
  have p13 := p9.go I7 G15
  have b14 := b10.go G15
  have g11 : g4 64 = 1 := E6.g g64 (by decide)
  have g12 : g4 98 = 52 := E6.g g98 (by decide)
  show ex_q (dt_fg L ρ) rc (d + 14, (0, 1157, [some (eR 1), some (eR 64), some (eR 98), some (eI (i))], [eI v2]), F, m5)
  refine w_s (np := 1158) (lv' := [some (eR 1), some (eR 64), some (eR 98), some (eI (i))]) (st' := []) rfl rfl rfl ?_
  refine w_s (np := 1159) (lv' := [some (eR 1), some (eR 64), some (eR 98), some (eI (i))]) (st' := [eR 98]) rfl rfl rfl ?_
  refine w_s (np := 1160) (lv' := [some (eR 1), some (eR 64), some (eR 98), some (eI (i))]) (st' := [eR 1, eR 98]) rfl rfl rfl ?_
  refine w_s (np := 1161) (lv' := [some (eR 1), some (eR 64), some (eR 98), some (eI (i))]) (st' := [eI (i), eR 1, eR 98]) rfl rfl rfl ?_
  refine w_s (np := 1162) (lv' := [some (eR 1), some (eR 64), some (eR 98), some (eI (i))]) (st' := [eI (1), eI (i), eR 1, eR 98]) rfl rfl rfl ?_
  have w16 : ev_w (i + 1) = (i + 1) := ev_w_in (by omega) (by omega)
  refine w_s (np := 1163) (lv' := [some (eR 1), some (eR 64), some (eR 98), some (eI (i))]) (st' := [eI (i + 1), eR 1, eR 98]) rfl (congrArg (fun q : Int => (some ([some (eR 1), some (eR 64), some (eR 98), some (eI (i))], eI q :: [eR 1, eR 98]) : Option (List (Option eV) × List eV))) w16) rfl ?_
  refine w_al (np := 1164) (v := ρ (i + 1).toNat) rfl rfl (lw_sc hL (by omega) (by omega)) ?_
  refine w_cw (np := 1167) (as := [eI (ρ (i + 1).toNat)]) (l2 := [some (eR 98), some (eI (ρ (i + 1).toNat)), none, none]) (rest := []) rfl rfl rfl (Nat.ble_eq.mp rfl) rfl rfl rfl (I7.kd g12 (by decide) (n := 69) rfl) rfl ?_
  refine s_298 (a1 := ρ (i + 1).toNat) I7 g12 (hρ _) p13.2.1 ?_
  intro m19 v17 I20 F21 b18
  have p22 : RP g4 m19 := RP.fr p13 F21 rfl
  have b23 := HB.fr b14 g11 F21 rfl
  show ex_q (dt_fg L ρ) rc (d + 14, (0, 1167, [some (eR 1), some (eR 64), some (eR 98), some (eI (i))], [eI v17]), F, m19)
  refine w_s (np := 1168) (lv' := [some (eR 1), some (eR 64), some (eR 98), some (eI (i))]) (st' := []) rfl rfl rfl ?_
  refine w_go (t1 := 1788) rfl rfl ?_
  exact K g4 m19 G15 I20 p22 b23 (by have := F8.1; have h0 := F8.2.1; have := F21.1; have h1 := F21.2.1; omega) (by have := F8.2.1; have := F21.2.1; omega)
theorem o_30 {L : Nat} {ρ : Nat → Int} {rc : eQ} {d : Nat} {F : List eFr} {μ : eM} {g : Nat → Nat} {i : Int} (hL : L ≤ 4096) (hρ : ∀ j, -2147483648 ≤ ρ j ∧ ρ j ≤ 2147483647) (hi : 0 ≤ i ∧ i + 8 ≤ (L : Int)) (hI : SI g μ) (g64 : g 64 = 1) (g98 : g 98 = 52) (hP : RP g μ) (hB : HB g μ 64) (K : ∀ (g2 : Nat → Nat) (m : eM), GP g g2 → SI g2 m → RP g2 m → HB g2 m 64 → m.2.1.length ≤ μ.2.1.length + 250 → m.2.2 ≤ μ.2.2 + 10281 → ex_q (dt_fg L ρ) rc (d + 14, (0, 1788, [some (eR 1), some (eR 64), some (eR 98), some (eI (i))], []), F, m)) : ex_q (dt_fg L ρ) rc (d + 14, (0, 1204, [some (eR 1), some (eR 64), some (eR 98), some (eI (i))], []), F, μ) := by
  refine w_s (np := 1205) (lv' := [some (eR 1), some (eR 64), some (eR 98), some (eI (i))]) (st' := [eR 64]) rfl rfl rfl ?_
  refine w_s (np := 1206) (lv' := [some (eR 1), some (eR 64), some (eR 98), some (eI (i))]) (st' := [eR 1, eR 64]) rfl rfl rfl ?_
  refine w_s (np := 1207) (lv' := [some (eR 1), some (eR 64), some (eR 98), some (eI (i))]) (st' := [eI (i), eR 1, eR 64]) rfl rfl rfl ?_
  refine w_s (np := 1208) (lv' := [some (eR 1), some (eR 64), some (eR 98), some (eI (i))]) (st' := [eI (1), eI (i), eR 1, eR 64]) rfl rfl rfl ?_
  have w1 : ev_w (i + 1) = (i + 1) := ev_w_in (by omega) (by omega)
  refine w_s (np := 1209) (lv' := [some (eR 1), some (eR 64), some (eR 98), some (eI (i))]) (st' := [eI (i + 1), eR 1, eR 64]) rfl (congrArg (fun q : Int => (some ([some (eR 1), some (eR 64), some (eR 98), some (eI (i))], eI q :: [eR 1, eR 64]) : Option (List (Option eV) × List eV))) w1) rfl ?_
  refine w_al (np := 1210) (v := ρ (i + 1).toNat) rfl rfl (lw_sc hL (by omega) (by omega)) ?_
  refine w_s (np := 1211) (lv' := [some (eR 1), some (eR 64), some (eR 98), some (eI (i))]) (st' := [eR 1, eI (ρ (i + 1).toNat), eR 64]) rfl rfl rfl ?_
  refine w_s (np := 1212) (lv' := [some (eR 1), some (eR 64), some (eR 98), some (eI (i))]) (st' := [eI (i), eR 1, eI (ρ (i + 1).toNat), eR 64]) rfl rfl rfl ?_
  refine w_s (np := 1213) (lv' := [some (eR 1), some (eR 64), some (eR 98), some (eI (i))]) (st' := [eI (2), eI (i), eR 1, eI (ρ (i + 1).toNat), eR 64]) rfl rfl rfl ?_
  have w2 : ev_w (i + 2) = (i + 2) := ev_w_in (by omega) (by omega)
  refine w_s (np := 1214) (lv' := [some (eR 1), some (eR 64), some (eR 98), some (eI (i))]) (st' := [eI (i + 2), eR 1, eI (ρ (i + 1).toNat), eR 64]) rfl (congrArg (fun q : Int => (some ([some (eR 1), some (eR 64), some (eR 98), some (eI (i))], eI q :: [eR 1, eI (ρ (i + 1).toNat), eR 64]) : Option (List (Option eV) × List eV))) w2) rfl ?_
  refine w_al (np := 1215) (v := ρ (i + 2).toNat) rfl rfl (lw_sc hL (by omega) (by omega)) ?_
  refine w_s (np := 1216) (lv' := [some (eR 1), some (eR 64), some (eR 98), some (eI (i))]) (st' := [eR 1, eI (ρ (i + 2).toNat), eI (ρ (i + 1).toNat), eR 64]) rfl rfl rfl ?_
  refine w_s (np := 1217) (lv' := [some (eR 1), some (eR 64), some (eR 98), some (eI (i))]) (st' := [eI (i), eR 1, eI (ρ (i + 2).toNat), eI (ρ (i + 1).toNat), eR 64]) rfl rfl rfl ?_
  refine w_s (np := 1218) (lv' := [some (eR 1), some (eR 64), some (eR 98), some (eI (i))]) (st' := [eI (3), eI (i), eR 1, eI (ρ (i + 2).toNat), eI (ρ (i + 1).toNat), eR 64]) rfl rfl rfl ?_
  have w3 : ev_w (i + 3) = (i + 3) := ev_w_in (by omega) (by omega)
  refine w_s (np := 1219) (lv' := [some (eR 1), some (eR 64), some (eR 98), some (eI (i))]) (st' := [eI (i + 3), eR 1, eI (ρ (i + 2).toNat), eI (ρ (i + 1).toNat), eR 64]) rfl (congrArg (fun q : Int => (some ([some (eR 1), some (eR 64), some (eR 98), some (eI (i))], eI q :: [eR 1, eI (ρ (i + 2).toNat), eI (ρ (i + 1).toNat), eR 64]) : Option (List (Option eV) × List eV))) w3) rfl ?_
  refine w_al (np := 1220) (v := ρ (i + 3).toNat) rfl rfl (lw_sc hL (by omega) (by omega)) ?_
  refine w_s (np := 1221) (lv' := [some (eR 1), some (eR 64), some (eR 98), some (eI (i))]) (st' := [eR 1, eI (ρ (i + 3).toNat), eI (ρ (i + 2).toNat), eI (ρ (i + 1).toNat), eR 64]) rfl rfl rfl ?_
  refine w_s (np := 1222) (lv' := [some (eR 1), some (eR 64), some (eR 98), some (eI (i))]) (st' := [eI (i), eR 1, eI (ρ (i + 3).toNat), eI (ρ (i + 2).toNat), eI (ρ (i + 1).toNat), eR 64]) rfl rfl rfl ?_
  refine w_s (np := 1223) (lv' := [some (eR 1), some (eR 64), some (eR 98), some (eI (i))]) (st' := [eI (4), eI (i), eR 1, eI (ρ (i + 3).toNat), eI (ρ (i + 2).toNat), eI (ρ (i + 1).toNat), eR 64]) rfl rfl rfl ?_
  have w4 : ev_w (i + 4) = (i + 4) := ev_w_in (by omega) (by omega)
  refine w_s (np := 1224) (lv' := [some (eR 1), some (eR 64), some (eR 98), some (eI (i))]) (st' := [eI (i + 4), eR 1, eI (ρ (i + 3).toNat), eI (ρ (i + 2).toNat), eI (ρ (i + 1).toNat), eR 64]) rfl (congrArg (fun q : Int => (some ([some (eR 1), some (eR 64), some (eR 98), some (eI (i))], eI q :: [eR 1, eI (ρ (i + 3).toNat), eI (ρ (i + 2).toNat), eI (ρ (i + 1).toNat), eR 64]) : Option (List (Option eV) × List eV))) w4) rfl ?_
  refine w_al (np := 1225) (v := ρ (i + 4).toNat) rfl rfl (lw_sc hL (by omega) (by omega)) ?_
  refine w_s (np := 1226) (lv' := [some (eR 1), some (eR 64), some (eR 98), some (eI (i))]) (st' := [eR 1, eI (ρ (i + 4).toNat), eI (ρ (i + 3).toNat), eI (ρ (i + 2).toNat), eI (ρ (i + 1).toNat), eR 64]) rfl rfl rfl ?_
  refine w_s (np := 1227) (lv' := [some (eR 1), some (eR 64), some (eR 98), some (eI (i))]) (st' := [eI (i), eR 1, eI (ρ (i + 4).toNat), eI (ρ (i + 3).toNat), eI (ρ (i + 2).toNat), eI (ρ (i + 1).toNat), eR 64]) rfl rfl rfl ?_
  refine w_s (np := 1228) (lv' := [some (eR 1), some (eR 64), some (eR 98), some (eI (i))]) (st' := [eI (5), eI (i), eR 1, eI (ρ (i + 4).toNat), eI (ρ (i + 3).toNat), eI (ρ (i + 2).toNat), eI (ρ (i + 1).toNat), eR 64]) rfl rfl rfl ?_
  have w5 : ev_w (i + 5) = (i + 5) := ev_w_in (by omega) (by omega)
  refine w_s (np := 1229) (lv' := [some (eR 1), some (eR 64), some (eR 98), some (eI (i))]) (st' := [eI (i + 5), eR 1, eI (ρ (i + 4).toNat), eI (ρ (i + 3).toNat), eI (ρ (i + 2).toNat), eI (ρ (i + 1).toNat), eR 64]) rfl (congrArg (fun q : Int => (some ([some (eR 1), some (eR 64), some (eR 98), some (eI (i))], eI q :: [eR 1, eI (ρ (i + 4).toNat), eI (ρ (i + 3).toNat), eI (ρ (i + 2).toNat), eI (ρ (i + 1).toNat), eR 64]) : Option (List (Option eV) × List eV))) w5) rfl ?_
  refine w_al (np := 1230) (v := ρ (i + 5).toNat) rfl rfl (lw_sc hL (by omega) (by omega)) ?_
  refine w_s (np := 1231) (lv' := [some (eR 1), some (eR 64), some (eR 98), some (eI (i))]) (st' := [eR 1, eI (ρ (i + 5).toNat), eI (ρ (i + 4).toNat), eI (ρ (i + 3).toNat), eI (ρ (i + 2).toNat), eI (ρ (i + 1).toNat), eR 64]) rfl rfl rfl ?_
  refine w_s (np := 1232) (lv' := [some (eR 1), some (eR 64), some (eR 98), some (eI (i))]) (st' := [eI (i), eR 1, eI (ρ (i + 5).toNat), eI (ρ (i + 4).toNat), eI (ρ (i + 3).toNat), eI (ρ (i + 2).toNat), eI (ρ (i + 1).toNat), eR 64]) rfl rfl rfl ?_
  refine w_s (np := 1234) (lv' := [some (eR 1), some (eR 64), some (eR 98), some (eI (i))]) (st' := [eI (6), eI (i), eR 1, eI (ρ (i + 5).toNat), eI (ρ (i + 4).toNat), eI (ρ (i + 3).toNat), eI (ρ (i + 2).toNat), eI (ρ (i + 1).toNat), eR 64]) rfl rfl rfl ?_
  have w6 : ev_w (i + 6) = (i + 6) := ev_w_in (by omega) (by omega)
  refine w_s (np := 1235) (lv' := [some (eR 1), some (eR 64), some (eR 98), some (eI (i))]) (st' := [eI (i + 6), eR 1, eI (ρ (i + 5).toNat), eI (ρ (i + 4).toNat), eI (ρ (i + 3).toNat), eI (ρ (i + 2).toNat), eI (ρ (i + 1).toNat), eR 64]) rfl (congrArg (fun q : Int => (some ([some (eR 1), some (eR 64), some (eR 98), some (eI (i))], eI q :: [eR 1, eI (ρ (i + 5).toNat), eI (ρ (i + 4).toNat), eI (ρ (i + 3).toNat), eI (ρ (i + 2).toNat), eI (ρ (i + 1).toNat), eR 64]) : Option (List (Option eV) × List eV))) w6) rfl ?_
  refine w_al (np := 1236) (v := ρ (i + 6).toNat) rfl rfl (lw_sc hL (by omega) (by omega)) ?_
  refine w_s (np := 1237) (lv' := [some (eR 1), some (eR 64), some (eR 98), some (eI (i))]) (st' := [eR 1, eI (ρ (i + 6).toNat), eI (ρ (i + 5).toNat), eI (ρ (i + 4).toNat), eI (ρ (i + 3).toNat), eI (ρ (i + 2).toNat), eI (ρ (i + 1).toNat), eR 64]) rfl rfl rfl ?_
  refine w_s (np := 1238) (lv' := [some (eR 1), some (eR 64), some (eR 98), some (eI (i))]) (st' := [eI (i), eR 1, eI (ρ (i + 6).toNat), eI (ρ (i + 5).toNat), eI (ρ (i + 4).toNat), eI (ρ (i + 3).toNat), eI (ρ (i + 2).toNat), eI (ρ (i + 1).toNat), eR 64]) rfl rfl rfl ?_
  refine w_s (np := 1240) (lv' := [some (eR 1), some (eR 64), some (eR 98), some (eI (i))]) (st' := [eI (7), eI (i), eR 1, eI (ρ (i + 6).toNat), eI (ρ (i + 5).toNat), eI (ρ (i + 4).toNat), eI (ρ (i + 3).toNat), eI (ρ (i + 2).toNat), eI (ρ (i + 1).toNat), eR 64]) rfl rfl rfl ?_
  have w7 : ev_w (i + 7) = (i + 7) := ev_w_in (by omega) (by omega)
  refine w_s (np := 1241) (lv' := [some (eR 1), some (eR 64), some (eR 98), some (eI (i))]) (st' := [eI (i + 7), eR 1, eI (ρ (i + 6).toNat), eI (ρ (i + 5).toNat), eI (ρ (i + 4).toNat), eI (ρ (i + 3).toNat), eI (ρ (i + 2).toNat), eI (ρ (i + 1).toNat), eR 64]) rfl (congrArg (fun q : Int => (some ([some (eR 1), some (eR 64), some (eR 98), some (eI (i))], eI q :: [eR 1, eI (ρ (i + 6).toNat), eI (ρ (i + 5).toNat), eI (ρ (i + 4).toNat), eI (ρ (i + 3).toNat), eI (ρ (i + 2).toNat), eI (ρ (i + 1).toNat), eR 64]) : Option (List (Option eV) × List eV))) w7) rfl ?_
  refine w_al (np := 1242) (v := ρ (i + 7).toNat) rfl rfl (lw_sc hL (by omega) (by omega)) ?_
  refine w_cw (np := 1245) (as := [eI (ρ (i + 1).toNat), eI (ρ (i + 2).toNat), eI (ρ (i + 3).toNat), eI (ρ (i + 4).toNat), eI (ρ (i + 5).toNat), eI (ρ (i + 6).toNat), eI (ρ (i + 7).toNat)]) (l2 := [some (eR 64), some (eI (ρ (i + 1).toNat)), some (eI (ρ (i + 2).toNat)), some (eI (ρ (i + 3).toNat)), some (eI (ρ (i + 4).toNat)), some (eI (ρ (i + 5).toNat)), some (eI (ρ (i + 6).toNat)), some (eI (ρ (i + 7).toNat))]) (rest := []) rfl rfl rfl (Nat.ble_eq.mp rfl) rfl rfl rfl (hI.kd g64 (by decide) (n := 14) rfl) rfl ?_
  refine s_185 (a1 := ρ (i + 1).toNat) (a2 := ρ (i + 2).toNat) (a3 := ρ (i + 3).toNat) (a4 := ρ (i + 4).toNat) (a5 := ρ (i + 5).toNat) (a6 := ρ (i + 6).toNat) (a7 := ρ (i + 7).toNat) hI g64 (hρ _) (hρ _) (hρ _) (hρ _) (hρ _) (hρ _) (hρ _)  ?_
  intro m10 v8 I11 F12 b9
  have p13 : RP g m10 := RP.fr hP F12 rfl
  have b14 := HB.fr hB g64 F12 rfl
  show ex_q (dt_fg L ρ) rc (d + 14, (0, 1245, [some (eR 1), some (eR 64), some (eR 98), some (eI (i))], [eI v8]), F, m10)
  refine w_s (np := 1246) (lv' := [some (eR 1), some (eR 64), some (eR 98), some (eI (i))]) (st' := []) rfl rfl rfl ?_
  refine w_s (np := 1247) (lv' := [some (eR 1), some (eR 64), some (eR 98), some (eI (i))]) (st' := [eR 98]) rfl rfl rfl ?_
  refine w_s (np := 1248) (lv' := [some (eR 1), some (eR 64), some (eR 98), some (eI (i))]) (st' := [eR 1, eR 98]) rfl rfl rfl ?_
  refine w_s (np := 1249) (lv' := [some (eR 1), some (eR 64), some (eR 98), some (eI (i))]) (st' := [eI (i), eR 1, eR 98]) rfl rfl rfl ?_
  refine w_s (np := 1250) (lv' := [some (eR 1), some (eR 64), some (eR 98), some (eI (i))]) (st' := [eI (1), eI (i), eR 1, eR 98]) rfl rfl rfl ?_
  have w15 : ev_w (i + 1) = (i + 1) := ev_w_in (by omega) (by omega)
  refine w_s (np := 1251) (lv' := [some (eR 1), some (eR 64), some (eR 98), some (eI (i))]) (st' := [eI (i + 1), eR 1, eR 98]) rfl (congrArg (fun q : Int => (some ([some (eR 1), some (eR 64), some (eR 98), some (eI (i))], eI q :: [eR 1, eR 98]) : Option (List (Option eV) × List eV))) w15) rfl ?_
  refine w_al (np := 1252) (v := ρ (i + 1).toNat) rfl rfl (lw_sc hL (by omega) (by omega)) ?_
  refine w_s (np := 1253) (lv' := [some (eR 1), some (eR 64), some (eR 98), some (eI (i))]) (st' := [eR 1, eI (ρ (i + 1).toNat), eR 98]) rfl rfl rfl ?_
  refine w_s (np := 1254) (lv' := [some (eR 1), some (eR 64), some (eR 98), some (eI (i))]) (st' := [eI (i), eR 1, eI (ρ (i + 1).toNat), eR 98]) rfl rfl rfl ?_
  refine w_s (np := 1255) (lv' := [some (eR 1), some (eR 64), some (eR 98), some (eI (i))]) (st' := [eI (2), eI (i), eR 1, eI (ρ (i + 1).toNat), eR 98]) rfl rfl rfl ?_
  have w16 : ev_w (i + 2) = (i + 2) := ev_w_in (by omega) (by omega)
  refine w_s (np := 1256) (lv' := [some (eR 1), some (eR 64), some (eR 98), some (eI (i))]) (st' := [eI (i + 2), eR 1, eI (ρ (i + 1).toNat), eR 98]) rfl (congrArg (fun q : Int => (some ([some (eR 1), some (eR 64), some (eR 98), some (eI (i))], eI q :: [eR 1, eI (ρ (i + 1).toNat), eR 98]) : Option (List (Option eV) × List eV))) w16) rfl ?_
  refine w_al (np := 1257) (v := ρ (i + 2).toNat) rfl rfl (lw_sc hL (by omega) (by omega)) ?_
  refine w_s (np := 1258) (lv' := [some (eR 1), some (eR 64), some (eR 98), some (eI (i))]) (st' := [eR 1, eI (ρ (i + 2).toNat), eI (ρ (i + 1).toNat), eR 98]) rfl rfl rfl ?_
  refine w_s (np := 1259) (lv' := [some (eR 1), some (eR 64), some (eR 98), some (eI (i))]) (st' := [eI (i), eR 1, eI (ρ (i + 2).toNat), eI (ρ (i + 1).toNat), eR 98]) rfl rfl rfl ?_
  refine w_s (np := 1260) (lv' := [some (eR 1), some (eR 64), some (eR 98), some (eI (i))]) (st' := [eI (3), eI (i), eR 1, eI (ρ (i + 2).toNat), eI (ρ (i + 1).toNat), eR 98]) rfl rfl rfl ?_
  have w17 : ev_w (i + 3) = (i + 3) := ev_w_in (by omega) (by omega)
  refine w_s (np := 1261) (lv' := [some (eR 1), some (eR 64), some (eR 98), some (eI (i))]) (st' := [eI (i + 3), eR 1, eI (ρ (i + 2).toNat), eI (ρ (i + 1).toNat), eR 98]) rfl (congrArg (fun q : Int => (some ([some (eR 1), some (eR 64), some (eR 98), some (eI (i))], eI q :: [eR 1, eI (ρ (i + 2).toNat), eI (ρ (i + 1).toNat), eR 98]) : Option (List (Option eV) × List eV))) w17) rfl ?_
  refine w_al (np := 1262) (v := ρ (i + 3).toNat) rfl rfl (lw_sc hL (by omega) (by omega)) ?_
  refine w_s (np := 1263) (lv' := [some (eR 1), some (eR 64), some (eR 98), some (eI (i))]) (st' := [eR 1, eI (ρ (i + 3).toNat), eI (ρ (i + 2).toNat), eI (ρ (i + 1).toNat), eR 98]) rfl rfl rfl ?_
  refine w_s (np := 1264) (lv' := [some (eR 1), some (eR 64), some (eR 98), some (eI (i))]) (st' := [eI (i), eR 1, eI (ρ (i + 3).toNat), eI (ρ (i + 2).toNat), eI (ρ (i + 1).toNat), eR 98]) rfl rfl rfl ?_
  refine w_s (np := 1265) (lv' := [some (eR 1), some (eR 64), some (eR 98), some (eI (i))]) (st' := [eI (4), eI (i), eR 1, eI (ρ (i + 3).toNat), eI (ρ (i + 2).toNat), eI (ρ (i + 1).toNat), eR 98]) rfl rfl rfl ?_
  have w18 : ev_w (i + 4) = (i + 4) := ev_w_in (by omega) (by omega)
  refine w_s (np := 1266) (lv' := [some (eR 1), some (eR 64), some (eR 98), some (eI (i))]) (st' := [eI (i + 4), eR 1, eI (ρ (i + 3).toNat), eI (ρ (i + 2).toNat), eI (ρ (i + 1).toNat), eR 98]) rfl (congrArg (fun q : Int => (some ([some (eR 1), some (eR 64), some (eR 98), some (eI (i))], eI q :: [eR 1, eI (ρ (i + 3).toNat), eI (ρ (i + 2).toNat), eI (ρ (i + 1).toNat), eR 98]) : Option (List (Option eV) × List eV))) w18) rfl ?_
  refine w_al (np := 1267) (v := ρ (i + 4).toNat) rfl rfl (lw_sc hL (by omega) (by omega)) ?_
  refine w_s (np := 1268) (lv' := [some (eR 1), some (eR 64), some (eR 98), some (eI (i))]) (st' := [eR 1, eI (ρ (i + 4).toNat), eI (ρ (i + 3).toNat), eI (ρ (i + 2).toNat), eI (ρ (i + 1).toNat), eR 98]) rfl rfl rfl ?_
  refine w_s (np := 1269) (lv' := [some (eR 1), some (eR 64), some (eR 98), some (eI (i))]) (st' := [eI (i), eR 1, eI (ρ (i + 4).toNat), eI (ρ (i + 3).toNat), eI (ρ (i + 2).toNat), eI (ρ (i + 1).toNat), eR 98]) rfl rfl rfl ?_
  refine w_s (np := 1270) (lv' := [some (eR 1), some (eR 64), some (eR 98), some (eI (i))]) (st' := [eI (5), eI (i), eR 1, eI (ρ (i + 4).toNat), eI (ρ (i + 3).toNat), eI (ρ (i + 2).toNat), eI (ρ (i + 1).toNat), eR 98]) rfl rfl rfl ?_
  have w19 : ev_w (i + 5) = (i + 5) := ev_w_in (by omega) (by omega)
  refine w_s (np := 1271) (lv' := [some (eR 1), some (eR 64), some (eR 98), some (eI (i))]) (st' := [eI (i + 5), eR 1, eI (ρ (i + 4).toNat), eI (ρ (i + 3).toNat), eI (ρ (i + 2).toNat), eI (ρ (i + 1).toNat), eR 98]) rfl (congrArg (fun q : Int => (some ([some (eR 1), some (eR 64), some (eR 98), some (eI (i))], eI q :: [eR 1, eI (ρ (i + 4).toNat), eI (ρ (i + 3).toNat), eI (ρ (i + 2).toNat), eI (ρ (i + 1).toNat), eR 98]) : Option (List (Option eV) × List eV))) w19) rfl ?_
  refine w_al (np := 1272) (v := ρ (i + 5).toNat) rfl rfl (lw_sc hL (by omega) (by omega)) ?_
  refine w_s (np := 1273) (lv' := [some (eR 1), some (eR 64), some (eR 98), some (eI (i))]) (st' := [eR 1, eI (ρ (i + 5).toNat), eI (ρ (i + 4).toNat), eI (ρ (i + 3).toNat), eI (ρ (i + 2).toNat), eI (ρ (i + 1).toNat), eR 98]) rfl rfl rfl ?_
  refine w_s (np := 1274) (lv' := [some (eR 1), some (eR 64), some (eR 98), some (eI (i))]) (st' := [eI (i), eR 1, eI (ρ (i + 5).toNat), eI (ρ (i + 4).toNat), eI (ρ (i + 3).toNat), eI (ρ (i + 2).toNat), eI (ρ (i + 1).toNat), eR 98]) rfl rfl rfl ?_
  refine w_s (np := 1276) (lv' := [some (eR 1), some (eR 64), some (eR 98), some (eI (i))]) (st' := [eI (6), eI (i), eR 1, eI (ρ (i + 5).toNat), eI (ρ (i + 4).toNat), eI (ρ (i + 3).toNat), eI (ρ (i + 2).toNat), eI (ρ (i + 1).toNat), eR 98]) rfl rfl rfl ?_
  have w20 : ev_w (i + 6) = (i + 6) := ev_w_in (by omega) (by omega)
  refine w_s (np := 1277) (lv' := [some (eR 1), some (eR 64), some (eR 98), some (eI (i))]) (st' := [eI (i + 6), eR 1, eI (ρ (i + 5).toNat), eI (ρ (i + 4).toNat), eI (ρ (i + 3).toNat), eI (ρ (i + 2).toNat), eI (ρ (i + 1).toNat), eR 98]) rfl (congrArg (fun q : Int => (some ([some (eR 1), some (eR 64), some (eR 98), some (eI (i))], eI q :: [eR 1, eI (ρ (i + 5).toNat), eI (ρ (i + 4).toNat), eI (ρ (i + 3).toNat), eI (ρ (i + 2).toNat), eI (ρ (i + 1).toNat), eR 98]) : Option (List (Option eV) × List eV))) w20) rfl ?_
  refine w_al (np := 1278) (v := ρ (i + 6).toNat) rfl rfl (lw_sc hL (by omega) (by omega)) ?_
  refine w_s (np := 1279) (lv' := [some (eR 1), some (eR 64), some (eR 98), some (eI (i))]) (st' := [eR 1, eI (ρ (i + 6).toNat), eI (ρ (i + 5).toNat), eI (ρ (i + 4).toNat), eI (ρ (i + 3).toNat), eI (ρ (i + 2).toNat), eI (ρ (i + 1).toNat), eR 98]) rfl rfl rfl ?_
  refine w_s (np := 1280) (lv' := [some (eR 1), some (eR 64), some (eR 98), some (eI (i))]) (st' := [eI (i), eR 1, eI (ρ (i + 6).toNat), eI (ρ (i + 5).toNat), eI (ρ (i + 4).toNat), eI (ρ (i + 3).toNat), eI (ρ (i + 2).toNat), eI (ρ (i + 1).toNat), eR 98]) rfl rfl rfl ?_
  refine w_s (np := 1282) (lv' := [some (eR 1), some (eR 64), some (eR 98), some (eI (i))]) (st' := [eI (7), eI (i), eR 1, eI (ρ (i + 6).toNat), eI (ρ (i + 5).toNat), eI (ρ (i + 4).toNat), eI (ρ (i + 3).toNat), eI (ρ (i + 2).toNat), eI (ρ (i + 1).toNat), eR 98]) rfl rfl rfl ?_
  have w21 : ev_w (i + 7) = (i + 7) := ev_w_in (by omega) (by omega)
  refine w_s (np := 1283) (lv' := [some (eR 1), some (eR 64), some (eR 98), some (eI (i))]) (st' := [eI (i + 7), eR 1, eI (ρ (i + 6).toNat), eI (ρ (i + 5).toNat), eI (ρ (i + 4).toNat), eI (ρ (i + 3).toNat), eI (ρ (i + 2).toNat), eI (ρ (i + 1).toNat), eR 98]) rfl (congrArg (fun q : Int => (some ([some (eR 1), some (eR 64), some (eR 98), some (eI (i))], eI q :: [eR 1, eI (ρ (i + 6).toNat), eI (ρ (i + 5).toNat), eI (ρ (i + 4).toNat), eI (ρ (i + 3).toNat), eI (ρ (i + 2).toNat), eI (ρ (i + 1).toNat), eR 98]) : Option (List (Option eV) × List eV))) w21) rfl ?_
  refine w_al (np := 1284) (v := ρ (i + 7).toNat) rfl rfl (lw_sc hL (by omega) (by omega)) ?_
  refine w_cw (np := 1287) (as := [eI (ρ (i + 1).toNat), eI (ρ (i + 2).toNat), eI (ρ (i + 3).toNat), eI (ρ (i + 4).toNat), eI (ρ (i + 5).toNat), eI (ρ (i + 6).toNat), eI (ρ (i + 7).toNat)]) (l2 := [some (eR 98), some (eI (ρ (i + 1).toNat)), some (eI (ρ (i + 2).toNat)), some (eI (ρ (i + 3).toNat)), some (eI (ρ (i + 4).toNat)), some (eI (ρ (i + 5).toNat)), some (eI (ρ (i + 6).toNat)), some (eI (ρ (i + 7).toNat))]) (rest := []) rfl rfl rfl (Nat.ble_eq.mp rfl) rfl rfl rfl (I11.kd g98 (by decide) (n := 69) rfl) rfl ?_
  refine s_314 (a1 := ρ (i + 1).toNat) (a2 := ρ (i + 2).toNat) (a3 := ρ (i + 3).toNat) (a4 := ρ (i + 4).toNat) (a5 := ρ (i + 5).toNat) (a6 := ρ (i + 6).toNat) (a7 := ρ (i + 7).toNat) I11 g98 (hρ _) (hρ _) (hρ _) (hρ _) (hρ _) (hρ _) (hρ _)  ?_
  intro m24 v22 I25 F26 b23
  have p27 : RP g m24 := RP.fr p13 F26 rfl
  have b28 := HB.fr b14 g64 F26 rfl
  show ex_q (dt_fg L ρ) rc (d + 14, (0, 1287, [some (eR 1), some (eR 64), some (eR 98), some (eI (i))], [eI v22]), F, m24)
  refine w_s (np := 1288) (lv' := [some (eR 1), some (eR 64), some (eR 98), some (eI (i))]) (st' := []) rfl rfl rfl ?_
  refine w_go (t1 := 1788) rfl rfl ?_
  exact K g m24 (GP.r hI.1) I25 p27 b28 (by have := F12.1; have h0 := F12.2.1; have := F26.1; have h1 := F26.2.1; omega) (by have := F12.2.1; have := F26.2.1; omega)
theorem o_31 {L : Nat} {ρ : Nat → Int} {rc : eQ} {d : Nat} {F : List eFr} {μ : eM} {g : Nat → Nat} {i : Int} (hL : L ≤ 4096) (hρ : ∀ j, -2147483648 ≤ ρ j ∧ ρ j ≤ 2147483647) (hi : 0 ≤ i ∧ i + 8 ≤ (L : Int)) (hI : SI g μ) (g64 : g 64 = 1) (g98 : g 98 = 52) (hP : RP g μ) (hB : HB g μ 64) (K : ∀ (g2 : Nat → Nat) (m : eM), GP g g2 → SI g2 m → RP g2 m → HB g2 m 64 → m.2.1.length ≤ μ.2.1.length + 250 → m.2.2 ≤ μ.2.2 + 10281 → ex_q (dt_fg L ρ) rc (d + 14, (0, 1788, [some (eR 1), some (eR 64), some (eR 98), some (eI (i))], []), F, m)) : ex_q (dt_fg L ρ) rc (d + 14, (0, 1291, [some (eR 1), some (eR 64), some (eR 98), some (eI (i))], []), F, μ) := by
  refine w_s (np := 1292) (lv' := [some (eR 1), some (eR 64), some (eR 98), some (eI (i))]) (st' := [eR 64]) rfl rfl rfl ?_
  refine w_s (np := 1293) (lv' := [some (eR 1), some (eR 64), some (eR 98), some (eI (i))]) (st' := [eR 1, eR 64]) rfl rfl rfl ?_
  refine w_s (np := 1294) (lv' := [some (eR 1), some (eR 64), some (eR 98), some (eI (i))]) (st' := [eI (i), eR 1, eR 64]) rfl rfl rfl ?_
  refine w_s (np := 1295) (lv' := [some (eR 1), some (eR 64), some (eR 98), some (eI (i))]) (st' := [eI (1), eI (i), eR 1, eR 64]) rfl rfl rfl ?_
  have w1 : ev_w (i + 1) = (i + 1) := ev_w_in (by omega) (by omega)
  refine w_s (np := 1296) (lv' := [some (eR 1), some (eR 64), some (eR 98), some (eI (i))]) (st' := [eI (i + 1), eR 1, eR 64]) rfl (congrArg (fun q : Int => (some ([some (eR 1), some (eR 64), some (eR 98), some (eI (i))], eI q :: [eR 1, eR 64]) : Option (List (Option eV) × List eV))) w1) rfl ?_
  refine w_al (np := 1297) (v := ρ (i + 1).toNat) rfl rfl (lw_sc hL (by omega) (by omega)) ?_
  refine w_cw (np := 1300) (as := [eI (ρ (i + 1).toNat)]) (l2 := [some (eR 64), some (eI (ρ (i + 1).toNat)), none, none, none]) (rest := []) rfl rfl rfl (Nat.ble_eq.mp rfl) rfl rfl rfl (hI.kd g64 (by decide) (n := 14) rfl) rfl ?_
  refine s_186 (a1 := ρ (i + 1).toNat) hI g64 (hρ _)  ?_
  intro g4 m5 v2 E6 I7 F8 b3
  have p9 := RP.fr hP F8 rfl
  have b10 := HB.fr hB g64 F8 rfl
  have G15 := E6.p
  have p13 := p9.go I7 G15
  have b14 := b10.go G15
  have g11 : g4 64 = 1 := E6.g g64 (by decide)
  have g12 : g4 98 = 52 := E6.g g98 (by decide)
  show ex_q (dt_fg L ρ) rc (d + 14, (0, 1300, [some (eR 1), some (eR 64), some (eR 98), some (eI (i))], [eI v2]), F, m5)
  refine w_s (np := 1301) (lv' := [some (eR 1), some (eR 64), some (eR 98), some (eI (i))]) (st' := []) rfl rfl rfl ?_
  refine w_s (np := 1302) (lv' := [some (eR 1), some (eR 64), some (eR 98), some (eI (i))]) (st' := [eR 98]) rfl rfl rfl ?_
  refine w_s (np := 1303) (lv' := [some (eR 1), some (eR 64), some (eR 98), some (eI (i))]) (st' := [eR 1, eR 98]) rfl rfl rfl ?_
  refine w_s (np := 1304) (lv' := [some (eR 1), some (eR 64), some (eR 98), some (eI (i))]) (st' := [eI (i), eR 1, eR 98]) rfl rfl rfl ?_
  refine w_s (np := 1305) (lv' := [some (eR 1), some (eR 64), some (eR 98), some (eI (i))]) (st' := [eI (1), eI (i), eR 1, eR 98]) rfl rfl rfl ?_
  have w16 : ev_w (i + 1) = (i + 1) := ev_w_in (by omega) (by omega)
  refine w_s (np := 1306) (lv' := [some (eR 1), some (eR 64), some (eR 98), some (eI (i))]) (st' := [eI (i + 1), eR 1, eR 98]) rfl (congrArg (fun q : Int => (some ([some (eR 1), some (eR 64), some (eR 98), some (eI (i))], eI q :: [eR 1, eR 98]) : Option (List (Option eV) × List eV))) w16) rfl ?_
  refine w_al (np := 1307) (v := ρ (i + 1).toNat) rfl rfl (lw_sc hL (by omega) (by omega)) ?_
  refine w_cw (np := 1310) (as := [eI (ρ (i + 1).toNat)]) (l2 := [some (eR 98), some (eI (ρ (i + 1).toNat)), none, none, none, none]) (rest := []) rfl rfl rfl (Nat.ble_eq.mp rfl) rfl rfl rfl (I7.kd g12 (by decide) (n := 69) rfl) rfl ?_
  refine s_315 (a1 := ρ (i + 1).toNat) I7 g12 (hρ _) p13.2.2.1 ?_
  intro m19 v17 I20 F21 b18
  have p22 : RP g4 m19 := RP.fr p13 F21 rfl
  have b23 := HB.fr b14 g11 F21 rfl
  show ex_q (dt_fg L ρ) rc (d + 14, (0, 1310, [some (eR 1), some (eR 64), some (eR 98), some (eI (i))], [eI v17]), F, m19)
  refine w_s (np := 1311) (lv' := [some (eR 1), some (eR 64), some (eR 98), some (eI (i))]) (st' := []) rfl rfl rfl ?_
  refine w_go (t1 := 1788) rfl rfl ?_
  exact K g4 m19 G15 I20 p22 b23 (by have := F8.1; have h0 := F8.2.1; have := F21.1; have h1 := F21.2.1; omega) (by have := F8.2.1; have := F21.2.1; omega)
theorem o_32 {L : Nat} {ρ : Nat → Int} {rc : eQ} {d : Nat} {F : List eFr} {μ : eM} {g : Nat → Nat} {i : Int} (hL : L ≤ 4096) (hρ : ∀ j, -2147483648 ≤ ρ j ∧ ρ j ≤ 2147483647) (hi : 0 ≤ i ∧ i + 8 ≤ (L : Int)) (hI : SI g μ) (g64 : g 64 = 1) (g98 : g 98 = 52) (hP : RP g μ) (hB : HB g μ 64) (K : ∀ (g2 : Nat → Nat) (m : eM), GP g g2 → SI g2 m → RP g2 m → HB g2 m 64 → m.2.1.length ≤ μ.2.1.length + 250 → m.2.2 ≤ μ.2.2 + 10281 → ex_q (dt_fg L ρ) rc (d + 14, (0, 1788, [some (eR 1), some (eR 64), some (eR 98), some (eI (i))], []), F, m)) : ex_q (dt_fg L ρ) rc (d + 14, (0, 1314, [some (eR 1), some (eR 64), some (eR 98), some (eI (i))], []), F, μ) := by
  refine w_s (np := 1315) (lv' := [some (eR 1), some (eR 64), some (eR 98), some (eI (i))]) (st' := [eR 64]) rfl rfl rfl ?_
  refine w_s (np := 1316) (lv' := [some (eR 1), some (eR 64), some (eR 98), some (eI (i))]) (st' := [eR 1, eR 64]) rfl rfl rfl ?_
  refine w_s (np := 1317) (lv' := [some (eR 1), some (eR 64), some (eR 98), some (eI (i))]) (st' := [eI (i), eR 1, eR 64]) rfl rfl rfl ?_
  refine w_s (np := 1318) (lv' := [some (eR 1), some (eR 64), some (eR 98), some (eI (i))]) (st' := [eI (1), eI (i), eR 1, eR 64]) rfl rfl rfl ?_
  have w1 : ev_w (i + 1) = (i + 1) := ev_w_in (by omega) (by omega)
  refine w_s (np := 1319) (lv' := [some (eR 1), some (eR 64), some (eR 98), some (eI (i))]) (st' := [eI (i + 1), eR 1, eR 64]) rfl (congrArg (fun q : Int => (some ([some (eR 1), some (eR 64), some (eR 98), some (eI (i))], eI q :: [eR 1, eR 64]) : Option (List (Option eV) × List eV))) w1) rfl ?_
  refine w_al (np := 1320) (v := ρ (i + 1).toNat) rfl rfl (lw_sc hL (by omega) (by omega)) ?_
  refine w_cw (np := 1323) (as := [eI (ρ (i + 1).toNat)]) (l2 := [some (eR 64), some (eI (ρ (i + 1).toNat))]) (rest := []) rfl rfl rfl (Nat.ble_eq.mp rfl) rfl rfl rfl (hI.kd g64 (by decide) (n := 14) rfl) rfl ?_
  refine s_187 (a1 := ρ (i + 1).toNat) hI g64 (hρ _)  ?_
  intro m4 v2 I5 F6 b3
  have p7 : RP g m4 := RP.fr hP F6 rfl
  have b8 := HB.fr hB g64 F6 rfl
  show ex_q (dt_fg L ρ) rc (d + 14, (0, 1323, [some (eR 1), some (eR 64), some (eR 98), some (eI (i))], [eI v2]), F, m4)
  refine w_s (np := 1324) (lv' := [some (eR 1), some (eR 64), some (eR 98), some (eI (i))]) (st' := []) rfl rfl rfl ?_
  refine w_s (np := 1325) (lv' := [some (eR 1), some (eR 64), some (eR 98), some (eI (i))]) (st' := [eR 98]) rfl rfl rfl ?_
  refine w_s (np := 1326) (lv' := [some (eR 1), some (eR 64), some (eR 98), some (eI (i))]) (st' := [eR 1, eR 98]) rfl rfl rfl ?_
  refine w_s (np := 1327) (lv' := [some (eR 1), some (eR 64), some (eR 98), some (eI (i))]) (st' := [eI (i), eR 1, eR 98]) rfl rfl rfl ?_
  refine w_s (np := 1328) (lv' := [some (eR 1), some (eR 64), some (eR 98), some (eI (i))]) (st' := [eI (1), eI (i), eR 1, eR 98]) rfl rfl rfl ?_
  have w9 : ev_w (i + 1) = (i + 1) := ev_w_in (by omega) (by omega)
  refine w_s (np := 1329) (lv' := [some (eR 1), some (eR 64), some (eR 98), some (eI (i))]) (st' := [eI (i + 1), eR 1, eR 98]) rfl (congrArg (fun q : Int => (some ([some (eR 1), some (eR 64), some (eR 98), some (eI (i))], eI q :: [eR 1, eR 98]) : Option (List (Option eV) × List eV))) w9) rfl ?_
  refine w_al (np := 1330) (v := ρ (i + 1).toNat) rfl rfl (lw_sc hL (by omega) (by omega)) ?_
  refine w_cw (np := 1333) (as := [eI (ρ (i + 1).toNat)]) (l2 := [some (eR 98), some (eI (ρ (i + 1).toNat)), none]) (rest := []) rfl rfl rfl (Nat.ble_eq.mp rfl) rfl rfl rfl (I5.kd g98 (by decide) (n := 69) rfl) rfl ?_
  refine s_317 (a1 := ρ (i + 1).toNat) I5 g98 (hρ _)  ?_
  intro m12 v10 I13 F14 b11
  have p15 : RP g m12 := RP.fr p7 F14 rfl
  have b16 := HB.fr b8 g64 F14 rfl
  show ex_q (dt_fg L ρ) rc (d + 14, (0, 1333, [some (eR 1), some (eR 64), some (eR 98), some (eI (i))], [eI v10]), F, m12)
  refine w_s (np := 1334) (lv' := [some (eR 1), some (eR 64), some (eR 98), some (eI (i))]) (st' := []) rfl rfl rfl ?_
  refine w_go (t1 := 1788) rfl rfl ?_
  exact K g m12 (GP.r hI.1) I13 p15 b16 (by have := F6.1; have h0 := F6.2.1; have := F14.1; have h1 := F14.2.1; omega) (by have := F6.2.1; have := F14.2.1; omega)
theorem o_33 {L : Nat} {ρ : Nat → Int} {rc : eQ} {d : Nat} {F : List eFr} {μ : eM} {g : Nat → Nat} {i : Int} (hL : L ≤ 4096) (hρ : ∀ j, -2147483648 ≤ ρ j ∧ ρ j ≤ 2147483647) (hi : 0 ≤ i ∧ i + 8 ≤ (L : Int)) (hI : SI g μ) (g64 : g 64 = 1) (g98 : g 98 = 52) (hP : RP g μ) (hB : HB g μ 64) (K : ∀ (g2 : Nat → Nat) (m : eM), GP g g2 → SI g2 m → RP g2 m → HB g2 m 64 → m.2.1.length ≤ μ.2.1.length + 250 → m.2.2 ≤ μ.2.2 + 10281 → ex_q (dt_fg L ρ) rc (d + 14, (0, 1788, [some (eR 1), some (eR 64), some (eR 98), some (eI (i))], []), F, m)) : ex_q (dt_fg L ρ) rc (d + 14, (0, 1337, [some (eR 1), some (eR 64), some (eR 98), some (eI (i))], []), F, μ) := by
  refine w_s (np := 1338) (lv' := [some (eR 1), some (eR 64), some (eR 98), some (eI (i))]) (st' := [eR 64]) rfl rfl rfl ?_
  refine w_cw (np := 1341) (as := []) (l2 := [some (eR 64), none]) (rest := []) rfl rfl rfl (Nat.ble_eq.mp rfl) rfl rfl rfl (hI.kd g64 (by decide) (n := 14) rfl) rfl ?_
  refine s_188 hI g64   ?_
  intro m3 v1 I4 F5 b2
  have p6 : RP g m3 := RP.fr hP F5 rfl
  have b7 := HB.fr hB g64 F5 rfl
  show ex_q (dt_fg L ρ) rc (d + 14, (0, 1341, [some (eR 1), some (eR 64), some (eR 98), some (eI (i))], [eI v1]), F, m3)
  refine w_s (np := 1342) (lv' := [some (eR 1), some (eR 64), some (eR 98), some (eI (i))]) (st' := []) rfl rfl rfl ?_
  refine w_s (np := 1343) (lv' := [some (eR 1), some (eR 64), some (eR 98), some (eI (i))]) (st' := [eR 98]) rfl rfl rfl ?_
  refine w_cw (np := 1346) (as := []) (l2 := [some (eR 98), none]) (rest := []) rfl rfl rfl (Nat.ble_eq.mp rfl) rfl rfl rfl (I4.kd g98 (by decide) (n := 69) rfl) rfl ?_
  refine s_318 I4 g98   ?_
  intro m10 v8 I11 F12 b9
  have p13 : RP g m10 := RP.fr p6 F12 rfl
  have b14 := HB.fr b7 g64 F12 rfl
  show ex_q (dt_fg L ρ) rc (d + 14, (0, 1346, [some (eR 1), some (eR 64), some (eR 98), some (eI (i))], [eI v8]), F, m10)
  refine w_s (np := 1347) (lv' := [some (eR 1), some (eR 64), some (eR 98), some (eI (i))]) (st' := []) rfl rfl rfl ?_
  refine w_go (t1 := 1788) rfl rfl ?_
  exact K g m10 (GP.r hI.1) I11 p13 b14 (by have := F5.1; have h0 := F5.2.1; have := F12.1; have h1 := F12.2.1; omega) (by have := F5.2.1; have := F12.2.1; omega)
theorem o_34 {L : Nat} {ρ : Nat → Int} {rc : eQ} {d : Nat} {F : List eFr} {μ : eM} {g : Nat → Nat} {i : Int} (hL : L ≤ 4096) (hρ : ∀ j, -2147483648 ≤ ρ j ∧ ρ j ≤ 2147483647) (hi : 0 ≤ i ∧ i + 8 ≤ (L : Int)) (hI : SI g μ) (g64 : g 64 = 1) (g98 : g 98 = 52) (hP : RP g μ) (hB : HB g μ 64) (K : ∀ (g2 : Nat → Nat) (m : eM), GP g g2 → SI g2 m → RP g2 m → HB g2 m 64 → m.2.1.length ≤ μ.2.1.length + 250 → m.2.2 ≤ μ.2.2 + 10281 → ex_q (dt_fg L ρ) rc (d + 14, (0, 1788, [some (eR 1), some (eR 64), some (eR 98), some (eI (i))], []), F, m)) : ex_q (dt_fg L ρ) rc (d + 14, (0, 1350, [some (eR 1), some (eR 64), some (eR 98), some (eI (i))], []), F, μ) := by
  refine w_s (np := 1351) (lv' := [some (eR 1), some (eR 64), some (eR 98), some (eI (i))]) (st' := [eR 64]) rfl rfl rfl ?_
  refine w_s (np := 1352) (lv' := [some (eR 1), some (eR 64), some (eR 98), some (eI (i))]) (st' := [eR 1, eR 64]) rfl rfl rfl ?_
  refine w_s (np := 1353) (lv' := [some (eR 1), some (eR 64), some (eR 98), some (eI (i))]) (st' := [eI (i), eR 1, eR 64]) rfl rfl rfl ?_
  refine w_s (np := 1354) (lv' := [some (eR 1), some (eR 64), some (eR 98), some (eI (i))]) (st' := [eI (1), eI (i), eR 1, eR 64]) rfl rfl rfl ?_
  have w1 : ev_w (i + 1) = (i + 1) := ev_w_in (by omega) (by omega)
  refine w_s (np := 1355) (lv' := [some (eR 1), some (eR 64), some (eR 98), some (eI (i))]) (st' := [eI (i + 1), eR 1, eR 64]) rfl (congrArg (fun q : Int => (some ([some (eR 1), some (eR 64), some (eR 98), some (eI (i))], eI q :: [eR 1, eR 64]) : Option (List (Option eV) × List eV))) w1) rfl ?_
  refine w_al (np := 1356) (v := ρ (i + 1).toNat) rfl rfl (lw_sc hL (by omega) (by omega)) ?_
  refine w_s (np := 1357) (lv' := [some (eR 1), some (eR 64), some (eR 98), some (eI (i))]) (st' := [eR 1, eI (ρ (i + 1).toNat), eR 64]) rfl rfl rfl ?_
  refine w_s (np := 1358) (lv' := [some (eR 1), some (eR 64), some (eR 98), some (eI (i))]) (st' := [eI (i), eR 1, eI (ρ (i + 1).toNat), eR 64]) rfl rfl rfl ?_
  refine w_s (np := 1359) (lv' := [some (eR 1), some (eR 64), some (eR 98), some (eI (i))]) (st' := [eI (2), eI (i), eR 1, eI (ρ (i + 1).toNat), eR 64]) rfl rfl rfl ?_
  have w2 : ev_w (i + 2) = (i + 2) := ev_w_in (by omega) (by omega)
  refine w_s (np := 1360) (lv' := [some (eR 1), some (eR 64), some (eR 98), some (eI (i))]) (st' := [eI (i + 2), eR 1, eI (ρ (i + 1).toNat), eR 64]) rfl (congrArg (fun q : Int => (some ([some (eR 1), some (eR 64), some (eR 98), some (eI (i))], eI q :: [eR 1, eI (ρ (i + 1).toNat), eR 64]) : Option (List (Option eV) × List eV))) w2) rfl ?_
  refine w_al (np := 1361) (v := ρ (i + 2).toNat) rfl rfl (lw_sc hL (by omega) (by omega)) ?_
  refine w_cw (np := 1364) (as := [eI (ρ (i + 1).toNat), eI (ρ (i + 2).toNat)]) (l2 := [some (eR 64), some (eI (ρ (i + 1).toNat)), some (eI (ρ (i + 2).toNat))]) (rest := []) rfl rfl rfl (Nat.ble_eq.mp rfl) rfl rfl rfl (hI.kd g64 (by decide) (n := 14) rfl) rfl ?_
  refine s_189 (a1 := ρ (i + 1).toNat) (a2 := ρ (i + 2).toNat) hI g64 (hρ _) (hρ _)  ?_
  intro m5 v3 I6 F7 b4
  have p8 : RP g m5 := RP.fr hP F7 rfl
  have b9 := HB.fr hB g64 F7 rfl
  show ex_q (dt_fg L ρ) rc (d + 14, (0, 1364, [some (eR 1), some (eR 64), some (eR 98), some (eI (i))], [eI v3]), F, m5)
  refine w_s (np := 1365) (lv' := [some (eR 1), some (eR 64), some (eR 98), some (eI (i))]) (st' := []) rfl rfl rfl ?_
  refine w_s (np := 1366) (lv' := [some (eR 1), some (eR 64), some (eR 98), some (eI (i))]) (st' := [eR 98]) rfl rfl rfl ?_
  refine w_s (np := 1367) (lv' := [some (eR 1), some (eR 64), some (eR 98), some (eI (i))]) (st' := [eR 1, eR 98]) rfl rfl rfl ?_
  refine w_s (np := 1368) (lv' := [some (eR 1), some (eR 64), some (eR 98), some (eI (i))]) (st' := [eI (i), eR 1, eR 98]) rfl rfl rfl ?_
  refine w_s (np := 1369) (lv' := [some (eR 1), some (eR 64), some (eR 98), some (eI (i))]) (st' := [eI (1), eI (i), eR 1, eR 98]) rfl rfl rfl ?_
  have w10 : ev_w (i + 1) = (i + 1) := ev_w_in (by omega) (by omega)
  refine w_s (np := 1370) (lv' := [some (eR 1), some (eR 64), some (eR 98), some (eI (i))]) (st' := [eI (i + 1), eR 1, eR 98]) rfl (congrArg (fun q : Int => (some ([some (eR 1), some (eR 64), some (eR 98), some (eI (i))], eI q :: [eR 1, eR 98]) : Option (List (Option eV) × List eV))) w10) rfl ?_
  refine w_al (np := 1371) (v := ρ (i + 1).toNat) rfl rfl (lw_sc hL (by omega) (by omega)) ?_
  refine w_s (np := 1372) (lv' := [some (eR 1), some (eR 64), some (eR 98), some (eI (i))]) (st' := [eR 1, eI (ρ (i + 1).toNat), eR 98]) rfl rfl rfl ?_
  refine w_s (np := 1373) (lv' := [some (eR 1), some (eR 64), some (eR 98), some (eI (i))]) (st' := [eI (i), eR 1, eI (ρ (i + 1).toNat), eR 98]) rfl rfl rfl ?_
  refine w_s (np := 1374) (lv' := [some (eR 1), some (eR 64), some (eR 98), some (eI (i))]) (st' := [eI (2), eI (i), eR 1, eI (ρ (i + 1).toNat), eR 98]) rfl rfl rfl ?_
  have w11 : ev_w (i + 2) = (i + 2) := ev_w_in (by omega) (by omega)
  refine w_s (np := 1375) (lv' := [some (eR 1), some (eR 64), some (eR 98), some (eI (i))]) (st' := [eI (i + 2), eR 1, eI (ρ (i + 1).toNat), eR 98]) rfl (congrArg (fun q : Int => (some ([some (eR 1), some (eR 64), some (eR 98), some (eI (i))], eI q :: [eR 1, eI (ρ (i + 1).toNat), eR 98]) : Option (List (Option eV) × List eV))) w11) rfl ?_
  refine w_al (np := 1376) (v := ρ (i + 2).toNat) rfl rfl (lw_sc hL (by omega) (by omega)) ?_
  refine w_cw (np := 1379) (as := [eI (ρ (i + 1).toNat), eI (ρ (i + 2).toNat)]) (l2 := [some (eR 98), some (eI (ρ (i + 1).toNat)), some (eI (ρ (i + 2).toNat))]) (rest := []) rfl rfl rfl (Nat.ble_eq.mp rfl) rfl rfl rfl (I6.kd g98 (by decide) (n := 69) rfl) rfl ?_
  refine s_319 (a1 := ρ (i + 1).toNat) (a2 := ρ (i + 2).toNat) I6 g98 (hρ _) (hρ _)  ?_
  intro m14 v12 I15 F16 b13
  have p17 : RP g m14 := RP.fr p8 F16 rfl
  have b18 := HB.fr b9 g64 F16 rfl
  show ex_q (dt_fg L ρ) rc (d + 14, (0, 1379, [some (eR 1), some (eR 64), some (eR 98), some (eI (i))], [eI v12]), F, m14)
  refine w_s (np := 1380) (lv' := [some (eR 1), some (eR 64), some (eR 98), some (eI (i))]) (st' := []) rfl rfl rfl ?_
  refine w_go (t1 := 1788) rfl rfl ?_
  exact K g m14 (GP.r hI.1) I15 p17 b18 (by have := F7.1; have h0 := F7.2.1; have := F16.1; have h1 := F16.2.1; omega) (by have := F7.2.1; have := F16.2.1; omega)
theorem o_35 {L : Nat} {ρ : Nat → Int} {rc : eQ} {d : Nat} {F : List eFr} {μ : eM} {g : Nat → Nat} {i : Int} (hL : L ≤ 4096) (hρ : ∀ j, -2147483648 ≤ ρ j ∧ ρ j ≤ 2147483647) (hi : 0 ≤ i ∧ i + 8 ≤ (L : Int)) (hI : SI g μ) (g64 : g 64 = 1) (g98 : g 98 = 52) (hP : RP g μ) (hB : HB g μ 64) (K : ∀ (g2 : Nat → Nat) (m : eM), GP g g2 → SI g2 m → RP g2 m → HB g2 m 64 → m.2.1.length ≤ μ.2.1.length + 250 → m.2.2 ≤ μ.2.2 + 10281 → ex_q (dt_fg L ρ) rc (d + 14, (0, 1788, [some (eR 1), some (eR 64), some (eR 98), some (eI (i))], []), F, m)) : ex_q (dt_fg L ρ) rc (d + 14, (0, 1383, [some (eR 1), some (eR 64), some (eR 98), some (eI (i))], []), F, μ) := by
  refine w_s (np := 1384) (lv' := [some (eR 1), some (eR 64), some (eR 98), some (eI (i))]) (st' := [eR 64]) rfl rfl rfl ?_
  refine w_s (np := 1385) (lv' := [some (eR 1), some (eR 64), some (eR 98), some (eI (i))]) (st' := [eR 1, eR 64]) rfl rfl rfl ?_
  refine w_s (np := 1386) (lv' := [some (eR 1), some (eR 64), some (eR 98), some (eI (i))]) (st' := [eI (i), eR 1, eR 64]) rfl rfl rfl ?_
  refine w_s (np := 1387) (lv' := [some (eR 1), some (eR 64), some (eR 98), some (eI (i))]) (st' := [eI (1), eI (i), eR 1, eR 64]) rfl rfl rfl ?_
  have w1 : ev_w (i + 1) = (i + 1) := ev_w_in (by omega) (by omega)
  refine w_s (np := 1388) (lv' := [some (eR 1), some (eR 64), some (eR 98), some (eI (i))]) (st' := [eI (i + 1), eR 1, eR 64]) rfl (congrArg (fun q : Int => (some ([some (eR 1), some (eR 64), some (eR 98), some (eI (i))], eI q :: [eR 1, eR 64]) : Option (List (Option eV) × List eV))) w1) rfl ?_
  refine w_al (np := 1389) (v := ρ (i + 1).toNat) rfl rfl (lw_sc hL (by omega) (by omega)) ?_
  refine w_s (np := 1390) (lv' := [some (eR 1), some (eR 64), some (eR 98), some (eI (i))]) (st' := [eR 1, eI (ρ (i + 1).toNat), eR 64]) rfl rfl rfl ?_
  refine w_s (np := 1391) (lv' := [some (eR 1), some (eR 64), some (eR 98), some (eI (i))]) (st' := [eI (i), eR 1, eI (ρ (i + 1).toNat), eR 64]) rfl rfl rfl ?_
  refine w_s (np := 1392) (lv' := [some (eR 1), some (eR 64), some (eR 98), some (eI (i))]) (st' := [eI (2), eI (i), eR 1, eI (ρ (i + 1).toNat), eR 64]) rfl rfl rfl ?_
  have w2 : ev_w (i + 2) = (i + 2) := ev_w_in (by omega) (by omega)
  refine w_s (np := 1393) (lv' := [some (eR 1), some (eR 64), some (eR 98), some (eI (i))]) (st' := [eI (i + 2), eR 1, eI (ρ (i + 1).toNat), eR 64]) rfl (congrArg (fun q : Int => (some ([some (eR 1), some (eR 64), some (eR 98), some (eI (i))], eI q :: [eR 1, eI (ρ (i + 1).toNat), eR 64]) : Option (List (Option eV) × List eV))) w2) rfl ?_
  refine w_al (np := 1394) (v := ρ (i + 2).toNat) rfl rfl (lw_sc hL (by omega) (by omega)) ?_
  refine w_s (np := 1395) (lv' := [some (eR 1), some (eR 64), some (eR 98), some (eI (i))]) (st' := [eR 1, eI (ρ (i + 2).toNat), eI (ρ (i + 1).toNat), eR 64]) rfl rfl rfl ?_
  refine w_s (np := 1396) (lv' := [some (eR 1), some (eR 64), some (eR 98), some (eI (i))]) (st' := [eI (i), eR 1, eI (ρ (i + 2).toNat), eI (ρ (i + 1).toNat), eR 64]) rfl rfl rfl ?_
  refine w_s (np := 1397) (lv' := [some (eR 1), some (eR 64), some (eR 98), some (eI (i))]) (st' := [eI (3), eI (i), eR 1, eI (ρ (i + 2).toNat), eI (ρ (i + 1).toNat), eR 64]) rfl rfl rfl ?_
  have w3 : ev_w (i + 3) = (i + 3) := ev_w_in (by omega) (by omega)
  refine w_s (np := 1398) (lv' := [some (eR 1), some (eR 64), some (eR 98), some (eI (i))]) (st' := [eI (i + 3), eR 1, eI (ρ (i + 2).toNat), eI (ρ (i + 1).toNat), eR 64]) rfl (congrArg (fun q : Int => (some ([some (eR 1), some (eR 64), some (eR 98), some (eI (i))], eI q :: [eR 1, eI (ρ (i + 2).toNat), eI (ρ (i + 1).toNat), eR 64]) : Option (List (Option eV) × List eV))) w3) rfl ?_
  refine w_al (np := 1399) (v := ρ (i + 3).toNat) rfl rfl (lw_sc hL (by omega) (by omega)) ?_
  refine w_cw (np := 1402) (as := [eI (ρ (i + 1).toNat), eI (ρ (i + 2).toNat), eI (ρ (i + 3).toNat)]) (l2 := [some (eR 64), some (eI (ρ (i + 1).toNat)), some (eI (ρ (i + 2).toNat)), some (eI (ρ (i + 3).toNat))]) (rest := []) rfl rfl rfl (Nat.ble_eq.mp rfl) rfl rfl rfl (hI.kd g64 (by decide) (n := 14) rfl) rfl ?_
  refine s_190 (a1 := ρ (i + 1).toNat) (a2 := ρ (i + 2).toNat) (a3 := ρ (i + 3).toNat) hI g64 (hρ _) (hρ _) (hρ _)  ?_
  intro m6 v4 I7 F8 b5
  have p9 : RP g m6 := RP.fr hP F8 rfl
  have b10 := HB.fr hB g64 F8 rfl
  show ex_q (dt_fg L ρ) rc (d + 14, (0, 1402, [some (eR 1), some (eR 64), some (eR 98), some (eI (i))], [eI v4]), F, m6)
  refine w_s (np := 1403) (lv' := [some (eR 1), some (eR 64), some (eR 98), some (eI (i))]) (st' := []) rfl rfl rfl ?_
  refine w_s (np := 1404) (lv' := [some (eR 1), some (eR 64), some (eR 98), some (eI (i))]) (st' := [eR 98]) rfl rfl rfl ?_
  refine w_s (np := 1405) (lv' := [some (eR 1), some (eR 64), some (eR 98), some (eI (i))]) (st' := [eR 1, eR 98]) rfl rfl rfl ?_
  refine w_s (np := 1406) (lv' := [some (eR 1), some (eR 64), some (eR 98), some (eI (i))]) (st' := [eI (i), eR 1, eR 98]) rfl rfl rfl ?_
  refine w_s (np := 1407) (lv' := [some (eR 1), some (eR 64), some (eR 98), some (eI (i))]) (st' := [eI (1), eI (i), eR 1, eR 98]) rfl rfl rfl ?_
  have w11 : ev_w (i + 1) = (i + 1) := ev_w_in (by omega) (by omega)
  refine w_s (np := 1408) (lv' := [some (eR 1), some (eR 64), some (eR 98), some (eI (i))]) (st' := [eI (i + 1), eR 1, eR 98]) rfl (congrArg (fun q : Int => (some ([some (eR 1), some (eR 64), some (eR 98), some (eI (i))], eI q :: [eR 1, eR 98]) : Option (List (Option eV) × List eV))) w11) rfl ?_
  refine w_al (np := 1409) (v := ρ (i + 1).toNat) rfl rfl (lw_sc hL (by omega) (by omega)) ?_
  refine w_s (np := 1410) (lv' := [some (eR 1), some (eR 64), some (eR 98), some (eI (i))]) (st' := [eR 1, eI (ρ (i + 1).toNat), eR 98]) rfl rfl rfl ?_
  refine w_s (np := 1411) (lv' := [some (eR 1), some (eR 64), some (eR 98), some (eI (i))]) (st' := [eI (i), eR 1, eI (ρ (i + 1).toNat), eR 98]) rfl rfl rfl ?_
  refine w_s (np := 1412) (lv' := [some (eR 1), some (eR 64), some (eR 98), some (eI (i))]) (st' := [eI (2), eI (i), eR 1, eI (ρ (i + 1).toNat), eR 98]) rfl rfl rfl ?_
  have w12 : ev_w (i + 2) = (i + 2) := ev_w_in (by omega) (by omega)
  refine w_s (np := 1413) (lv' := [some (eR 1), some (eR 64), some (eR 98), some (eI (i))]) (st' := [eI (i + 2), eR 1, eI (ρ (i + 1).toNat), eR 98]) rfl (congrArg (fun q : Int => (some ([some (eR 1), some (eR 64), some (eR 98), some (eI (i))], eI q :: [eR 1, eI (ρ (i + 1).toNat), eR 98]) : Option (List (Option eV) × List eV))) w12) rfl ?_
  refine w_al (np := 1414) (v := ρ (i + 2).toNat) rfl rfl (lw_sc hL (by omega) (by omega)) ?_
  refine w_s (np := 1415) (lv' := [some (eR 1), some (eR 64), some (eR 98), some (eI (i))]) (st' := [eR 1, eI (ρ (i + 2).toNat), eI (ρ (i + 1).toNat), eR 98]) rfl rfl rfl ?_
  refine w_s (np := 1416) (lv' := [some (eR 1), some (eR 64), some (eR 98), some (eI (i))]) (st' := [eI (i), eR 1, eI (ρ (i + 2).toNat), eI (ρ (i + 1).toNat), eR 98]) rfl rfl rfl ?_
  refine w_s (np := 1417) (lv' := [some (eR 1), some (eR 64), some (eR 98), some (eI (i))]) (st' := [eI (3), eI (i), eR 1, eI (ρ (i + 2).toNat), eI (ρ (i + 1).toNat), eR 98]) rfl rfl rfl ?_
  have w13 : ev_w (i + 3) = (i + 3) := ev_w_in (by omega) (by omega)
  refine w_s (np := 1418) (lv' := [some (eR 1), some (eR 64), some (eR 98), some (eI (i))]) (st' := [eI (i + 3), eR 1, eI (ρ (i + 2).toNat), eI (ρ (i + 1).toNat), eR 98]) rfl (congrArg (fun q : Int => (some ([some (eR 1), some (eR 64), some (eR 98), some (eI (i))], eI q :: [eR 1, eI (ρ (i + 2).toNat), eI (ρ (i + 1).toNat), eR 98]) : Option (List (Option eV) × List eV))) w13) rfl ?_
  refine w_al (np := 1419) (v := ρ (i + 3).toNat) rfl rfl (lw_sc hL (by omega) (by omega)) ?_
  refine w_cw (np := 1422) (as := [eI (ρ (i + 1).toNat), eI (ρ (i + 2).toNat), eI (ρ (i + 3).toNat)]) (l2 := [some (eR 98), some (eI (ρ (i + 1).toNat)), some (eI (ρ (i + 2).toNat)), some (eI (ρ (i + 3).toNat))]) (rest := []) rfl rfl rfl (Nat.ble_eq.mp rfl) rfl rfl rfl (I7.kd g98 (by decide) (n := 69) rfl) rfl ?_
  refine s_320 (a1 := ρ (i + 1).toNat) (a2 := ρ (i + 2).toNat) (a3 := ρ (i + 3).toNat) I7 g98 (hρ _) (hρ _) (hρ _)  ?_
  intro m16 v14 I17 F18 b15
  have p19 : RP g m16 := RP.fr p9 F18 rfl
  have b20 := HB.fr b10 g64 F18 rfl
  show ex_q (dt_fg L ρ) rc (d + 14, (0, 1422, [some (eR 1), some (eR 64), some (eR 98), some (eI (i))], [eI v14]), F, m16)
  refine w_s (np := 1423) (lv' := [some (eR 1), some (eR 64), some (eR 98), some (eI (i))]) (st' := []) rfl rfl rfl ?_
  refine w_go (t1 := 1788) rfl rfl ?_
  exact K g m16 (GP.r hI.1) I17 p19 b20 (by have := F8.1; have h0 := F8.2.1; have := F18.1; have h1 := F18.2.1; omega) (by have := F8.2.1; have := F18.2.1; omega)
